section
-- ===== PART A: goes FIRST, ahead of the names: the tables' words, and 'selects' of the private methods out of them =====
/-- a private method of a class that the tables say can be made, by its rows of tables_1 -/
def lw_okq (q : MethodName × Nat) : Prop := (q.1.cls ≠ "java/lang/invoke/MethodHandle" ∧ q.1.cls ≠ "java/lang/invoke/VarHandle") ∧ Cond.instantiable q.1.cls q.2 ∈ tables_1 ∧ Cond.privateMethod q.1 ∈ tables_1 ∧ Cond.instanceMethod q.1 ∈ tables_1
theorem lw_p0 : lw_okq (⟨"ProofMap", "isVersion", "(I)Z"⟩, 6) := ⟨⟨by decide +kernel, by decide +kernel⟩, List.mem_of_getElem? (i := 8) (by decide +kernel), List.mem_of_getElem? (i := 158) (by decide +kernel), List.mem_of_getElem? (i := 159) (by decide +kernel)⟩
theorem lw_p1 : lw_okq (⟨"ProofMap", "rootOf", "(I)LProofMap$Node;"⟩, 6) := ⟨⟨by decide +kernel, by decide +kernel⟩, List.mem_of_getElem? (i := 8) (by decide +kernel), List.mem_of_getElem? (i := 163) (by decide +kernel), List.mem_of_getElem? (i := 164) (by decide +kernel)⟩
theorem lw_p2 : lw_okq (⟨"ProofMap$Hasher", "clearMessage", "()V"⟩, 4) := ⟨⟨by decide +kernel, by decide +kernel⟩, List.mem_of_getElem? (i := 48) (by decide +kernel), List.mem_of_getElem? (i := 193) (by decide +kernel), List.mem_of_getElem? (i := 194) (by decide +kernel)⟩
theorem lw_p3 : lw_okq (⟨"ProofMap$Hasher", "start", "()V"⟩, 4) := ⟨⟨by decide +kernel, by decide +kernel⟩, List.mem_of_getElem? (i := 48) (by decide +kernel), List.mem_of_getElem? (i := 197) (by decide +kernel), List.mem_of_getElem? (i := 198) (by decide +kernel)⟩
theorem lw_p4 : lw_okq (⟨"ProofMap$Hasher", "compress", "(I)V"⟩, 4) := ⟨⟨by decide +kernel, by decide +kernel⟩, List.mem_of_getElem? (i := 48) (by decide +kernel), List.mem_of_getElem? (i := 206) (by decide +kernel), List.mem_of_getElem? (i := 207) (by decide +kernel)⟩
theorem lw_p5 : lw_okq (⟨"ProofMap$Hasher", "spread", "(I)V"⟩, 4) := ⟨⟨by decide +kernel, by decide +kernel⟩, List.mem_of_getElem? (i := 48) (by decide +kernel), List.mem_of_getElem? (i := 210) (by decide +kernel), List.mem_of_getElem? (i := 211) (by decide +kernel)⟩
theorem lw_p6 : lw_okq (⟨"ProofMap", "isSibling", "(I)Z"⟩, 6) := ⟨⟨by decide +kernel, by decide +kernel⟩, List.mem_of_getElem? (i := 8) (by decide +kernel), List.mem_of_getElem? (i := 245) (by decide +kernel), List.mem_of_getElem? (i := 246) (by decide +kernel)⟩
theorem lw_p7 : lw_okq (⟨"ProofMap", "foldProof", "(I)V"⟩, 6) := ⟨⟨by decide +kernel, by decide +kernel⟩, List.mem_of_getElem? (i := 8) (by decide +kernel), List.mem_of_getElem? (i := 272) (by decide +kernel), List.mem_of_getElem? (i := 273) (by decide +kernel)⟩
theorem lw_p8 : lw_okq (⟨"ProofMapModel", "find", "(II)I"⟩, 24) := ⟨⟨by decide +kernel, by decide +kernel⟩, List.mem_of_getElem? (i := 290) (by decide +kernel), List.mem_of_getElem? (i := 449) (by decide +kernel), List.mem_of_getElem? (i := 450) (by decide +kernel)⟩
theorem lw_p9 : lw_okq (⟨"ProofMapModel", "isThere", "(III)Z"⟩, 24) := ⟨⟨by decide +kernel, by decide +kernel⟩, List.mem_of_getElem? (i := 290) (by decide +kernel), List.mem_of_getElem? (i := 453) (by decide +kernel), List.mem_of_getElem? (i := 454) (by decide +kernel)⟩
theorem lw_p10 : lw_okq (⟨"ProofMapModel", "isVersion", "(I)Z"⟩, 24) := ⟨⟨by decide +kernel, by decide +kernel⟩, List.mem_of_getElem? (i := 290) (by decide +kernel), List.mem_of_getElem? (i := 465) (by decide +kernel), List.mem_of_getElem? (i := 466) (by decide +kernel)⟩
theorem lw_p11 : lw_okq (⟨"ProofMapModel", "know", "()V"⟩, 24) := ⟨⟨by decide +kernel, by decide +kernel⟩, List.mem_of_getElem? (i := 290) (by decide +kernel), List.mem_of_getElem? (i := 481) (by decide +kernel), List.mem_of_getElem? (i := 482) (by decide +kernel)⟩
theorem lw_p12 : lw_okq (⟨"ProofMapModel", "work", "(II)V"⟩, 24) := ⟨⟨by decide +kernel, by decide +kernel⟩, List.mem_of_getElem? (i := 290) (by decide +kernel), List.mem_of_getElem? (i := 485) (by decide +kernel), List.mem_of_getElem? (i := 486) (by decide +kernel)⟩
theorem lw_p13 : lw_okq (⟨"ProofMapModel", "begin", "(I)V"⟩, 24) := ⟨⟨by decide +kernel, by decide +kernel⟩, List.mem_of_getElem? (i := 290) (by decide +kernel), List.mem_of_getElem? (i := 489) (by decide +kernel), List.mem_of_getElem? (i := 490) (by decide +kernel)⟩
theorem lw_p14 : lw_okq (⟨"ProofMapModel", "leaf", "(II)V"⟩, 24) := ⟨⟨by decide +kernel, by decide +kernel⟩, List.mem_of_getElem? (i := 290) (by decide +kernel), List.mem_of_getElem? (i := 493) (by decide +kernel), List.mem_of_getElem? (i := 494) (by decide +kernel)⟩
theorem lw_p15 : lw_okq (⟨"ProofMapModel", "digest", "(I)V"⟩, 24) := ⟨⟨by decide +kernel, by decide +kernel⟩, List.mem_of_getElem? (i := 290) (by decide +kernel), List.mem_of_getElem? (i := 497) (by decide +kernel), List.mem_of_getElem? (i := 498) (by decide +kernel)⟩
def lw_privs_1 : List (MethodName × Nat) := [(⟨"ProofMap", "isVersion", "(I)Z"⟩, 6), (⟨"ProofMap", "rootOf", "(I)LProofMap$Node;"⟩, 6), (⟨"ProofMap$Hasher", "clearMessage", "()V"⟩, 4), (⟨"ProofMap$Hasher", "start", "()V"⟩, 4), (⟨"ProofMap$Hasher", "compress", "(I)V"⟩, 4), (⟨"ProofMap$Hasher", "spread", "(I)V"⟩, 4), (⟨"ProofMap", "isSibling", "(I)Z"⟩, 6), (⟨"ProofMap", "foldProof", "(I)V"⟩, 6), (⟨"ProofMapModel", "find", "(II)I"⟩, 24), (⟨"ProofMapModel", "isThere", "(III)Z"⟩, 24), (⟨"ProofMapModel", "isVersion", "(I)Z"⟩, 24), (⟨"ProofMapModel", "know", "()V"⟩, 24), (⟨"ProofMapModel", "work", "(II)V"⟩, 24), (⟨"ProofMapModel", "begin", "(I)V"⟩, 24), (⟨"ProofMapModel", "leaf", "(II)V"⟩, 24), (⟨"ProofMapModel", "digest", "(I)V"⟩, 24)]
theorem lw_r1 : ∀ q ∈ lw_privs_1, lw_okq q := List.forall_mem_cons.mpr ⟨lw_p0, List.forall_mem_cons.mpr ⟨lw_p1, List.forall_mem_cons.mpr ⟨lw_p2, List.forall_mem_cons.mpr ⟨lw_p3, List.forall_mem_cons.mpr ⟨lw_p4, List.forall_mem_cons.mpr ⟨lw_p5, List.forall_mem_cons.mpr ⟨lw_p6, List.forall_mem_cons.mpr ⟨lw_p7, List.forall_mem_cons.mpr ⟨lw_p8, List.forall_mem_cons.mpr ⟨lw_p9, List.forall_mem_cons.mpr ⟨lw_p10, List.forall_mem_cons.mpr ⟨lw_p11, List.forall_mem_cons.mpr ⟨lw_p12, List.forall_mem_cons.mpr ⟨lw_p13, List.forall_mem_cons.mpr ⟨lw_p14, List.forall_mem_cons.mpr ⟨lw_p15, fun _ h => absurd h List.not_mem_nil⟩⟩⟩⟩⟩⟩⟩⟩⟩⟩⟩⟩⟩⟩⟩⟩
theorem lw_p16 : lw_okq (⟨"ProofMapModel", "mix", "(I)V"⟩, 24) := ⟨⟨by decide +kernel, by decide +kernel⟩, List.mem_of_getElem? (i := 290) (by decide +kernel), List.mem_of_getElem? (i := 501) (by decide +kernel), List.mem_of_getElem? (i := 502) (by decide +kernel)⟩
theorem lw_p17 : lw_okq (⟨"ProofMapModel", "look", "(II)V"⟩, 24) := ⟨⟨by decide +kernel, by decide +kernel⟩, List.mem_of_getElem? (i := 290) (by decide +kernel), List.mem_of_getElem? (i := 508) (by decide +kernel), List.mem_of_getElem? (i := 509) (by decide +kernel)⟩
theorem lw_p18 : lw_okq (⟨"ProofMapModel", "up", "()V"⟩, 24) := ⟨⟨by decide +kernel, by decide +kernel⟩, List.mem_of_getElem? (i := 290) (by decide +kernel), List.mem_of_getElem? (i := 512) (by decide +kernel), List.mem_of_getElem? (i := 513) (by decide +kernel)⟩
theorem lw_p19 : lw_okq (⟨"ProofMapModel", "copyNode", "(II)V"⟩, 24) := ⟨⟨by decide +kernel, by decide +kernel⟩, List.mem_of_getElem? (i := 290) (by decide +kernel), List.mem_of_getElem? (i := 516) (by decide +kernel), List.mem_of_getElem? (i := 517) (by decide +kernel)⟩
theorem lw_p20 : lw_okq (⟨"ProofMapModel", "half", "(III)V"⟩, 24) := ⟨⟨by decide +kernel, by decide +kernel⟩, List.mem_of_getElem? (i := 290) (by decide +kernel), List.mem_of_getElem? (i := 520) (by decide +kernel), List.mem_of_getElem? (i := 521) (by decide +kernel)⟩
theorem lw_p21 : lw_okq (⟨"ProofMapModel", "join", "()V"⟩, 24) := ⟨⟨by decide +kernel, by decide +kernel⟩, List.mem_of_getElem? (i := 290) (by decide +kernel), List.mem_of_getElem? (i := 524) (by decide +kernel), List.mem_of_getElem? (i := 525) (by decide +kernel)⟩
theorem lw_p22 : lw_okq (⟨"ProofMapModel", "copyRow", "(II)V"⟩, 24) := ⟨⟨by decide +kernel, by decide +kernel⟩, List.mem_of_getElem? (i := 290) (by decide +kernel), List.mem_of_getElem? (i := 528) (by decide +kernel), List.mem_of_getElem? (i := 529) (by decide +kernel)⟩
theorem lw_p23 : lw_okq (⟨"ProofMapModel", "isSibling", "(II)Z"⟩, 24) := ⟨⟨by decide +kernel, by decide +kernel⟩, List.mem_of_getElem? (i := 290) (by decide +kernel), List.mem_of_getElem? (i := 552) (by decide +kernel), List.mem_of_getElem? (i := 553) (by decide +kernel)⟩
def lw_privs_2 : List (MethodName × Nat) := [(⟨"ProofMapModel", "mix", "(I)V"⟩, 24), (⟨"ProofMapModel", "look", "(II)V"⟩, 24), (⟨"ProofMapModel", "up", "()V"⟩, 24), (⟨"ProofMapModel", "copyNode", "(II)V"⟩, 24), (⟨"ProofMapModel", "half", "(III)V"⟩, 24), (⟨"ProofMapModel", "join", "()V"⟩, 24), (⟨"ProofMapModel", "copyRow", "(II)V"⟩, 24), (⟨"ProofMapModel", "isSibling", "(II)Z"⟩, 24)]
theorem lw_r2 : ∀ q ∈ lw_privs_2, lw_okq q := List.forall_mem_cons.mpr ⟨lw_p16, List.forall_mem_cons.mpr ⟨lw_p17, List.forall_mem_cons.mpr ⟨lw_p18, List.forall_mem_cons.mpr ⟨lw_p19, List.forall_mem_cons.mpr ⟨lw_p20, List.forall_mem_cons.mpr ⟨lw_p21, List.forall_mem_cons.mpr ⟨lw_p22, List.forall_mem_cons.mpr ⟨lw_p23, fun _ h => absurd h List.not_mem_nil⟩⟩⟩⟩⟩⟩⟩⟩
def lw_privs : List (MethodName × Nat) := lw_privs_1 ++ (lw_privs_2)
def lw_tbl : List Cond := k2_sels lw_privs ++ tables_1
theorem lw_privs_ok : ∀ q ∈ lw_privs, lw_okq q := by
  show ∀ q ∈ lw_privs_1 ++ (lw_privs_2), lw_okq q
  exact List.forall_mem_append.mpr ⟨lw_r1, lw_r2⟩
end
section
/-! ===== BEGIN printed: names, fields, word lists, decode rows ===== -/
def RX0 : String := "ProofMap$Hasher"
def TX0 : u_T := fun k => match k with
  | 0 => ("ProofMap$Hasher", "nothing", "[I", true)
  | 1 => ("ProofMap$Hasher", "message", "[I", true)
  | 2 => ("ProofMap$Hasher", "schedule", "[I", true)
  | _ => ("ProofMap$Hasher", "state", "[I", true)
def tyX0 : Nat → FieldType := fun k => match k with
  | 0 => .array .int
  | 1 => .array .int
  | 2 => .array .int
  | _ => .array .int
abbrev wsX00 : List Cond := u_ws RX0 TX0 4
theorem nmX0 : ∀ a, a < 4 → ∀ b, b < 4 → a ≠ b → (TX0 a).2.1 ≠ (TX0 b).2.1 := by decide +kernel
theorem tyX0_ok : ∀ k, k < 4 → parseFieldDescriptor (TX0 k).2.2.1 = some (tyX0 k) := by decide +kernel
abbrev cX0_init : ByteArray := prog_2_method_1_code
def yX0_init : MethodName := ⟨RX0, "<init>", "()V"⟩
abbrev cX0_hashEntry : ByteArray := prog_2_method_2_code
def yX0_hashEntry : MethodName := ⟨RX0, "hashEntry", "(II[I)V"⟩
abbrev cX0_hashPair : ByteArray := prog_2_method_3_code
def yX0_hashPair : MethodName := ⟨RX0, "hashPair", "([I[I[I)V"⟩
abbrev cX0_clearMessage : ByteArray := prog_2_method_4_code
def yX0_clearMessage : MethodName := ⟨RX0, "clearMessage", "()V"⟩
abbrev cX0_start : ByteArray := prog_2_method_5_code
def yX0_start : MethodName := ⟨RX0, "start", "()V"⟩
abbrev cX0_compress : ByteArray := prog_2_method_6_code
def yX0_compress : MethodName := ⟨RX0, "compress", "(I)V"⟩
abbrev cX0_spread : ByteArray := prog_2_method_7_code
def yX0_spread : MethodName := ⟨RX0, "spread", "(I)V"⟩
abbrev cX0_turned : ByteArray := prog_2_method_8_code
def yX0_turned : MethodName := ⟨RX0, "turned", "(II)I"⟩
def RX1 : String := "ProofMap$Node"
def TX1 : u_T := fun k => match k with
  | 0 => ("ProofMap$Node", "count", "I", true)
  | 1 => ("ProofMap$Node", "key", "I", true)
  | 2 => ("ProofMap$Node", "value", "I", true)
  | 3 => ("ProofMap$Node", "zero", "LProofMap$Node;", true)
  | 4 => ("ProofMap$Node", "one", "LProofMap$Node;", true)
  | _ => ("ProofMap$Node", "digest", "[I", false)
def tyX1 : Nat → FieldType := fun k => match k with
  | 0 => .int
  | 1 => .int
  | 2 => .int
  | 3 => .object "ProofMap$Node"
  | 4 => .object "ProofMap$Node"
  | _ => .array .int
abbrev wsX10 : List Cond := u_ws RX1 TX1 6
theorem nmX1 : ∀ a, a < 6 → ∀ b, b < 6 → a ≠ b → (TX1 a).2.1 ≠ (TX1 b).2.1 := by decide +kernel
theorem tyX1_ok : ∀ k, k < 6 → parseFieldDescriptor (TX1 k).2.2.1 = some (tyX1 k) := by decide +kernel
abbrev cX1_init : ByteArray := prog_3_method_1_code
def yX1_init : MethodName := ⟨RX1, "<init>", "(II)V"⟩
abbrev cX1_init_ : ByteArray := prog_3_method_2_code
def yX1_init_ : MethodName := ⟨RX1, "<init>", "(LProofMap$Node;LProofMap$Node;)V"⟩
def RX2 : String := "ProofMap$Proof"
def TX2 : u_T := fun k => match k with
  | 0 => ("ProofMap$Proof", "beside", "[[I", true)
  | 1 => ("ProofMap$Proof", "length", "I", false)
  | 2 => ("ProofMap$Proof", "hasEntry", "Z", false)
  | 3 => ("ProofMap$Proof", "key", "I", false)
  | _ => ("ProofMap$Proof", "value", "I", false)
def tyX2 : Nat → FieldType := fun k => match k with
  | 0 => .array (.array .int)
  | 1 => .int
  | 2 => .boolean
  | 3 => .int
  | _ => .int
abbrev wsX20 : List Cond := u_ws RX2 TX2 5
theorem nmX2 : ∀ a, a < 5 → ∀ b, b < 5 → a ≠ b → (TX2 a).2.1 ≠ (TX2 b).2.1 := by decide +kernel
theorem tyX2_ok : ∀ k, k < 5 → parseFieldDescriptor (TX2 k).2.2.1 = some (tyX2 k) := by decide +kernel
abbrev cX2_init : ByteArray := prog_4_method_1_code
def yX2_init : MethodName := ⟨RX2, "<init>", "()V"⟩
abbrev cX2_endWithNothing : ByteArray := prog_4_method_2_code
def yX2_endWithNothing : MethodName := ⟨RX2, "endWithNothing", "()V"⟩
abbrev cX2_endWithEntry : ByteArray := prog_4_method_3_code
def yX2_endWithEntry : MethodName := ⟨RX2, "endWithEntry", "(II)V"⟩
def RX3 : String := "ProofMap"
def TX3 : u_T := fun k => match k with
  | 0 => ("ProofMap", "kept", "[LProofMap$Node;", true)
  | 1 => ("ProofMap", "keptCount", "I", false)
  | 2 => ("ProofMap", "now", "LProofMap$Node;", false)
  | 3 => ("ProofMap", "proof", "LProofMap$Proof;", true)
  | 4 => ("ProofMap", "hasher", "LProofMap$Hasher;", true)
  | _ => ("ProofMap", "folded", "[I", true)
def tyX3 : Nat → FieldType := fun k => match k with
  | 0 => .array (.object "ProofMap$Node")
  | 1 => .int
  | 2 => .object "ProofMap$Node"
  | 3 => .object "ProofMap$Proof"
  | 4 => .object "ProofMap$Hasher"
  | _ => .array .int
abbrev wsX30 : List Cond := u_ws RX3 TX3 6
theorem nmX3 : ∀ a, a < 6 → ∀ b, b < 6 → a ≠ b → (TX3 a).2.1 ≠ (TX3 b).2.1 := by decide +kernel
theorem tyX3_ok : ∀ k, k < 6 → parseFieldDescriptor (TX3 k).2.2.1 = some (tyX3 k) := by decide +kernel
abbrev cX3_init : ByteArray := prog_1_method_1_code
def yX3_init : MethodName := ⟨RX3, "<init>", "()V"⟩
abbrev cX3_put : ByteArray := prog_1_method_2_code
def yX3_put : MethodName := ⟨RX3, "put", "(II)I"⟩
abbrev cX3_remove : ByteArray := prog_1_method_3_code
def yX3_remove : MethodName := ⟨RX3, "remove", "(I)I"⟩
abbrev cX3_get : ByteArray := prog_1_method_4_code
def yX3_get : MethodName := ⟨RX3, "get", "(II)J"⟩
abbrev cX3_size : ByteArray := prog_1_method_5_code
def yX3_size : MethodName := ⟨RX3, "size", "(I)I"⟩
abbrev cX3_commit : ByteArray := prog_1_method_6_code
def yX3_commit : MethodName := ⟨RX3, "commit", "()I"⟩
abbrev cX3_back : ByteArray := prog_1_method_7_code
def yX3_back : MethodName := ⟨RX3, "back", "(I)I"⟩
abbrev cX3_word : ByteArray := prog_1_method_8_code
def yX3_word : MethodName := ⟨RX3, "word", "(II)I"⟩
abbrev cX3_prove : ByteArray := prog_1_method_9_code
def yX3_prove : MethodName := ⟨RX3, "prove", "(II)I"⟩
abbrev cX3_siblings : ByteArray := prog_1_method_10_code
def yX3_siblings : MethodName := ⟨RX3, "siblings", "()I"⟩
abbrev cX3_sibling : ByteArray := prog_1_method_11_code
def yX3_sibling : MethodName := ⟨RX3, "sibling", "(II)I"⟩
abbrev cX3_end : ByteArray := prog_1_method_12_code
def yX3_end : MethodName := ⟨RX3, "end", "(I)I"⟩
abbrev cX3_alter : ByteArray := prog_1_method_13_code
def yX3_alter : MethodName := ⟨RX3, "alter", "(III)I"⟩
abbrev cX3_claim : ByteArray := prog_1_method_14_code
def yX3_claim : MethodName := ⟨RX3, "claim", "(II)I"⟩
abbrev cX3_cut : ByteArray := prog_1_method_15_code
def yX3_cut : MethodName := ⟨RX3, "cut", "(I)I"⟩
abbrev cX3_verify : ByteArray := prog_1_method_16_code
def yX3_verify : MethodName := ⟨RX3, "verify", "(II)I"⟩
abbrev cX3_alike : ByteArray := prog_1_method_17_code
def yX3_alike : MethodName := ⟨RX3, "alike", "(II)I"⟩
abbrev cX3_versions : ByteArray := prog_1_method_18_code
def yX3_versions : MethodName := ⟨RX3, "versions", "()I"⟩
abbrev cX3_isKey : ByteArray := prog_1_method_19_code
def yX3_isKey : MethodName := ⟨RX3, "isKey", "(I)Z"⟩
abbrev cX3_isWord : ByteArray := prog_1_method_20_code
def yX3_isWord : MethodName := ⟨RX3, "isWord", "(I)Z"⟩
abbrev cX3_isVersion : ByteArray := prog_1_method_21_code
def yX3_isVersion : MethodName := ⟨RX3, "isVersion", "(I)Z"⟩
abbrev cX3_isSibling : ByteArray := prog_1_method_22_code
def yX3_isSibling : MethodName := ⟨RX3, "isSibling", "(I)Z"⟩
abbrev cX3_rootOf : ByteArray := prog_1_method_23_code
def yX3_rootOf : MethodName := ⟨RX3, "rootOf", "(I)LProofMap$Node;"⟩
abbrev cX3_bitAt : ByteArray := prog_1_method_24_code
def yX3_bitAt : MethodName := ⟨RX3, "bitAt", "(II)I"⟩
abbrev cX3_sameFirstBits : ByteArray := prog_1_method_25_code
def yX3_sameFirstBits : MethodName := ⟨RX3, "sameFirstBits", "(II)I"⟩
abbrev cX3_countOf : ByteArray := prog_1_method_26_code
def yX3_countOf : MethodName := ⟨RX3, "countOf", "(LProofMap$Node;)I"⟩
abbrev cX3_isEntry : ByteArray := prog_1_method_27_code
def yX3_isEntry : MethodName := ⟨RX3, "isEntry", "(LProofMap$Node;I)Z"⟩
abbrev cX3_half : ByteArray := prog_1_method_28_code
def yX3_half : MethodName := ⟨RX3, "half", "(LProofMap$Node;II)LProofMap$Node;"⟩
abbrev cX3_endOf : ByteArray := prog_1_method_29_code
def yX3_endOf : MethodName := ⟨RX3, "endOf", "(LProofMap$Node;I)LProofMap$Node;"⟩
abbrev cX3_replaced : ByteArray := prog_1_method_30_code
def yX3_replaced : MethodName := ⟨RX3, "replaced", "(LProofMap$Node;IILProofMap$Node;)LProofMap$Node;"⟩
abbrev cX3_joined : ByteArray := prog_1_method_31_code
def yX3_joined : MethodName := ⟨RX3, "joined", "(LProofMap$Node;LProofMap$Node;)LProofMap$Node;"⟩
abbrev cX3_digestOf : ByteArray := prog_1_method_32_code
def yX3_digestOf : MethodName := ⟨RX3, "digestOf", "(LProofMap$Node;ILProofMap$Hasher;)[I"⟩
abbrev cX3_foldProof : ByteArray := prog_1_method_33_code
def yX3_foldProof : MethodName := ⟨RX3, "foldProof", "(I)V"⟩
abbrev cX3_copyWords : ByteArray := prog_1_method_34_code
def yX3_copyWords : MethodName := ⟨RX3, "copyWords", "([I[I)V"⟩
abbrev cX3_sameWords : ByteArray := prog_1_method_35_code
def yX3_sameWords : MethodName := ⟨RX3, "sameWords", "([I[I)Z"⟩
def RX4 : String := "ProofMapModel"
def TX4 : u_T := fun k => match k with
  | 0 => ("ProofMapModel", "rounds", "[I", true)
  | 1 => ("ProofMapModel", "start", "[I", true)
  | 2 => ("ProofMapModel", "keys", "[I", true)
  | 3 => ("ProofMapModel", "values", "[I", true)
  | 4 => ("ProofMapModel", "sizes", "[I", true)
  | 5 => ("ProofMapModel", "digests", "[I", true)
  | 6 => ("ProofMapModel", "versions", "I", false)
  | 7 => ("ProofMapModel", "isKnown", "Z", false)
  | 8 => ("ProofMapModel", "bytes", "[I", true)
  | 9 => ("ProofMapModel", "words", "[I", true)
  | 10 => ("ProofMapModel", "hash", "[I", true)
  | 11 => ("ProofMapModel", "begins", "[I", true)
  | 12 => ("ProofMapModel", "counts", "[I", true)
  | 13 => ("ProofMapModel", "ones", "[I", true)
  | 14 => ("ProofMapModel", "nodes", "[I", true)
  | 15 => ("ProofMapModel", "level", "I", false)
  | 16 => ("ProofMapModel", "wayCounts", "[I", true)
  | 17 => ("ProofMapModel", "wayOnes", "[I", true)
  | 18 => ("ProofMapModel", "beside", "[I", true)
  | 19 => ("ProofMapModel", "proofSize", "I", false)
  | 20 => ("ProofMapModel", "proof", "[I", true)
  | 21 => ("ProofMapModel", "hasEnd", "Z", false)
  | 22 => ("ProofMapModel", "endKey", "I", false)
  | _ => ("ProofMapModel", "endValue", "I", false)
def tyX4 : Nat → FieldType := fun k => match k with
  | 0 => .array .int
  | 1 => .array .int
  | 2 => .array .int
  | 3 => .array .int
  | 4 => .array .int
  | 5 => .array .int
  | 6 => .int
  | 7 => .boolean
  | 8 => .array .int
  | 9 => .array .int
  | 10 => .array .int
  | 11 => .array .int
  | 12 => .array .int
  | 13 => .array .int
  | 14 => .array .int
  | 15 => .int
  | 16 => .array .int
  | 17 => .array .int
  | 18 => .array .int
  | 19 => .int
  | 20 => .array .int
  | 21 => .boolean
  | 22 => .int
  | _ => .int
abbrev wsX40 : List Cond := u_ws RX4 TX4 24
theorem nmX4 : ∀ a, a < 24 → ∀ b, b < 24 → a ≠ b → (TX4 a).2.1 ≠ (TX4 b).2.1 := by decide +kernel
theorem tyX4_ok : ∀ k, k < 24 → parseFieldDescriptor (TX4 k).2.2.1 = some (tyX4 k) := by decide +kernel
abbrev cX4_init : ByteArray := prog_6_method_1_code
def yX4_init : MethodName := ⟨RX4, "<init>", "()V"⟩
abbrev cX4_isKey : ByteArray := prog_6_method_2_code
def yX4_isKey : MethodName := ⟨RX4, "isKey", "(I)Z"⟩
abbrev cX4_isVersion : ByteArray := prog_6_method_3_code
def yX4_isVersion : MethodName := ⟨RX4, "isVersion", "(I)Z"⟩
abbrev cX4_rowOf : ByteArray := prog_6_method_4_code
def yX4_rowOf : MethodName := ⟨RX4, "rowOf", "(I)I"⟩
abbrev cX4_turned : ByteArray := prog_6_method_5_code
def yX4_turned : MethodName := ⟨RX4, "turned", "(II)I"⟩
abbrev cX4_mix : ByteArray := prog_6_method_6_code
def yX4_mix : MethodName := ⟨RX4, "mix", "(I)V"⟩
abbrev cX4_digest : ByteArray := prog_6_method_7_code
def yX4_digest : MethodName := ⟨RX4, "digest", "(I)V"⟩
abbrev cX4_leaf : ByteArray := prog_6_method_8_code
def yX4_leaf : MethodName := ⟨RX4, "leaf", "(II)V"⟩
abbrev cX4_half : ByteArray := prog_6_method_9_code
def yX4_half : MethodName := ⟨RX4, "half", "(III)V"⟩
abbrev cX4_join : ByteArray := prog_6_method_10_code
def yX4_join : MethodName := ⟨RX4, "join", "()V"⟩
abbrev cX4_begin : ByteArray := prog_6_method_11_code
def yX4_begin : MethodName := ⟨RX4, "begin", "(I)V"⟩
abbrev cX4_look : ByteArray := prog_6_method_12_code
def yX4_look : MethodName := ⟨RX4, "look", "(II)V"⟩
abbrev cX4_copyNode : ByteArray := prog_6_method_13_code
def yX4_copyNode : MethodName := ⟨RX4, "copyNode", "(II)V"⟩
abbrev cX4_up : ByteArray := prog_6_method_14_code
def yX4_up : MethodName := ⟨RX4, "up", "()V"⟩
abbrev cX4_work : ByteArray := prog_6_method_15_code
def yX4_work : MethodName := ⟨RX4, "work", "(II)V"⟩
abbrev cX4_know : ByteArray := prog_6_method_16_code
def yX4_know : MethodName := ⟨RX4, "know", "()V"⟩
abbrev cX4_find : ByteArray := prog_6_method_17_code
def yX4_find : MethodName := ⟨RX4, "find", "(II)I"⟩
abbrev cX4_isThere : ByteArray := prog_6_method_18_code
def yX4_isThere : MethodName := ⟨RX4, "isThere", "(III)Z"⟩
abbrev cX4_put : ByteArray := prog_6_method_19_code
def yX4_put : MethodName := ⟨RX4, "put", "(II)I"⟩
abbrev cX4_remove : ByteArray := prog_6_method_20_code
def yX4_remove : MethodName := ⟨RX4, "remove", "(I)I"⟩
abbrev cX4_get : ByteArray := prog_6_method_21_code
def yX4_get : MethodName := ⟨RX4, "get", "(II)J"⟩
abbrev cX4_size : ByteArray := prog_6_method_22_code
def yX4_size : MethodName := ⟨RX4, "size", "(I)I"⟩
abbrev cX4_copyRow : ByteArray := prog_6_method_23_code
def yX4_copyRow : MethodName := ⟨RX4, "copyRow", "(II)V"⟩
abbrev cX4_commit : ByteArray := prog_6_method_24_code
def yX4_commit : MethodName := ⟨RX4, "commit", "()I"⟩
abbrev cX4_back : ByteArray := prog_6_method_25_code
def yX4_back : MethodName := ⟨RX4, "back", "(I)I"⟩
abbrev cX4_word : ByteArray := prog_6_method_26_code
def yX4_word : MethodName := ⟨RX4, "word", "(II)I"⟩
abbrev cX4_prove : ByteArray := prog_6_method_27_code
def yX4_prove : MethodName := ⟨RX4, "prove", "(II)I"⟩
abbrev cX4_siblings : ByteArray := prog_6_method_28_code
def yX4_siblings : MethodName := ⟨RX4, "siblings", "()I"⟩
abbrev cX4_isSibling : ByteArray := prog_6_method_29_code
def yX4_isSibling : MethodName := ⟨RX4, "isSibling", "(II)Z"⟩
abbrev cX4_sibling : ByteArray := prog_6_method_30_code
def yX4_sibling : MethodName := ⟨RX4, "sibling", "(II)I"⟩
abbrev cX4_end : ByteArray := prog_6_method_31_code
def yX4_end : MethodName := ⟨RX4, "end", "(I)I"⟩
abbrev cX4_alter : ByteArray := prog_6_method_32_code
def yX4_alter : MethodName := ⟨RX4, "alter", "(III)I"⟩
abbrev cX4_claim : ByteArray := prog_6_method_33_code
def yX4_claim : MethodName := ⟨RX4, "claim", "(II)I"⟩
abbrev cX4_cut : ByteArray := prog_6_method_34_code
def yX4_cut : MethodName := ⟨RX4, "cut", "(I)I"⟩
abbrev cX4_bitsAlike : ByteArray := prog_6_method_35_code
def yX4_bitsAlike : MethodName := ⟨RX4, "bitsAlike", "(II)I"⟩
abbrev cX4_verify : ByteArray := prog_6_method_36_code
def yX4_verify : MethodName := ⟨RX4, "verify", "(II)I"⟩
abbrev cX4_alike : ByteArray := prog_6_method_37_code
def yX4_alike : MethodName := ⟨RX4, "alike", "(II)I"⟩
abbrev cX4_versions : ByteArray := prog_6_method_38_code
def yX4_versions : MethodName := ⟨RX4, "versions", "()I"⟩
def RJ9 : String := "java/lang/Math"
def TJ9 : u_T := fun k => match k with
  | _ => ("", "", "", false)
def tyJ9 : Nat → FieldType := fun k => match k with
  | _ => .int
abbrev wsJ90 : List Cond := u_ws RJ9 TJ9 0
theorem nmJ9 : ∀ a, a < 0 → ∀ b, b < 0 → a ≠ b → (TJ9 a).2.1 ≠ (TJ9 b).2.1 := by decide +kernel
theorem tyJ9_ok : ∀ k, k < 0 → parseFieldDescriptor (TJ9 k).2.2.1 = some (tyJ9 k) := by decide +kernel
abbrev cJ9_min_7cf53 : ByteArray := prog_7_method_69_code
def yJ9_min_7cf53 : MethodName := ⟨RJ9, "min", "(II)I"⟩
def RL : String := "ProofMapLaw"
abbrev cL_law : ByteArray := code
def yL_law : MethodName := ⟨RL, "law", "([I)Z"⟩
abbrev vwCl : List vw_C := [(RX0, TX0, 4), (RX1, TX1, 6), (RX2, TX2, 5), (RX3, TX3, 6), (RX4, TX4, 24)]
end
section
/-- the words of every method: those of the tables that pass on to callees -/
def hT : List Cond := lw_tbl.filter goodWord
theorem hT_in : ∀ w ∈ hT, w ∈ lw_tbl := fun _ h => (List.mem_filter.mp h).1
theorem hT_good : GoodIn hT hT := fun w h => ⟨h, good_of_word (List.mem_filter.mp h).2⟩
theorem wm {w : Cond} (i : Nat) (h : lw_tbl[i]? = some w) (hg : goodWord w = true) : w ∈ hT := List.mem_filter.mpr ⟨List.mem_of_getElem? h, hg⟩
theorem ws_X3_isVersion : Cond.selects RX3 yX3_isVersion yX3_isVersion ∈ hT := wm 0 (by decide +kernel) (by decide +kernel)
theorem ws_X3_rootOf : Cond.selects RX3 yX3_rootOf yX3_rootOf ∈ hT := wm 1 (by decide +kernel) (by decide +kernel)
theorem ws_X0_clearMessage : Cond.selects RX0 yX0_clearMessage yX0_clearMessage ∈ hT := wm 2 (by decide +kernel) (by decide +kernel)
theorem ws_X0_start : Cond.selects RX0 yX0_start yX0_start ∈ hT := wm 3 (by decide +kernel) (by decide +kernel)
theorem ws_X0_compress : Cond.selects RX0 yX0_compress yX0_compress ∈ hT := wm 4 (by decide +kernel) (by decide +kernel)
theorem ws_X0_spread : Cond.selects RX0 yX0_spread yX0_spread ∈ hT := wm 5 (by decide +kernel) (by decide +kernel)
theorem ws_X3_isSibling : Cond.selects RX3 yX3_isSibling yX3_isSibling ∈ hT := wm 6 (by decide +kernel) (by decide +kernel)
theorem ws_X3_foldProof : Cond.selects RX3 yX3_foldProof yX3_foldProof ∈ hT := wm 7 (by decide +kernel) (by decide +kernel)
theorem ws_X4_find : Cond.selects RX4 yX4_find yX4_find ∈ hT := wm 8 (by decide +kernel) (by decide +kernel)
theorem ws_X4_isThere : Cond.selects RX4 yX4_isThere yX4_isThere ∈ hT := wm 9 (by decide +kernel) (by decide +kernel)
theorem ws_X4_isVersion : Cond.selects RX4 yX4_isVersion yX4_isVersion ∈ hT := wm 10 (by decide +kernel) (by decide +kernel)
theorem ws_X4_know : Cond.selects RX4 yX4_know yX4_know ∈ hT := wm 11 (by decide +kernel) (by decide +kernel)
theorem ws_X4_work : Cond.selects RX4 yX4_work yX4_work ∈ hT := wm 12 (by decide +kernel) (by decide +kernel)
theorem ws_X4_begin : Cond.selects RX4 yX4_begin yX4_begin ∈ hT := wm 13 (by decide +kernel) (by decide +kernel)
theorem ws_X4_leaf : Cond.selects RX4 yX4_leaf yX4_leaf ∈ hT := wm 14 (by decide +kernel) (by decide +kernel)
theorem ws_X4_digest : Cond.selects RX4 yX4_digest yX4_digest ∈ hT := wm 15 (by decide +kernel) (by decide +kernel)
theorem ws_X4_mix : Cond.selects RX4 yX4_mix yX4_mix ∈ hT := wm 16 (by decide +kernel) (by decide +kernel)
theorem ws_X4_look : Cond.selects RX4 yX4_look yX4_look ∈ hT := wm 17 (by decide +kernel) (by decide +kernel)
theorem ws_X4_up : Cond.selects RX4 yX4_up yX4_up ∈ hT := wm 18 (by decide +kernel) (by decide +kernel)
theorem ws_X4_copyNode : Cond.selects RX4 yX4_copyNode yX4_copyNode ∈ hT := wm 19 (by decide +kernel) (by decide +kernel)
theorem ws_X4_half : Cond.selects RX4 yX4_half yX4_half ∈ hT := wm 20 (by decide +kernel) (by decide +kernel)
theorem ws_X4_join : Cond.selects RX4 yX4_join yX4_join ∈ hT := wm 21 (by decide +kernel) (by decide +kernel)
theorem ws_X4_copyRow : Cond.selects RX4 yX4_copyRow yX4_copyRow ∈ hT := wm 22 (by decide +kernel) (by decide +kernel)
theorem ws_X4_isSibling : Cond.selects RX4 yX4_isSibling yX4_isSibling ∈ hT := wm 23 (by decide +kernel) (by decide +kernel)
theorem wn_L : Cond.initialized "ProofMapLaw" ∈ hT := wm 24 (by decide +kernel) (by decide +kernel)
theorem wn_X3 : Cond.initialized "ProofMap" ∈ hT := wm 25 (by decide +kernel) (by decide +kernel)
theorem wn_X2 : Cond.initialized "ProofMap$Proof" ∈ hT := wm 26 (by decide +kernel) (by decide +kernel)
theorem wn_X0 : Cond.initialized "ProofMap$Hasher" ∈ hT := wm 27 (by decide +kernel) (by decide +kernel)
theorem wn_X4 : Cond.initialized "ProofMapModel" ∈ hT := wm 28 (by decide +kernel) (by decide +kernel)
theorem wn_X1 : Cond.initialized "ProofMap$Node" ∈ hT := wm 29 (by decide +kernel) (by decide +kernel)
theorem wn_J9 : Cond.initialized "java/lang/Math" ∈ hT := wm 30 (by decide +kernel) (by decide +kernel)
theorem wc_L_7 : Cond.classLink "ProofMapLaw" (7 : Nat) "ProofMap" ∈ hT := wm 31 (by decide +kernel) (by decide +kernel)
theorem wa_X3 : Cond.instantiable "ProofMap" (6 : Nat) ∈ hT := wm 32 (by decide +kernel) (by decide +kernel)
theorem wl_L_9 : Cond.methodLink "ProofMapLaw" (9 : Nat) yX3_init ∈ hT := wm 33 (by decide +kernel) (by decide +kernel)
theorem wi_X3_init : Cond.instanceMethod yX3_init ∈ hT := wm 34 (by decide +kernel) (by decide +kernel)
theorem wcode_X3_init : Cond.code yX3_init prog_1_method_1_code (1 : Nat) (Option.none : Option Jvm.ClassFile.FieldType) ∈ hT := wm 35 (by decide +kernel) (by decide +kernel)
theorem wl_X3_1 : Cond.methodLink "ProofMap" (1 : Nat) ({ cls := "java/lang/Object", name := "<init>", desc := "()V" } : Jvm.MethodName) ∈ hT := wm 36 (by decide +kernel) (by decide +kernel)
theorem wi_objectInit : Cond.instanceMethod ({ cls := "java/lang/Object", name := "<init>", desc := "()V" } : Jvm.MethodName) ∈ hT := wm 37 (by decide +kernel) (by decide +kernel)
theorem wcode_objectInit : Cond.code ({ cls := "java/lang/Object", name := "<init>", desc := "()V" } : Jvm.MethodName) object_method_1_code (1 : Nat) (Option.none : Option Jvm.ClassFile.FieldType) ∈ hT := wm 38 (by decide +kernel) (by decide +kernel)
theorem wc_X3_9 : Cond.classLink "ProofMap" (9 : Nat) "ProofMap$Node" ∈ hT := wm 39 (by decide +kernel) (by decide +kernel)
theorem wx_16 : Cond.arrayOver (Jvm.ClassFile.FieldType.object "ProofMap$Node") ∈ lw_tbl := List.mem_of_getElem? (i := 40) (by decide +kernel)
theorem wc_X3_23 : Cond.classLink "ProofMap" (23 : Nat) "ProofMap$Proof" ∈ hT := wm 41 (by decide +kernel) (by decide +kernel)
theorem wa_X2 : Cond.instantiable "ProofMap$Proof" (5 : Nat) ∈ hT := wm 42 (by decide +kernel) (by decide +kernel)
theorem wl_X3_25 : Cond.methodLink "ProofMap" (25 : Nat) yX2_init ∈ hT := wm 43 (by decide +kernel) (by decide +kernel)
theorem wi_X2_init : Cond.instanceMethod yX2_init ∈ hT := wm 44 (by decide +kernel) (by decide +kernel)
theorem wcode_X2_init : Cond.code yX2_init prog_4_method_1_code (1 : Nat) (Option.none : Option Jvm.ClassFile.FieldType) ∈ hT := wm 45 (by decide +kernel) (by decide +kernel)
theorem wl_X2_3 : Cond.methodLink "ProofMap$Proof" (3 : Nat) ({ cls := "java/lang/Object", name := "<init>", desc := "()V" } : Jvm.MethodName) ∈ hT := wm 46 (by decide +kernel) (by decide +kernel)
theorem wc_X2_9 : Cond.classLink "ProofMap$Proof" (9 : Nat) "[[I" ∈ hT := wm 47 (by decide +kernel) (by decide +kernel)
theorem wx_24 : Cond.arrayOver (Jvm.ClassFile.FieldType.array Jvm.ClassFile.FieldType.int) ∈ lw_tbl := List.mem_of_getElem? (i := 48) (by decide +kernel)
theorem wf_X2_11 : Cond.fieldLink "ProofMap$Proof" (11 : Nat) "ProofMap$Proof" "beside" "[[I" ∈ hT := wm 49 (by decide +kernel) (by decide +kernel)
theorem wf_X3_91 : Cond.fieldLink "ProofMap" (91 : Nat) "ProofMap$Proof" "beside" "[[I" ∈ hT := wm 50 (by decide +kernel) (by decide +kernel)
theorem wf_X2_16 : Cond.fieldLink "ProofMap$Proof" (16 : Nat) "ProofMap$Proof" "length" "I" ∈ hT := wm 51 (by decide +kernel) (by decide +kernel)
theorem wf_X3_99 : Cond.fieldLink "ProofMap" (99 : Nat) "ProofMap$Proof" "length" "I" ∈ hT := wm 52 (by decide +kernel) (by decide +kernel)
theorem wf_X2_20 : Cond.fieldLink "ProofMap$Proof" (20 : Nat) "ProofMap$Proof" "hasEntry" "Z" ∈ hT := wm 53 (by decide +kernel) (by decide +kernel)
theorem wf_X3_114 : Cond.fieldLink "ProofMap" (114 : Nat) "ProofMap$Proof" "hasEntry" "Z" ∈ hT := wm 54 (by decide +kernel) (by decide +kernel)
theorem wf_X2_24 : Cond.fieldLink "ProofMap$Proof" (24 : Nat) "ProofMap$Proof" "key" "I" ∈ hT := wm 55 (by decide +kernel) (by decide +kernel)
theorem wf_X3_118 : Cond.fieldLink "ProofMap" (118 : Nat) "ProofMap$Proof" "key" "I" ∈ hT := wm 56 (by decide +kernel) (by decide +kernel)
theorem wf_X2_27 : Cond.fieldLink "ProofMap$Proof" (27 : Nat) "ProofMap$Proof" "value" "I" ∈ hT := wm 57 (by decide +kernel) (by decide +kernel)
theorem wf_X3_119 : Cond.fieldLink "ProofMap" (119 : Nat) "ProofMap$Proof" "value" "I" ∈ hT := wm 58 (by decide +kernel) (by decide +kernel)
theorem wy_X2_beside : Cond.laysFinal "ProofMap$Proof" "ProofMap$Proof" "beside" "[[I" ∈ hT := wm 59 (by decide +kernel) (by decide +kernel)
theorem wy_X2_length : Cond.lays "ProofMap$Proof" "ProofMap$Proof" "length" "I" ∈ hT := wm 61 (by decide +kernel) (by decide +kernel)
theorem wy_X2_hasEntry : Cond.lays "ProofMap$Proof" "ProofMap$Proof" "hasEntry" "Z" ∈ hT := wm 63 (by decide +kernel) (by decide +kernel)
theorem wy_X2_key : Cond.lays "ProofMap$Proof" "ProofMap$Proof" "key" "I" ∈ hT := wm 65 (by decide +kernel) (by decide +kernel)
theorem wy_X2_value : Cond.lays "ProofMap$Proof" "ProofMap$Proof" "value" "I" ∈ hT := wm 67 (by decide +kernel) (by decide +kernel)
theorem warr : Cond.arrayClass Jvm.ClassFile.FieldType.int ∈ hT := wm 70 (by decide +kernel) (by decide +kernel)
theorem wc_X3_30 : Cond.classLink "ProofMap" (30 : Nat) "ProofMap$Hasher" ∈ hT := wm 71 (by decide +kernel) (by decide +kernel)
theorem wa_X0 : Cond.instantiable "ProofMap$Hasher" (4 : Nat) ∈ hT := wm 72 (by decide +kernel) (by decide +kernel)
theorem wl_X3_32 : Cond.methodLink "ProofMap" (32 : Nat) yX0_init ∈ hT := wm 73 (by decide +kernel) (by decide +kernel)
theorem wi_X0_init : Cond.instanceMethod yX0_init ∈ hT := wm 74 (by decide +kernel) (by decide +kernel)
theorem wcode_X0_init : Cond.code yX0_init prog_2_method_1_code (1 : Nat) (Option.none : Option Jvm.ClassFile.FieldType) ∈ hT := wm 75 (by decide +kernel) (by decide +kernel)
theorem wl_X0_3 : Cond.methodLink "ProofMap$Hasher" (3 : Nat) ({ cls := "java/lang/Object", name := "<init>", desc := "()V" } : Jvm.MethodName) ∈ hT := wm 76 (by decide +kernel) (by decide +kernel)
theorem wf_X0_9 : Cond.fieldLink "ProofMap$Hasher" (9 : Nat) "ProofMap$Hasher" "nothing" "[I" ∈ hT := wm 77 (by decide +kernel) (by decide +kernel)
theorem wf_X3_148 : Cond.fieldLink "ProofMap" (148 : Nat) "ProofMap$Hasher" "nothing" "[I" ∈ hT := wm 78 (by decide +kernel) (by decide +kernel)
theorem wf_X0_15 : Cond.fieldLink "ProofMap$Hasher" (15 : Nat) "ProofMap$Hasher" "message" "[I" ∈ hT := wm 79 (by decide +kernel) (by decide +kernel)
theorem wf_X0_18 : Cond.fieldLink "ProofMap$Hasher" (18 : Nat) "ProofMap$Hasher" "schedule" "[I" ∈ hT := wm 80 (by decide +kernel) (by decide +kernel)
theorem wf_X0_21 : Cond.fieldLink "ProofMap$Hasher" (21 : Nat) "ProofMap$Hasher" "state" "[I" ∈ hT := wm 81 (by decide +kernel) (by decide +kernel)
theorem wy_X0_nothing : Cond.laysFinal "ProofMap$Hasher" "ProofMap$Hasher" "nothing" "[I" ∈ hT := wm 82 (by decide +kernel) (by decide +kernel)
theorem wy_X0_message : Cond.laysFinal "ProofMap$Hasher" "ProofMap$Hasher" "message" "[I" ∈ hT := wm 84 (by decide +kernel) (by decide +kernel)
theorem wy_X0_schedule : Cond.laysFinal "ProofMap$Hasher" "ProofMap$Hasher" "schedule" "[I" ∈ hT := wm 86 (by decide +kernel) (by decide +kernel)
theorem wy_X0_state : Cond.laysFinal "ProofMap$Hasher" "ProofMap$Hasher" "state" "[I" ∈ hT := wm 88 (by decide +kernel) (by decide +kernel)
theorem wf_X3_11 : Cond.fieldLink "ProofMap" (11 : Nat) "ProofMap" "kept" "[LProofMap$Node;" ∈ hT := wm 91 (by decide +kernel) (by decide +kernel)
theorem wf_X3_15 : Cond.fieldLink "ProofMap" (15 : Nat) "ProofMap" "keptCount" "I" ∈ hT := wm 92 (by decide +kernel) (by decide +kernel)
theorem wf_X3_19 : Cond.fieldLink "ProofMap" (19 : Nat) "ProofMap" "now" "LProofMap$Node;" ∈ hT := wm 93 (by decide +kernel) (by decide +kernel)
theorem wf_X3_26 : Cond.fieldLink "ProofMap" (26 : Nat) "ProofMap" "proof" "LProofMap$Proof;" ∈ hT := wm 94 (by decide +kernel) (by decide +kernel)
theorem wf_X3_33 : Cond.fieldLink "ProofMap" (33 : Nat) "ProofMap" "hasher" "LProofMap$Hasher;" ∈ hT := wm 95 (by decide +kernel) (by decide +kernel)
theorem wf_X3_37 : Cond.fieldLink "ProofMap" (37 : Nat) "ProofMap" "folded" "[I" ∈ hT := wm 96 (by decide +kernel) (by decide +kernel)
theorem wy_X3_kept : Cond.laysFinal "ProofMap" "ProofMap" "kept" "[LProofMap$Node;" ∈ hT := wm 97 (by decide +kernel) (by decide +kernel)
theorem wy_X3_keptCount : Cond.lays "ProofMap" "ProofMap" "keptCount" "I" ∈ hT := wm 99 (by decide +kernel) (by decide +kernel)
theorem wy_X3_now : Cond.lays "ProofMap" "ProofMap" "now" "LProofMap$Node;" ∈ hT := wm 101 (by decide +kernel) (by decide +kernel)
theorem wy_X3_proof : Cond.laysFinal "ProofMap" "ProofMap" "proof" "LProofMap$Proof;" ∈ hT := wm 103 (by decide +kernel) (by decide +kernel)
theorem wy_X3_hasher : Cond.laysFinal "ProofMap" "ProofMap" "hasher" "LProofMap$Hasher;" ∈ hT := wm 105 (by decide +kernel) (by decide +kernel)
theorem wy_X3_folded : Cond.laysFinal "ProofMap" "ProofMap" "folded" "[I" ∈ hT := wm 107 (by decide +kernel) (by decide +kernel)
theorem wl_L_13 : Cond.methodLink "ProofMapLaw" (13 : Nat) yX3_put ∈ hT := wm 110 (by decide +kernel) (by decide +kernel)
theorem wi_X3_put : Cond.instanceMethod yX3_put ∈ hT := wm 111 (by decide +kernel) (by decide +kernel)
theorem ws_X3_put : Cond.selects "ProofMap" yX3_put yX3_put ∈ hT := wm 112 (by decide +kernel) (by decide +kernel)
theorem wcode_X3_put : Cond.code yX3_put prog_1_method_2_code (4 : Nat) (Option.some Jvm.ClassFile.FieldType.int) ∈ hT := wm 113 (by decide +kernel) (by decide +kernel)
theorem wl_X3_41 : Cond.methodLink "ProofMap" (41 : Nat) yX3_isKey ∈ hT := wm 114 (by decide +kernel) (by decide +kernel)
theorem wt_X3_isKey : Cond.static yX3_isKey ∈ hT := wm 115 (by decide +kernel) (by decide +kernel)
theorem wcode_X3_isKey : Cond.code yX3_isKey prog_1_method_19_code (1 : Nat) (Option.some Jvm.ClassFile.FieldType.boolean) ∈ hT := wm 116 (by decide +kernel) (by decide +kernel)
theorem wk_X3_131 : Cond.constant "ProofMap" (131 : Nat) (65536 : Int32) ∈ hT := wm 117 (by decide +kernel) (by decide +kernel)
theorem wl_X3_45 : Cond.methodLink "ProofMap" (45 : Nat) yX3_endOf ∈ hT := wm 118 (by decide +kernel) (by decide +kernel)
theorem wt_X3_endOf : Cond.static yX3_endOf ∈ hT := wm 119 (by decide +kernel) (by decide +kernel)
theorem wcode_X3_endOf : Cond.code yX3_endOf prog_1_method_29_code (4 : Nat) (Option.some (Jvm.ClassFile.FieldType.object "ProofMap$Node")) ∈ hT := wm 120 (by decide +kernel) (by decide +kernel)
theorem wl_X3_53 : Cond.methodLink "ProofMap" (53 : Nat) yX3_countOf ∈ hT := wm 121 (by decide +kernel) (by decide +kernel)
theorem wt_X3_countOf : Cond.static yX3_countOf ∈ hT := wm 122 (by decide +kernel) (by decide +kernel)
theorem wcode_X3_countOf : Cond.code yX3_countOf prog_1_method_26_code (1 : Nat) (Option.some Jvm.ClassFile.FieldType.int) ∈ hT := wm 123 (by decide +kernel) (by decide +kernel)
theorem wl_X3_83 : Cond.methodLink "ProofMap" (83 : Nat) yX3_bitAt ∈ hT := wm 124 (by decide +kernel) (by decide +kernel)
theorem wt_X3_bitAt : Cond.static yX3_bitAt ∈ hT := wm 125 (by decide +kernel) (by decide +kernel)
theorem wcode_X3_bitAt : Cond.code yX3_bitAt prog_1_method_24_code (2 : Nat) (Option.some Jvm.ClassFile.FieldType.int) ∈ hT := wm 126 (by decide +kernel) (by decide +kernel)
theorem wl_X3_87 : Cond.methodLink "ProofMap" (87 : Nat) yX3_half ∈ hT := wm 127 (by decide +kernel) (by decide +kernel)
theorem wt_X3_half : Cond.static yX3_half ∈ hT := wm 128 (by decide +kernel) (by decide +kernel)
theorem wcode_X3_half : Cond.code yX3_half prog_1_method_28_code (3 : Nat) (Option.some (Jvm.ClassFile.FieldType.object "ProofMap$Node")) ∈ hT := wm 129 (by decide +kernel) (by decide +kernel)
theorem wl_X3_49 : Cond.methodLink "ProofMap" (49 : Nat) yX3_isEntry ∈ hT := wm 130 (by decide +kernel) (by decide +kernel)
theorem wt_X3_isEntry : Cond.static yX3_isEntry ∈ hT := wm 131 (by decide +kernel) (by decide +kernel)
theorem wcode_X3_isEntry : Cond.code yX3_isEntry prog_1_method_27_code (2 : Nat) (Option.some Jvm.ClassFile.FieldType.boolean) ∈ hT := wm 132 (by decide +kernel) (by decide +kernel)
theorem wa_X1 : Cond.instantiable "ProofMap$Node" (6 : Nat) ∈ hT := wm 133 (by decide +kernel) (by decide +kernel)
theorem wl_X3_57 : Cond.methodLink "ProofMap" (57 : Nat) yX1_init ∈ hT := wm 134 (by decide +kernel) (by decide +kernel)
theorem wi_X1_init : Cond.instanceMethod yX1_init ∈ hT := wm 135 (by decide +kernel) (by decide +kernel)
theorem wcode_X1_init : Cond.code yX1_init prog_3_method_1_code (3 : Nat) (Option.none : Option Jvm.ClassFile.FieldType) ∈ hT := wm 136 (by decide +kernel) (by decide +kernel)
theorem wl_X1_1 : Cond.methodLink "ProofMap$Node" (1 : Nat) ({ cls := "java/lang/Object", name := "<init>", desc := "()V" } : Jvm.MethodName) ∈ hT := wm 137 (by decide +kernel) (by decide +kernel)
theorem wf_X1_7 : Cond.fieldLink "ProofMap$Node" (7 : Nat) "ProofMap$Node" "count" "I" ∈ hT := wm 138 (by decide +kernel) (by decide +kernel)
theorem wf_X3_132 : Cond.fieldLink "ProofMap" (132 : Nat) "ProofMap$Node" "count" "I" ∈ hT := wm 139 (by decide +kernel) (by decide +kernel)
theorem wf_X1_13 : Cond.fieldLink "ProofMap$Node" (13 : Nat) "ProofMap$Node" "key" "I" ∈ hT := wm 140 (by decide +kernel) (by decide +kernel)
theorem wf_X3_105 : Cond.fieldLink "ProofMap" (105 : Nat) "ProofMap$Node" "key" "I" ∈ hT := wm 141 (by decide +kernel) (by decide +kernel)
theorem wf_X1_16 : Cond.fieldLink "ProofMap$Node" (16 : Nat) "ProofMap$Node" "value" "I" ∈ hT := wm 142 (by decide +kernel) (by decide +kernel)
theorem wf_X3_73 : Cond.fieldLink "ProofMap" (73 : Nat) "ProofMap$Node" "value" "I" ∈ hT := wm 143 (by decide +kernel) (by decide +kernel)
theorem wf_X1_19 : Cond.fieldLink "ProofMap$Node" (19 : Nat) "ProofMap$Node" "zero" "LProofMap$Node;" ∈ hT := wm 144 (by decide +kernel) (by decide +kernel)
theorem wf_X3_135 : Cond.fieldLink "ProofMap" (135 : Nat) "ProofMap$Node" "zero" "LProofMap$Node;" ∈ hT := wm 145 (by decide +kernel) (by decide +kernel)
theorem wf_X1_23 : Cond.fieldLink "ProofMap$Node" (23 : Nat) "ProofMap$Node" "one" "LProofMap$Node;" ∈ hT := wm 146 (by decide +kernel) (by decide +kernel)
theorem wf_X3_138 : Cond.fieldLink "ProofMap" (138 : Nat) "ProofMap$Node" "one" "LProofMap$Node;" ∈ hT := wm 147 (by decide +kernel) (by decide +kernel)
theorem wf_X1_26 : Cond.fieldLink "ProofMap$Node" (26 : Nat) "ProofMap$Node" "digest" "[I" ∈ hT := wm 148 (by decide +kernel) (by decide +kernel)
theorem wf_X3_151 : Cond.fieldLink "ProofMap" (151 : Nat) "ProofMap$Node" "digest" "[I" ∈ hT := wm 149 (by decide +kernel) (by decide +kernel)
theorem wy_X1_count : Cond.laysFinal "ProofMap$Node" "ProofMap$Node" "count" "I" ∈ hT := wm 150 (by decide +kernel) (by decide +kernel)
theorem wy_X1_key : Cond.laysFinal "ProofMap$Node" "ProofMap$Node" "key" "I" ∈ hT := wm 152 (by decide +kernel) (by decide +kernel)
theorem wy_X1_value : Cond.laysFinal "ProofMap$Node" "ProofMap$Node" "value" "I" ∈ hT := wm 154 (by decide +kernel) (by decide +kernel)
theorem wy_X1_zero : Cond.laysFinal "ProofMap$Node" "ProofMap$Node" "zero" "LProofMap$Node;" ∈ hT := wm 156 (by decide +kernel) (by decide +kernel)
theorem wy_X1_one : Cond.laysFinal "ProofMap$Node" "ProofMap$Node" "one" "LProofMap$Node;" ∈ hT := wm 158 (by decide +kernel) (by decide +kernel)
theorem wy_X1_digest : Cond.lays "ProofMap$Node" "ProofMap$Node" "digest" "[I" ∈ hT := wm 160 (by decide +kernel) (by decide +kernel)
theorem wl_X3_60 : Cond.methodLink "ProofMap" (60 : Nat) yX3_replaced ∈ hT := wm 163 (by decide +kernel) (by decide +kernel)
theorem wt_X3_replaced : Cond.static yX3_replaced ∈ hT := wm 164 (by decide +kernel) (by decide +kernel)
theorem wcode_X3_replaced : Cond.code yX3_replaced prog_1_method_30_code (7 : Nat) (Option.some (Jvm.ClassFile.FieldType.object "ProofMap$Node")) ∈ hT := wm 165 (by decide +kernel) (by decide +kernel)
theorem wl_X3_141 : Cond.methodLink "ProofMap" (141 : Nat) yX3_joined ∈ hT := wm 166 (by decide +kernel) (by decide +kernel)
theorem wt_X3_joined : Cond.static yX3_joined ∈ hT := wm 167 (by decide +kernel) (by decide +kernel)
theorem wcode_X3_joined : Cond.code yX3_joined prog_1_method_31_code (2 : Nat) (Option.some (Jvm.ClassFile.FieldType.object "ProofMap$Node")) ∈ hT := wm 168 (by decide +kernel) (by decide +kernel)
theorem wl_X3_145 : Cond.methodLink "ProofMap" (145 : Nat) yX1_init_ ∈ hT := wm 169 (by decide +kernel) (by decide +kernel)
theorem wi_X1_init_ : Cond.instanceMethod yX1_init_ ∈ hT := wm 170 (by decide +kernel) (by decide +kernel)
theorem wcode_X1_init_ : Cond.code yX1_init_ prog_3_method_2_code (3 : Nat) (Option.none : Option Jvm.ClassFile.FieldType) ∈ hT := wm 171 (by decide +kernel) (by decide +kernel)
theorem wx_148 : Cond.methodLinkNest "ProofMap$Node" (30 : Nat) yX3_countOf "ProofMap" ∈ lw_tbl := List.mem_of_getElem? (i := 172) (by decide +kernel)
theorem wl_L_18 : Cond.methodLink "ProofMapLaw" (18 : Nat) yX3_remove ∈ hT := wm 173 (by decide +kernel) (by decide +kernel)
theorem wi_X3_remove : Cond.instanceMethod yX3_remove ∈ hT := wm 174 (by decide +kernel) (by decide +kernel)
theorem ws_X3_remove : Cond.selects "ProofMap" yX3_remove yX3_remove ∈ hT := wm 175 (by decide +kernel) (by decide +kernel)
theorem wcode_X3_remove : Cond.code yX3_remove prog_1_method_3_code (2 : Nat) (Option.some Jvm.ClassFile.FieldType.int) ∈ hT := wm 176 (by decide +kernel) (by decide +kernel)
theorem wl_L_23 : Cond.methodLink "ProofMapLaw" (23 : Nat) yX3_get ∈ hT := wm 177 (by decide +kernel) (by decide +kernel)
theorem wi_X3_get : Cond.instanceMethod yX3_get ∈ hT := wm 178 (by decide +kernel) (by decide +kernel)
theorem ws_X3_get : Cond.selects "ProofMap" yX3_get yX3_get ∈ hT := wm 179 (by decide +kernel) (by decide +kernel)
theorem wcode_X3_get : Cond.code yX3_get prog_1_method_4_code (4 : Nat) (Option.some Jvm.ClassFile.FieldType.long) ∈ hT := wm 180 (by decide +kernel) (by decide +kernel)
theorem wl_X3_64 : Cond.methodLink "ProofMap" (64 : Nat) yX3_isVersion ∈ hT := wm 181 (by decide +kernel) (by decide +kernel)
theorem wi_X3_isVersion : Cond.instanceMethod yX3_isVersion ∈ hT := wm 183 (by decide +kernel) (by decide +kernel)
theorem wcode_X3_isVersion : Cond.code yX3_isVersion prog_1_method_21_code (2 : Nat) (Option.some Jvm.ClassFile.FieldType.boolean) ∈ hT := wm 184 (by decide +kernel) (by decide +kernel)
theorem wk_X3_67 : Cond.constantLong "ProofMap" (67 : Nat) (9223372036854775807 : Int64) ∈ hT := wm 185 (by decide +kernel) (by decide +kernel)
theorem wl_X3_69 : Cond.methodLink "ProofMap" (69 : Nat) yX3_rootOf ∈ hT := wm 186 (by decide +kernel) (by decide +kernel)
theorem wi_X3_rootOf : Cond.instanceMethod yX3_rootOf ∈ hT := wm 188 (by decide +kernel) (by decide +kernel)
theorem wcode_X3_rootOf : Cond.code yX3_rootOf prog_1_method_23_code (2 : Nat) (Option.some (Jvm.ClassFile.FieldType.object "ProofMap$Node")) ∈ hT := wm 189 (by decide +kernel) (by decide +kernel)
theorem wl_L_28 : Cond.methodLink "ProofMapLaw" (28 : Nat) yX3_size ∈ hT := wm 190 (by decide +kernel) (by decide +kernel)
theorem wi_X3_size : Cond.instanceMethod yX3_size ∈ hT := wm 191 (by decide +kernel) (by decide +kernel)
theorem ws_X3_size : Cond.selects "ProofMap" yX3_size yX3_size ∈ hT := wm 192 (by decide +kernel) (by decide +kernel)
theorem wcode_X3_size : Cond.code yX3_size prog_1_method_5_code (2 : Nat) (Option.some Jvm.ClassFile.FieldType.int) ∈ hT := wm 193 (by decide +kernel) (by decide +kernel)
theorem wl_L_32 : Cond.methodLink "ProofMapLaw" (32 : Nat) yX3_commit ∈ hT := wm 194 (by decide +kernel) (by decide +kernel)
theorem wi_X3_commit : Cond.instanceMethod yX3_commit ∈ hT := wm 195 (by decide +kernel) (by decide +kernel)
theorem ws_X3_commit : Cond.selects "ProofMap" yX3_commit yX3_commit ∈ hT := wm 196 (by decide +kernel) (by decide +kernel)
theorem wcode_X3_commit : Cond.code yX3_commit prog_1_method_6_code (2 : Nat) (Option.some Jvm.ClassFile.FieldType.int) ∈ hT := wm 197 (by decide +kernel) (by decide +kernel)
theorem wl_L_37 : Cond.methodLink "ProofMapLaw" (37 : Nat) yX3_back ∈ hT := wm 198 (by decide +kernel) (by decide +kernel)
theorem wi_X3_back : Cond.instanceMethod yX3_back ∈ hT := wm 199 (by decide +kernel) (by decide +kernel)
theorem ws_X3_back : Cond.selects "ProofMap" yX3_back yX3_back ∈ hT := wm 200 (by decide +kernel) (by decide +kernel)
theorem wcode_X3_back : Cond.code yX3_back prog_1_method_7_code (2 : Nat) (Option.some Jvm.ClassFile.FieldType.int) ∈ hT := wm 201 (by decide +kernel) (by decide +kernel)
theorem wl_L_41 : Cond.methodLink "ProofMapLaw" (41 : Nat) yX3_word ∈ hT := wm 202 (by decide +kernel) (by decide +kernel)
theorem wi_X3_word : Cond.instanceMethod yX3_word ∈ hT := wm 203 (by decide +kernel) (by decide +kernel)
theorem ws_X3_word : Cond.selects "ProofMap" yX3_word yX3_word ∈ hT := wm 204 (by decide +kernel) (by decide +kernel)
theorem wcode_X3_word : Cond.code yX3_word prog_1_method_8_code (3 : Nat) (Option.some Jvm.ClassFile.FieldType.int) ∈ hT := wm 205 (by decide +kernel) (by decide +kernel)
theorem wl_X3_76 : Cond.methodLink "ProofMap" (76 : Nat) yX3_isWord ∈ hT := wm 206 (by decide +kernel) (by decide +kernel)
theorem wt_X3_isWord : Cond.static yX3_isWord ∈ hT := wm 207 (by decide +kernel) (by decide +kernel)
theorem wcode_X3_isWord : Cond.code yX3_isWord prog_1_method_20_code (1 : Nat) (Option.some Jvm.ClassFile.FieldType.boolean) ∈ hT := wm 208 (by decide +kernel) (by decide +kernel)
theorem wl_X3_79 : Cond.methodLink "ProofMap" (79 : Nat) yX3_digestOf ∈ hT := wm 209 (by decide +kernel) (by decide +kernel)
theorem wt_X3_digestOf : Cond.static yX3_digestOf ∈ hT := wm 210 (by decide +kernel) (by decide +kernel)
theorem wcode_X3_digestOf : Cond.code yX3_digestOf prog_1_method_32_code (6 : Nat) (Option.some (Jvm.ClassFile.FieldType.array Jvm.ClassFile.FieldType.int)) ∈ hT := wm 211 (by decide +kernel) (by decide +kernel)
theorem wl_X3_154 : Cond.methodLink "ProofMap" (154 : Nat) yX0_hashEntry ∈ hT := wm 212 (by decide +kernel) (by decide +kernel)
theorem wi_X0_hashEntry : Cond.instanceMethod yX0_hashEntry ∈ hT := wm 213 (by decide +kernel) (by decide +kernel)
theorem ws_X0_hashEntry : Cond.selects "ProofMap$Hasher" yX0_hashEntry yX0_hashEntry ∈ hT := wm 214 (by decide +kernel) (by decide +kernel)
theorem wcode_X0_hashEntry : Cond.code yX0_hashEntry prog_2_method_2_code (4 : Nat) (Option.none : Option Jvm.ClassFile.FieldType) ∈ hT := wm 215 (by decide +kernel) (by decide +kernel)
theorem wl_X0_24 : Cond.methodLink "ProofMap$Hasher" (24 : Nat) yX0_clearMessage ∈ hT := wm 216 (by decide +kernel) (by decide +kernel)
theorem wi_X0_clearMessage : Cond.instanceMethod yX0_clearMessage ∈ hT := wm 218 (by decide +kernel) (by decide +kernel)
theorem wcode_X0_clearMessage : Cond.code yX0_clearMessage prog_2_method_4_code (2 : Nat) (Option.none : Option Jvm.ClassFile.FieldType) ∈ hT := wm 219 (by decide +kernel) (by decide +kernel)
theorem wl_X0_27 : Cond.methodLink "ProofMap$Hasher" (27 : Nat) yX0_start ∈ hT := wm 220 (by decide +kernel) (by decide +kernel)
theorem wi_X0_start : Cond.instanceMethod yX0_start ∈ hT := wm 222 (by decide +kernel) (by decide +kernel)
theorem wcode_X0_start : Cond.code yX0_start prog_2_method_5_code (1 : Nat) (Option.none : Option Jvm.ClassFile.FieldType) ∈ hT := wm 223 (by decide +kernel) (by decide +kernel)
theorem wf_X0_39 : Cond.fieldLink "ProofMap$Hasher" (39 : Nat) "ProofMap$Hasher" "START" "[I" ∈ hT := wm 224 (by decide +kernel) (by decide +kernel)
theorem wx_202 : Cond.methodLinkNest "ProofMap$Hasher" (34 : Nat) yX3_copyWords "ProofMap" ∈ lw_tbl := List.mem_of_getElem? (i := 226) (by decide +kernel)
theorem wt_X3_copyWords : Cond.static yX3_copyWords ∈ hT := wm 227 (by decide +kernel) (by decide +kernel)
theorem wcode_X3_copyWords : Cond.code yX3_copyWords prog_1_method_34_code (3 : Nat) (Option.none : Option Jvm.ClassFile.FieldType) ∈ hT := wm 228 (by decide +kernel) (by decide +kernel)
theorem wl_X0_30 : Cond.methodLink "ProofMap$Hasher" (30 : Nat) yX0_compress ∈ hT := wm 229 (by decide +kernel) (by decide +kernel)
theorem wi_X0_compress : Cond.instanceMethod yX0_compress ∈ hT := wm 231 (by decide +kernel) (by decide +kernel)
theorem wcode_X0_compress : Cond.code yX0_compress prog_2_method_6_code (16 : Nat) (Option.none : Option Jvm.ClassFile.FieldType) ∈ hT := wm 232 (by decide +kernel) (by decide +kernel)
theorem wl_X0_42 : Cond.methodLink "ProofMap$Hasher" (42 : Nat) yX0_spread ∈ hT := wm 233 (by decide +kernel) (by decide +kernel)
theorem wi_X0_spread : Cond.instanceMethod yX0_spread ∈ hT := wm 235 (by decide +kernel) (by decide +kernel)
theorem wcode_X0_spread : Cond.code yX0_spread prog_2_method_7_code (7 : Nat) (Option.none : Option Jvm.ClassFile.FieldType) ∈ hT := wm 236 (by decide +kernel) (by decide +kernel)
theorem wl_X0_45 : Cond.methodLink "ProofMap$Hasher" (45 : Nat) yX0_turned ∈ hT := wm 237 (by decide +kernel) (by decide +kernel)
theorem wt_X0_turned : Cond.static yX0_turned ∈ hT := wm 238 (by decide +kernel) (by decide +kernel)
theorem wcode_X0_turned : Cond.code yX0_turned prog_2_method_8_code (2 : Nat) (Option.some Jvm.ClassFile.FieldType.int) ∈ hT := wm 239 (by decide +kernel) (by decide +kernel)
theorem wf_X0_49 : Cond.fieldLink "ProofMap$Hasher" (49 : Nat) "ProofMap$Hasher" "ROUND_WORDS" "[I" ∈ hT := wm 240 (by decide +kernel) (by decide +kernel)
theorem wl_X3_158 : Cond.methodLink "ProofMap" (158 : Nat) yX0_hashPair ∈ hT := wm 242 (by decide +kernel) (by decide +kernel)
theorem wi_X0_hashPair : Cond.instanceMethod yX0_hashPair ∈ hT := wm 243 (by decide +kernel) (by decide +kernel)
theorem ws_X0_hashPair : Cond.selects "ProofMap$Hasher" yX0_hashPair yX0_hashPair ∈ hT := wm 244 (by decide +kernel) (by decide +kernel)
theorem wcode_X0_hashPair : Cond.code yX0_hashPair prog_2_method_3_code (6 : Nat) (Option.none : Option Jvm.ClassFile.FieldType) ∈ hT := wm 245 (by decide +kernel) (by decide +kernel)
theorem wk_X0_38 : Cond.constant "ProofMap$Hasher" (38 : Nat) (8388608 : Int32) ∈ hT := wm 246 (by decide +kernel) (by decide +kernel)
theorem wl_L_45 : Cond.methodLink "ProofMapLaw" (45 : Nat) yX3_prove ∈ hT := wm 247 (by decide +kernel) (by decide +kernel)
theorem wi_X3_prove : Cond.instanceMethod yX3_prove ∈ hT := wm 248 (by decide +kernel) (by decide +kernel)
theorem ws_X3_prove : Cond.selects "ProofMap" yX3_prove yX3_prove ∈ hT := wm 249 (by decide +kernel) (by decide +kernel)
theorem wcode_X3_prove : Cond.code yX3_prove prog_1_method_9_code (6 : Nat) (Option.some Jvm.ClassFile.FieldType.int) ∈ hT := wm 250 (by decide +kernel) (by decide +kernel)
theorem wl_X3_95 : Cond.methodLink "ProofMap" (95 : Nat) yX3_copyWords ∈ hT := wm 251 (by decide +kernel) (by decide +kernel)
theorem wl_X3_102 : Cond.methodLink "ProofMap" (102 : Nat) yX2_endWithNothing ∈ hT := wm 252 (by decide +kernel) (by decide +kernel)
theorem wi_X2_endWithNothing : Cond.instanceMethod yX2_endWithNothing ∈ hT := wm 253 (by decide +kernel) (by decide +kernel)
theorem ws_X2_endWithNothing : Cond.selects "ProofMap$Proof" yX2_endWithNothing yX2_endWithNothing ∈ hT := wm 254 (by decide +kernel) (by decide +kernel)
theorem wcode_X2_endWithNothing : Cond.code yX2_endWithNothing prog_4_method_2_code (1 : Nat) (Option.none : Option Jvm.ClassFile.FieldType) ∈ hT := wm 255 (by decide +kernel) (by decide +kernel)
theorem wl_X3_108 : Cond.methodLink "ProofMap" (108 : Nat) yX2_endWithEntry ∈ hT := wm 256 (by decide +kernel) (by decide +kernel)
theorem wi_X2_endWithEntry : Cond.instanceMethod yX2_endWithEntry ∈ hT := wm 257 (by decide +kernel) (by decide +kernel)
theorem ws_X2_endWithEntry : Cond.selects "ProofMap$Proof" yX2_endWithEntry yX2_endWithEntry ∈ hT := wm 258 (by decide +kernel) (by decide +kernel)
theorem wcode_X2_endWithEntry : Cond.code yX2_endWithEntry prog_4_method_3_code (3 : Nat) (Option.none : Option Jvm.ClassFile.FieldType) ∈ hT := wm 259 (by decide +kernel) (by decide +kernel)
theorem wl_L_49 : Cond.methodLink "ProofMapLaw" (49 : Nat) yX3_siblings ∈ hT := wm 260 (by decide +kernel) (by decide +kernel)
theorem wi_X3_siblings : Cond.instanceMethod yX3_siblings ∈ hT := wm 261 (by decide +kernel) (by decide +kernel)
theorem ws_X3_siblings : Cond.selects "ProofMap" yX3_siblings yX3_siblings ∈ hT := wm 262 (by decide +kernel) (by decide +kernel)
theorem wcode_X3_siblings : Cond.code yX3_siblings prog_1_method_10_code (1 : Nat) (Option.some Jvm.ClassFile.FieldType.int) ∈ hT := wm 263 (by decide +kernel) (by decide +kernel)
theorem wl_L_53 : Cond.methodLink "ProofMapLaw" (53 : Nat) yX3_sibling ∈ hT := wm 264 (by decide +kernel) (by decide +kernel)
theorem wi_X3_sibling : Cond.instanceMethod yX3_sibling ∈ hT := wm 265 (by decide +kernel) (by decide +kernel)
theorem ws_X3_sibling : Cond.selects "ProofMap" yX3_sibling yX3_sibling ∈ hT := wm 266 (by decide +kernel) (by decide +kernel)
theorem wcode_X3_sibling : Cond.code yX3_sibling prog_1_method_11_code (3 : Nat) (Option.some Jvm.ClassFile.FieldType.int) ∈ hT := wm 267 (by decide +kernel) (by decide +kernel)
theorem wl_X3_111 : Cond.methodLink "ProofMap" (111 : Nat) yX3_isSibling ∈ hT := wm 268 (by decide +kernel) (by decide +kernel)
theorem wi_X3_isSibling : Cond.instanceMethod yX3_isSibling ∈ hT := wm 270 (by decide +kernel) (by decide +kernel)
theorem wcode_X3_isSibling : Cond.code yX3_isSibling prog_1_method_22_code (2 : Nat) (Option.some Jvm.ClassFile.FieldType.boolean) ∈ hT := wm 271 (by decide +kernel) (by decide +kernel)
theorem wl_L_57 : Cond.methodLink "ProofMapLaw" (57 : Nat) yX3_end ∈ hT := wm 272 (by decide +kernel) (by decide +kernel)
theorem wi_X3_end : Cond.instanceMethod yX3_end ∈ hT := wm 273 (by decide +kernel) (by decide +kernel)
theorem ws_X3_end : Cond.selects "ProofMap" yX3_end yX3_end ∈ hT := wm 274 (by decide +kernel) (by decide +kernel)
theorem wcode_X3_end : Cond.code yX3_end prog_1_method_12_code (2 : Nat) (Option.some Jvm.ClassFile.FieldType.int) ∈ hT := wm 275 (by decide +kernel) (by decide +kernel)
theorem wl_L_61 : Cond.methodLink "ProofMapLaw" (61 : Nat) yX3_alter ∈ hT := wm 276 (by decide +kernel) (by decide +kernel)
theorem wi_X3_alter : Cond.instanceMethod yX3_alter ∈ hT := wm 277 (by decide +kernel) (by decide +kernel)
theorem ws_X3_alter : Cond.selects "ProofMap" yX3_alter yX3_alter ∈ hT := wm 278 (by decide +kernel) (by decide +kernel)
theorem wcode_X3_alter : Cond.code yX3_alter prog_1_method_13_code (4 : Nat) (Option.some Jvm.ClassFile.FieldType.int) ∈ hT := wm 279 (by decide +kernel) (by decide +kernel)
theorem wl_L_66 : Cond.methodLink "ProofMapLaw" (66 : Nat) yX3_claim ∈ hT := wm 280 (by decide +kernel) (by decide +kernel)
theorem wi_X3_claim : Cond.instanceMethod yX3_claim ∈ hT := wm 281 (by decide +kernel) (by decide +kernel)
theorem ws_X3_claim : Cond.selects "ProofMap" yX3_claim yX3_claim ∈ hT := wm 282 (by decide +kernel) (by decide +kernel)
theorem wcode_X3_claim : Cond.code yX3_claim prog_1_method_14_code (3 : Nat) (Option.some Jvm.ClassFile.FieldType.int) ∈ hT := wm 283 (by decide +kernel) (by decide +kernel)
theorem wl_L_70 : Cond.methodLink "ProofMapLaw" (70 : Nat) yX3_cut ∈ hT := wm 284 (by decide +kernel) (by decide +kernel)
theorem wi_X3_cut : Cond.instanceMethod yX3_cut ∈ hT := wm 285 (by decide +kernel) (by decide +kernel)
theorem ws_X3_cut : Cond.selects "ProofMap" yX3_cut yX3_cut ∈ hT := wm 286 (by decide +kernel) (by decide +kernel)
theorem wcode_X3_cut : Cond.code yX3_cut prog_1_method_15_code (2 : Nat) (Option.some Jvm.ClassFile.FieldType.int) ∈ hT := wm 287 (by decide +kernel) (by decide +kernel)
theorem wl_L_74 : Cond.methodLink "ProofMapLaw" (74 : Nat) yX3_verify ∈ hT := wm 288 (by decide +kernel) (by decide +kernel)
theorem wi_X3_verify : Cond.instanceMethod yX3_verify ∈ hT := wm 289 (by decide +kernel) (by decide +kernel)
theorem ws_X3_verify : Cond.selects "ProofMap" yX3_verify yX3_verify ∈ hT := wm 290 (by decide +kernel) (by decide +kernel)
theorem wcode_X3_verify : Cond.code yX3_verify prog_1_method_16_code (3 : Nat) (Option.some Jvm.ClassFile.FieldType.int) ∈ hT := wm 291 (by decide +kernel) (by decide +kernel)
theorem wl_X3_120 : Cond.methodLink "ProofMap" (120 : Nat) yX3_sameFirstBits ∈ hT := wm 292 (by decide +kernel) (by decide +kernel)
theorem wt_X3_sameFirstBits : Cond.static yX3_sameFirstBits ∈ hT := wm 293 (by decide +kernel) (by decide +kernel)
theorem wcode_X3_sameFirstBits : Cond.code yX3_sameFirstBits prog_1_method_25_code (3 : Nat) (Option.some Jvm.ClassFile.FieldType.int) ∈ hT := wm 294 (by decide +kernel) (by decide +kernel)
theorem wl_X3_123 : Cond.methodLink "ProofMap" (123 : Nat) yX3_foldProof ∈ hT := wm 295 (by decide +kernel) (by decide +kernel)
theorem wi_X3_foldProof : Cond.instanceMethod yX3_foldProof ∈ hT := wm 297 (by decide +kernel) (by decide +kernel)
theorem wcode_X3_foldProof : Cond.code yX3_foldProof prog_1_method_33_code (3 : Nat) (Option.none : Option Jvm.ClassFile.FieldType) ∈ hT := wm 298 (by decide +kernel) (by decide +kernel)
theorem wl_X3_162 : Cond.methodLink "ProofMap" (162 : Nat) yJ9_min_7cf53 ∈ hT := wm 299 (by decide +kernel) (by decide +kernel)
theorem wt_J9_min_7cf53 : Cond.static yJ9_min_7cf53 ∈ hT := wm 300 (by decide +kernel) (by decide +kernel)
theorem wcode_J9_min_7cf53 : Cond.code yJ9_min_7cf53 prog_7_method_69_code (2 : Nat) (Option.some Jvm.ClassFile.FieldType.int) ∈ hT := wm 301 (by decide +kernel) (by decide +kernel)
theorem wl_X3_127 : Cond.methodLink "ProofMap" (127 : Nat) yX3_sameWords ∈ hT := wm 302 (by decide +kernel) (by decide +kernel)
theorem wt_X3_sameWords : Cond.static yX3_sameWords ∈ hT := wm 303 (by decide +kernel) (by decide +kernel)
theorem wcode_X3_sameWords : Cond.code yX3_sameWords prog_1_method_35_code (3 : Nat) (Option.some Jvm.ClassFile.FieldType.boolean) ∈ hT := wm 304 (by decide +kernel) (by decide +kernel)
theorem wl_L_78 : Cond.methodLink "ProofMapLaw" (78 : Nat) yX3_alike ∈ hT := wm 305 (by decide +kernel) (by decide +kernel)
theorem wi_X3_alike : Cond.instanceMethod yX3_alike ∈ hT := wm 306 (by decide +kernel) (by decide +kernel)
theorem ws_X3_alike : Cond.selects "ProofMap" yX3_alike yX3_alike ∈ hT := wm 307 (by decide +kernel) (by decide +kernel)
theorem wcode_X3_alike : Cond.code yX3_alike prog_1_method_17_code (3 : Nat) (Option.some Jvm.ClassFile.FieldType.int) ∈ hT := wm 308 (by decide +kernel) (by decide +kernel)
theorem wl_L_82 : Cond.methodLink "ProofMapLaw" (82 : Nat) yX3_versions ∈ hT := wm 309 (by decide +kernel) (by decide +kernel)
theorem wi_X3_versions : Cond.instanceMethod yX3_versions ∈ hT := wm 310 (by decide +kernel) (by decide +kernel)
theorem ws_X3_versions : Cond.selects "ProofMap" yX3_versions yX3_versions ∈ hT := wm 311 (by decide +kernel) (by decide +kernel)
theorem wcode_X3_versions : Cond.code yX3_versions prog_1_method_18_code (1 : Nat) (Option.some Jvm.ClassFile.FieldType.int) ∈ hT := wm 312 (by decide +kernel) (by decide +kernel)
theorem wc_L_10 : Cond.classLink "ProofMapLaw" (10 : Nat) "ProofMapModel" ∈ hT := wm 313 (by decide +kernel) (by decide +kernel)
theorem wa_X4 : Cond.instantiable "ProofMapModel" (24 : Nat) ∈ hT := wm 314 (by decide +kernel) (by decide +kernel)
theorem wl_L_12 : Cond.methodLink "ProofMapLaw" (12 : Nat) yX4_init ∈ hT := wm 315 (by decide +kernel) (by decide +kernel)
theorem wi_X4_init : Cond.instanceMethod yX4_init ∈ hT := wm 316 (by decide +kernel) (by decide +kernel)
theorem wcode_X4_init : Cond.code yX4_init prog_6_method_1_code (1 : Nat) (Option.none : Option Jvm.ClassFile.FieldType) ∈ hT := wm 317 (by decide +kernel) (by decide +kernel)
theorem wl_X4_1 : Cond.methodLink "ProofMapModel" (1 : Nat) ({ cls := "java/lang/Object", name := "<init>", desc := "()V" } : Jvm.MethodName) ∈ hT := wm 318 (by decide +kernel) (by decide +kernel)
theorem wk_X4_7 : Cond.constant "ProofMapModel" (7 : Nat) (1116352408 : Int32) ∈ hT := wm 319 (by decide +kernel) (by decide +kernel)
theorem wk_X4_8 : Cond.constant "ProofMapModel" (8 : Nat) (1899447441 : Int32) ∈ hT := wm 320 (by decide +kernel) (by decide +kernel)
theorem wk_X4_9 : Cond.constant "ProofMapModel" (9 : Nat) (-1245643825 : Int32) ∈ hT := wm 321 (by decide +kernel) (by decide +kernel)
theorem wk_X4_10 : Cond.constant "ProofMapModel" (10 : Nat) (-373957723 : Int32) ∈ hT := wm 322 (by decide +kernel) (by decide +kernel)
theorem wk_X4_11 : Cond.constant "ProofMapModel" (11 : Nat) (961987163 : Int32) ∈ hT := wm 323 (by decide +kernel) (by decide +kernel)
theorem wk_X4_12 : Cond.constant "ProofMapModel" (12 : Nat) (1508970993 : Int32) ∈ hT := wm 324 (by decide +kernel) (by decide +kernel)
theorem wk_X4_13 : Cond.constant "ProofMapModel" (13 : Nat) (-1841331548 : Int32) ∈ hT := wm 325 (by decide +kernel) (by decide +kernel)
theorem wk_X4_14 : Cond.constant "ProofMapModel" (14 : Nat) (-1424204075 : Int32) ∈ hT := wm 326 (by decide +kernel) (by decide +kernel)
theorem wk_X4_15 : Cond.constant "ProofMapModel" (15 : Nat) (-670586216 : Int32) ∈ hT := wm 327 (by decide +kernel) (by decide +kernel)
theorem wk_X4_16 : Cond.constant "ProofMapModel" (16 : Nat) (310598401 : Int32) ∈ hT := wm 328 (by decide +kernel) (by decide +kernel)
theorem wk_X4_17 : Cond.constant "ProofMapModel" (17 : Nat) (607225278 : Int32) ∈ hT := wm 329 (by decide +kernel) (by decide +kernel)
theorem wk_X4_18 : Cond.constant "ProofMapModel" (18 : Nat) (1426881987 : Int32) ∈ hT := wm 330 (by decide +kernel) (by decide +kernel)
theorem wk_X4_19 : Cond.constant "ProofMapModel" (19 : Nat) (1925078388 : Int32) ∈ hT := wm 331 (by decide +kernel) (by decide +kernel)
theorem wk_X4_20 : Cond.constant "ProofMapModel" (20 : Nat) (-2132889090 : Int32) ∈ hT := wm 332 (by decide +kernel) (by decide +kernel)
theorem wk_X4_21 : Cond.constant "ProofMapModel" (21 : Nat) (-1680079193 : Int32) ∈ hT := wm 333 (by decide +kernel) (by decide +kernel)
theorem wk_X4_22 : Cond.constant "ProofMapModel" (22 : Nat) (-1046744716 : Int32) ∈ hT := wm 334 (by decide +kernel) (by decide +kernel)
theorem wk_X4_23 : Cond.constant "ProofMapModel" (23 : Nat) (-459576895 : Int32) ∈ hT := wm 335 (by decide +kernel) (by decide +kernel)
theorem wk_X4_24 : Cond.constant "ProofMapModel" (24 : Nat) (-272742522 : Int32) ∈ hT := wm 336 (by decide +kernel) (by decide +kernel)
theorem wk_X4_25 : Cond.constant "ProofMapModel" (25 : Nat) (264347078 : Int32) ∈ hT := wm 337 (by decide +kernel) (by decide +kernel)
theorem wk_X4_26 : Cond.constant "ProofMapModel" (26 : Nat) (604807628 : Int32) ∈ hT := wm 338 (by decide +kernel) (by decide +kernel)
theorem wk_X4_27 : Cond.constant "ProofMapModel" (27 : Nat) (770255983 : Int32) ∈ hT := wm 339 (by decide +kernel) (by decide +kernel)
theorem wk_X4_28 : Cond.constant "ProofMapModel" (28 : Nat) (1249150122 : Int32) ∈ hT := wm 340 (by decide +kernel) (by decide +kernel)
theorem wk_X4_29 : Cond.constant "ProofMapModel" (29 : Nat) (1555081692 : Int32) ∈ hT := wm 341 (by decide +kernel) (by decide +kernel)
theorem wk_X4_30 : Cond.constant "ProofMapModel" (30 : Nat) (1996064986 : Int32) ∈ hT := wm 342 (by decide +kernel) (by decide +kernel)
theorem wk_X4_31 : Cond.constant "ProofMapModel" (31 : Nat) (-1740746414 : Int32) ∈ hT := wm 343 (by decide +kernel) (by decide +kernel)
theorem wk_X4_32 : Cond.constant "ProofMapModel" (32 : Nat) (-1473132947 : Int32) ∈ hT := wm 344 (by decide +kernel) (by decide +kernel)
theorem wk_X4_33 : Cond.constant "ProofMapModel" (33 : Nat) (-1341970488 : Int32) ∈ hT := wm 345 (by decide +kernel) (by decide +kernel)
theorem wk_X4_34 : Cond.constant "ProofMapModel" (34 : Nat) (-1084653625 : Int32) ∈ hT := wm 346 (by decide +kernel) (by decide +kernel)
theorem wk_X4_35 : Cond.constant "ProofMapModel" (35 : Nat) (-958395405 : Int32) ∈ hT := wm 347 (by decide +kernel) (by decide +kernel)
theorem wk_X4_36 : Cond.constant "ProofMapModel" (36 : Nat) (-710438585 : Int32) ∈ hT := wm 348 (by decide +kernel) (by decide +kernel)
theorem wk_X4_37 : Cond.constant "ProofMapModel" (37 : Nat) (113926993 : Int32) ∈ hT := wm 349 (by decide +kernel) (by decide +kernel)
theorem wk_X4_38 : Cond.constant "ProofMapModel" (38 : Nat) (338241895 : Int32) ∈ hT := wm 350 (by decide +kernel) (by decide +kernel)
theorem wk_X4_39 : Cond.constant "ProofMapModel" (39 : Nat) (666307205 : Int32) ∈ hT := wm 351 (by decide +kernel) (by decide +kernel)
theorem wk_X4_40 : Cond.constant "ProofMapModel" (40 : Nat) (773529912 : Int32) ∈ hT := wm 352 (by decide +kernel) (by decide +kernel)
theorem wk_X4_41 : Cond.constant "ProofMapModel" (41 : Nat) (1294757372 : Int32) ∈ hT := wm 353 (by decide +kernel) (by decide +kernel)
theorem wk_X4_42 : Cond.constant "ProofMapModel" (42 : Nat) (1396182291 : Int32) ∈ hT := wm 354 (by decide +kernel) (by decide +kernel)
theorem wk_X4_43 : Cond.constant "ProofMapModel" (43 : Nat) (1695183700 : Int32) ∈ hT := wm 355 (by decide +kernel) (by decide +kernel)
theorem wk_X4_44 : Cond.constant "ProofMapModel" (44 : Nat) (1986661051 : Int32) ∈ hT := wm 356 (by decide +kernel) (by decide +kernel)
theorem wk_X4_45 : Cond.constant "ProofMapModel" (45 : Nat) (-2117940946 : Int32) ∈ hT := wm 357 (by decide +kernel) (by decide +kernel)
theorem wk_X4_46 : Cond.constant "ProofMapModel" (46 : Nat) (-1838011259 : Int32) ∈ hT := wm 358 (by decide +kernel) (by decide +kernel)
theorem wk_X4_47 : Cond.constant "ProofMapModel" (47 : Nat) (-1564481375 : Int32) ∈ hT := wm 359 (by decide +kernel) (by decide +kernel)
theorem wk_X4_48 : Cond.constant "ProofMapModel" (48 : Nat) (-1474664885 : Int32) ∈ hT := wm 360 (by decide +kernel) (by decide +kernel)
theorem wk_X4_49 : Cond.constant "ProofMapModel" (49 : Nat) (-1035236496 : Int32) ∈ hT := wm 361 (by decide +kernel) (by decide +kernel)
theorem wk_X4_50 : Cond.constant "ProofMapModel" (50 : Nat) (-949202525 : Int32) ∈ hT := wm 362 (by decide +kernel) (by decide +kernel)
theorem wk_X4_51 : Cond.constant "ProofMapModel" (51 : Nat) (-778901479 : Int32) ∈ hT := wm 363 (by decide +kernel) (by decide +kernel)
theorem wk_X4_52 : Cond.constant "ProofMapModel" (52 : Nat) (-694614492 : Int32) ∈ hT := wm 364 (by decide +kernel) (by decide +kernel)
theorem wk_X4_53 : Cond.constant "ProofMapModel" (53 : Nat) (-200395387 : Int32) ∈ hT := wm 365 (by decide +kernel) (by decide +kernel)
theorem wk_X4_54 : Cond.constant "ProofMapModel" (54 : Nat) (275423344 : Int32) ∈ hT := wm 366 (by decide +kernel) (by decide +kernel)
theorem wk_X4_55 : Cond.constant "ProofMapModel" (55 : Nat) (430227734 : Int32) ∈ hT := wm 367 (by decide +kernel) (by decide +kernel)
theorem wk_X4_56 : Cond.constant "ProofMapModel" (56 : Nat) (506948616 : Int32) ∈ hT := wm 368 (by decide +kernel) (by decide +kernel)
theorem wk_X4_57 : Cond.constant "ProofMapModel" (57 : Nat) (659060556 : Int32) ∈ hT := wm 369 (by decide +kernel) (by decide +kernel)
theorem wk_X4_58 : Cond.constant "ProofMapModel" (58 : Nat) (883997877 : Int32) ∈ hT := wm 370 (by decide +kernel) (by decide +kernel)
theorem wk_X4_59 : Cond.constant "ProofMapModel" (59 : Nat) (958139571 : Int32) ∈ hT := wm 371 (by decide +kernel) (by decide +kernel)
theorem wk_X4_60 : Cond.constant "ProofMapModel" (60 : Nat) (1322822218 : Int32) ∈ hT := wm 372 (by decide +kernel) (by decide +kernel)
theorem wk_X4_61 : Cond.constant "ProofMapModel" (61 : Nat) (1537002063 : Int32) ∈ hT := wm 373 (by decide +kernel) (by decide +kernel)
theorem wk_X4_62 : Cond.constant "ProofMapModel" (62 : Nat) (1747873779 : Int32) ∈ hT := wm 374 (by decide +kernel) (by decide +kernel)
theorem wk_X4_63 : Cond.constant "ProofMapModel" (63 : Nat) (1955562222 : Int32) ∈ hT := wm 375 (by decide +kernel) (by decide +kernel)
theorem wk_X4_64 : Cond.constant "ProofMapModel" (64 : Nat) (2024104815 : Int32) ∈ hT := wm 376 (by decide +kernel) (by decide +kernel)
theorem wk_X4_65 : Cond.constant "ProofMapModel" (65 : Nat) (-2067236844 : Int32) ∈ hT := wm 377 (by decide +kernel) (by decide +kernel)
theorem wk_X4_66 : Cond.constant "ProofMapModel" (66 : Nat) (-1933114872 : Int32) ∈ hT := wm 378 (by decide +kernel) (by decide +kernel)
theorem wk_X4_67 : Cond.constant "ProofMapModel" (67 : Nat) (-1866530822 : Int32) ∈ hT := wm 379 (by decide +kernel) (by decide +kernel)
theorem wk_X4_68 : Cond.constant "ProofMapModel" (68 : Nat) (-1538233109 : Int32) ∈ hT := wm 380 (by decide +kernel) (by decide +kernel)
theorem wk_X4_69 : Cond.constant "ProofMapModel" (69 : Nat) (-1090935817 : Int32) ∈ hT := wm 381 (by decide +kernel) (by decide +kernel)
theorem wk_X4_70 : Cond.constant "ProofMapModel" (70 : Nat) (-965641998 : Int32) ∈ hT := wm 382 (by decide +kernel) (by decide +kernel)
theorem wk_X4_77 : Cond.constant "ProofMapModel" (77 : Nat) (1779033703 : Int32) ∈ hT := wm 383 (by decide +kernel) (by decide +kernel)
theorem wk_X4_78 : Cond.constant "ProofMapModel" (78 : Nat) (-1150833019 : Int32) ∈ hT := wm 384 (by decide +kernel) (by decide +kernel)
theorem wk_X4_79 : Cond.constant "ProofMapModel" (79 : Nat) (1013904242 : Int32) ∈ hT := wm 385 (by decide +kernel) (by decide +kernel)
theorem wk_X4_80 : Cond.constant "ProofMapModel" (80 : Nat) (-1521486534 : Int32) ∈ hT := wm 386 (by decide +kernel) (by decide +kernel)
theorem wk_X4_81 : Cond.constant "ProofMapModel" (81 : Nat) (1359893119 : Int32) ∈ hT := wm 387 (by decide +kernel) (by decide +kernel)
theorem wk_X4_82 : Cond.constant "ProofMapModel" (82 : Nat) (-1694144372 : Int32) ∈ hT := wm 388 (by decide +kernel) (by decide +kernel)
theorem wk_X4_83 : Cond.constant "ProofMapModel" (83 : Nat) (528734635 : Int32) ∈ hT := wm 389 (by decide +kernel) (by decide +kernel)
theorem wk_X4_84 : Cond.constant "ProofMapModel" (84 : Nat) (1541459225 : Int32) ∈ hT := wm 390 (by decide +kernel) (by decide +kernel)
theorem wf_X4_71 : Cond.fieldLink "ProofMapModel" (71 : Nat) "ProofMapModel" "rounds" "[I" ∈ hT := wm 391 (by decide +kernel) (by decide +kernel)
theorem wf_X4_85 : Cond.fieldLink "ProofMapModel" (85 : Nat) "ProofMapModel" "start" "[I" ∈ hT := wm 392 (by decide +kernel) (by decide +kernel)
theorem wf_X4_88 : Cond.fieldLink "ProofMapModel" (88 : Nat) "ProofMapModel" "keys" "[I" ∈ hT := wm 393 (by decide +kernel) (by decide +kernel)
theorem wf_X4_91 : Cond.fieldLink "ProofMapModel" (91 : Nat) "ProofMapModel" "values" "[I" ∈ hT := wm 394 (by decide +kernel) (by decide +kernel)
theorem wf_X4_94 : Cond.fieldLink "ProofMapModel" (94 : Nat) "ProofMapModel" "sizes" "[I" ∈ hT := wm 395 (by decide +kernel) (by decide +kernel)
theorem wf_X4_97 : Cond.fieldLink "ProofMapModel" (97 : Nat) "ProofMapModel" "digests" "[I" ∈ hT := wm 396 (by decide +kernel) (by decide +kernel)
theorem wf_X4_134 : Cond.fieldLink "ProofMapModel" (134 : Nat) "ProofMapModel" "versions" "I" ∈ hT := wm 397 (by decide +kernel) (by decide +kernel)
theorem wf_X4_175 : Cond.fieldLink "ProofMapModel" (175 : Nat) "ProofMapModel" "isKnown" "Z" ∈ hT := wm 398 (by decide +kernel) (by decide +kernel)
theorem wf_X4_100 : Cond.fieldLink "ProofMapModel" (100 : Nat) "ProofMapModel" "bytes" "[I" ∈ hT := wm 399 (by decide +kernel) (by decide +kernel)
theorem wf_X4_103 : Cond.fieldLink "ProofMapModel" (103 : Nat) "ProofMapModel" "words" "[I" ∈ hT := wm 400 (by decide +kernel) (by decide +kernel)
theorem wf_X4_106 : Cond.fieldLink "ProofMapModel" (106 : Nat) "ProofMapModel" "hash" "[I" ∈ hT := wm 401 (by decide +kernel) (by decide +kernel)
theorem wf_X4_109 : Cond.fieldLink "ProofMapModel" (109 : Nat) "ProofMapModel" "begins" "[I" ∈ hT := wm 402 (by decide +kernel) (by decide +kernel)
theorem wf_X4_112 : Cond.fieldLink "ProofMapModel" (112 : Nat) "ProofMapModel" "counts" "[I" ∈ hT := wm 403 (by decide +kernel) (by decide +kernel)
theorem wf_X4_115 : Cond.fieldLink "ProofMapModel" (115 : Nat) "ProofMapModel" "ones" "[I" ∈ hT := wm 404 (by decide +kernel) (by decide +kernel)
theorem wf_X4_118 : Cond.fieldLink "ProofMapModel" (118 : Nat) "ProofMapModel" "nodes" "[I" ∈ hT := wm 405 (by decide +kernel) (by decide +kernel)
theorem wf_X4_149 : Cond.fieldLink "ProofMapModel" (149 : Nat) "ProofMapModel" "level" "I" ∈ hT := wm 406 (by decide +kernel) (by decide +kernel)
theorem wf_X4_121 : Cond.fieldLink "ProofMapModel" (121 : Nat) "ProofMapModel" "wayCounts" "[I" ∈ hT := wm 407 (by decide +kernel) (by decide +kernel)
theorem wf_X4_124 : Cond.fieldLink "ProofMapModel" (124 : Nat) "ProofMapModel" "wayOnes" "[I" ∈ hT := wm 408 (by decide +kernel) (by decide +kernel)
theorem wf_X4_127 : Cond.fieldLink "ProofMapModel" (127 : Nat) "ProofMapModel" "beside" "[I" ∈ hT := wm 409 (by decide +kernel) (by decide +kernel)
theorem wf_X4_208 : Cond.fieldLink "ProofMapModel" (208 : Nat) "ProofMapModel" "proofSize" "I" ∈ hT := wm 410 (by decide +kernel) (by decide +kernel)
theorem wf_X4_130 : Cond.fieldLink "ProofMapModel" (130 : Nat) "ProofMapModel" "proof" "[I" ∈ hT := wm 411 (by decide +kernel) (by decide +kernel)
theorem wf_X4_211 : Cond.fieldLink "ProofMapModel" (211 : Nat) "ProofMapModel" "hasEnd" "Z" ∈ hT := wm 412 (by decide +kernel) (by decide +kernel)
theorem wf_X4_214 : Cond.fieldLink "ProofMapModel" (214 : Nat) "ProofMapModel" "endKey" "I" ∈ hT := wm 413 (by decide +kernel) (by decide +kernel)
theorem wf_X4_217 : Cond.fieldLink "ProofMapModel" (217 : Nat) "ProofMapModel" "endValue" "I" ∈ hT := wm 414 (by decide +kernel) (by decide +kernel)
theorem wy_X4_rounds : Cond.laysFinal "ProofMapModel" "ProofMapModel" "rounds" "[I" ∈ hT := wm 415 (by decide +kernel) (by decide +kernel)
theorem wy_X4_start : Cond.laysFinal "ProofMapModel" "ProofMapModel" "start" "[I" ∈ hT := wm 417 (by decide +kernel) (by decide +kernel)
theorem wy_X4_keys : Cond.laysFinal "ProofMapModel" "ProofMapModel" "keys" "[I" ∈ hT := wm 419 (by decide +kernel) (by decide +kernel)
theorem wy_X4_values : Cond.laysFinal "ProofMapModel" "ProofMapModel" "values" "[I" ∈ hT := wm 421 (by decide +kernel) (by decide +kernel)
theorem wy_X4_sizes : Cond.laysFinal "ProofMapModel" "ProofMapModel" "sizes" "[I" ∈ hT := wm 423 (by decide +kernel) (by decide +kernel)
theorem wy_X4_digests : Cond.laysFinal "ProofMapModel" "ProofMapModel" "digests" "[I" ∈ hT := wm 425 (by decide +kernel) (by decide +kernel)
theorem wy_X4_versions : Cond.lays "ProofMapModel" "ProofMapModel" "versions" "I" ∈ hT := wm 427 (by decide +kernel) (by decide +kernel)
theorem wy_X4_isKnown : Cond.lays "ProofMapModel" "ProofMapModel" "isKnown" "Z" ∈ hT := wm 429 (by decide +kernel) (by decide +kernel)
theorem wy_X4_bytes : Cond.laysFinal "ProofMapModel" "ProofMapModel" "bytes" "[I" ∈ hT := wm 431 (by decide +kernel) (by decide +kernel)
theorem wy_X4_words : Cond.laysFinal "ProofMapModel" "ProofMapModel" "words" "[I" ∈ hT := wm 433 (by decide +kernel) (by decide +kernel)
theorem wy_X4_hash : Cond.laysFinal "ProofMapModel" "ProofMapModel" "hash" "[I" ∈ hT := wm 435 (by decide +kernel) (by decide +kernel)
theorem wy_X4_begins : Cond.laysFinal "ProofMapModel" "ProofMapModel" "begins" "[I" ∈ hT := wm 437 (by decide +kernel) (by decide +kernel)
theorem wy_X4_counts : Cond.laysFinal "ProofMapModel" "ProofMapModel" "counts" "[I" ∈ hT := wm 439 (by decide +kernel) (by decide +kernel)
theorem wy_X4_ones : Cond.laysFinal "ProofMapModel" "ProofMapModel" "ones" "[I" ∈ hT := wm 441 (by decide +kernel) (by decide +kernel)
theorem wy_X4_nodes : Cond.laysFinal "ProofMapModel" "ProofMapModel" "nodes" "[I" ∈ hT := wm 443 (by decide +kernel) (by decide +kernel)
theorem wy_X4_level : Cond.lays "ProofMapModel" "ProofMapModel" "level" "I" ∈ hT := wm 445 (by decide +kernel) (by decide +kernel)
theorem wy_X4_wayCounts : Cond.laysFinal "ProofMapModel" "ProofMapModel" "wayCounts" "[I" ∈ hT := wm 447 (by decide +kernel) (by decide +kernel)
theorem wy_X4_wayOnes : Cond.laysFinal "ProofMapModel" "ProofMapModel" "wayOnes" "[I" ∈ hT := wm 449 (by decide +kernel) (by decide +kernel)
theorem wy_X4_beside : Cond.laysFinal "ProofMapModel" "ProofMapModel" "beside" "[I" ∈ hT := wm 451 (by decide +kernel) (by decide +kernel)
theorem wy_X4_proofSize : Cond.lays "ProofMapModel" "ProofMapModel" "proofSize" "I" ∈ hT := wm 453 (by decide +kernel) (by decide +kernel)
theorem wy_X4_proof : Cond.laysFinal "ProofMapModel" "ProofMapModel" "proof" "[I" ∈ hT := wm 455 (by decide +kernel) (by decide +kernel)
theorem wy_X4_hasEnd : Cond.lays "ProofMapModel" "ProofMapModel" "hasEnd" "Z" ∈ hT := wm 457 (by decide +kernel) (by decide +kernel)
theorem wy_X4_endKey : Cond.lays "ProofMapModel" "ProofMapModel" "endKey" "I" ∈ hT := wm 459 (by decide +kernel) (by decide +kernel)
theorem wy_X4_endValue : Cond.lays "ProofMapModel" "ProofMapModel" "endValue" "I" ∈ hT := wm 461 (by decide +kernel) (by decide +kernel)
theorem wl_L_17 : Cond.methodLink "ProofMapLaw" (17 : Nat) yX4_put ∈ hT := wm 464 (by decide +kernel) (by decide +kernel)
theorem wi_X4_put : Cond.instanceMethod yX4_put ∈ hT := wm 465 (by decide +kernel) (by decide +kernel)
theorem ws_X4_put : Cond.selects "ProofMapModel" yX4_put yX4_put ∈ hT := wm 466 (by decide +kernel) (by decide +kernel)
theorem wcode_X4_put : Cond.code yX4_put prog_6_method_19_code (7 : Nat) (Option.some Jvm.ClassFile.FieldType.int) ∈ hT := wm 467 (by decide +kernel) (by decide +kernel)
theorem wl_X4_182 : Cond.methodLink "ProofMapModel" (182 : Nat) yX4_isKey ∈ hT := wm 468 (by decide +kernel) (by decide +kernel)
theorem wt_X4_isKey : Cond.static yX4_isKey ∈ hT := wm 469 (by decide +kernel) (by decide +kernel)
theorem wcode_X4_isKey : Cond.code yX4_isKey prog_6_method_2_code (1 : Nat) (Option.some Jvm.ClassFile.FieldType.boolean) ∈ hT := wm 470 (by decide +kernel) (by decide +kernel)
theorem wk_X4_133 : Cond.constant "ProofMapModel" (133 : Nat) (65536 : Int32) ∈ hT := wm 471 (by decide +kernel) (by decide +kernel)
theorem wl_X4_186 : Cond.methodLink "ProofMapModel" (186 : Nat) yX4_find ∈ hT := wm 472 (by decide +kernel) (by decide +kernel)
theorem wi_X4_find : Cond.instanceMethod yX4_find ∈ hT := wm 474 (by decide +kernel) (by decide +kernel)
theorem wcode_X4_find : Cond.code yX4_find prog_6_method_17_code (4 : Nat) (Option.some Jvm.ClassFile.FieldType.int) ∈ hT := wm 475 (by decide +kernel) (by decide +kernel)
theorem wl_X4_189 : Cond.methodLink "ProofMapModel" (189 : Nat) yX4_isThere ∈ hT := wm 476 (by decide +kernel) (by decide +kernel)
theorem wi_X4_isThere : Cond.instanceMethod yX4_isThere ∈ hT := wm 478 (by decide +kernel) (by decide +kernel)
theorem wcode_X4_isThere : Cond.code yX4_isThere prog_6_method_18_code (4 : Nat) (Option.some Jvm.ClassFile.FieldType.boolean) ∈ hT := wm 479 (by decide +kernel) (by decide +kernel)
theorem wl_L_22 : Cond.methodLink "ProofMapLaw" (22 : Nat) yX4_remove ∈ hT := wm 480 (by decide +kernel) (by decide +kernel)
theorem wi_X4_remove : Cond.instanceMethod yX4_remove ∈ hT := wm 481 (by decide +kernel) (by decide +kernel)
theorem ws_X4_remove : Cond.selects "ProofMapModel" yX4_remove yX4_remove ∈ hT := wm 482 (by decide +kernel) (by decide +kernel)
theorem wcode_X4_remove : Cond.code yX4_remove prog_6_method_20_code (5 : Nat) (Option.some Jvm.ClassFile.FieldType.int) ∈ hT := wm 483 (by decide +kernel) (by decide +kernel)
theorem wl_L_27 : Cond.methodLink "ProofMapLaw" (27 : Nat) yX4_get ∈ hT := wm 484 (by decide +kernel) (by decide +kernel)
theorem wi_X4_get : Cond.instanceMethod yX4_get ∈ hT := wm 485 (by decide +kernel) (by decide +kernel)
theorem ws_X4_get : Cond.selects "ProofMapModel" yX4_get yX4_get ∈ hT := wm 486 (by decide +kernel) (by decide +kernel)
theorem wcode_X4_get : Cond.code yX4_get prog_6_method_21_code (5 : Nat) (Option.some Jvm.ClassFile.FieldType.long) ∈ hT := wm 487 (by decide +kernel) (by decide +kernel)
theorem wl_X4_193 : Cond.methodLink "ProofMapModel" (193 : Nat) yX4_isVersion ∈ hT := wm 488 (by decide +kernel) (by decide +kernel)
theorem wi_X4_isVersion : Cond.instanceMethod yX4_isVersion ∈ hT := wm 490 (by decide +kernel) (by decide +kernel)
theorem wcode_X4_isVersion : Cond.code yX4_isVersion prog_6_method_3_code (2 : Nat) (Option.some Jvm.ClassFile.FieldType.boolean) ∈ hT := wm 491 (by decide +kernel) (by decide +kernel)
theorem wk_X4_196 : Cond.constantLong "ProofMapModel" (196 : Nat) (9223372036854775807 : Int64) ∈ hT := wm 492 (by decide +kernel) (by decide +kernel)
theorem wl_X4_198 : Cond.methodLink "ProofMapModel" (198 : Nat) yX4_rowOf ∈ hT := wm 493 (by decide +kernel) (by decide +kernel)
theorem wt_X4_rowOf : Cond.static yX4_rowOf ∈ hT := wm 494 (by decide +kernel) (by decide +kernel)
theorem wcode_X4_rowOf : Cond.code yX4_rowOf prog_6_method_4_code (1 : Nat) (Option.some Jvm.ClassFile.FieldType.int) ∈ hT := wm 495 (by decide +kernel) (by decide +kernel)
theorem wl_L_31 : Cond.methodLink "ProofMapLaw" (31 : Nat) yX4_size ∈ hT := wm 496 (by decide +kernel) (by decide +kernel)
theorem wi_X4_size : Cond.instanceMethod yX4_size ∈ hT := wm 497 (by decide +kernel) (by decide +kernel)
theorem ws_X4_size : Cond.selects "ProofMapModel" yX4_size yX4_size ∈ hT := wm 498 (by decide +kernel) (by decide +kernel)
theorem wcode_X4_size : Cond.code yX4_size prog_6_method_22_code (2 : Nat) (Option.some Jvm.ClassFile.FieldType.int) ∈ hT := wm 499 (by decide +kernel) (by decide +kernel)
theorem wl_L_36 : Cond.methodLink "ProofMapLaw" (36 : Nat) yX4_commit ∈ hT := wm 500 (by decide +kernel) (by decide +kernel)
theorem wi_X4_commit : Cond.instanceMethod yX4_commit ∈ hT := wm 501 (by decide +kernel) (by decide +kernel)
theorem ws_X4_commit : Cond.selects "ProofMapModel" yX4_commit yX4_commit ∈ hT := wm 502 (by decide +kernel) (by decide +kernel)
theorem wcode_X4_commit : Cond.code yX4_commit prog_6_method_24_code (1 : Nat) (Option.some Jvm.ClassFile.FieldType.int) ∈ hT := wm 503 (by decide +kernel) (by decide +kernel)
theorem wl_X4_202 : Cond.methodLink "ProofMapModel" (202 : Nat) yX4_know ∈ hT := wm 504 (by decide +kernel) (by decide +kernel)
theorem wi_X4_know : Cond.instanceMethod yX4_know ∈ hT := wm 506 (by decide +kernel) (by decide +kernel)
theorem wcode_X4_know : Cond.code yX4_know prog_6_method_16_code (1 : Nat) (Option.none : Option Jvm.ClassFile.FieldType) ∈ hT := wm 507 (by decide +kernel) (by decide +kernel)
theorem wl_X4_179 : Cond.methodLink "ProofMapModel" (179 : Nat) yX4_work ∈ hT := wm 508 (by decide +kernel) (by decide +kernel)
theorem wi_X4_work : Cond.instanceMethod yX4_work ∈ hT := wm 510 (by decide +kernel) (by decide +kernel)
theorem wcode_X4_work : Cond.code yX4_work prog_6_method_15_code (4 : Nat) (Option.none : Option Jvm.ClassFile.FieldType) ∈ hT := wm 511 (by decide +kernel) (by decide +kernel)
theorem wl_X4_166 : Cond.methodLink "ProofMapModel" (166 : Nat) yX4_begin ∈ hT := wm 512 (by decide +kernel) (by decide +kernel)
theorem wi_X4_begin : Cond.instanceMethod yX4_begin ∈ hT := wm 514 (by decide +kernel) (by decide +kernel)
theorem wcode_X4_begin : Cond.code yX4_begin prog_6_method_11_code (5 : Nat) (Option.none : Option Jvm.ClassFile.FieldType) ∈ hT := wm 515 (by decide +kernel) (by decide +kernel)
theorem wl_X4_152 : Cond.methodLink "ProofMapModel" (152 : Nat) yX4_leaf ∈ hT := wm 516 (by decide +kernel) (by decide +kernel)
theorem wi_X4_leaf : Cond.instanceMethod yX4_leaf ∈ hT := wm 518 (by decide +kernel) (by decide +kernel)
theorem wcode_X4_leaf : Cond.code yX4_leaf prog_6_method_8_code (4 : Nat) (Option.none : Option Jvm.ClassFile.FieldType) ∈ hT := wm 519 (by decide +kernel) (by decide +kernel)
theorem wl_X4_146 : Cond.methodLink "ProofMapModel" (146 : Nat) yX4_digest ∈ hT := wm 520 (by decide +kernel) (by decide +kernel)
theorem wi_X4_digest : Cond.instanceMethod yX4_digest ∈ hT := wm 522 (by decide +kernel) (by decide +kernel)
theorem wcode_X4_digest : Cond.code yX4_digest prog_6_method_7_code (4 : Nat) (Option.none : Option Jvm.ClassFile.FieldType) ∈ hT := wm 523 (by decide +kernel) (by decide +kernel)
theorem wl_X4_142 : Cond.methodLink "ProofMapModel" (142 : Nat) yX4_mix ∈ hT := wm 524 (by decide +kernel) (by decide +kernel)
theorem wi_X4_mix : Cond.instanceMethod yX4_mix ∈ hT := wm 526 (by decide +kernel) (by decide +kernel)
theorem wcode_X4_mix : Cond.code yX4_mix prog_6_method_6_code (13 : Nat) (Option.none : Option Jvm.ClassFile.FieldType) ∈ hT := wm 527 (by decide +kernel) (by decide +kernel)
theorem wl_X4_138 : Cond.methodLink "ProofMapModel" (138 : Nat) yX4_turned ∈ hT := wm 528 (by decide +kernel) (by decide +kernel)
theorem wt_X4_turned : Cond.static yX4_turned ∈ hT := wm 529 (by decide +kernel) (by decide +kernel)
theorem wcode_X4_turned : Cond.code yX4_turned prog_6_method_5_code (2 : Nat) (Option.some Jvm.ClassFile.FieldType.int) ∈ hT := wm 530 (by decide +kernel) (by decide +kernel)
theorem wl_X4_169 : Cond.methodLink "ProofMapModel" (169 : Nat) yX4_look ∈ hT := wm 531 (by decide +kernel) (by decide +kernel)
theorem wi_X4_look : Cond.instanceMethod yX4_look ∈ hT := wm 533 (by decide +kernel) (by decide +kernel)
theorem wcode_X4_look : Cond.code yX4_look prog_6_method_12_code (6 : Nat) (Option.none : Option Jvm.ClassFile.FieldType) ∈ hT := wm 534 (by decide +kernel) (by decide +kernel)
theorem wl_X4_172 : Cond.methodLink "ProofMapModel" (172 : Nat) yX4_up ∈ hT := wm 535 (by decide +kernel) (by decide +kernel)
theorem wi_X4_up : Cond.instanceMethod yX4_up ∈ hT := wm 537 (by decide +kernel) (by decide +kernel)
theorem wcode_X4_up : Cond.code yX4_up prog_6_method_14_code (6 : Nat) (Option.none : Option Jvm.ClassFile.FieldType) ∈ hT := wm 538 (by decide +kernel) (by decide +kernel)
theorem wl_X4_156 : Cond.methodLink "ProofMapModel" (156 : Nat) yX4_copyNode ∈ hT := wm 539 (by decide +kernel) (by decide +kernel)
theorem wi_X4_copyNode : Cond.instanceMethod yX4_copyNode ∈ hT := wm 541 (by decide +kernel) (by decide +kernel)
theorem wcode_X4_copyNode : Cond.code yX4_copyNode prog_6_method_13_code (4 : Nat) (Option.none : Option Jvm.ClassFile.FieldType) ∈ hT := wm 542 (by decide +kernel) (by decide +kernel)
theorem wl_X4_159 : Cond.methodLink "ProofMapModel" (159 : Nat) yX4_half ∈ hT := wm 543 (by decide +kernel) (by decide +kernel)
theorem wi_X4_half : Cond.instanceMethod yX4_half ∈ hT := wm 545 (by decide +kernel) (by decide +kernel)
theorem wcode_X4_half : Cond.code yX4_half prog_6_method_9_code (5 : Nat) (Option.none : Option Jvm.ClassFile.FieldType) ∈ hT := wm 546 (by decide +kernel) (by decide +kernel)
theorem wl_X4_163 : Cond.methodLink "ProofMapModel" (163 : Nat) yX4_join ∈ hT := wm 547 (by decide +kernel) (by decide +kernel)
theorem wi_X4_join : Cond.instanceMethod yX4_join ∈ hT := wm 549 (by decide +kernel) (by decide +kernel)
theorem wcode_X4_join : Cond.code yX4_join prog_6_method_10_code (1 : Nat) (Option.none : Option Jvm.ClassFile.FieldType) ∈ hT := wm 550 (by decide +kernel) (by decide +kernel)
theorem wl_X4_205 : Cond.methodLink "ProofMapModel" (205 : Nat) yX4_copyRow ∈ hT := wm 551 (by decide +kernel) (by decide +kernel)
theorem wi_X4_copyRow : Cond.instanceMethod yX4_copyRow ∈ hT := wm 553 (by decide +kernel) (by decide +kernel)
theorem wcode_X4_copyRow : Cond.code yX4_copyRow prog_6_method_23_code (4 : Nat) (Option.none : Option Jvm.ClassFile.FieldType) ∈ hT := wm 554 (by decide +kernel) (by decide +kernel)
theorem wl_L_40 : Cond.methodLink "ProofMapLaw" (40 : Nat) yX4_back ∈ hT := wm 555 (by decide +kernel) (by decide +kernel)
theorem wi_X4_back : Cond.instanceMethod yX4_back ∈ hT := wm 556 (by decide +kernel) (by decide +kernel)
theorem ws_X4_back : Cond.selects "ProofMapModel" yX4_back yX4_back ∈ hT := wm 557 (by decide +kernel) (by decide +kernel)
theorem wcode_X4_back : Cond.code yX4_back prog_6_method_25_code (2 : Nat) (Option.some Jvm.ClassFile.FieldType.int) ∈ hT := wm 558 (by decide +kernel) (by decide +kernel)
theorem wl_L_44 : Cond.methodLink "ProofMapLaw" (44 : Nat) yX4_word ∈ hT := wm 559 (by decide +kernel) (by decide +kernel)
theorem wi_X4_word : Cond.instanceMethod yX4_word ∈ hT := wm 560 (by decide +kernel) (by decide +kernel)
theorem ws_X4_word : Cond.selects "ProofMapModel" yX4_word yX4_word ∈ hT := wm 561 (by decide +kernel) (by decide +kernel)
theorem wcode_X4_word : Cond.code yX4_word prog_6_method_26_code (3 : Nat) (Option.some Jvm.ClassFile.FieldType.int) ∈ hT := wm 562 (by decide +kernel) (by decide +kernel)
theorem wl_L_48 : Cond.methodLink "ProofMapLaw" (48 : Nat) yX4_prove ∈ hT := wm 563 (by decide +kernel) (by decide +kernel)
theorem wi_X4_prove : Cond.instanceMethod yX4_prove ∈ hT := wm 564 (by decide +kernel) (by decide +kernel)
theorem ws_X4_prove : Cond.selects "ProofMapModel" yX4_prove yX4_prove ∈ hT := wm 565 (by decide +kernel) (by decide +kernel)
theorem wcode_X4_prove : Cond.code yX4_prove prog_6_method_27_code (4 : Nat) (Option.some Jvm.ClassFile.FieldType.int) ∈ hT := wm 566 (by decide +kernel) (by decide +kernel)
theorem wl_L_52 : Cond.methodLink "ProofMapLaw" (52 : Nat) yX4_siblings ∈ hT := wm 567 (by decide +kernel) (by decide +kernel)
theorem wi_X4_siblings : Cond.instanceMethod yX4_siblings ∈ hT := wm 568 (by decide +kernel) (by decide +kernel)
theorem ws_X4_siblings : Cond.selects "ProofMapModel" yX4_siblings yX4_siblings ∈ hT := wm 569 (by decide +kernel) (by decide +kernel)
theorem wcode_X4_siblings : Cond.code yX4_siblings prog_6_method_28_code (1 : Nat) (Option.some Jvm.ClassFile.FieldType.int) ∈ hT := wm 570 (by decide +kernel) (by decide +kernel)
theorem wl_L_56 : Cond.methodLink "ProofMapLaw" (56 : Nat) yX4_sibling ∈ hT := wm 571 (by decide +kernel) (by decide +kernel)
theorem wi_X4_sibling : Cond.instanceMethod yX4_sibling ∈ hT := wm 572 (by decide +kernel) (by decide +kernel)
theorem ws_X4_sibling : Cond.selects "ProofMapModel" yX4_sibling yX4_sibling ∈ hT := wm 573 (by decide +kernel) (by decide +kernel)
theorem wcode_X4_sibling : Cond.code yX4_sibling prog_6_method_30_code (3 : Nat) (Option.some Jvm.ClassFile.FieldType.int) ∈ hT := wm 574 (by decide +kernel) (by decide +kernel)
theorem wl_X4_220 : Cond.methodLink "ProofMapModel" (220 : Nat) yX4_isSibling ∈ hT := wm 575 (by decide +kernel) (by decide +kernel)
theorem wi_X4_isSibling : Cond.instanceMethod yX4_isSibling ∈ hT := wm 577 (by decide +kernel) (by decide +kernel)
theorem wcode_X4_isSibling : Cond.code yX4_isSibling prog_6_method_29_code (3 : Nat) (Option.some Jvm.ClassFile.FieldType.boolean) ∈ hT := wm 578 (by decide +kernel) (by decide +kernel)
theorem wl_L_60 : Cond.methodLink "ProofMapLaw" (60 : Nat) yX4_end ∈ hT := wm 579 (by decide +kernel) (by decide +kernel)
theorem wi_X4_end : Cond.instanceMethod yX4_end ∈ hT := wm 580 (by decide +kernel) (by decide +kernel)
theorem ws_X4_end : Cond.selects "ProofMapModel" yX4_end yX4_end ∈ hT := wm 581 (by decide +kernel) (by decide +kernel)
theorem wcode_X4_end : Cond.code yX4_end prog_6_method_31_code (2 : Nat) (Option.some Jvm.ClassFile.FieldType.int) ∈ hT := wm 582 (by decide +kernel) (by decide +kernel)
theorem wl_L_65 : Cond.methodLink "ProofMapLaw" (65 : Nat) yX4_alter ∈ hT := wm 583 (by decide +kernel) (by decide +kernel)
theorem wi_X4_alter : Cond.instanceMethod yX4_alter ∈ hT := wm 584 (by decide +kernel) (by decide +kernel)
theorem ws_X4_alter : Cond.selects "ProofMapModel" yX4_alter yX4_alter ∈ hT := wm 585 (by decide +kernel) (by decide +kernel)
theorem wcode_X4_alter : Cond.code yX4_alter prog_6_method_32_code (4 : Nat) (Option.some Jvm.ClassFile.FieldType.int) ∈ hT := wm 586 (by decide +kernel) (by decide +kernel)
theorem wl_L_69 : Cond.methodLink "ProofMapLaw" (69 : Nat) yX4_claim ∈ hT := wm 587 (by decide +kernel) (by decide +kernel)
theorem wi_X4_claim : Cond.instanceMethod yX4_claim ∈ hT := wm 588 (by decide +kernel) (by decide +kernel)
theorem ws_X4_claim : Cond.selects "ProofMapModel" yX4_claim yX4_claim ∈ hT := wm 589 (by decide +kernel) (by decide +kernel)
theorem wcode_X4_claim : Cond.code yX4_claim prog_6_method_33_code (3 : Nat) (Option.some Jvm.ClassFile.FieldType.int) ∈ hT := wm 590 (by decide +kernel) (by decide +kernel)
theorem wl_L_73 : Cond.methodLink "ProofMapLaw" (73 : Nat) yX4_cut ∈ hT := wm 591 (by decide +kernel) (by decide +kernel)
theorem wi_X4_cut : Cond.instanceMethod yX4_cut ∈ hT := wm 592 (by decide +kernel) (by decide +kernel)
theorem ws_X4_cut : Cond.selects "ProofMapModel" yX4_cut yX4_cut ∈ hT := wm 593 (by decide +kernel) (by decide +kernel)
theorem wcode_X4_cut : Cond.code yX4_cut prog_6_method_34_code (2 : Nat) (Option.some Jvm.ClassFile.FieldType.int) ∈ hT := wm 594 (by decide +kernel) (by decide +kernel)
theorem wl_L_77 : Cond.methodLink "ProofMapLaw" (77 : Nat) yX4_verify ∈ hT := wm 595 (by decide +kernel) (by decide +kernel)
theorem wi_X4_verify : Cond.instanceMethod yX4_verify ∈ hT := wm 596 (by decide +kernel) (by decide +kernel)
theorem ws_X4_verify : Cond.selects "ProofMapModel" yX4_verify yX4_verify ∈ hT := wm 597 (by decide +kernel) (by decide +kernel)
theorem wcode_X4_verify : Cond.code yX4_verify prog_6_method_36_code (6 : Nat) (Option.some Jvm.ClassFile.FieldType.int) ∈ hT := wm 598 (by decide +kernel) (by decide +kernel)
theorem wl_X4_224 : Cond.methodLink "ProofMapModel" (224 : Nat) yX4_bitsAlike ∈ hT := wm 599 (by decide +kernel) (by decide +kernel)
theorem wt_X4_bitsAlike : Cond.static yX4_bitsAlike ∈ hT := wm 600 (by decide +kernel) (by decide +kernel)
theorem wcode_X4_bitsAlike : Cond.code yX4_bitsAlike prog_6_method_35_code (3 : Nat) (Option.some Jvm.ClassFile.FieldType.int) ∈ hT := wm 601 (by decide +kernel) (by decide +kernel)
theorem wl_L_81 : Cond.methodLink "ProofMapLaw" (81 : Nat) yX4_alike ∈ hT := wm 602 (by decide +kernel) (by decide +kernel)
theorem wi_X4_alike : Cond.instanceMethod yX4_alike ∈ hT := wm 603 (by decide +kernel) (by decide +kernel)
theorem ws_X4_alike : Cond.selects "ProofMapModel" yX4_alike yX4_alike ∈ hT := wm 604 (by decide +kernel) (by decide +kernel)
theorem wcode_X4_alike : Cond.code yX4_alike prog_6_method_37_code (3 : Nat) (Option.some Jvm.ClassFile.FieldType.int) ∈ hT := wm 605 (by decide +kernel) (by decide +kernel)
theorem wl_L_85 : Cond.methodLink "ProofMapLaw" (85 : Nat) yX4_versions ∈ hT := wm 606 (by decide +kernel) (by decide +kernel)
theorem wi_X4_versions : Cond.instanceMethod yX4_versions ∈ hT := wm 607 (by decide +kernel) (by decide +kernel)
theorem ws_X4_versions : Cond.selects "ProofMapModel" yX4_versions yX4_versions ∈ hT := wm 608 (by decide +kernel) (by decide +kernel)
theorem wcode_X4_versions : Cond.code yX4_versions prog_6_method_38_code (1 : Nat) (Option.some Jvm.ClassFile.FieldType.int) ∈ hT := wm 609 (by decide +kernel) (by decide +kernel)
theorem inh0 : ∀ w ∈ wsX00, w ∈ hT := by
  show ∀ w ∈ [u_lay RX0 TX0 0, u_lay RX0 TX0 1, u_lay RX0 TX0 2, u_lay RX0 TX0 3], w ∈ hT
  exact List.forall_mem_cons.mpr ⟨wy_X0_nothing, List.forall_mem_cons.mpr ⟨wy_X0_message, List.forall_mem_cons.mpr ⟨wy_X0_schedule, List.forall_mem_cons.mpr ⟨wy_X0_state, fun _ h => absurd h List.not_mem_nil⟩⟩⟩⟩
theorem inh1 : ∀ w ∈ wsX10, w ∈ hT := by
  show ∀ w ∈ [u_lay RX1 TX1 0, u_lay RX1 TX1 1, u_lay RX1 TX1 2, u_lay RX1 TX1 3, u_lay RX1 TX1 4, u_lay RX1 TX1 5], w ∈ hT
  exact List.forall_mem_cons.mpr ⟨wy_X1_count, List.forall_mem_cons.mpr ⟨wy_X1_key, List.forall_mem_cons.mpr ⟨wy_X1_value, List.forall_mem_cons.mpr ⟨wy_X1_zero, List.forall_mem_cons.mpr ⟨wy_X1_one, List.forall_mem_cons.mpr ⟨wy_X1_digest, fun _ h => absurd h List.not_mem_nil⟩⟩⟩⟩⟩⟩
theorem inh2 : ∀ w ∈ wsX20, w ∈ hT := by
  show ∀ w ∈ [u_lay RX2 TX2 0, u_lay RX2 TX2 1, u_lay RX2 TX2 2, u_lay RX2 TX2 3, u_lay RX2 TX2 4], w ∈ hT
  exact List.forall_mem_cons.mpr ⟨wy_X2_beside, List.forall_mem_cons.mpr ⟨wy_X2_length, List.forall_mem_cons.mpr ⟨wy_X2_hasEntry, List.forall_mem_cons.mpr ⟨wy_X2_key, List.forall_mem_cons.mpr ⟨wy_X2_value, fun _ h => absurd h List.not_mem_nil⟩⟩⟩⟩⟩
theorem inh3 : ∀ w ∈ wsX30, w ∈ hT := by
  show ∀ w ∈ [u_lay RX3 TX3 0, u_lay RX3 TX3 1, u_lay RX3 TX3 2, u_lay RX3 TX3 3, u_lay RX3 TX3 4, u_lay RX3 TX3 5], w ∈ hT
  exact List.forall_mem_cons.mpr ⟨wy_X3_kept, List.forall_mem_cons.mpr ⟨wy_X3_keptCount, List.forall_mem_cons.mpr ⟨wy_X3_now, List.forall_mem_cons.mpr ⟨wy_X3_proof, List.forall_mem_cons.mpr ⟨wy_X3_hasher, List.forall_mem_cons.mpr ⟨wy_X3_folded, fun _ h => absurd h List.not_mem_nil⟩⟩⟩⟩⟩⟩
theorem inh4 : ∀ w ∈ wsX40, w ∈ hT := by
  show ∀ w ∈ [u_lay RX4 TX4 0, u_lay RX4 TX4 1, u_lay RX4 TX4 2, u_lay RX4 TX4 3, u_lay RX4 TX4 4, u_lay RX4 TX4 5, u_lay RX4 TX4 6, u_lay RX4 TX4 7, u_lay RX4 TX4 8, u_lay RX4 TX4 9, u_lay RX4 TX4 10, u_lay RX4 TX4 11, u_lay RX4 TX4 12, u_lay RX4 TX4 13, u_lay RX4 TX4 14, u_lay RX4 TX4 15, u_lay RX4 TX4 16, u_lay RX4 TX4 17, u_lay RX4 TX4 18, u_lay RX4 TX4 19, u_lay RX4 TX4 20, u_lay RX4 TX4 21, u_lay RX4 TX4 22, u_lay RX4 TX4 23], w ∈ hT
  exact List.forall_mem_cons.mpr ⟨wy_X4_rounds, List.forall_mem_cons.mpr ⟨wy_X4_start, List.forall_mem_cons.mpr ⟨wy_X4_keys, List.forall_mem_cons.mpr ⟨wy_X4_values, List.forall_mem_cons.mpr ⟨wy_X4_sizes, List.forall_mem_cons.mpr ⟨wy_X4_digests, List.forall_mem_cons.mpr ⟨wy_X4_versions, List.forall_mem_cons.mpr ⟨wy_X4_isKnown, List.forall_mem_cons.mpr ⟨wy_X4_bytes, List.forall_mem_cons.mpr ⟨wy_X4_words, List.forall_mem_cons.mpr ⟨wy_X4_hash, List.forall_mem_cons.mpr ⟨wy_X4_begins, List.forall_mem_cons.mpr ⟨wy_X4_counts, List.forall_mem_cons.mpr ⟨wy_X4_ones, List.forall_mem_cons.mpr ⟨wy_X4_nodes, List.forall_mem_cons.mpr ⟨wy_X4_level, List.forall_mem_cons.mpr ⟨wy_X4_wayCounts, List.forall_mem_cons.mpr ⟨wy_X4_wayOnes, List.forall_mem_cons.mpr ⟨wy_X4_beside, List.forall_mem_cons.mpr ⟨wy_X4_proofSize, List.forall_mem_cons.mpr ⟨wy_X4_proof, List.forall_mem_cons.mpr ⟨wy_X4_hasEnd, List.forall_mem_cons.mpr ⟨wy_X4_endKey, List.forall_mem_cons.mpr ⟨wy_X4_endValue, fun _ h => absurd h List.not_mem_nil⟩⟩⟩⟩⟩⟩⟩⟩⟩⟩⟩⟩⟩⟩⟩⟩⟩⟩⟩⟩⟩⟩⟩⟩
end
section
theorem dX0_init_0 : decode cX0_init 0 = .ok (.aload_n 0, 1) := by decide +kernel
theorem dX0_init_1 : decode cX0_init 1 = .ok (.invokespecial 3, 3) := by decide +kernel
theorem dX0_init_4 : decode cX0_init 4 = .ok (.aload_n 0, 1) := by decide +kernel
theorem dX0_init_5 : decode cX0_init 5 = .ok (.bipush 8, 2) := by decide +kernel
theorem dX0_init_7 : decode cX0_init 7 = .ok (.newarray .int, 2) := by decide +kernel
theorem dX0_init_9 : decode cX0_init 9 = .ok (.putfield 9, 3) := by decide +kernel
theorem dX0_init_12 : decode cX0_init 12 = .ok (.aload_n 0, 1) := by decide +kernel
theorem dX0_init_13 : decode cX0_init 13 = .ok (.bipush 32, 2) := by decide +kernel
theorem dX0_init_15 : decode cX0_init 15 = .ok (.newarray .int, 2) := by decide +kernel
theorem dX0_init_17 : decode cX0_init 17 = .ok (.putfield 15, 3) := by decide +kernel
theorem dX0_init_20 : decode cX0_init 20 = .ok (.aload_n 0, 1) := by decide +kernel
theorem dX0_init_21 : decode cX0_init 21 = .ok (.bipush 64, 2) := by decide +kernel
theorem dX0_init_23 : decode cX0_init 23 = .ok (.newarray .int, 2) := by decide +kernel
theorem dX0_init_25 : decode cX0_init 25 = .ok (.putfield 18, 3) := by decide +kernel
theorem dX0_init_28 : decode cX0_init 28 = .ok (.aload_n 0, 1) := by decide +kernel
theorem dX0_init_29 : decode cX0_init 29 = .ok (.bipush 8, 2) := by decide +kernel
theorem dX0_init_31 : decode cX0_init 31 = .ok (.newarray .int, 2) := by decide +kernel
theorem dX0_init_33 : decode cX0_init 33 = .ok (.putfield 21, 3) := by decide +kernel
theorem dX0_init_36 : decode cX0_init 36 = .ok (.return_, 1) := by decide +kernel
theorem dX0_hashEntry_0 : decode cX0_hashEntry 0 = .ok (.aload_n 0, 1) := by decide +kernel
theorem dX0_hashEntry_1 : decode cX0_hashEntry 1 = .ok (.invokevirtual 24, 3) := by decide +kernel
theorem dX0_hashEntry_4 : decode cX0_hashEntry 4 = .ok (.aload_n 0, 1) := by decide +kernel
theorem dX0_hashEntry_5 : decode cX0_hashEntry 5 = .ok (.getfield 15, 3) := by decide +kernel
theorem dX0_hashEntry_8 : decode cX0_hashEntry 8 = .ok (.iconst 0, 1) := by decide +kernel
theorem dX0_hashEntry_9 : decode cX0_hashEntry 9 = .ok (.iload_n 1, 1) := by decide +kernel
theorem dX0_hashEntry_10 : decode cX0_hashEntry 10 = .ok (.bipush 8, 2) := by decide +kernel
theorem dX0_hashEntry_12 : decode cX0_hashEntry 12 = .ok (.ishl, 1) := by decide +kernel
theorem dX0_hashEntry_13 : decode cX0_hashEntry 13 = .ok (.iload_n 2, 1) := by decide +kernel
theorem dX0_hashEntry_14 : decode cX0_hashEntry 14 = .ok (.bipush 24, 2) := by decide +kernel
theorem dX0_hashEntry_16 : decode cX0_hashEntry 16 = .ok (.iushr, 1) := by decide +kernel
theorem dX0_hashEntry_17 : decode cX0_hashEntry 17 = .ok (.ior, 1) := by decide +kernel
theorem dX0_hashEntry_18 : decode cX0_hashEntry 18 = .ok (.iastore, 1) := by decide +kernel
theorem dX0_hashEntry_19 : decode cX0_hashEntry 19 = .ok (.aload_n 0, 1) := by decide +kernel
theorem dX0_hashEntry_20 : decode cX0_hashEntry 20 = .ok (.getfield 15, 3) := by decide +kernel
theorem dX0_hashEntry_23 : decode cX0_hashEntry 23 = .ok (.iconst 1, 1) := by decide +kernel
theorem dX0_hashEntry_24 : decode cX0_hashEntry 24 = .ok (.iload_n 2, 1) := by decide +kernel
theorem dX0_hashEntry_25 : decode cX0_hashEntry 25 = .ok (.bipush 8, 2) := by decide +kernel
theorem dX0_hashEntry_27 : decode cX0_hashEntry 27 = .ok (.ishl, 1) := by decide +kernel
theorem dX0_hashEntry_28 : decode cX0_hashEntry 28 = .ok (.sipush 128, 3) := by decide +kernel
theorem dX0_hashEntry_31 : decode cX0_hashEntry 31 = .ok (.ior, 1) := by decide +kernel
theorem dX0_hashEntry_32 : decode cX0_hashEntry 32 = .ok (.iastore, 1) := by decide +kernel
theorem dX0_hashEntry_33 : decode cX0_hashEntry 33 = .ok (.aload_n 0, 1) := by decide +kernel
theorem dX0_hashEntry_34 : decode cX0_hashEntry 34 = .ok (.getfield 15, 3) := by decide +kernel
theorem dX0_hashEntry_37 : decode cX0_hashEntry 37 = .ok (.bipush 15, 2) := by decide +kernel
theorem dX0_hashEntry_39 : decode cX0_hashEntry 39 = .ok (.bipush 56, 2) := by decide +kernel
theorem dX0_hashEntry_41 : decode cX0_hashEntry 41 = .ok (.iastore, 1) := by decide +kernel
theorem dX0_hashEntry_42 : decode cX0_hashEntry 42 = .ok (.aload_n 0, 1) := by decide +kernel
theorem dX0_hashEntry_43 : decode cX0_hashEntry 43 = .ok (.invokevirtual 27, 3) := by decide +kernel
theorem dX0_hashEntry_46 : decode cX0_hashEntry 46 = .ok (.aload_n 0, 1) := by decide +kernel
theorem dX0_hashEntry_47 : decode cX0_hashEntry 47 = .ok (.iconst 0, 1) := by decide +kernel
theorem dX0_hashEntry_48 : decode cX0_hashEntry 48 = .ok (.invokevirtual 30, 3) := by decide +kernel
theorem dX0_hashEntry_51 : decode cX0_hashEntry 51 = .ok (.aload_n 0, 1) := by decide +kernel
theorem dX0_hashEntry_52 : decode cX0_hashEntry 52 = .ok (.getfield 21, 3) := by decide +kernel
theorem dX0_hashEntry_55 : decode cX0_hashEntry 55 = .ok (.aload_n 3, 1) := by decide +kernel
theorem dX0_hashEntry_56 : decode cX0_hashEntry 56 = .ok (.invokestatic 34, 3) := by decide +kernel
theorem dX0_hashEntry_59 : decode cX0_hashEntry 59 = .ok (.return_, 1) := by decide +kernel
theorem dX0_hashPair_0 : decode cX0_hashPair 0 = .ok (.aload_n 0, 1) := by decide +kernel
theorem dX0_hashPair_1 : decode cX0_hashPair 1 = .ok (.invokevirtual 24, 3) := by decide +kernel
theorem dX0_hashPair_4 : decode cX0_hashPair 4 = .ok (.iconst 1, 1) := by decide +kernel
theorem dX0_hashPair_5 : decode cX0_hashPair 5 = .ok (.istore 4, 2) := by decide +kernel
theorem dX0_hashPair_7 : decode cX0_hashPair 7 = .ok (.iconst 0, 1) := by decide +kernel
theorem dX0_hashPair_8 : decode cX0_hashPair 8 = .ok (.istore 5, 2) := by decide +kernel
theorem dX0_hashPair_10 : decode cX0_hashPair 10 = .ok (.iload 5, 2) := by decide +kernel
theorem dX0_hashPair_12 : decode cX0_hashPair 12 = .ok (.bipush 8, 2) := by decide +kernel
theorem dX0_hashPair_14 : decode cX0_hashPair 14 = .ok (.if_icmp .ge 35, 3) := by decide +kernel
theorem dX0_hashPair_17 : decode cX0_hashPair 17 = .ok (.aload_n 0, 1) := by decide +kernel
theorem dX0_hashPair_18 : decode cX0_hashPair 18 = .ok (.getfield 15, 3) := by decide +kernel
theorem dX0_hashPair_21 : decode cX0_hashPair 21 = .ok (.iload 5, 2) := by decide +kernel
theorem dX0_hashPair_23 : decode cX0_hashPair 23 = .ok (.iload 4, 2) := by decide +kernel
theorem dX0_hashPair_25 : decode cX0_hashPair 25 = .ok (.bipush 24, 2) := by decide +kernel
theorem dX0_hashPair_27 : decode cX0_hashPair 27 = .ok (.ishl, 1) := by decide +kernel
theorem dX0_hashPair_28 : decode cX0_hashPair 28 = .ok (.aload_n 1, 1) := by decide +kernel
theorem dX0_hashPair_29 : decode cX0_hashPair 29 = .ok (.iload 5, 2) := by decide +kernel
theorem dX0_hashPair_31 : decode cX0_hashPair 31 = .ok (.iaload, 1) := by decide +kernel
theorem dX0_hashPair_32 : decode cX0_hashPair 32 = .ok (.bipush 8, 2) := by decide +kernel
theorem dX0_hashPair_34 : decode cX0_hashPair 34 = .ok (.iushr, 1) := by decide +kernel
theorem dX0_hashPair_35 : decode cX0_hashPair 35 = .ok (.ior, 1) := by decide +kernel
theorem dX0_hashPair_36 : decode cX0_hashPair 36 = .ok (.iastore, 1) := by decide +kernel
theorem dX0_hashPair_37 : decode cX0_hashPair 37 = .ok (.aload_n 1, 1) := by decide +kernel
theorem dX0_hashPair_38 : decode cX0_hashPair 38 = .ok (.iload 5, 2) := by decide +kernel
theorem dX0_hashPair_40 : decode cX0_hashPair 40 = .ok (.iaload, 1) := by decide +kernel
theorem dX0_hashPair_41 : decode cX0_hashPair 41 = .ok (.istore 4, 2) := by decide +kernel
theorem dX0_hashPair_43 : decode cX0_hashPair 43 = .ok (.iinc 5 1, 3) := by decide +kernel
theorem dX0_hashPair_46 : decode cX0_hashPair 46 = .ok (.goto (-36), 3) := by decide +kernel
theorem dX0_hashPair_49 : decode cX0_hashPair 49 = .ok (.iconst 0, 1) := by decide +kernel
theorem dX0_hashPair_50 : decode cX0_hashPair 50 = .ok (.istore 5, 2) := by decide +kernel
theorem dX0_hashPair_52 : decode cX0_hashPair 52 = .ok (.iload 5, 2) := by decide +kernel
theorem dX0_hashPair_54 : decode cX0_hashPair 54 = .ok (.bipush 8, 2) := by decide +kernel
theorem dX0_hashPair_56 : decode cX0_hashPair 56 = .ok (.if_icmp .ge 38, 3) := by decide +kernel
theorem dX0_hashPair_59 : decode cX0_hashPair 59 = .ok (.aload_n 0, 1) := by decide +kernel
theorem dX0_hashPair_60 : decode cX0_hashPair 60 = .ok (.getfield 15, 3) := by decide +kernel
theorem dX0_hashPair_63 : decode cX0_hashPair 63 = .ok (.bipush 8, 2) := by decide +kernel
theorem dX0_hashPair_65 : decode cX0_hashPair 65 = .ok (.iload 5, 2) := by decide +kernel
theorem dX0_hashPair_67 : decode cX0_hashPair 67 = .ok (.iadd, 1) := by decide +kernel
theorem dX0_hashPair_68 : decode cX0_hashPair 68 = .ok (.iload 4, 2) := by decide +kernel
theorem dX0_hashPair_70 : decode cX0_hashPair 70 = .ok (.bipush 24, 2) := by decide +kernel
theorem dX0_hashPair_72 : decode cX0_hashPair 72 = .ok (.ishl, 1) := by decide +kernel
theorem dX0_hashPair_73 : decode cX0_hashPair 73 = .ok (.aload_n 2, 1) := by decide +kernel
theorem dX0_hashPair_74 : decode cX0_hashPair 74 = .ok (.iload 5, 2) := by decide +kernel
theorem dX0_hashPair_76 : decode cX0_hashPair 76 = .ok (.iaload, 1) := by decide +kernel
theorem dX0_hashPair_77 : decode cX0_hashPair 77 = .ok (.bipush 8, 2) := by decide +kernel
theorem dX0_hashPair_79 : decode cX0_hashPair 79 = .ok (.iushr, 1) := by decide +kernel
theorem dX0_hashPair_80 : decode cX0_hashPair 80 = .ok (.ior, 1) := by decide +kernel
theorem dX0_hashPair_81 : decode cX0_hashPair 81 = .ok (.iastore, 1) := by decide +kernel
theorem dX0_hashPair_82 : decode cX0_hashPair 82 = .ok (.aload_n 2, 1) := by decide +kernel
theorem dX0_hashPair_83 : decode cX0_hashPair 83 = .ok (.iload 5, 2) := by decide +kernel
theorem dX0_hashPair_85 : decode cX0_hashPair 85 = .ok (.iaload, 1) := by decide +kernel
theorem dX0_hashPair_86 : decode cX0_hashPair 86 = .ok (.istore 4, 2) := by decide +kernel
theorem dX0_hashPair_88 : decode cX0_hashPair 88 = .ok (.iinc 5 1, 3) := by decide +kernel
theorem dX0_hashPair_91 : decode cX0_hashPair 91 = .ok (.goto (-39), 3) := by decide +kernel
theorem dX0_hashPair_94 : decode cX0_hashPair 94 = .ok (.aload_n 0, 1) := by decide +kernel
theorem dX0_hashPair_95 : decode cX0_hashPair 95 = .ok (.getfield 15, 3) := by decide +kernel
theorem dX0_hashPair_98 : decode cX0_hashPair 98 = .ok (.bipush 16, 2) := by decide +kernel
theorem dX0_hashPair_100 : decode cX0_hashPair 100 = .ok (.iload 4, 2) := by decide +kernel
theorem dX0_hashPair_102 : decode cX0_hashPair 102 = .ok (.bipush 24, 2) := by decide +kernel
theorem dX0_hashPair_104 : decode cX0_hashPair 104 = .ok (.ishl, 1) := by decide +kernel
theorem dX0_hashPair_105 : decode cX0_hashPair 105 = .ok (.ldc 38, 2) := by decide +kernel
theorem dX0_hashPair_107 : decode cX0_hashPair 107 = .ok (.ior, 1) := by decide +kernel
theorem dX0_hashPair_108 : decode cX0_hashPair 108 = .ok (.iastore, 1) := by decide +kernel
theorem dX0_hashPair_109 : decode cX0_hashPair 109 = .ok (.aload_n 0, 1) := by decide +kernel
theorem dX0_hashPair_110 : decode cX0_hashPair 110 = .ok (.getfield 15, 3) := by decide +kernel
theorem dX0_hashPair_113 : decode cX0_hashPair 113 = .ok (.bipush 31, 2) := by decide +kernel
theorem dX0_hashPair_115 : decode cX0_hashPair 115 = .ok (.sipush 520, 3) := by decide +kernel
theorem dX0_hashPair_118 : decode cX0_hashPair 118 = .ok (.iastore, 1) := by decide +kernel
theorem dX0_hashPair_119 : decode cX0_hashPair 119 = .ok (.aload_n 0, 1) := by decide +kernel
theorem dX0_hashPair_120 : decode cX0_hashPair 120 = .ok (.invokevirtual 27, 3) := by decide +kernel
theorem dX0_hashPair_123 : decode cX0_hashPair 123 = .ok (.aload_n 0, 1) := by decide +kernel
theorem dX0_hashPair_124 : decode cX0_hashPair 124 = .ok (.iconst 0, 1) := by decide +kernel
theorem dX0_hashPair_125 : decode cX0_hashPair 125 = .ok (.invokevirtual 30, 3) := by decide +kernel
theorem dX0_hashPair_128 : decode cX0_hashPair 128 = .ok (.aload_n 0, 1) := by decide +kernel
theorem dX0_hashPair_129 : decode cX0_hashPair 129 = .ok (.bipush 16, 2) := by decide +kernel
theorem dX0_hashPair_131 : decode cX0_hashPair 131 = .ok (.invokevirtual 30, 3) := by decide +kernel
theorem dX0_hashPair_134 : decode cX0_hashPair 134 = .ok (.aload_n 0, 1) := by decide +kernel
theorem dX0_hashPair_135 : decode cX0_hashPair 135 = .ok (.getfield 21, 3) := by decide +kernel
theorem dX0_hashPair_138 : decode cX0_hashPair 138 = .ok (.aload_n 3, 1) := by decide +kernel
theorem dX0_hashPair_139 : decode cX0_hashPair 139 = .ok (.invokestatic 34, 3) := by decide +kernel
theorem dX0_hashPair_142 : decode cX0_hashPair 142 = .ok (.return_, 1) := by decide +kernel
theorem dX0_clearMessage_0 : decode cX0_clearMessage 0 = .ok (.iconst 0, 1) := by decide +kernel
theorem dX0_clearMessage_1 : decode cX0_clearMessage 1 = .ok (.istore_n 1, 1) := by decide +kernel
theorem dX0_clearMessage_2 : decode cX0_clearMessage 2 = .ok (.iload_n 1, 1) := by decide +kernel
theorem dX0_clearMessage_3 : decode cX0_clearMessage 3 = .ok (.bipush 32, 2) := by decide +kernel
theorem dX0_clearMessage_5 : decode cX0_clearMessage 5 = .ok (.if_icmp .ge 16, 3) := by decide +kernel
theorem dX0_clearMessage_8 : decode cX0_clearMessage 8 = .ok (.aload_n 0, 1) := by decide +kernel
theorem dX0_clearMessage_9 : decode cX0_clearMessage 9 = .ok (.getfield 15, 3) := by decide +kernel
theorem dX0_clearMessage_12 : decode cX0_clearMessage 12 = .ok (.iload_n 1, 1) := by decide +kernel
theorem dX0_clearMessage_13 : decode cX0_clearMessage 13 = .ok (.iconst 0, 1) := by decide +kernel
theorem dX0_clearMessage_14 : decode cX0_clearMessage 14 = .ok (.iastore, 1) := by decide +kernel
theorem dX0_clearMessage_15 : decode cX0_clearMessage 15 = .ok (.iinc 1 1, 3) := by decide +kernel
theorem dX0_clearMessage_18 : decode cX0_clearMessage 18 = .ok (.goto (-16), 3) := by decide +kernel
theorem dX0_clearMessage_21 : decode cX0_clearMessage 21 = .ok (.return_, 1) := by decide +kernel
theorem dX0_start_0 : decode cX0_start 0 = .ok (.getstatic 39, 3) := by decide +kernel
theorem dX0_start_3 : decode cX0_start 3 = .ok (.aload_n 0, 1) := by decide +kernel
theorem dX0_start_4 : decode cX0_start 4 = .ok (.getfield 21, 3) := by decide +kernel
theorem dX0_start_7 : decode cX0_start 7 = .ok (.invokestatic 34, 3) := by decide +kernel
theorem dX0_start_10 : decode cX0_start 10 = .ok (.return_, 1) := by decide +kernel
theorem dX0_compress_0 : decode cX0_compress 0 = .ok (.aload_n 0, 1) := by decide +kernel
theorem dX0_compress_1 : decode cX0_compress 1 = .ok (.iload_n 1, 1) := by decide +kernel
theorem dX0_compress_2 : decode cX0_compress 2 = .ok (.invokevirtual 42, 3) := by decide +kernel
theorem dX0_compress_5 : decode cX0_compress 5 = .ok (.aload_n 0, 1) := by decide +kernel
theorem dX0_compress_6 : decode cX0_compress 6 = .ok (.getfield 21, 3) := by decide +kernel
theorem dX0_compress_9 : decode cX0_compress 9 = .ok (.iconst 0, 1) := by decide +kernel
theorem dX0_compress_10 : decode cX0_compress 10 = .ok (.iaload, 1) := by decide +kernel
theorem dX0_compress_11 : decode cX0_compress 11 = .ok (.istore_n 2, 1) := by decide +kernel
theorem dX0_compress_12 : decode cX0_compress 12 = .ok (.aload_n 0, 1) := by decide +kernel
theorem dX0_compress_13 : decode cX0_compress 13 = .ok (.getfield 21, 3) := by decide +kernel
theorem dX0_compress_16 : decode cX0_compress 16 = .ok (.iconst 1, 1) := by decide +kernel
theorem dX0_compress_17 : decode cX0_compress 17 = .ok (.iaload, 1) := by decide +kernel
theorem dX0_compress_18 : decode cX0_compress 18 = .ok (.istore_n 3, 1) := by decide +kernel
theorem dX0_compress_19 : decode cX0_compress 19 = .ok (.aload_n 0, 1) := by decide +kernel
theorem dX0_compress_20 : decode cX0_compress 20 = .ok (.getfield 21, 3) := by decide +kernel
theorem dX0_compress_23 : decode cX0_compress 23 = .ok (.iconst 2, 1) := by decide +kernel
theorem dX0_compress_24 : decode cX0_compress 24 = .ok (.iaload, 1) := by decide +kernel
theorem dX0_compress_25 : decode cX0_compress 25 = .ok (.istore 4, 2) := by decide +kernel
theorem dX0_compress_27 : decode cX0_compress 27 = .ok (.aload_n 0, 1) := by decide +kernel
theorem dX0_compress_28 : decode cX0_compress 28 = .ok (.getfield 21, 3) := by decide +kernel
theorem dX0_compress_31 : decode cX0_compress 31 = .ok (.iconst 3, 1) := by decide +kernel
theorem dX0_compress_32 : decode cX0_compress 32 = .ok (.iaload, 1) := by decide +kernel
theorem dX0_compress_33 : decode cX0_compress 33 = .ok (.istore 5, 2) := by decide +kernel
theorem dX0_compress_35 : decode cX0_compress 35 = .ok (.aload_n 0, 1) := by decide +kernel
theorem dX0_compress_36 : decode cX0_compress 36 = .ok (.getfield 21, 3) := by decide +kernel
theorem dX0_compress_39 : decode cX0_compress 39 = .ok (.iconst 4, 1) := by decide +kernel
theorem dX0_compress_40 : decode cX0_compress 40 = .ok (.iaload, 1) := by decide +kernel
theorem dX0_compress_41 : decode cX0_compress 41 = .ok (.istore 6, 2) := by decide +kernel
theorem dX0_compress_43 : decode cX0_compress 43 = .ok (.aload_n 0, 1) := by decide +kernel
theorem dX0_compress_44 : decode cX0_compress 44 = .ok (.getfield 21, 3) := by decide +kernel
theorem dX0_compress_47 : decode cX0_compress 47 = .ok (.iconst 5, 1) := by decide +kernel
theorem dX0_compress_48 : decode cX0_compress 48 = .ok (.iaload, 1) := by decide +kernel
theorem dX0_compress_49 : decode cX0_compress 49 = .ok (.istore 7, 2) := by decide +kernel
theorem dX0_compress_51 : decode cX0_compress 51 = .ok (.aload_n 0, 1) := by decide +kernel
theorem dX0_compress_52 : decode cX0_compress 52 = .ok (.getfield 21, 3) := by decide +kernel
theorem dX0_compress_55 : decode cX0_compress 55 = .ok (.bipush 6, 2) := by decide +kernel
theorem dX0_compress_57 : decode cX0_compress 57 = .ok (.iaload, 1) := by decide +kernel
theorem dX0_compress_58 : decode cX0_compress 58 = .ok (.istore 8, 2) := by decide +kernel
theorem dX0_compress_60 : decode cX0_compress 60 = .ok (.aload_n 0, 1) := by decide +kernel
theorem dX0_compress_61 : decode cX0_compress 61 = .ok (.getfield 21, 3) := by decide +kernel
theorem dX0_compress_64 : decode cX0_compress 64 = .ok (.bipush 7, 2) := by decide +kernel
theorem dX0_compress_66 : decode cX0_compress 66 = .ok (.iaload, 1) := by decide +kernel
theorem dX0_compress_67 : decode cX0_compress 67 = .ok (.istore 9, 2) := by decide +kernel
theorem dX0_compress_69 : decode cX0_compress 69 = .ok (.iconst 0, 1) := by decide +kernel
theorem dX0_compress_70 : decode cX0_compress 70 = .ok (.istore 10, 2) := by decide +kernel
theorem dX0_compress_72 : decode cX0_compress 72 = .ok (.iload 10, 2) := by decide +kernel
theorem dX0_compress_74 : decode cX0_compress 74 = .ok (.bipush 64, 2) := by decide +kernel
theorem dX0_compress_76 : decode cX0_compress 76 = .ok (.if_icmp .ge 147, 3) := by decide +kernel
theorem dX0_compress_79 : decode cX0_compress 79 = .ok (.iload 6, 2) := by decide +kernel
theorem dX0_compress_81 : decode cX0_compress 81 = .ok (.bipush 6, 2) := by decide +kernel
theorem dX0_compress_83 : decode cX0_compress 83 = .ok (.invokestatic 45, 3) := by decide +kernel
theorem dX0_compress_86 : decode cX0_compress 86 = .ok (.iload 6, 2) := by decide +kernel
theorem dX0_compress_88 : decode cX0_compress 88 = .ok (.bipush 11, 2) := by decide +kernel
theorem dX0_compress_90 : decode cX0_compress 90 = .ok (.invokestatic 45, 3) := by decide +kernel
theorem dX0_compress_93 : decode cX0_compress 93 = .ok (.ixor, 1) := by decide +kernel
theorem dX0_compress_94 : decode cX0_compress 94 = .ok (.iload 6, 2) := by decide +kernel
theorem dX0_compress_96 : decode cX0_compress 96 = .ok (.bipush 25, 2) := by decide +kernel
theorem dX0_compress_98 : decode cX0_compress 98 = .ok (.invokestatic 45, 3) := by decide +kernel
theorem dX0_compress_101 : decode cX0_compress 101 = .ok (.ixor, 1) := by decide +kernel
theorem dX0_compress_102 : decode cX0_compress 102 = .ok (.istore 11, 2) := by decide +kernel
theorem dX0_compress_104 : decode cX0_compress 104 = .ok (.iload 6, 2) := by decide +kernel
theorem dX0_compress_106 : decode cX0_compress 106 = .ok (.iload 7, 2) := by decide +kernel
theorem dX0_compress_108 : decode cX0_compress 108 = .ok (.iand, 1) := by decide +kernel
theorem dX0_compress_109 : decode cX0_compress 109 = .ok (.iload 6, 2) := by decide +kernel
theorem dX0_compress_111 : decode cX0_compress 111 = .ok (.iconst (-1), 1) := by decide +kernel
theorem dX0_compress_112 : decode cX0_compress 112 = .ok (.ixor, 1) := by decide +kernel
theorem dX0_compress_113 : decode cX0_compress 113 = .ok (.iload 8, 2) := by decide +kernel
theorem dX0_compress_115 : decode cX0_compress 115 = .ok (.iand, 1) := by decide +kernel
theorem dX0_compress_116 : decode cX0_compress 116 = .ok (.ixor, 1) := by decide +kernel
theorem dX0_compress_117 : decode cX0_compress 117 = .ok (.istore 12, 2) := by decide +kernel
theorem dX0_compress_119 : decode cX0_compress 119 = .ok (.iload 9, 2) := by decide +kernel
theorem dX0_compress_121 : decode cX0_compress 121 = .ok (.iload 11, 2) := by decide +kernel
theorem dX0_compress_123 : decode cX0_compress 123 = .ok (.iadd, 1) := by decide +kernel
theorem dX0_compress_124 : decode cX0_compress 124 = .ok (.iload 12, 2) := by decide +kernel
theorem dX0_compress_126 : decode cX0_compress 126 = .ok (.iadd, 1) := by decide +kernel
theorem dX0_compress_127 : decode cX0_compress 127 = .ok (.getstatic 49, 3) := by decide +kernel
theorem dX0_compress_130 : decode cX0_compress 130 = .ok (.iload 10, 2) := by decide +kernel
theorem dX0_compress_132 : decode cX0_compress 132 = .ok (.iaload, 1) := by decide +kernel
theorem dX0_compress_133 : decode cX0_compress 133 = .ok (.iadd, 1) := by decide +kernel
theorem dX0_compress_134 : decode cX0_compress 134 = .ok (.aload_n 0, 1) := by decide +kernel
theorem dX0_compress_135 : decode cX0_compress 135 = .ok (.getfield 18, 3) := by decide +kernel
theorem dX0_compress_138 : decode cX0_compress 138 = .ok (.iload 10, 2) := by decide +kernel
theorem dX0_compress_140 : decode cX0_compress 140 = .ok (.iaload, 1) := by decide +kernel
theorem dX0_compress_141 : decode cX0_compress 141 = .ok (.iadd, 1) := by decide +kernel
theorem dX0_compress_142 : decode cX0_compress 142 = .ok (.istore 13, 2) := by decide +kernel
theorem dX0_compress_144 : decode cX0_compress 144 = .ok (.iload_n 2, 1) := by decide +kernel
theorem dX0_compress_145 : decode cX0_compress 145 = .ok (.iconst 2, 1) := by decide +kernel
theorem dX0_compress_146 : decode cX0_compress 146 = .ok (.invokestatic 45, 3) := by decide +kernel
theorem dX0_compress_149 : decode cX0_compress 149 = .ok (.iload_n 2, 1) := by decide +kernel
theorem dX0_compress_150 : decode cX0_compress 150 = .ok (.bipush 13, 2) := by decide +kernel
theorem dX0_compress_152 : decode cX0_compress 152 = .ok (.invokestatic 45, 3) := by decide +kernel
theorem dX0_compress_155 : decode cX0_compress 155 = .ok (.ixor, 1) := by decide +kernel
theorem dX0_compress_156 : decode cX0_compress 156 = .ok (.iload_n 2, 1) := by decide +kernel
theorem dX0_compress_157 : decode cX0_compress 157 = .ok (.bipush 22, 2) := by decide +kernel
theorem dX0_compress_159 : decode cX0_compress 159 = .ok (.invokestatic 45, 3) := by decide +kernel
theorem dX0_compress_162 : decode cX0_compress 162 = .ok (.ixor, 1) := by decide +kernel
theorem dX0_compress_163 : decode cX0_compress 163 = .ok (.istore 14, 2) := by decide +kernel
theorem dX0_compress_165 : decode cX0_compress 165 = .ok (.iload_n 2, 1) := by decide +kernel
theorem dX0_compress_166 : decode cX0_compress 166 = .ok (.iload_n 3, 1) := by decide +kernel
theorem dX0_compress_167 : decode cX0_compress 167 = .ok (.iand, 1) := by decide +kernel
theorem dX0_compress_168 : decode cX0_compress 168 = .ok (.iload_n 2, 1) := by decide +kernel
theorem dX0_compress_169 : decode cX0_compress 169 = .ok (.iload 4, 2) := by decide +kernel
theorem dX0_compress_171 : decode cX0_compress 171 = .ok (.iand, 1) := by decide +kernel
theorem dX0_compress_172 : decode cX0_compress 172 = .ok (.ixor, 1) := by decide +kernel
theorem dX0_compress_173 : decode cX0_compress 173 = .ok (.iload_n 3, 1) := by decide +kernel
theorem dX0_compress_174 : decode cX0_compress 174 = .ok (.iload 4, 2) := by decide +kernel
theorem dX0_compress_176 : decode cX0_compress 176 = .ok (.iand, 1) := by decide +kernel
theorem dX0_compress_177 : decode cX0_compress 177 = .ok (.ixor, 1) := by decide +kernel
theorem dX0_compress_178 : decode cX0_compress 178 = .ok (.istore 15, 2) := by decide +kernel
theorem dX0_compress_180 : decode cX0_compress 180 = .ok (.iload 8, 2) := by decide +kernel
theorem dX0_compress_182 : decode cX0_compress 182 = .ok (.istore 9, 2) := by decide +kernel
theorem dX0_compress_184 : decode cX0_compress 184 = .ok (.iload 7, 2) := by decide +kernel
theorem dX0_compress_186 : decode cX0_compress 186 = .ok (.istore 8, 2) := by decide +kernel
theorem dX0_compress_188 : decode cX0_compress 188 = .ok (.iload 6, 2) := by decide +kernel
theorem dX0_compress_190 : decode cX0_compress 190 = .ok (.istore 7, 2) := by decide +kernel
theorem dX0_compress_192 : decode cX0_compress 192 = .ok (.iload 5, 2) := by decide +kernel
theorem dX0_compress_194 : decode cX0_compress 194 = .ok (.iload 13, 2) := by decide +kernel
theorem dX0_compress_196 : decode cX0_compress 196 = .ok (.iadd, 1) := by decide +kernel
theorem dX0_compress_197 : decode cX0_compress 197 = .ok (.istore 6, 2) := by decide +kernel
theorem dX0_compress_199 : decode cX0_compress 199 = .ok (.iload 4, 2) := by decide +kernel
theorem dX0_compress_201 : decode cX0_compress 201 = .ok (.istore 5, 2) := by decide +kernel
theorem dX0_compress_203 : decode cX0_compress 203 = .ok (.iload_n 3, 1) := by decide +kernel
theorem dX0_compress_204 : decode cX0_compress 204 = .ok (.istore 4, 2) := by decide +kernel
theorem dX0_compress_206 : decode cX0_compress 206 = .ok (.iload_n 2, 1) := by decide +kernel
theorem dX0_compress_207 : decode cX0_compress 207 = .ok (.istore_n 3, 1) := by decide +kernel
theorem dX0_compress_208 : decode cX0_compress 208 = .ok (.iload 13, 2) := by decide +kernel
theorem dX0_compress_210 : decode cX0_compress 210 = .ok (.iload 14, 2) := by decide +kernel
theorem dX0_compress_212 : decode cX0_compress 212 = .ok (.iadd, 1) := by decide +kernel
theorem dX0_compress_213 : decode cX0_compress 213 = .ok (.iload 15, 2) := by decide +kernel
theorem dX0_compress_215 : decode cX0_compress 215 = .ok (.iadd, 1) := by decide +kernel
theorem dX0_compress_216 : decode cX0_compress 216 = .ok (.istore_n 2, 1) := by decide +kernel
theorem dX0_compress_217 : decode cX0_compress 217 = .ok (.iinc 10 1, 3) := by decide +kernel
theorem dX0_compress_220 : decode cX0_compress 220 = .ok (.goto (-148), 3) := by decide +kernel
theorem dX0_compress_223 : decode cX0_compress 223 = .ok (.aload_n 0, 1) := by decide +kernel
theorem dX0_compress_224 : decode cX0_compress 224 = .ok (.getfield 21, 3) := by decide +kernel
theorem dX0_compress_227 : decode cX0_compress 227 = .ok (.iconst 0, 1) := by decide +kernel
theorem dX0_compress_228 : decode cX0_compress 228 = .ok (.dup2, 1) := by decide +kernel
theorem dX0_compress_229 : decode cX0_compress 229 = .ok (.iaload, 1) := by decide +kernel
theorem dX0_compress_230 : decode cX0_compress 230 = .ok (.iload_n 2, 1) := by decide +kernel
theorem dX0_compress_231 : decode cX0_compress 231 = .ok (.iadd, 1) := by decide +kernel
theorem dX0_compress_232 : decode cX0_compress 232 = .ok (.iastore, 1) := by decide +kernel
theorem dX0_compress_233 : decode cX0_compress 233 = .ok (.aload_n 0, 1) := by decide +kernel
theorem dX0_compress_234 : decode cX0_compress 234 = .ok (.getfield 21, 3) := by decide +kernel
theorem dX0_compress_237 : decode cX0_compress 237 = .ok (.iconst 1, 1) := by decide +kernel
theorem dX0_compress_238 : decode cX0_compress 238 = .ok (.dup2, 1) := by decide +kernel
theorem dX0_compress_239 : decode cX0_compress 239 = .ok (.iaload, 1) := by decide +kernel
theorem dX0_compress_240 : decode cX0_compress 240 = .ok (.iload_n 3, 1) := by decide +kernel
theorem dX0_compress_241 : decode cX0_compress 241 = .ok (.iadd, 1) := by decide +kernel
theorem dX0_compress_242 : decode cX0_compress 242 = .ok (.iastore, 1) := by decide +kernel
theorem dX0_compress_243 : decode cX0_compress 243 = .ok (.aload_n 0, 1) := by decide +kernel
theorem dX0_compress_244 : decode cX0_compress 244 = .ok (.getfield 21, 3) := by decide +kernel
theorem dX0_compress_247 : decode cX0_compress 247 = .ok (.iconst 2, 1) := by decide +kernel
theorem dX0_compress_248 : decode cX0_compress 248 = .ok (.dup2, 1) := by decide +kernel
theorem dX0_compress_249 : decode cX0_compress 249 = .ok (.iaload, 1) := by decide +kernel
theorem dX0_compress_250 : decode cX0_compress 250 = .ok (.iload 4, 2) := by decide +kernel
theorem dX0_compress_252 : decode cX0_compress 252 = .ok (.iadd, 1) := by decide +kernel
theorem dX0_compress_253 : decode cX0_compress 253 = .ok (.iastore, 1) := by decide +kernel
theorem dX0_compress_254 : decode cX0_compress 254 = .ok (.aload_n 0, 1) := by decide +kernel
theorem dX0_compress_255 : decode cX0_compress 255 = .ok (.getfield 21, 3) := by decide +kernel
theorem dX0_compress_258 : decode cX0_compress 258 = .ok (.iconst 3, 1) := by decide +kernel
theorem dX0_compress_259 : decode cX0_compress 259 = .ok (.dup2, 1) := by decide +kernel
theorem dX0_compress_260 : decode cX0_compress 260 = .ok (.iaload, 1) := by decide +kernel
theorem dX0_compress_261 : decode cX0_compress 261 = .ok (.iload 5, 2) := by decide +kernel
theorem dX0_compress_263 : decode cX0_compress 263 = .ok (.iadd, 1) := by decide +kernel
theorem dX0_compress_264 : decode cX0_compress 264 = .ok (.iastore, 1) := by decide +kernel
theorem dX0_compress_265 : decode cX0_compress 265 = .ok (.aload_n 0, 1) := by decide +kernel
theorem dX0_compress_266 : decode cX0_compress 266 = .ok (.getfield 21, 3) := by decide +kernel
theorem dX0_compress_269 : decode cX0_compress 269 = .ok (.iconst 4, 1) := by decide +kernel
theorem dX0_compress_270 : decode cX0_compress 270 = .ok (.dup2, 1) := by decide +kernel
theorem dX0_compress_271 : decode cX0_compress 271 = .ok (.iaload, 1) := by decide +kernel
theorem dX0_compress_272 : decode cX0_compress 272 = .ok (.iload 6, 2) := by decide +kernel
theorem dX0_compress_274 : decode cX0_compress 274 = .ok (.iadd, 1) := by decide +kernel
theorem dX0_compress_275 : decode cX0_compress 275 = .ok (.iastore, 1) := by decide +kernel
theorem dX0_compress_276 : decode cX0_compress 276 = .ok (.aload_n 0, 1) := by decide +kernel
theorem dX0_compress_277 : decode cX0_compress 277 = .ok (.getfield 21, 3) := by decide +kernel
theorem dX0_compress_280 : decode cX0_compress 280 = .ok (.iconst 5, 1) := by decide +kernel
theorem dX0_compress_281 : decode cX0_compress 281 = .ok (.dup2, 1) := by decide +kernel
theorem dX0_compress_282 : decode cX0_compress 282 = .ok (.iaload, 1) := by decide +kernel
theorem dX0_compress_283 : decode cX0_compress 283 = .ok (.iload 7, 2) := by decide +kernel
theorem dX0_compress_285 : decode cX0_compress 285 = .ok (.iadd, 1) := by decide +kernel
theorem dX0_compress_286 : decode cX0_compress 286 = .ok (.iastore, 1) := by decide +kernel
theorem dX0_compress_287 : decode cX0_compress 287 = .ok (.aload_n 0, 1) := by decide +kernel
theorem dX0_compress_288 : decode cX0_compress 288 = .ok (.getfield 21, 3) := by decide +kernel
theorem dX0_compress_291 : decode cX0_compress 291 = .ok (.bipush 6, 2) := by decide +kernel
theorem dX0_compress_293 : decode cX0_compress 293 = .ok (.dup2, 1) := by decide +kernel
theorem dX0_compress_294 : decode cX0_compress 294 = .ok (.iaload, 1) := by decide +kernel
theorem dX0_compress_295 : decode cX0_compress 295 = .ok (.iload 8, 2) := by decide +kernel
theorem dX0_compress_297 : decode cX0_compress 297 = .ok (.iadd, 1) := by decide +kernel
theorem dX0_compress_298 : decode cX0_compress 298 = .ok (.iastore, 1) := by decide +kernel
theorem dX0_compress_299 : decode cX0_compress 299 = .ok (.aload_n 0, 1) := by decide +kernel
theorem dX0_compress_300 : decode cX0_compress 300 = .ok (.getfield 21, 3) := by decide +kernel
theorem dX0_compress_303 : decode cX0_compress 303 = .ok (.bipush 7, 2) := by decide +kernel
theorem dX0_compress_305 : decode cX0_compress 305 = .ok (.dup2, 1) := by decide +kernel
theorem dX0_compress_306 : decode cX0_compress 306 = .ok (.iaload, 1) := by decide +kernel
theorem dX0_compress_307 : decode cX0_compress 307 = .ok (.iload 9, 2) := by decide +kernel
theorem dX0_compress_309 : decode cX0_compress 309 = .ok (.iadd, 1) := by decide +kernel
theorem dX0_compress_310 : decode cX0_compress 310 = .ok (.iastore, 1) := by decide +kernel
theorem dX0_compress_311 : decode cX0_compress 311 = .ok (.return_, 1) := by decide +kernel
theorem dX0_spread_0 : decode cX0_spread 0 = .ok (.iconst 0, 1) := by decide +kernel
theorem dX0_spread_1 : decode cX0_spread 1 = .ok (.istore_n 2, 1) := by decide +kernel
theorem dX0_spread_2 : decode cX0_spread 2 = .ok (.iload_n 2, 1) := by decide +kernel
theorem dX0_spread_3 : decode cX0_spread 3 = .ok (.bipush 16, 2) := by decide +kernel
theorem dX0_spread_5 : decode cX0_spread 5 = .ok (.if_icmp .ge 23, 3) := by decide +kernel
theorem dX0_spread_8 : decode cX0_spread 8 = .ok (.aload_n 0, 1) := by decide +kernel
theorem dX0_spread_9 : decode cX0_spread 9 = .ok (.getfield 18, 3) := by decide +kernel
theorem dX0_spread_12 : decode cX0_spread 12 = .ok (.iload_n 2, 1) := by decide +kernel
theorem dX0_spread_13 : decode cX0_spread 13 = .ok (.aload_n 0, 1) := by decide +kernel
theorem dX0_spread_14 : decode cX0_spread 14 = .ok (.getfield 15, 3) := by decide +kernel
theorem dX0_spread_17 : decode cX0_spread 17 = .ok (.iload_n 1, 1) := by decide +kernel
theorem dX0_spread_18 : decode cX0_spread 18 = .ok (.iload_n 2, 1) := by decide +kernel
theorem dX0_spread_19 : decode cX0_spread 19 = .ok (.iadd, 1) := by decide +kernel
theorem dX0_spread_20 : decode cX0_spread 20 = .ok (.iaload, 1) := by decide +kernel
theorem dX0_spread_21 : decode cX0_spread 21 = .ok (.iastore, 1) := by decide +kernel
theorem dX0_spread_22 : decode cX0_spread 22 = .ok (.iinc 2 1, 3) := by decide +kernel
theorem dX0_spread_25 : decode cX0_spread 25 = .ok (.goto (-23), 3) := by decide +kernel
theorem dX0_spread_28 : decode cX0_spread 28 = .ok (.bipush 16, 2) := by decide +kernel
theorem dX0_spread_30 : decode cX0_spread 30 = .ok (.istore_n 2, 1) := by decide +kernel
theorem dX0_spread_31 : decode cX0_spread 31 = .ok (.iload_n 2, 1) := by decide +kernel
theorem dX0_spread_32 : decode cX0_spread 32 = .ok (.bipush 64, 2) := by decide +kernel
theorem dX0_spread_34 : decode cX0_spread 34 = .ok (.if_icmp .ge 102, 3) := by decide +kernel
theorem dX0_spread_37 : decode cX0_spread 37 = .ok (.aload_n 0, 1) := by decide +kernel
theorem dX0_spread_38 : decode cX0_spread 38 = .ok (.getfield 18, 3) := by decide +kernel
theorem dX0_spread_41 : decode cX0_spread 41 = .ok (.iload_n 2, 1) := by decide +kernel
theorem dX0_spread_42 : decode cX0_spread 42 = .ok (.bipush 15, 2) := by decide +kernel
theorem dX0_spread_44 : decode cX0_spread 44 = .ok (.isub, 1) := by decide +kernel
theorem dX0_spread_45 : decode cX0_spread 45 = .ok (.iaload, 1) := by decide +kernel
theorem dX0_spread_46 : decode cX0_spread 46 = .ok (.istore_n 3, 1) := by decide +kernel
theorem dX0_spread_47 : decode cX0_spread 47 = .ok (.aload_n 0, 1) := by decide +kernel
theorem dX0_spread_48 : decode cX0_spread 48 = .ok (.getfield 18, 3) := by decide +kernel
theorem dX0_spread_51 : decode cX0_spread 51 = .ok (.iload_n 2, 1) := by decide +kernel
theorem dX0_spread_52 : decode cX0_spread 52 = .ok (.iconst 2, 1) := by decide +kernel
theorem dX0_spread_53 : decode cX0_spread 53 = .ok (.isub, 1) := by decide +kernel
theorem dX0_spread_54 : decode cX0_spread 54 = .ok (.iaload, 1) := by decide +kernel
theorem dX0_spread_55 : decode cX0_spread 55 = .ok (.istore 4, 2) := by decide +kernel
theorem dX0_spread_57 : decode cX0_spread 57 = .ok (.iload_n 3, 1) := by decide +kernel
theorem dX0_spread_58 : decode cX0_spread 58 = .ok (.bipush 7, 2) := by decide +kernel
theorem dX0_spread_60 : decode cX0_spread 60 = .ok (.invokestatic 45, 3) := by decide +kernel
theorem dX0_spread_63 : decode cX0_spread 63 = .ok (.iload_n 3, 1) := by decide +kernel
theorem dX0_spread_64 : decode cX0_spread 64 = .ok (.bipush 18, 2) := by decide +kernel
theorem dX0_spread_66 : decode cX0_spread 66 = .ok (.invokestatic 45, 3) := by decide +kernel
theorem dX0_spread_69 : decode cX0_spread 69 = .ok (.ixor, 1) := by decide +kernel
theorem dX0_spread_70 : decode cX0_spread 70 = .ok (.iload_n 3, 1) := by decide +kernel
theorem dX0_spread_71 : decode cX0_spread 71 = .ok (.iconst 3, 1) := by decide +kernel
theorem dX0_spread_72 : decode cX0_spread 72 = .ok (.iushr, 1) := by decide +kernel
theorem dX0_spread_73 : decode cX0_spread 73 = .ok (.ixor, 1) := by decide +kernel
theorem dX0_spread_74 : decode cX0_spread 74 = .ok (.istore 5, 2) := by decide +kernel
theorem dX0_spread_76 : decode cX0_spread 76 = .ok (.iload 4, 2) := by decide +kernel
theorem dX0_spread_78 : decode cX0_spread 78 = .ok (.bipush 17, 2) := by decide +kernel
theorem dX0_spread_80 : decode cX0_spread 80 = .ok (.invokestatic 45, 3) := by decide +kernel
theorem dX0_spread_83 : decode cX0_spread 83 = .ok (.iload 4, 2) := by decide +kernel
theorem dX0_spread_85 : decode cX0_spread 85 = .ok (.bipush 19, 2) := by decide +kernel
theorem dX0_spread_87 : decode cX0_spread 87 = .ok (.invokestatic 45, 3) := by decide +kernel
theorem dX0_spread_90 : decode cX0_spread 90 = .ok (.ixor, 1) := by decide +kernel
theorem dX0_spread_91 : decode cX0_spread 91 = .ok (.iload 4, 2) := by decide +kernel
theorem dX0_spread_93 : decode cX0_spread 93 = .ok (.bipush 10, 2) := by decide +kernel
theorem dX0_spread_95 : decode cX0_spread 95 = .ok (.iushr, 1) := by decide +kernel
theorem dX0_spread_96 : decode cX0_spread 96 = .ok (.ixor, 1) := by decide +kernel
theorem dX0_spread_97 : decode cX0_spread 97 = .ok (.istore 6, 2) := by decide +kernel
theorem dX0_spread_99 : decode cX0_spread 99 = .ok (.aload_n 0, 1) := by decide +kernel
theorem dX0_spread_100 : decode cX0_spread 100 = .ok (.getfield 18, 3) := by decide +kernel
theorem dX0_spread_103 : decode cX0_spread 103 = .ok (.iload_n 2, 1) := by decide +kernel
theorem dX0_spread_104 : decode cX0_spread 104 = .ok (.iload 6, 2) := by decide +kernel
theorem dX0_spread_106 : decode cX0_spread 106 = .ok (.aload_n 0, 1) := by decide +kernel
theorem dX0_spread_107 : decode cX0_spread 107 = .ok (.getfield 18, 3) := by decide +kernel
theorem dX0_spread_110 : decode cX0_spread 110 = .ok (.iload_n 2, 1) := by decide +kernel
theorem dX0_spread_111 : decode cX0_spread 111 = .ok (.bipush 7, 2) := by decide +kernel
theorem dX0_spread_113 : decode cX0_spread 113 = .ok (.isub, 1) := by decide +kernel
theorem dX0_spread_114 : decode cX0_spread 114 = .ok (.iaload, 1) := by decide +kernel
theorem dX0_spread_115 : decode cX0_spread 115 = .ok (.iadd, 1) := by decide +kernel
theorem dX0_spread_116 : decode cX0_spread 116 = .ok (.iload 5, 2) := by decide +kernel
theorem dX0_spread_118 : decode cX0_spread 118 = .ok (.iadd, 1) := by decide +kernel
theorem dX0_spread_119 : decode cX0_spread 119 = .ok (.aload_n 0, 1) := by decide +kernel
theorem dX0_spread_120 : decode cX0_spread 120 = .ok (.getfield 18, 3) := by decide +kernel
theorem dX0_spread_123 : decode cX0_spread 123 = .ok (.iload_n 2, 1) := by decide +kernel
theorem dX0_spread_124 : decode cX0_spread 124 = .ok (.bipush 16, 2) := by decide +kernel
theorem dX0_spread_126 : decode cX0_spread 126 = .ok (.isub, 1) := by decide +kernel
theorem dX0_spread_127 : decode cX0_spread 127 = .ok (.iaload, 1) := by decide +kernel
theorem dX0_spread_128 : decode cX0_spread 128 = .ok (.iadd, 1) := by decide +kernel
theorem dX0_spread_129 : decode cX0_spread 129 = .ok (.iastore, 1) := by decide +kernel
theorem dX0_spread_130 : decode cX0_spread 130 = .ok (.iinc 2 1, 3) := by decide +kernel
theorem dX0_spread_133 : decode cX0_spread 133 = .ok (.goto (-102), 3) := by decide +kernel
theorem dX0_spread_136 : decode cX0_spread 136 = .ok (.return_, 1) := by decide +kernel
theorem dX0_turned_0 : decode cX0_turned 0 = .ok (.iload_n 0, 1) := by decide +kernel
theorem dX0_turned_1 : decode cX0_turned 1 = .ok (.iload_n 1, 1) := by decide +kernel
theorem dX0_turned_2 : decode cX0_turned 2 = .ok (.iushr, 1) := by decide +kernel
theorem dX0_turned_3 : decode cX0_turned 3 = .ok (.iload_n 0, 1) := by decide +kernel
theorem dX0_turned_4 : decode cX0_turned 4 = .ok (.bipush 32, 2) := by decide +kernel
theorem dX0_turned_6 : decode cX0_turned 6 = .ok (.iload_n 1, 1) := by decide +kernel
theorem dX0_turned_7 : decode cX0_turned 7 = .ok (.isub, 1) := by decide +kernel
theorem dX0_turned_8 : decode cX0_turned 8 = .ok (.ishl, 1) := by decide +kernel
theorem dX0_turned_9 : decode cX0_turned 9 = .ok (.ior, 1) := by decide +kernel
theorem dX0_turned_10 : decode cX0_turned 10 = .ok (.ireturn, 1) := by decide +kernel
theorem dX1_init_0 : decode cX1_init 0 = .ok (.aload_n 0, 1) := by decide +kernel
theorem dX1_init_1 : decode cX1_init 1 = .ok (.invokespecial 1, 3) := by decide +kernel
theorem dX1_init_4 : decode cX1_init 4 = .ok (.aload_n 0, 1) := by decide +kernel
theorem dX1_init_5 : decode cX1_init 5 = .ok (.iconst 1, 1) := by decide +kernel
theorem dX1_init_6 : decode cX1_init 6 = .ok (.putfield 7, 3) := by decide +kernel
theorem dX1_init_9 : decode cX1_init 9 = .ok (.aload_n 0, 1) := by decide +kernel
theorem dX1_init_10 : decode cX1_init 10 = .ok (.iload_n 1, 1) := by decide +kernel
theorem dX1_init_11 : decode cX1_init 11 = .ok (.putfield 13, 3) := by decide +kernel
theorem dX1_init_14 : decode cX1_init 14 = .ok (.aload_n 0, 1) := by decide +kernel
theorem dX1_init_15 : decode cX1_init 15 = .ok (.iload_n 2, 1) := by decide +kernel
theorem dX1_init_16 : decode cX1_init 16 = .ok (.putfield 16, 3) := by decide +kernel
theorem dX1_init_19 : decode cX1_init 19 = .ok (.aload_n 0, 1) := by decide +kernel
theorem dX1_init_20 : decode cX1_init 20 = .ok (.aconst_null, 1) := by decide +kernel
theorem dX1_init_21 : decode cX1_init 21 = .ok (.putfield 19, 3) := by decide +kernel
theorem dX1_init_24 : decode cX1_init 24 = .ok (.aload_n 0, 1) := by decide +kernel
theorem dX1_init_25 : decode cX1_init 25 = .ok (.aconst_null, 1) := by decide +kernel
theorem dX1_init_26 : decode cX1_init 26 = .ok (.putfield 23, 3) := by decide +kernel
theorem dX1_init_29 : decode cX1_init 29 = .ok (.aload_n 0, 1) := by decide +kernel
theorem dX1_init_30 : decode cX1_init 30 = .ok (.aconst_null, 1) := by decide +kernel
theorem dX1_init_31 : decode cX1_init 31 = .ok (.putfield 26, 3) := by decide +kernel
theorem dX1_init_34 : decode cX1_init 34 = .ok (.return_, 1) := by decide +kernel
theorem dX1_init__0 : decode cX1_init_ 0 = .ok (.aload_n 0, 1) := by decide +kernel
theorem dX1_init__1 : decode cX1_init_ 1 = .ok (.invokespecial 1, 3) := by decide +kernel
theorem dX1_init__4 : decode cX1_init_ 4 = .ok (.aload_n 0, 1) := by decide +kernel
theorem dX1_init__5 : decode cX1_init_ 5 = .ok (.aload_n 1, 1) := by decide +kernel
theorem dX1_init__6 : decode cX1_init_ 6 = .ok (.invokestatic 30, 3) := by decide +kernel
theorem dX1_init__9 : decode cX1_init_ 9 = .ok (.aload_n 2, 1) := by decide +kernel
theorem dX1_init__10 : decode cX1_init_ 10 = .ok (.invokestatic 30, 3) := by decide +kernel
theorem dX1_init__13 : decode cX1_init_ 13 = .ok (.iadd, 1) := by decide +kernel
theorem dX1_init__14 : decode cX1_init_ 14 = .ok (.putfield 7, 3) := by decide +kernel
theorem dX1_init__17 : decode cX1_init_ 17 = .ok (.aload_n 0, 1) := by decide +kernel
theorem dX1_init__18 : decode cX1_init_ 18 = .ok (.iconst 0, 1) := by decide +kernel
theorem dX1_init__19 : decode cX1_init_ 19 = .ok (.putfield 13, 3) := by decide +kernel
theorem dX1_init__22 : decode cX1_init_ 22 = .ok (.aload_n 0, 1) := by decide +kernel
theorem dX1_init__23 : decode cX1_init_ 23 = .ok (.iconst 0, 1) := by decide +kernel
theorem dX1_init__24 : decode cX1_init_ 24 = .ok (.putfield 16, 3) := by decide +kernel
theorem dX1_init__27 : decode cX1_init_ 27 = .ok (.aload_n 0, 1) := by decide +kernel
theorem dX1_init__28 : decode cX1_init_ 28 = .ok (.aload_n 1, 1) := by decide +kernel
theorem dX1_init__29 : decode cX1_init_ 29 = .ok (.putfield 19, 3) := by decide +kernel
theorem dX1_init__32 : decode cX1_init_ 32 = .ok (.aload_n 0, 1) := by decide +kernel
theorem dX1_init__33 : decode cX1_init_ 33 = .ok (.aload_n 2, 1) := by decide +kernel
theorem dX1_init__34 : decode cX1_init_ 34 = .ok (.putfield 23, 3) := by decide +kernel
theorem dX1_init__37 : decode cX1_init_ 37 = .ok (.aload_n 0, 1) := by decide +kernel
theorem dX1_init__38 : decode cX1_init_ 38 = .ok (.aconst_null, 1) := by decide +kernel
theorem dX1_init__39 : decode cX1_init_ 39 = .ok (.putfield 26, 3) := by decide +kernel
theorem dX1_init__42 : decode cX1_init_ 42 = .ok (.return_, 1) := by decide +kernel
theorem dX2_init_0 : decode cX2_init 0 = .ok (.aload_n 0, 1) := by decide +kernel
theorem dX2_init_1 : decode cX2_init 1 = .ok (.invokespecial 3, 3) := by decide +kernel
theorem dX2_init_4 : decode cX2_init 4 = .ok (.aload_n 0, 1) := by decide +kernel
theorem dX2_init_5 : decode cX2_init 5 = .ok (.bipush 16, 2) := by decide +kernel
theorem dX2_init_7 : decode cX2_init 7 = .ok (.bipush 8, 2) := by decide +kernel
theorem dX2_init_9 : decode cX2_init 9 = .ok (.multianewarray 9 2, 4) := by decide +kernel
theorem dX2_init_13 : decode cX2_init 13 = .ok (.putfield 11, 3) := by decide +kernel
theorem dX2_init_16 : decode cX2_init 16 = .ok (.aload_n 0, 1) := by decide +kernel
theorem dX2_init_17 : decode cX2_init 17 = .ok (.iconst 0, 1) := by decide +kernel
theorem dX2_init_18 : decode cX2_init 18 = .ok (.putfield 16, 3) := by decide +kernel
theorem dX2_init_21 : decode cX2_init 21 = .ok (.aload_n 0, 1) := by decide +kernel
theorem dX2_init_22 : decode cX2_init 22 = .ok (.iconst 0, 1) := by decide +kernel
theorem dX2_init_23 : decode cX2_init 23 = .ok (.putfield 20, 3) := by decide +kernel
theorem dX2_init_26 : decode cX2_init 26 = .ok (.aload_n 0, 1) := by decide +kernel
theorem dX2_init_27 : decode cX2_init 27 = .ok (.iconst 0, 1) := by decide +kernel
theorem dX2_init_28 : decode cX2_init 28 = .ok (.putfield 24, 3) := by decide +kernel
theorem dX2_init_31 : decode cX2_init 31 = .ok (.aload_n 0, 1) := by decide +kernel
theorem dX2_init_32 : decode cX2_init 32 = .ok (.iconst 0, 1) := by decide +kernel
theorem dX2_init_33 : decode cX2_init 33 = .ok (.putfield 27, 3) := by decide +kernel
theorem dX2_init_36 : decode cX2_init 36 = .ok (.return_, 1) := by decide +kernel
theorem dX2_endWithNothing_0 : decode cX2_endWithNothing 0 = .ok (.aload_n 0, 1) := by decide +kernel
theorem dX2_endWithNothing_1 : decode cX2_endWithNothing 1 = .ok (.iconst 0, 1) := by decide +kernel
theorem dX2_endWithNothing_2 : decode cX2_endWithNothing 2 = .ok (.putfield 20, 3) := by decide +kernel
theorem dX2_endWithNothing_5 : decode cX2_endWithNothing 5 = .ok (.aload_n 0, 1) := by decide +kernel
theorem dX2_endWithNothing_6 : decode cX2_endWithNothing 6 = .ok (.iconst 0, 1) := by decide +kernel
theorem dX2_endWithNothing_7 : decode cX2_endWithNothing 7 = .ok (.putfield 24, 3) := by decide +kernel
theorem dX2_endWithNothing_10 : decode cX2_endWithNothing 10 = .ok (.aload_n 0, 1) := by decide +kernel
theorem dX2_endWithNothing_11 : decode cX2_endWithNothing 11 = .ok (.iconst 0, 1) := by decide +kernel
theorem dX2_endWithNothing_12 : decode cX2_endWithNothing 12 = .ok (.putfield 27, 3) := by decide +kernel
theorem dX2_endWithNothing_15 : decode cX2_endWithNothing 15 = .ok (.return_, 1) := by decide +kernel
theorem dX2_endWithEntry_0 : decode cX2_endWithEntry 0 = .ok (.aload_n 0, 1) := by decide +kernel
theorem dX2_endWithEntry_1 : decode cX2_endWithEntry 1 = .ok (.iconst 1, 1) := by decide +kernel
theorem dX2_endWithEntry_2 : decode cX2_endWithEntry 2 = .ok (.putfield 20, 3) := by decide +kernel
theorem dX2_endWithEntry_5 : decode cX2_endWithEntry 5 = .ok (.aload_n 0, 1) := by decide +kernel
theorem dX2_endWithEntry_6 : decode cX2_endWithEntry 6 = .ok (.iload_n 1, 1) := by decide +kernel
theorem dX2_endWithEntry_7 : decode cX2_endWithEntry 7 = .ok (.putfield 24, 3) := by decide +kernel
theorem dX2_endWithEntry_10 : decode cX2_endWithEntry 10 = .ok (.aload_n 0, 1) := by decide +kernel
theorem dX2_endWithEntry_11 : decode cX2_endWithEntry 11 = .ok (.iload_n 2, 1) := by decide +kernel
theorem dX2_endWithEntry_12 : decode cX2_endWithEntry 12 = .ok (.putfield 27, 3) := by decide +kernel
theorem dX2_endWithEntry_15 : decode cX2_endWithEntry 15 = .ok (.return_, 1) := by decide +kernel
theorem dX3_init_0 : decode cX3_init 0 = .ok (.aload_n 0, 1) := by decide +kernel
theorem dX3_init_1 : decode cX3_init 1 = .ok (.invokespecial 1, 3) := by decide +kernel
theorem dX3_init_4 : decode cX3_init 4 = .ok (.aload_n 0, 1) := by decide +kernel
theorem dX3_init_5 : decode cX3_init 5 = .ok (.bipush 60, 2) := by decide +kernel
theorem dX3_init_7 : decode cX3_init 7 = .ok (.anewarray 9, 3) := by decide +kernel
theorem dX3_init_10 : decode cX3_init 10 = .ok (.putfield 11, 3) := by decide +kernel
theorem dX3_init_13 : decode cX3_init 13 = .ok (.aload_n 0, 1) := by decide +kernel
theorem dX3_init_14 : decode cX3_init 14 = .ok (.iconst 0, 1) := by decide +kernel
theorem dX3_init_15 : decode cX3_init 15 = .ok (.putfield 15, 3) := by decide +kernel
theorem dX3_init_18 : decode cX3_init 18 = .ok (.aload_n 0, 1) := by decide +kernel
theorem dX3_init_19 : decode cX3_init 19 = .ok (.aconst_null, 1) := by decide +kernel
theorem dX3_init_20 : decode cX3_init 20 = .ok (.putfield 19, 3) := by decide +kernel
theorem dX3_init_23 : decode cX3_init 23 = .ok (.aload_n 0, 1) := by decide +kernel
theorem dX3_init_24 : decode cX3_init 24 = .ok (.new 23, 3) := by decide +kernel
theorem dX3_init_27 : decode cX3_init 27 = .ok (.dup, 1) := by decide +kernel
theorem dX3_init_28 : decode cX3_init 28 = .ok (.invokespecial 25, 3) := by decide +kernel
theorem dX3_init_31 : decode cX3_init 31 = .ok (.putfield 26, 3) := by decide +kernel
theorem dX3_init_34 : decode cX3_init 34 = .ok (.aload_n 0, 1) := by decide +kernel
theorem dX3_init_35 : decode cX3_init 35 = .ok (.new 30, 3) := by decide +kernel
theorem dX3_init_38 : decode cX3_init 38 = .ok (.dup, 1) := by decide +kernel
theorem dX3_init_39 : decode cX3_init 39 = .ok (.invokespecial 32, 3) := by decide +kernel
theorem dX3_init_42 : decode cX3_init 42 = .ok (.putfield 33, 3) := by decide +kernel
theorem dX3_init_45 : decode cX3_init 45 = .ok (.aload_n 0, 1) := by decide +kernel
theorem dX3_init_46 : decode cX3_init 46 = .ok (.bipush 8, 2) := by decide +kernel
theorem dX3_init_48 : decode cX3_init 48 = .ok (.newarray .int, 2) := by decide +kernel
theorem dX3_init_50 : decode cX3_init 50 = .ok (.putfield 37, 3) := by decide +kernel
theorem dX3_init_53 : decode cX3_init 53 = .ok (.return_, 1) := by decide +kernel
theorem dX3_put_0 : decode cX3_put 0 = .ok (.iload_n 1, 1) := by decide +kernel
theorem dX3_put_1 : decode cX3_put 1 = .ok (.invokestatic 41, 3) := by decide +kernel
theorem dX3_put_4 : decode cX3_put 4 = .ok (.ifCond .ne 5, 3) := by decide +kernel
theorem dX3_put_7 : decode cX3_put 7 = .ok (.iconst (-1), 1) := by decide +kernel
theorem dX3_put_8 : decode cX3_put 8 = .ok (.ireturn, 1) := by decide +kernel
theorem dX3_put_9 : decode cX3_put 9 = .ok (.aload_n 0, 1) := by decide +kernel
theorem dX3_put_10 : decode cX3_put 10 = .ok (.getfield 19, 3) := by decide +kernel
theorem dX3_put_13 : decode cX3_put 13 = .ok (.iload_n 1, 1) := by decide +kernel
theorem dX3_put_14 : decode cX3_put 14 = .ok (.invokestatic 45, 3) := by decide +kernel
theorem dX3_put_17 : decode cX3_put 17 = .ok (.iload_n 1, 1) := by decide +kernel
theorem dX3_put_18 : decode cX3_put 18 = .ok (.invokestatic 49, 3) := by decide +kernel
theorem dX3_put_21 : decode cX3_put 21 = .ok (.istore_n 3, 1) := by decide +kernel
theorem dX3_put_22 : decode cX3_put 22 = .ok (.iload_n 3, 1) := by decide +kernel
theorem dX3_put_23 : decode cX3_put 23 = .ok (.ifCond .ne 19, 3) := by decide +kernel
theorem dX3_put_26 : decode cX3_put 26 = .ok (.aload_n 0, 1) := by decide +kernel
theorem dX3_put_27 : decode cX3_put 27 = .ok (.getfield 19, 3) := by decide +kernel
theorem dX3_put_30 : decode cX3_put 30 = .ok (.invokestatic 53, 3) := by decide +kernel
theorem dX3_put_33 : decode cX3_put 33 = .ok (.sipush 300, 3) := by decide +kernel
theorem dX3_put_36 : decode cX3_put 36 = .ok (.if_icmp .lt 6, 3) := by decide +kernel
theorem dX3_put_39 : decode cX3_put 39 = .ok (.bipush (-3), 2) := by decide +kernel
theorem dX3_put_41 : decode cX3_put 41 = .ok (.ireturn, 1) := by decide +kernel
theorem dX3_put_42 : decode cX3_put 42 = .ok (.aload_n 0, 1) := by decide +kernel
theorem dX3_put_43 : decode cX3_put 43 = .ok (.aload_n 0, 1) := by decide +kernel
theorem dX3_put_44 : decode cX3_put 44 = .ok (.getfield 19, 3) := by decide +kernel
theorem dX3_put_47 : decode cX3_put 47 = .ok (.iconst 0, 1) := by decide +kernel
theorem dX3_put_48 : decode cX3_put 48 = .ok (.iload_n 1, 1) := by decide +kernel
theorem dX3_put_49 : decode cX3_put 49 = .ok (.new 9, 3) := by decide +kernel
theorem dX3_put_52 : decode cX3_put 52 = .ok (.dup, 1) := by decide +kernel
theorem dX3_put_53 : decode cX3_put 53 = .ok (.iload_n 1, 1) := by decide +kernel
theorem dX3_put_54 : decode cX3_put 54 = .ok (.iload_n 2, 1) := by decide +kernel
theorem dX3_put_55 : decode cX3_put 55 = .ok (.invokespecial 57, 3) := by decide +kernel
theorem dX3_put_58 : decode cX3_put 58 = .ok (.invokestatic 60, 3) := by decide +kernel
theorem dX3_put_61 : decode cX3_put 61 = .ok (.putfield 19, 3) := by decide +kernel
theorem dX3_put_64 : decode cX3_put 64 = .ok (.iload_n 3, 1) := by decide +kernel
theorem dX3_put_65 : decode cX3_put 65 = .ok (.ifCond .eq 7, 3) := by decide +kernel
theorem dX3_put_68 : decode cX3_put 68 = .ok (.iconst 0, 1) := by decide +kernel
theorem dX3_put_69 : decode cX3_put 69 = .ok (.goto 4, 3) := by decide +kernel
theorem dX3_put_72 : decode cX3_put 72 = .ok (.iconst 1, 1) := by decide +kernel
theorem dX3_put_73 : decode cX3_put 73 = .ok (.ireturn, 1) := by decide +kernel
theorem dX3_remove_0 : decode cX3_remove 0 = .ok (.iload_n 1, 1) := by decide +kernel
theorem dX3_remove_1 : decode cX3_remove 1 = .ok (.invokestatic 41, 3) := by decide +kernel
theorem dX3_remove_4 : decode cX3_remove 4 = .ok (.ifCond .ne 5, 3) := by decide +kernel
theorem dX3_remove_7 : decode cX3_remove 7 = .ok (.iconst (-1), 1) := by decide +kernel
theorem dX3_remove_8 : decode cX3_remove 8 = .ok (.ireturn, 1) := by decide +kernel
theorem dX3_remove_9 : decode cX3_remove 9 = .ok (.aload_n 0, 1) := by decide +kernel
theorem dX3_remove_10 : decode cX3_remove 10 = .ok (.getfield 19, 3) := by decide +kernel
theorem dX3_remove_13 : decode cX3_remove 13 = .ok (.iload_n 1, 1) := by decide +kernel
theorem dX3_remove_14 : decode cX3_remove 14 = .ok (.invokestatic 45, 3) := by decide +kernel
theorem dX3_remove_17 : decode cX3_remove 17 = .ok (.iload_n 1, 1) := by decide +kernel
theorem dX3_remove_18 : decode cX3_remove 18 = .ok (.invokestatic 49, 3) := by decide +kernel
theorem dX3_remove_21 : decode cX3_remove 21 = .ok (.ifCond .ne 5, 3) := by decide +kernel
theorem dX3_remove_24 : decode cX3_remove 24 = .ok (.iconst 0, 1) := by decide +kernel
theorem dX3_remove_25 : decode cX3_remove 25 = .ok (.ireturn, 1) := by decide +kernel
theorem dX3_remove_26 : decode cX3_remove 26 = .ok (.aload_n 0, 1) := by decide +kernel
theorem dX3_remove_27 : decode cX3_remove 27 = .ok (.aload_n 0, 1) := by decide +kernel
theorem dX3_remove_28 : decode cX3_remove 28 = .ok (.getfield 19, 3) := by decide +kernel
theorem dX3_remove_31 : decode cX3_remove 31 = .ok (.iconst 0, 1) := by decide +kernel
theorem dX3_remove_32 : decode cX3_remove 32 = .ok (.iload_n 1, 1) := by decide +kernel
theorem dX3_remove_33 : decode cX3_remove 33 = .ok (.aconst_null, 1) := by decide +kernel
theorem dX3_remove_34 : decode cX3_remove 34 = .ok (.invokestatic 60, 3) := by decide +kernel
theorem dX3_remove_37 : decode cX3_remove 37 = .ok (.putfield 19, 3) := by decide +kernel
theorem dX3_remove_40 : decode cX3_remove 40 = .ok (.iconst 1, 1) := by decide +kernel
theorem dX3_remove_41 : decode cX3_remove 41 = .ok (.ireturn, 1) := by decide +kernel
theorem dX3_get_0 : decode cX3_get 0 = .ok (.aload_n 0, 1) := by decide +kernel
theorem dX3_get_1 : decode cX3_get 1 = .ok (.iload_n 1, 1) := by decide +kernel
theorem dX3_get_2 : decode cX3_get 2 = .ok (.invokevirtual 64, 3) := by decide +kernel
theorem dX3_get_5 : decode cX3_get 5 = .ok (.ifCond .eq 10, 3) := by decide +kernel
theorem dX3_get_8 : decode cX3_get 8 = .ok (.iload_n 2, 1) := by decide +kernel
theorem dX3_get_9 : decode cX3_get 9 = .ok (.invokestatic 41, 3) := by decide +kernel
theorem dX3_get_12 : decode cX3_get 12 = .ok (.ifCond .ne 7, 3) := by decide +kernel
theorem dX3_get_15 : decode cX3_get 15 = .ok (.ldc2_w 67, 3) := by decide +kernel
theorem dX3_get_18 : decode cX3_get 18 = .ok (.lreturn, 1) := by decide +kernel
theorem dX3_get_19 : decode cX3_get 19 = .ok (.aload_n 0, 1) := by decide +kernel
theorem dX3_get_20 : decode cX3_get 20 = .ok (.iload_n 1, 1) := by decide +kernel
theorem dX3_get_21 : decode cX3_get 21 = .ok (.invokevirtual 69, 3) := by decide +kernel
theorem dX3_get_24 : decode cX3_get 24 = .ok (.iload_n 2, 1) := by decide +kernel
theorem dX3_get_25 : decode cX3_get 25 = .ok (.invokestatic 45, 3) := by decide +kernel
theorem dX3_get_28 : decode cX3_get 28 = .ok (.astore_n 3, 1) := by decide +kernel
theorem dX3_get_29 : decode cX3_get 29 = .ok (.aload_n 3, 1) := by decide +kernel
theorem dX3_get_30 : decode cX3_get 30 = .ok (.ifnull 19, 3) := by decide +kernel
theorem dX3_get_33 : decode cX3_get 33 = .ok (.aload_n 3, 1) := by decide +kernel
theorem dX3_get_34 : decode cX3_get 34 = .ok (.iload_n 2, 1) := by decide +kernel
theorem dX3_get_35 : decode cX3_get 35 = .ok (.invokestatic 49, 3) := by decide +kernel
theorem dX3_get_38 : decode cX3_get 38 = .ok (.ifCond .eq 11, 3) := by decide +kernel
theorem dX3_get_41 : decode cX3_get 41 = .ok (.aload_n 3, 1) := by decide +kernel
theorem dX3_get_42 : decode cX3_get 42 = .ok (.getfield 73, 3) := by decide +kernel
theorem dX3_get_45 : decode cX3_get 45 = .ok (.i2l, 1) := by decide +kernel
theorem dX3_get_46 : decode cX3_get 46 = .ok (.goto 6, 3) := by decide +kernel
theorem dX3_get_49 : decode cX3_get 49 = .ok (.ldc2_w 67, 3) := by decide +kernel
theorem dX3_get_52 : decode cX3_get 52 = .ok (.lreturn, 1) := by decide +kernel
theorem dX3_size_0 : decode cX3_size 0 = .ok (.aload_n 0, 1) := by decide +kernel
theorem dX3_size_1 : decode cX3_size 1 = .ok (.iload_n 1, 1) := by decide +kernel
theorem dX3_size_2 : decode cX3_size 2 = .ok (.invokevirtual 64, 3) := by decide +kernel
theorem dX3_size_5 : decode cX3_size 5 = .ok (.ifCond .eq 14, 3) := by decide +kernel
theorem dX3_size_8 : decode cX3_size 8 = .ok (.aload_n 0, 1) := by decide +kernel
theorem dX3_size_9 : decode cX3_size 9 = .ok (.iload_n 1, 1) := by decide +kernel
theorem dX3_size_10 : decode cX3_size 10 = .ok (.invokevirtual 69, 3) := by decide +kernel
theorem dX3_size_13 : decode cX3_size 13 = .ok (.invokestatic 53, 3) := by decide +kernel
theorem dX3_size_16 : decode cX3_size 16 = .ok (.goto 4, 3) := by decide +kernel
theorem dX3_size_19 : decode cX3_size 19 = .ok (.iconst (-1), 1) := by decide +kernel
theorem dX3_size_20 : decode cX3_size 20 = .ok (.ireturn, 1) := by decide +kernel
theorem dX3_commit_0 : decode cX3_commit 0 = .ok (.aload_n 0, 1) := by decide +kernel
theorem dX3_commit_1 : decode cX3_commit 1 = .ok (.getfield 15, 3) := by decide +kernel
theorem dX3_commit_4 : decode cX3_commit 4 = .ok (.ifCond .lt 12, 3) := by decide +kernel
theorem dX3_commit_7 : decode cX3_commit 7 = .ok (.aload_n 0, 1) := by decide +kernel
theorem dX3_commit_8 : decode cX3_commit 8 = .ok (.getfield 15, 3) := by decide +kernel
theorem dX3_commit_11 : decode cX3_commit 11 = .ok (.bipush 60, 2) := by decide +kernel
theorem dX3_commit_13 : decode cX3_commit 13 = .ok (.if_icmp .lt 6, 3) := by decide +kernel
theorem dX3_commit_16 : decode cX3_commit 16 = .ok (.bipush (-3), 2) := by decide +kernel
theorem dX3_commit_18 : decode cX3_commit 18 = .ok (.ireturn, 1) := by decide +kernel
theorem dX3_commit_19 : decode cX3_commit 19 = .ok (.aload_n 0, 1) := by decide +kernel
theorem dX3_commit_20 : decode cX3_commit 20 = .ok (.getfield 15, 3) := by decide +kernel
theorem dX3_commit_23 : decode cX3_commit 23 = .ok (.istore_n 1, 1) := by decide +kernel
theorem dX3_commit_24 : decode cX3_commit 24 = .ok (.aload_n 0, 1) := by decide +kernel
theorem dX3_commit_25 : decode cX3_commit 25 = .ok (.getfield 11, 3) := by decide +kernel
theorem dX3_commit_28 : decode cX3_commit 28 = .ok (.iload_n 1, 1) := by decide +kernel
theorem dX3_commit_29 : decode cX3_commit 29 = .ok (.aload_n 0, 1) := by decide +kernel
theorem dX3_commit_30 : decode cX3_commit 30 = .ok (.getfield 19, 3) := by decide +kernel
theorem dX3_commit_33 : decode cX3_commit 33 = .ok (.aastore, 1) := by decide +kernel
theorem dX3_commit_34 : decode cX3_commit 34 = .ok (.aload_n 0, 1) := by decide +kernel
theorem dX3_commit_35 : decode cX3_commit 35 = .ok (.iload_n 1, 1) := by decide +kernel
theorem dX3_commit_36 : decode cX3_commit 36 = .ok (.iconst 1, 1) := by decide +kernel
theorem dX3_commit_37 : decode cX3_commit 37 = .ok (.iadd, 1) := by decide +kernel
theorem dX3_commit_38 : decode cX3_commit 38 = .ok (.putfield 15, 3) := by decide +kernel
theorem dX3_commit_41 : decode cX3_commit 41 = .ok (.iload_n 1, 1) := by decide +kernel
theorem dX3_commit_42 : decode cX3_commit 42 = .ok (.ireturn, 1) := by decide +kernel
theorem dX3_back_0 : decode cX3_back 0 = .ok (.iload_n 1, 1) := by decide +kernel
theorem dX3_back_1 : decode cX3_back 1 = .ok (.iconst (-1), 1) := by decide +kernel
theorem dX3_back_2 : decode cX3_back 2 = .ok (.if_icmp .eq 11, 3) := by decide +kernel
theorem dX3_back_5 : decode cX3_back 5 = .ok (.aload_n 0, 1) := by decide +kernel
theorem dX3_back_6 : decode cX3_back 6 = .ok (.iload_n 1, 1) := by decide +kernel
theorem dX3_back_7 : decode cX3_back 7 = .ok (.invokevirtual 64, 3) := by decide +kernel
theorem dX3_back_10 : decode cX3_back 10 = .ok (.ifCond .ne 5, 3) := by decide +kernel
theorem dX3_back_13 : decode cX3_back 13 = .ok (.iconst (-1), 1) := by decide +kernel
theorem dX3_back_14 : decode cX3_back 14 = .ok (.ireturn, 1) := by decide +kernel
theorem dX3_back_15 : decode cX3_back 15 = .ok (.aload_n 0, 1) := by decide +kernel
theorem dX3_back_16 : decode cX3_back 16 = .ok (.aload_n 0, 1) := by decide +kernel
theorem dX3_back_17 : decode cX3_back 17 = .ok (.iload_n 1, 1) := by decide +kernel
theorem dX3_back_18 : decode cX3_back 18 = .ok (.invokevirtual 69, 3) := by decide +kernel
theorem dX3_back_21 : decode cX3_back 21 = .ok (.putfield 19, 3) := by decide +kernel
end
section
theorem dX3_back_24 : decode cX3_back 24 = .ok (.aload_n 0, 1) := by decide +kernel
theorem dX3_back_25 : decode cX3_back 25 = .ok (.getfield 19, 3) := by decide +kernel
theorem dX3_back_28 : decode cX3_back 28 = .ok (.invokestatic 53, 3) := by decide +kernel
theorem dX3_back_31 : decode cX3_back 31 = .ok (.ireturn, 1) := by decide +kernel
theorem dX3_word_0 : decode cX3_word 0 = .ok (.aload_n 0, 1) := by decide +kernel
theorem dX3_word_1 : decode cX3_word 1 = .ok (.iload_n 1, 1) := by decide +kernel
theorem dX3_word_2 : decode cX3_word 2 = .ok (.invokevirtual 64, 3) := by decide +kernel
theorem dX3_word_5 : decode cX3_word 5 = .ok (.ifCond .eq 10, 3) := by decide +kernel
theorem dX3_word_8 : decode cX3_word 8 = .ok (.iload_n 2, 1) := by decide +kernel
theorem dX3_word_9 : decode cX3_word 9 = .ok (.invokestatic 76, 3) := by decide +kernel
theorem dX3_word_12 : decode cX3_word 12 = .ok (.ifCond .ne 5, 3) := by decide +kernel
theorem dX3_word_15 : decode cX3_word 15 = .ok (.iconst 0, 1) := by decide +kernel
theorem dX3_word_16 : decode cX3_word 16 = .ok (.ireturn, 1) := by decide +kernel
theorem dX3_word_17 : decode cX3_word 17 = .ok (.aload_n 0, 1) := by decide +kernel
theorem dX3_word_18 : decode cX3_word 18 = .ok (.iload_n 1, 1) := by decide +kernel
theorem dX3_word_19 : decode cX3_word 19 = .ok (.invokevirtual 69, 3) := by decide +kernel
theorem dX3_word_22 : decode cX3_word 22 = .ok (.iconst 0, 1) := by decide +kernel
theorem dX3_word_23 : decode cX3_word 23 = .ok (.aload_n 0, 1) := by decide +kernel
theorem dX3_word_24 : decode cX3_word 24 = .ok (.getfield 33, 3) := by decide +kernel
theorem dX3_word_27 : decode cX3_word 27 = .ok (.invokestatic 79, 3) := by decide +kernel
theorem dX3_word_30 : decode cX3_word 30 = .ok (.iload_n 2, 1) := by decide +kernel
theorem dX3_word_31 : decode cX3_word 31 = .ok (.iaload, 1) := by decide +kernel
theorem dX3_word_32 : decode cX3_word 32 = .ok (.ireturn, 1) := by decide +kernel
theorem dX3_prove_0 : decode cX3_prove 0 = .ok (.aload_n 0, 1) := by decide +kernel
theorem dX3_prove_1 : decode cX3_prove 1 = .ok (.iload_n 1, 1) := by decide +kernel
theorem dX3_prove_2 : decode cX3_prove 2 = .ok (.invokevirtual 64, 3) := by decide +kernel
theorem dX3_prove_5 : decode cX3_prove 5 = .ok (.ifCond .eq 10, 3) := by decide +kernel
theorem dX3_prove_8 : decode cX3_prove 8 = .ok (.iload_n 2, 1) := by decide +kernel
theorem dX3_prove_9 : decode cX3_prove 9 = .ok (.invokestatic 41, 3) := by decide +kernel
theorem dX3_prove_12 : decode cX3_prove 12 = .ok (.ifCond .ne 5, 3) := by decide +kernel
theorem dX3_prove_15 : decode cX3_prove 15 = .ok (.iconst (-1), 1) := by decide +kernel
theorem dX3_prove_16 : decode cX3_prove 16 = .ok (.ireturn, 1) := by decide +kernel
theorem dX3_prove_17 : decode cX3_prove 17 = .ok (.aload_n 0, 1) := by decide +kernel
theorem dX3_prove_18 : decode cX3_prove 18 = .ok (.iload_n 1, 1) := by decide +kernel
theorem dX3_prove_19 : decode cX3_prove 19 = .ok (.invokevirtual 69, 3) := by decide +kernel
theorem dX3_prove_22 : decode cX3_prove 22 = .ok (.astore_n 3, 1) := by decide +kernel
theorem dX3_prove_23 : decode cX3_prove 23 = .ok (.iconst 0, 1) := by decide +kernel
theorem dX3_prove_24 : decode cX3_prove 24 = .ok (.istore 4, 2) := by decide +kernel
theorem dX3_prove_26 : decode cX3_prove 26 = .ok (.iload 4, 2) := by decide +kernel
theorem dX3_prove_28 : decode cX3_prove 28 = .ok (.bipush 16, 2) := by decide +kernel
theorem dX3_prove_30 : decode cX3_prove 30 = .ok (.if_icmp .ge 68, 3) := by decide +kernel
theorem dX3_prove_33 : decode cX3_prove 33 = .ok (.aload_n 3, 1) := by decide +kernel
theorem dX3_prove_34 : decode cX3_prove 34 = .ok (.invokestatic 53, 3) := by decide +kernel
theorem dX3_prove_37 : decode cX3_prove 37 = .ok (.iconst 1, 1) := by decide +kernel
theorem dX3_prove_38 : decode cX3_prove 38 = .ok (.if_icmp .le 60, 3) := by decide +kernel
theorem dX3_prove_41 : decode cX3_prove 41 = .ok (.iload_n 2, 1) := by decide +kernel
theorem dX3_prove_42 : decode cX3_prove 42 = .ok (.iload 4, 2) := by decide +kernel
theorem dX3_prove_44 : decode cX3_prove 44 = .ok (.invokestatic 83, 3) := by decide +kernel
theorem dX3_prove_47 : decode cX3_prove 47 = .ok (.istore 5, 2) := by decide +kernel
theorem dX3_prove_49 : decode cX3_prove 49 = .ok (.aload_n 3, 1) := by decide +kernel
theorem dX3_prove_50 : decode cX3_prove 50 = .ok (.iload 4, 2) := by decide +kernel
theorem dX3_prove_52 : decode cX3_prove 52 = .ok (.iconst 1, 1) := by decide +kernel
theorem dX3_prove_53 : decode cX3_prove 53 = .ok (.iload 5, 2) := by decide +kernel
theorem dX3_prove_55 : decode cX3_prove 55 = .ok (.isub, 1) := by decide +kernel
theorem dX3_prove_56 : decode cX3_prove 56 = .ok (.invokestatic 87, 3) := by decide +kernel
theorem dX3_prove_59 : decode cX3_prove 59 = .ok (.iload 4, 2) := by decide +kernel
theorem dX3_prove_61 : decode cX3_prove 61 = .ok (.iconst 1, 1) := by decide +kernel
theorem dX3_prove_62 : decode cX3_prove 62 = .ok (.iadd, 1) := by decide +kernel
theorem dX3_prove_63 : decode cX3_prove 63 = .ok (.aload_n 0, 1) := by decide +kernel
theorem dX3_prove_64 : decode cX3_prove 64 = .ok (.getfield 33, 3) := by decide +kernel
theorem dX3_prove_67 : decode cX3_prove 67 = .ok (.invokestatic 79, 3) := by decide +kernel
theorem dX3_prove_70 : decode cX3_prove 70 = .ok (.aload_n 0, 1) := by decide +kernel
theorem dX3_prove_71 : decode cX3_prove 71 = .ok (.getfield 26, 3) := by decide +kernel
theorem dX3_prove_74 : decode cX3_prove 74 = .ok (.getfield 91, 3) := by decide +kernel
theorem dX3_prove_77 : decode cX3_prove 77 = .ok (.iload 4, 2) := by decide +kernel
theorem dX3_prove_79 : decode cX3_prove 79 = .ok (.aaload, 1) := by decide +kernel
theorem dX3_prove_80 : decode cX3_prove 80 = .ok (.invokestatic 95, 3) := by decide +kernel
theorem dX3_prove_83 : decode cX3_prove 83 = .ok (.aload_n 3, 1) := by decide +kernel
theorem dX3_prove_84 : decode cX3_prove 84 = .ok (.iload 4, 2) := by decide +kernel
theorem dX3_prove_86 : decode cX3_prove 86 = .ok (.iload 5, 2) := by decide +kernel
theorem dX3_prove_88 : decode cX3_prove 88 = .ok (.invokestatic 87, 3) := by decide +kernel
theorem dX3_prove_91 : decode cX3_prove 91 = .ok (.astore_n 3, 1) := by decide +kernel
theorem dX3_prove_92 : decode cX3_prove 92 = .ok (.iinc 4 1, 3) := by decide +kernel
theorem dX3_prove_95 : decode cX3_prove 95 = .ok (.goto (-69), 3) := by decide +kernel
theorem dX3_prove_98 : decode cX3_prove 98 = .ok (.aload_n 0, 1) := by decide +kernel
theorem dX3_prove_99 : decode cX3_prove 99 = .ok (.getfield 26, 3) := by decide +kernel
theorem dX3_prove_102 : decode cX3_prove 102 = .ok (.iload 4, 2) := by decide +kernel
theorem dX3_prove_104 : decode cX3_prove 104 = .ok (.putfield 99, 3) := by decide +kernel
theorem dX3_prove_107 : decode cX3_prove 107 = .ok (.aload_n 3, 1) := by decide +kernel
theorem dX3_prove_108 : decode cX3_prove 108 = .ok (.ifnonnull 13, 3) := by decide +kernel
theorem dX3_prove_111 : decode cX3_prove 111 = .ok (.aload_n 0, 1) := by decide +kernel
theorem dX3_prove_112 : decode cX3_prove 112 = .ok (.getfield 26, 3) := by decide +kernel
theorem dX3_prove_115 : decode cX3_prove 115 = .ok (.invokevirtual 102, 3) := by decide +kernel
theorem dX3_prove_118 : decode cX3_prove 118 = .ok (.goto 18, 3) := by decide +kernel
theorem dX3_prove_121 : decode cX3_prove 121 = .ok (.aload_n 0, 1) := by decide +kernel
theorem dX3_prove_122 : decode cX3_prove 122 = .ok (.getfield 26, 3) := by decide +kernel
theorem dX3_prove_125 : decode cX3_prove 125 = .ok (.aload_n 3, 1) := by decide +kernel
theorem dX3_prove_126 : decode cX3_prove 126 = .ok (.getfield 105, 3) := by decide +kernel
theorem dX3_prove_129 : decode cX3_prove 129 = .ok (.aload_n 3, 1) := by decide +kernel
theorem dX3_prove_130 : decode cX3_prove 130 = .ok (.getfield 73, 3) := by decide +kernel
theorem dX3_prove_133 : decode cX3_prove 133 = .ok (.invokevirtual 108, 3) := by decide +kernel
theorem dX3_prove_136 : decode cX3_prove 136 = .ok (.iload 4, 2) := by decide +kernel
theorem dX3_prove_138 : decode cX3_prove 138 = .ok (.ireturn, 1) := by decide +kernel
theorem dX3_siblings_0 : decode cX3_siblings 0 = .ok (.aload_n 0, 1) := by decide +kernel
theorem dX3_siblings_1 : decode cX3_siblings 1 = .ok (.getfield 26, 3) := by decide +kernel
theorem dX3_siblings_4 : decode cX3_siblings 4 = .ok (.getfield 99, 3) := by decide +kernel
theorem dX3_siblings_7 : decode cX3_siblings 7 = .ok (.ireturn, 1) := by decide +kernel
theorem dX3_sibling_0 : decode cX3_sibling 0 = .ok (.aload_n 0, 1) := by decide +kernel
theorem dX3_sibling_1 : decode cX3_sibling 1 = .ok (.iload_n 1, 1) := by decide +kernel
theorem dX3_sibling_2 : decode cX3_sibling 2 = .ok (.invokevirtual 111, 3) := by decide +kernel
theorem dX3_sibling_5 : decode cX3_sibling 5 = .ok (.ifCond .eq 24, 3) := by decide +kernel
theorem dX3_sibling_8 : decode cX3_sibling 8 = .ok (.iload_n 2, 1) := by decide +kernel
theorem dX3_sibling_9 : decode cX3_sibling 9 = .ok (.invokestatic 76, 3) := by decide +kernel
theorem dX3_sibling_12 : decode cX3_sibling 12 = .ok (.ifCond .eq 17, 3) := by decide +kernel
theorem dX3_sibling_15 : decode cX3_sibling 15 = .ok (.aload_n 0, 1) := by decide +kernel
theorem dX3_sibling_16 : decode cX3_sibling 16 = .ok (.getfield 26, 3) := by decide +kernel
theorem dX3_sibling_19 : decode cX3_sibling 19 = .ok (.getfield 91, 3) := by decide +kernel
theorem dX3_sibling_22 : decode cX3_sibling 22 = .ok (.iload_n 1, 1) := by decide +kernel
theorem dX3_sibling_23 : decode cX3_sibling 23 = .ok (.aaload, 1) := by decide +kernel
theorem dX3_sibling_24 : decode cX3_sibling 24 = .ok (.iload_n 2, 1) := by decide +kernel
theorem dX3_sibling_25 : decode cX3_sibling 25 = .ok (.iaload, 1) := by decide +kernel
theorem dX3_sibling_26 : decode cX3_sibling 26 = .ok (.goto 4, 3) := by decide +kernel
theorem dX3_sibling_29 : decode cX3_sibling 29 = .ok (.iconst 0, 1) := by decide +kernel
theorem dX3_sibling_30 : decode cX3_sibling 30 = .ok (.ireturn, 1) := by decide +kernel
theorem dX3_end_0 : decode cX3_end 0 = .ok (.iload_n 1, 1) := by decide +kernel
theorem dX3_end_1 : decode cX3_end 1 = .ok (.tableswitch 59 0 2 #[27, 43, 51], 27) := by decide +kernel
theorem dX3_end_28 : decode cX3_end 28 = .ok (.aload_n 0, 1) := by decide +kernel
theorem dX3_end_29 : decode cX3_end 29 = .ok (.getfield 26, 3) := by decide +kernel
theorem dX3_end_32 : decode cX3_end 32 = .ok (.getfield 114, 3) := by decide +kernel
theorem dX3_end_35 : decode cX3_end 35 = .ok (.ifCond .eq 7, 3) := by decide +kernel
theorem dX3_end_38 : decode cX3_end 38 = .ok (.iconst 1, 1) := by decide +kernel
theorem dX3_end_39 : decode cX3_end 39 = .ok (.goto 4, 3) := by decide +kernel
theorem dX3_end_42 : decode cX3_end 42 = .ok (.iconst 0, 1) := by decide +kernel
theorem dX3_end_43 : decode cX3_end 43 = .ok (.ireturn, 1) := by decide +kernel
theorem dX3_end_44 : decode cX3_end 44 = .ok (.aload_n 0, 1) := by decide +kernel
theorem dX3_end_45 : decode cX3_end 45 = .ok (.getfield 26, 3) := by decide +kernel
theorem dX3_end_48 : decode cX3_end 48 = .ok (.getfield 118, 3) := by decide +kernel
theorem dX3_end_51 : decode cX3_end 51 = .ok (.ireturn, 1) := by decide +kernel
theorem dX3_end_52 : decode cX3_end 52 = .ok (.aload_n 0, 1) := by decide +kernel
theorem dX3_end_53 : decode cX3_end 53 = .ok (.getfield 26, 3) := by decide +kernel
theorem dX3_end_56 : decode cX3_end 56 = .ok (.getfield 119, 3) := by decide +kernel
theorem dX3_end_59 : decode cX3_end 59 = .ok (.ireturn, 1) := by decide +kernel
theorem dX3_end_60 : decode cX3_end 60 = .ok (.iconst (-1), 1) := by decide +kernel
theorem dX3_end_61 : decode cX3_end 61 = .ok (.ireturn, 1) := by decide +kernel
theorem dX3_alter_0 : decode cX3_alter 0 = .ok (.aload_n 0, 1) := by decide +kernel
theorem dX3_alter_1 : decode cX3_alter 1 = .ok (.iload_n 1, 1) := by decide +kernel
theorem dX3_alter_2 : decode cX3_alter 2 = .ok (.invokevirtual 111, 3) := by decide +kernel
theorem dX3_alter_5 : decode cX3_alter 5 = .ok (.ifCond .eq 10, 3) := by decide +kernel
theorem dX3_alter_8 : decode cX3_alter 8 = .ok (.iload_n 2, 1) := by decide +kernel
theorem dX3_alter_9 : decode cX3_alter 9 = .ok (.invokestatic 76, 3) := by decide +kernel
theorem dX3_alter_12 : decode cX3_alter 12 = .ok (.ifCond .ne 5, 3) := by decide +kernel
theorem dX3_alter_15 : decode cX3_alter 15 = .ok (.iconst (-1), 1) := by decide +kernel
theorem dX3_alter_16 : decode cX3_alter 16 = .ok (.ireturn, 1) := by decide +kernel
theorem dX3_alter_17 : decode cX3_alter 17 = .ok (.aload_n 0, 1) := by decide +kernel
theorem dX3_alter_18 : decode cX3_alter 18 = .ok (.getfield 26, 3) := by decide +kernel
theorem dX3_alter_21 : decode cX3_alter 21 = .ok (.getfield 91, 3) := by decide +kernel
theorem dX3_alter_24 : decode cX3_alter 24 = .ok (.iload_n 1, 1) := by decide +kernel
theorem dX3_alter_25 : decode cX3_alter 25 = .ok (.aaload, 1) := by decide +kernel
theorem dX3_alter_26 : decode cX3_alter 26 = .ok (.iload_n 2, 1) := by decide +kernel
theorem dX3_alter_27 : decode cX3_alter 27 = .ok (.dup2, 1) := by decide +kernel
theorem dX3_alter_28 : decode cX3_alter 28 = .ok (.iaload, 1) := by decide +kernel
theorem dX3_alter_29 : decode cX3_alter 29 = .ok (.iload_n 3, 1) := by decide +kernel
theorem dX3_alter_30 : decode cX3_alter 30 = .ok (.ixor, 1) := by decide +kernel
theorem dX3_alter_31 : decode cX3_alter 31 = .ok (.iastore, 1) := by decide +kernel
theorem dX3_alter_32 : decode cX3_alter 32 = .ok (.iconst 1, 1) := by decide +kernel
theorem dX3_alter_33 : decode cX3_alter 33 = .ok (.ireturn, 1) := by decide +kernel
theorem dX3_claim_0 : decode cX3_claim 0 = .ok (.iload_n 1, 1) := by decide +kernel
theorem dX3_claim_1 : decode cX3_claim 1 = .ok (.iconst (-1), 1) := by decide +kernel
theorem dX3_claim_2 : decode cX3_claim 2 = .ok (.if_icmp .ne 12, 3) := by decide +kernel
theorem dX3_claim_5 : decode cX3_claim 5 = .ok (.aload_n 0, 1) := by decide +kernel
theorem dX3_claim_6 : decode cX3_claim 6 = .ok (.getfield 26, 3) := by decide +kernel
theorem dX3_claim_9 : decode cX3_claim 9 = .ok (.invokevirtual 102, 3) := by decide +kernel
theorem dX3_claim_12 : decode cX3_claim 12 = .ok (.iconst 1, 1) := by decide +kernel
theorem dX3_claim_13 : decode cX3_claim 13 = .ok (.ireturn, 1) := by decide +kernel
theorem dX3_claim_14 : decode cX3_claim 14 = .ok (.iload_n 1, 1) := by decide +kernel
theorem dX3_claim_15 : decode cX3_claim 15 = .ok (.invokestatic 41, 3) := by decide +kernel
theorem dX3_claim_18 : decode cX3_claim 18 = .ok (.ifCond .ne 5, 3) := by decide +kernel
theorem dX3_claim_21 : decode cX3_claim 21 = .ok (.iconst (-1), 1) := by decide +kernel
theorem dX3_claim_22 : decode cX3_claim 22 = .ok (.ireturn, 1) := by decide +kernel
theorem dX3_claim_23 : decode cX3_claim 23 = .ok (.aload_n 0, 1) := by decide +kernel
theorem dX3_claim_24 : decode cX3_claim 24 = .ok (.getfield 26, 3) := by decide +kernel
theorem dX3_claim_27 : decode cX3_claim 27 = .ok (.iload_n 1, 1) := by decide +kernel
theorem dX3_claim_28 : decode cX3_claim 28 = .ok (.iload_n 2, 1) := by decide +kernel
theorem dX3_claim_29 : decode cX3_claim 29 = .ok (.invokevirtual 108, 3) := by decide +kernel
theorem dX3_claim_32 : decode cX3_claim 32 = .ok (.iconst 1, 1) := by decide +kernel
theorem dX3_claim_33 : decode cX3_claim 33 = .ok (.ireturn, 1) := by decide +kernel
theorem dX3_cut_0 : decode cX3_cut 0 = .ok (.iload_n 1, 1) := by decide +kernel
theorem dX3_cut_1 : decode cX3_cut 1 = .ok (.ifCond .lt 14, 3) := by decide +kernel
theorem dX3_cut_4 : decode cX3_cut 4 = .ok (.iload_n 1, 1) := by decide +kernel
theorem dX3_cut_5 : decode cX3_cut 5 = .ok (.aload_n 0, 1) := by decide +kernel
theorem dX3_cut_6 : decode cX3_cut 6 = .ok (.getfield 26, 3) := by decide +kernel
theorem dX3_cut_9 : decode cX3_cut 9 = .ok (.getfield 99, 3) := by decide +kernel
theorem dX3_cut_12 : decode cX3_cut 12 = .ok (.if_icmp .le 5, 3) := by decide +kernel
theorem dX3_cut_15 : decode cX3_cut 15 = .ok (.iconst (-1), 1) := by decide +kernel
theorem dX3_cut_16 : decode cX3_cut 16 = .ok (.ireturn, 1) := by decide +kernel
theorem dX3_cut_17 : decode cX3_cut 17 = .ok (.aload_n 0, 1) := by decide +kernel
theorem dX3_cut_18 : decode cX3_cut 18 = .ok (.getfield 26, 3) := by decide +kernel
theorem dX3_cut_21 : decode cX3_cut 21 = .ok (.iload_n 1, 1) := by decide +kernel
theorem dX3_cut_22 : decode cX3_cut 22 = .ok (.putfield 99, 3) := by decide +kernel
theorem dX3_cut_25 : decode cX3_cut 25 = .ok (.iconst 1, 1) := by decide +kernel
theorem dX3_cut_26 : decode cX3_cut 26 = .ok (.ireturn, 1) := by decide +kernel
theorem dX3_verify_0 : decode cX3_verify 0 = .ok (.aload_n 0, 1) := by decide +kernel
theorem dX3_verify_1 : decode cX3_verify 1 = .ok (.iload_n 1, 1) := by decide +kernel
theorem dX3_verify_2 : decode cX3_verify 2 = .ok (.invokevirtual 64, 3) := by decide +kernel
theorem dX3_verify_5 : decode cX3_verify 5 = .ok (.ifCond .eq 10, 3) := by decide +kernel
theorem dX3_verify_8 : decode cX3_verify 8 = .ok (.iload_n 2, 1) := by decide +kernel
theorem dX3_verify_9 : decode cX3_verify 9 = .ok (.invokestatic 41, 3) := by decide +kernel
theorem dX3_verify_12 : decode cX3_verify 12 = .ok (.ifCond .ne 5, 3) := by decide +kernel
theorem dX3_verify_15 : decode cX3_verify 15 = .ok (.iconst (-1), 1) := by decide +kernel
theorem dX3_verify_16 : decode cX3_verify 16 = .ok (.ireturn, 1) := by decide +kernel
theorem dX3_verify_17 : decode cX3_verify 17 = .ok (.aload_n 0, 1) := by decide +kernel
theorem dX3_verify_18 : decode cX3_verify 18 = .ok (.getfield 26, 3) := by decide +kernel
theorem dX3_verify_21 : decode cX3_verify 21 = .ok (.getfield 114, 3) := by decide +kernel
theorem dX3_verify_24 : decode cX3_verify 24 = .ok (.ifCond .eq 27, 3) := by decide +kernel
theorem dX3_verify_27 : decode cX3_verify 27 = .ok (.aload_n 0, 1) := by decide +kernel
theorem dX3_verify_28 : decode cX3_verify 28 = .ok (.getfield 26, 3) := by decide +kernel
theorem dX3_verify_31 : decode cX3_verify 31 = .ok (.getfield 118, 3) := by decide +kernel
theorem dX3_verify_34 : decode cX3_verify 34 = .ok (.iload_n 2, 1) := by decide +kernel
theorem dX3_verify_35 : decode cX3_verify 35 = .ok (.invokestatic 120, 3) := by decide +kernel
theorem dX3_verify_38 : decode cX3_verify 38 = .ok (.aload_n 0, 1) := by decide +kernel
theorem dX3_verify_39 : decode cX3_verify 39 = .ok (.getfield 26, 3) := by decide +kernel
theorem dX3_verify_42 : decode cX3_verify 42 = .ok (.getfield 99, 3) := by decide +kernel
theorem dX3_verify_45 : decode cX3_verify 45 = .ok (.if_icmp .ge 6, 3) := by decide +kernel
theorem dX3_verify_48 : decode cX3_verify 48 = .ok (.bipush (-2), 2) := by decide +kernel
theorem dX3_verify_50 : decode cX3_verify 50 = .ok (.ireturn, 1) := by decide +kernel
theorem dX3_verify_51 : decode cX3_verify 51 = .ok (.aload_n 0, 1) := by decide +kernel
theorem dX3_verify_52 : decode cX3_verify 52 = .ok (.iload_n 2, 1) := by decide +kernel
theorem dX3_verify_53 : decode cX3_verify 53 = .ok (.invokevirtual 123, 3) := by decide +kernel
theorem dX3_verify_56 : decode cX3_verify 56 = .ok (.aload_n 0, 1) := by decide +kernel
theorem dX3_verify_57 : decode cX3_verify 57 = .ok (.getfield 37, 3) := by decide +kernel
theorem dX3_verify_60 : decode cX3_verify 60 = .ok (.aload_n 0, 1) := by decide +kernel
theorem dX3_verify_61 : decode cX3_verify 61 = .ok (.iload_n 1, 1) := by decide +kernel
theorem dX3_verify_62 : decode cX3_verify 62 = .ok (.invokevirtual 69, 3) := by decide +kernel
theorem dX3_verify_65 : decode cX3_verify 65 = .ok (.iconst 0, 1) := by decide +kernel
theorem dX3_verify_66 : decode cX3_verify 66 = .ok (.aload_n 0, 1) := by decide +kernel
theorem dX3_verify_67 : decode cX3_verify 67 = .ok (.getfield 33, 3) := by decide +kernel
theorem dX3_verify_70 : decode cX3_verify 70 = .ok (.invokestatic 79, 3) := by decide +kernel
theorem dX3_verify_73 : decode cX3_verify 73 = .ok (.invokestatic 127, 3) := by decide +kernel
theorem dX3_verify_76 : decode cX3_verify 76 = .ok (.ifCond .ne 6, 3) := by decide +kernel
theorem dX3_verify_79 : decode cX3_verify 79 = .ok (.bipush (-2), 2) := by decide +kernel
theorem dX3_verify_81 : decode cX3_verify 81 = .ok (.ireturn, 1) := by decide +kernel
theorem dX3_verify_82 : decode cX3_verify 82 = .ok (.aload_n 0, 1) := by decide +kernel
theorem dX3_verify_83 : decode cX3_verify 83 = .ok (.getfield 26, 3) := by decide +kernel
theorem dX3_verify_86 : decode cX3_verify 86 = .ok (.getfield 114, 3) := by decide +kernel
theorem dX3_verify_89 : decode cX3_verify 89 = .ok (.ifCond .eq 18, 3) := by decide +kernel
theorem dX3_verify_92 : decode cX3_verify 92 = .ok (.aload_n 0, 1) := by decide +kernel
theorem dX3_verify_93 : decode cX3_verify 93 = .ok (.getfield 26, 3) := by decide +kernel
theorem dX3_verify_96 : decode cX3_verify 96 = .ok (.getfield 118, 3) := by decide +kernel
theorem dX3_verify_99 : decode cX3_verify 99 = .ok (.iload_n 2, 1) := by decide +kernel
theorem dX3_verify_100 : decode cX3_verify 100 = .ok (.if_icmp .ne 7, 3) := by decide +kernel
theorem dX3_verify_103 : decode cX3_verify 103 = .ok (.iconst 1, 1) := by decide +kernel
theorem dX3_verify_104 : decode cX3_verify 104 = .ok (.goto 4, 3) := by decide +kernel
theorem dX3_verify_107 : decode cX3_verify 107 = .ok (.iconst 0, 1) := by decide +kernel
theorem dX3_verify_108 : decode cX3_verify 108 = .ok (.ireturn, 1) := by decide +kernel
theorem dX3_alike_0 : decode cX3_alike 0 = .ok (.iload_n 1, 1) := by decide +kernel
theorem dX3_alike_1 : decode cX3_alike 1 = .ok (.invokestatic 41, 3) := by decide +kernel
theorem dX3_alike_4 : decode cX3_alike 4 = .ok (.ifCond .eq 18, 3) := by decide +kernel
theorem dX3_alike_7 : decode cX3_alike 7 = .ok (.iload_n 2, 1) := by decide +kernel
theorem dX3_alike_8 : decode cX3_alike 8 = .ok (.invokestatic 41, 3) := by decide +kernel
theorem dX3_alike_11 : decode cX3_alike 11 = .ok (.ifCond .eq 11, 3) := by decide +kernel
theorem dX3_alike_14 : decode cX3_alike 14 = .ok (.iload_n 1, 1) := by decide +kernel
theorem dX3_alike_15 : decode cX3_alike 15 = .ok (.iload_n 2, 1) := by decide +kernel
theorem dX3_alike_16 : decode cX3_alike 16 = .ok (.invokestatic 120, 3) := by decide +kernel
theorem dX3_alike_19 : decode cX3_alike 19 = .ok (.goto 4, 3) := by decide +kernel
theorem dX3_alike_22 : decode cX3_alike 22 = .ok (.iconst (-1), 1) := by decide +kernel
theorem dX3_alike_23 : decode cX3_alike 23 = .ok (.ireturn, 1) := by decide +kernel
theorem dX3_versions_0 : decode cX3_versions 0 = .ok (.aload_n 0, 1) := by decide +kernel
theorem dX3_versions_1 : decode cX3_versions 1 = .ok (.getfield 15, 3) := by decide +kernel
theorem dX3_versions_4 : decode cX3_versions 4 = .ok (.ireturn, 1) := by decide +kernel
theorem dX3_isKey_0 : decode cX3_isKey 0 = .ok (.iload_n 0, 1) := by decide +kernel
theorem dX3_isKey_1 : decode cX3_isKey 1 = .ok (.ifCond .lt 13, 3) := by decide +kernel
theorem dX3_isKey_4 : decode cX3_isKey 4 = .ok (.iload_n 0, 1) := by decide +kernel
theorem dX3_isKey_5 : decode cX3_isKey 5 = .ok (.ldc 131, 2) := by decide +kernel
theorem dX3_isKey_7 : decode cX3_isKey 7 = .ok (.if_icmp .ge 7, 3) := by decide +kernel
theorem dX3_isKey_10 : decode cX3_isKey 10 = .ok (.iconst 1, 1) := by decide +kernel
theorem dX3_isKey_11 : decode cX3_isKey 11 = .ok (.goto 4, 3) := by decide +kernel
theorem dX3_isKey_14 : decode cX3_isKey 14 = .ok (.iconst 0, 1) := by decide +kernel
theorem dX3_isKey_15 : decode cX3_isKey 15 = .ok (.ireturn, 1) := by decide +kernel
theorem dX3_isWord_0 : decode cX3_isWord 0 = .ok (.iload_n 0, 1) := by decide +kernel
theorem dX3_isWord_1 : decode cX3_isWord 1 = .ok (.ifCond .lt 13, 3) := by decide +kernel
theorem dX3_isWord_4 : decode cX3_isWord 4 = .ok (.iload_n 0, 1) := by decide +kernel
theorem dX3_isWord_5 : decode cX3_isWord 5 = .ok (.bipush 8, 2) := by decide +kernel
theorem dX3_isWord_7 : decode cX3_isWord 7 = .ok (.if_icmp .ge 7, 3) := by decide +kernel
theorem dX3_isWord_10 : decode cX3_isWord 10 = .ok (.iconst 1, 1) := by decide +kernel
theorem dX3_isWord_11 : decode cX3_isWord 11 = .ok (.goto 4, 3) := by decide +kernel
theorem dX3_isWord_14 : decode cX3_isWord 14 = .ok (.iconst 0, 1) := by decide +kernel
theorem dX3_isWord_15 : decode cX3_isWord 15 = .ok (.ireturn, 1) := by decide +kernel
theorem dX3_isVersion_0 : decode cX3_isVersion 0 = .ok (.iload_n 1, 1) := by decide +kernel
theorem dX3_isVersion_1 : decode cX3_isVersion 1 = .ok (.iconst (-1), 1) := by decide +kernel
theorem dX3_isVersion_2 : decode cX3_isVersion 2 = .ok (.if_icmp .lt 15, 3) := by decide +kernel
theorem dX3_isVersion_5 : decode cX3_isVersion 5 = .ok (.iload_n 1, 1) := by decide +kernel
theorem dX3_isVersion_6 : decode cX3_isVersion 6 = .ok (.aload_n 0, 1) := by decide +kernel
theorem dX3_isVersion_7 : decode cX3_isVersion 7 = .ok (.getfield 15, 3) := by decide +kernel
theorem dX3_isVersion_10 : decode cX3_isVersion 10 = .ok (.if_icmp .ge 7, 3) := by decide +kernel
theorem dX3_isVersion_13 : decode cX3_isVersion 13 = .ok (.iconst 1, 1) := by decide +kernel
theorem dX3_isVersion_14 : decode cX3_isVersion 14 = .ok (.goto 4, 3) := by decide +kernel
theorem dX3_isVersion_17 : decode cX3_isVersion 17 = .ok (.iconst 0, 1) := by decide +kernel
theorem dX3_isVersion_18 : decode cX3_isVersion 18 = .ok (.ireturn, 1) := by decide +kernel
theorem dX3_isSibling_0 : decode cX3_isSibling 0 = .ok (.iload_n 1, 1) := by decide +kernel
theorem dX3_isSibling_1 : decode cX3_isSibling 1 = .ok (.ifCond .lt 24, 3) := by decide +kernel
theorem dX3_isSibling_4 : decode cX3_isSibling 4 = .ok (.iload_n 1, 1) := by decide +kernel
theorem dX3_isSibling_5 : decode cX3_isSibling 5 = .ok (.aload_n 0, 1) := by decide +kernel
theorem dX3_isSibling_6 : decode cX3_isSibling 6 = .ok (.getfield 26, 3) := by decide +kernel
theorem dX3_isSibling_9 : decode cX3_isSibling 9 = .ok (.getfield 99, 3) := by decide +kernel
theorem dX3_isSibling_12 : decode cX3_isSibling 12 = .ok (.if_icmp .ge 13, 3) := by decide +kernel
theorem dX3_isSibling_15 : decode cX3_isSibling 15 = .ok (.iload_n 1, 1) := by decide +kernel
theorem dX3_isSibling_16 : decode cX3_isSibling 16 = .ok (.bipush 16, 2) := by decide +kernel
theorem dX3_isSibling_18 : decode cX3_isSibling 18 = .ok (.if_icmp .ge 7, 3) := by decide +kernel
theorem dX3_isSibling_21 : decode cX3_isSibling 21 = .ok (.iconst 1, 1) := by decide +kernel
theorem dX3_isSibling_22 : decode cX3_isSibling 22 = .ok (.goto 4, 3) := by decide +kernel
theorem dX3_isSibling_25 : decode cX3_isSibling 25 = .ok (.iconst 0, 1) := by decide +kernel
theorem dX3_isSibling_26 : decode cX3_isSibling 26 = .ok (.ireturn, 1) := by decide +kernel
theorem dX3_rootOf_0 : decode cX3_rootOf 0 = .ok (.iload_n 1, 1) := by decide +kernel
theorem dX3_rootOf_1 : decode cX3_rootOf 1 = .ok (.ifCond .lt 18, 3) := by decide +kernel
theorem dX3_rootOf_4 : decode cX3_rootOf 4 = .ok (.iload_n 1, 1) := by decide +kernel
theorem dX3_rootOf_5 : decode cX3_rootOf 5 = .ok (.bipush 60, 2) := by decide +kernel
theorem dX3_rootOf_7 : decode cX3_rootOf 7 = .ok (.if_icmp .ge 12, 3) := by decide +kernel
theorem dX3_rootOf_10 : decode cX3_rootOf 10 = .ok (.aload_n 0, 1) := by decide +kernel
theorem dX3_rootOf_11 : decode cX3_rootOf 11 = .ok (.getfield 11, 3) := by decide +kernel
theorem dX3_rootOf_14 : decode cX3_rootOf 14 = .ok (.iload_n 1, 1) := by decide +kernel
theorem dX3_rootOf_15 : decode cX3_rootOf 15 = .ok (.aaload, 1) := by decide +kernel
theorem dX3_rootOf_16 : decode cX3_rootOf 16 = .ok (.goto 7, 3) := by decide +kernel
theorem dX3_rootOf_19 : decode cX3_rootOf 19 = .ok (.aload_n 0, 1) := by decide +kernel
theorem dX3_rootOf_20 : decode cX3_rootOf 20 = .ok (.getfield 19, 3) := by decide +kernel
theorem dX3_rootOf_23 : decode cX3_rootOf 23 = .ok (.areturn, 1) := by decide +kernel
theorem dX3_bitAt_0 : decode cX3_bitAt 0 = .ok (.iload_n 0, 1) := by decide +kernel
theorem dX3_bitAt_1 : decode cX3_bitAt 1 = .ok (.bipush 15, 2) := by decide +kernel
theorem dX3_bitAt_3 : decode cX3_bitAt 3 = .ok (.iload_n 1, 1) := by decide +kernel
theorem dX3_bitAt_4 : decode cX3_bitAt 4 = .ok (.isub, 1) := by decide +kernel
theorem dX3_bitAt_5 : decode cX3_bitAt 5 = .ok (.iushr, 1) := by decide +kernel
theorem dX3_bitAt_6 : decode cX3_bitAt 6 = .ok (.iconst 1, 1) := by decide +kernel
theorem dX3_bitAt_7 : decode cX3_bitAt 7 = .ok (.iand, 1) := by decide +kernel
theorem dX3_bitAt_8 : decode cX3_bitAt 8 = .ok (.ireturn, 1) := by decide +kernel
theorem dX3_sameFirstBits_0 : decode cX3_sameFirstBits 0 = .ok (.iconst 0, 1) := by decide +kernel
theorem dX3_sameFirstBits_1 : decode cX3_sameFirstBits 1 = .ok (.istore_n 2, 1) := by decide +kernel
theorem dX3_sameFirstBits_2 : decode cX3_sameFirstBits 2 = .ok (.iload_n 2, 1) := by decide +kernel
theorem dX3_sameFirstBits_3 : decode cX3_sameFirstBits 3 = .ok (.bipush 16, 2) := by decide +kernel
theorem dX3_sameFirstBits_5 : decode cX3_sameFirstBits 5 = .ok (.if_icmp .ge 22, 3) := by decide +kernel
theorem dX3_sameFirstBits_8 : decode cX3_sameFirstBits 8 = .ok (.iload_n 0, 1) := by decide +kernel
theorem dX3_sameFirstBits_9 : decode cX3_sameFirstBits 9 = .ok (.iload_n 2, 1) := by decide +kernel
theorem dX3_sameFirstBits_10 : decode cX3_sameFirstBits 10 = .ok (.invokestatic 83, 3) := by decide +kernel
theorem dX3_sameFirstBits_13 : decode cX3_sameFirstBits 13 = .ok (.iload_n 1, 1) := by decide +kernel
theorem dX3_sameFirstBits_14 : decode cX3_sameFirstBits 14 = .ok (.iload_n 2, 1) := by decide +kernel
theorem dX3_sameFirstBits_15 : decode cX3_sameFirstBits 15 = .ok (.invokestatic 83, 3) := by decide +kernel
theorem dX3_sameFirstBits_18 : decode cX3_sameFirstBits 18 = .ok (.if_icmp .ne 9, 3) := by decide +kernel
theorem dX3_sameFirstBits_21 : decode cX3_sameFirstBits 21 = .ok (.iinc 2 1, 3) := by decide +kernel
theorem dX3_sameFirstBits_24 : decode cX3_sameFirstBits 24 = .ok (.goto (-22), 3) := by decide +kernel
theorem dX3_sameFirstBits_27 : decode cX3_sameFirstBits 27 = .ok (.iload_n 2, 1) := by decide +kernel
theorem dX3_sameFirstBits_28 : decode cX3_sameFirstBits 28 = .ok (.ireturn, 1) := by decide +kernel
theorem dX3_countOf_0 : decode cX3_countOf 0 = .ok (.aload_n 0, 1) := by decide +kernel
theorem dX3_countOf_1 : decode cX3_countOf 1 = .ok (.ifnonnull 7, 3) := by decide +kernel
theorem dX3_countOf_4 : decode cX3_countOf 4 = .ok (.iconst 0, 1) := by decide +kernel
theorem dX3_countOf_5 : decode cX3_countOf 5 = .ok (.goto 7, 3) := by decide +kernel
theorem dX3_countOf_8 : decode cX3_countOf 8 = .ok (.aload_n 0, 1) := by decide +kernel
theorem dX3_countOf_9 : decode cX3_countOf 9 = .ok (.getfield 132, 3) := by decide +kernel
theorem dX3_countOf_12 : decode cX3_countOf 12 = .ok (.ireturn, 1) := by decide +kernel
theorem dX3_isEntry_0 : decode cX3_isEntry 0 = .ok (.aload_n 0, 1) := by decide +kernel
theorem dX3_isEntry_1 : decode cX3_isEntry 1 = .ok (.ifnull 23, 3) := by decide +kernel
theorem dX3_isEntry_4 : decode cX3_isEntry 4 = .ok (.aload_n 0, 1) := by decide +kernel
theorem dX3_isEntry_5 : decode cX3_isEntry 5 = .ok (.getfield 132, 3) := by decide +kernel
theorem dX3_isEntry_8 : decode cX3_isEntry 8 = .ok (.iconst 1, 1) := by decide +kernel
theorem dX3_isEntry_9 : decode cX3_isEntry 9 = .ok (.if_icmp .ne 15, 3) := by decide +kernel
theorem dX3_isEntry_12 : decode cX3_isEntry 12 = .ok (.aload_n 0, 1) := by decide +kernel
theorem dX3_isEntry_13 : decode cX3_isEntry 13 = .ok (.getfield 105, 3) := by decide +kernel
theorem dX3_isEntry_16 : decode cX3_isEntry 16 = .ok (.iload_n 1, 1) := by decide +kernel
theorem dX3_isEntry_17 : decode cX3_isEntry 17 = .ok (.if_icmp .ne 7, 3) := by decide +kernel
theorem dX3_isEntry_20 : decode cX3_isEntry 20 = .ok (.iconst 1, 1) := by decide +kernel
theorem dX3_isEntry_21 : decode cX3_isEntry 21 = .ok (.goto 4, 3) := by decide +kernel
theorem dX3_isEntry_24 : decode cX3_isEntry 24 = .ok (.iconst 0, 1) := by decide +kernel
theorem dX3_isEntry_25 : decode cX3_isEntry 25 = .ok (.ireturn, 1) := by decide +kernel
theorem dX3_half_0 : decode cX3_half 0 = .ok (.aload_n 0, 1) := by decide +kernel
theorem dX3_half_1 : decode cX3_half 1 = .ok (.ifnonnull 5, 3) := by decide +kernel
theorem dX3_half_4 : decode cX3_half 4 = .ok (.aconst_null, 1) := by decide +kernel
theorem dX3_half_5 : decode cX3_half 5 = .ok (.areturn, 1) := by decide +kernel
theorem dX3_half_6 : decode cX3_half 6 = .ok (.aload_n 0, 1) := by decide +kernel
theorem dX3_half_7 : decode cX3_half 7 = .ok (.getfield 132, 3) := by decide +kernel
theorem dX3_half_10 : decode cX3_half 10 = .ok (.iconst 1, 1) := by decide +kernel
theorem dX3_half_11 : decode cX3_half 11 = .ok (.if_icmp .ne 21, 3) := by decide +kernel
theorem dX3_half_14 : decode cX3_half 14 = .ok (.aload_n 0, 1) := by decide +kernel
theorem dX3_half_15 : decode cX3_half 15 = .ok (.getfield 105, 3) := by decide +kernel
theorem dX3_half_18 : decode cX3_half 18 = .ok (.iload_n 1, 1) := by decide +kernel
theorem dX3_half_19 : decode cX3_half 19 = .ok (.invokestatic 83, 3) := by decide +kernel
theorem dX3_half_22 : decode cX3_half 22 = .ok (.iload_n 2, 1) := by decide +kernel
theorem dX3_half_23 : decode cX3_half 23 = .ok (.if_icmp .ne 7, 3) := by decide +kernel
theorem dX3_half_26 : decode cX3_half 26 = .ok (.aload_n 0, 1) := by decide +kernel
theorem dX3_half_27 : decode cX3_half 27 = .ok (.goto 4, 3) := by decide +kernel
theorem dX3_half_30 : decode cX3_half 30 = .ok (.aconst_null, 1) := by decide +kernel
theorem dX3_half_31 : decode cX3_half 31 = .ok (.areturn, 1) := by decide +kernel
theorem dX3_half_32 : decode cX3_half 32 = .ok (.iload_n 2, 1) := by decide +kernel
theorem dX3_half_33 : decode cX3_half 33 = .ok (.ifCond .ne 10, 3) := by decide +kernel
theorem dX3_half_36 : decode cX3_half 36 = .ok (.aload_n 0, 1) := by decide +kernel
theorem dX3_half_37 : decode cX3_half 37 = .ok (.getfield 135, 3) := by decide +kernel
theorem dX3_half_40 : decode cX3_half 40 = .ok (.goto 7, 3) := by decide +kernel
theorem dX3_half_43 : decode cX3_half 43 = .ok (.aload_n 0, 1) := by decide +kernel
theorem dX3_half_44 : decode cX3_half 44 = .ok (.getfield 138, 3) := by decide +kernel
theorem dX3_half_47 : decode cX3_half 47 = .ok (.areturn, 1) := by decide +kernel
theorem dX3_endOf_0 : decode cX3_endOf 0 = .ok (.aload_n 0, 1) := by decide +kernel
theorem dX3_endOf_1 : decode cX3_endOf 1 = .ok (.astore_n 2, 1) := by decide +kernel
theorem dX3_endOf_2 : decode cX3_endOf 2 = .ok (.iconst 0, 1) := by decide +kernel
theorem dX3_endOf_3 : decode cX3_endOf 3 = .ok (.istore_n 3, 1) := by decide +kernel
theorem dX3_endOf_4 : decode cX3_endOf 4 = .ok (.iload_n 3, 1) := by decide +kernel
theorem dX3_endOf_5 : decode cX3_endOf 5 = .ok (.bipush 16, 2) := by decide +kernel
theorem dX3_endOf_7 : decode cX3_endOf 7 = .ok (.if_icmp .ge 28, 3) := by decide +kernel
theorem dX3_endOf_10 : decode cX3_endOf 10 = .ok (.aload_n 2, 1) := by decide +kernel
theorem dX3_endOf_11 : decode cX3_endOf 11 = .ok (.invokestatic 53, 3) := by decide +kernel
theorem dX3_endOf_14 : decode cX3_endOf 14 = .ok (.iconst 1, 1) := by decide +kernel
theorem dX3_endOf_15 : decode cX3_endOf 15 = .ok (.if_icmp .le 20, 3) := by decide +kernel
theorem dX3_endOf_18 : decode cX3_endOf 18 = .ok (.aload_n 2, 1) := by decide +kernel
theorem dX3_endOf_19 : decode cX3_endOf 19 = .ok (.iload_n 3, 1) := by decide +kernel
theorem dX3_endOf_20 : decode cX3_endOf 20 = .ok (.iload_n 1, 1) := by decide +kernel
theorem dX3_endOf_21 : decode cX3_endOf 21 = .ok (.iload_n 3, 1) := by decide +kernel
theorem dX3_endOf_22 : decode cX3_endOf 22 = .ok (.invokestatic 83, 3) := by decide +kernel
theorem dX3_endOf_25 : decode cX3_endOf 25 = .ok (.invokestatic 87, 3) := by decide +kernel
theorem dX3_endOf_28 : decode cX3_endOf 28 = .ok (.astore_n 2, 1) := by decide +kernel
theorem dX3_endOf_29 : decode cX3_endOf 29 = .ok (.iinc 3 1, 3) := by decide +kernel
theorem dX3_endOf_32 : decode cX3_endOf 32 = .ok (.goto (-28), 3) := by decide +kernel
theorem dX3_endOf_35 : decode cX3_endOf 35 = .ok (.aload_n 2, 1) := by decide +kernel
theorem dX3_endOf_36 : decode cX3_endOf 36 = .ok (.areturn, 1) := by decide +kernel
theorem dX3_replaced_0 : decode cX3_replaced 0 = .ok (.aload_n 0, 1) := by decide +kernel
theorem dX3_replaced_1 : decode cX3_replaced 1 = .ok (.ifnull 17, 3) := by decide +kernel
theorem dX3_replaced_4 : decode cX3_replaced 4 = .ok (.iload_n 1, 1) := by decide +kernel
theorem dX3_replaced_5 : decode cX3_replaced 5 = .ok (.bipush 16, 2) := by decide +kernel
theorem dX3_replaced_7 : decode cX3_replaced 7 = .ok (.if_icmp .ge 11, 3) := by decide +kernel
theorem dX3_replaced_10 : decode cX3_replaced 10 = .ok (.aload_n 0, 1) := by decide +kernel
theorem dX3_replaced_11 : decode cX3_replaced 11 = .ok (.iload_n 2, 1) := by decide +kernel
theorem dX3_replaced_12 : decode cX3_replaced 12 = .ok (.invokestatic 49, 3) := by decide +kernel
theorem dX3_replaced_15 : decode cX3_replaced 15 = .ok (.ifCond .eq 5, 3) := by decide +kernel
theorem dX3_replaced_18 : decode cX3_replaced 18 = .ok (.aload_n 3, 1) := by decide +kernel
theorem dX3_replaced_19 : decode cX3_replaced 19 = .ok (.areturn, 1) := by decide +kernel
theorem dX3_replaced_20 : decode cX3_replaced 20 = .ok (.iload_n 2, 1) := by decide +kernel
theorem dX3_replaced_21 : decode cX3_replaced 21 = .ok (.iload_n 1, 1) := by decide +kernel
theorem dX3_replaced_22 : decode cX3_replaced 22 = .ok (.invokestatic 83, 3) := by decide +kernel
theorem dX3_replaced_25 : decode cX3_replaced 25 = .ok (.istore 4, 2) := by decide +kernel
theorem dX3_replaced_27 : decode cX3_replaced 27 = .ok (.aload_n 0, 1) := by decide +kernel
theorem dX3_replaced_28 : decode cX3_replaced 28 = .ok (.iload_n 1, 1) := by decide +kernel
theorem dX3_replaced_29 : decode cX3_replaced 29 = .ok (.iload 4, 2) := by decide +kernel
theorem dX3_replaced_31 : decode cX3_replaced 31 = .ok (.invokestatic 87, 3) := by decide +kernel
theorem dX3_replaced_34 : decode cX3_replaced 34 = .ok (.iload_n 1, 1) := by decide +kernel
theorem dX3_replaced_35 : decode cX3_replaced 35 = .ok (.iconst 1, 1) := by decide +kernel
theorem dX3_replaced_36 : decode cX3_replaced 36 = .ok (.iadd, 1) := by decide +kernel
theorem dX3_replaced_37 : decode cX3_replaced 37 = .ok (.iload_n 2, 1) := by decide +kernel
theorem dX3_replaced_38 : decode cX3_replaced 38 = .ok (.aload_n 3, 1) := by decide +kernel
theorem dX3_replaced_39 : decode cX3_replaced 39 = .ok (.invokestatic 60, 3) := by decide +kernel
theorem dX3_replaced_42 : decode cX3_replaced 42 = .ok (.astore 5, 2) := by decide +kernel
theorem dX3_replaced_44 : decode cX3_replaced 44 = .ok (.aload_n 0, 1) := by decide +kernel
theorem dX3_replaced_45 : decode cX3_replaced 45 = .ok (.iload_n 1, 1) := by decide +kernel
theorem dX3_replaced_46 : decode cX3_replaced 46 = .ok (.iconst 1, 1) := by decide +kernel
theorem dX3_replaced_47 : decode cX3_replaced 47 = .ok (.iload 4, 2) := by decide +kernel
theorem dX3_replaced_49 : decode cX3_replaced 49 = .ok (.isub, 1) := by decide +kernel
theorem dX3_replaced_50 : decode cX3_replaced 50 = .ok (.invokestatic 87, 3) := by decide +kernel
theorem dX3_replaced_53 : decode cX3_replaced 53 = .ok (.astore 6, 2) := by decide +kernel
theorem dX3_replaced_55 : decode cX3_replaced 55 = .ok (.iload 4, 2) := by decide +kernel
theorem dX3_replaced_57 : decode cX3_replaced 57 = .ok (.ifCond .ne 13, 3) := by decide +kernel
theorem dX3_replaced_60 : decode cX3_replaced 60 = .ok (.aload 5, 2) := by decide +kernel
theorem dX3_replaced_62 : decode cX3_replaced 62 = .ok (.aload 6, 2) := by decide +kernel
theorem dX3_replaced_64 : decode cX3_replaced 64 = .ok (.invokestatic 141, 3) := by decide +kernel
theorem dX3_replaced_67 : decode cX3_replaced 67 = .ok (.goto 10, 3) := by decide +kernel
theorem dX3_replaced_70 : decode cX3_replaced 70 = .ok (.aload 6, 2) := by decide +kernel
theorem dX3_replaced_72 : decode cX3_replaced 72 = .ok (.aload 5, 2) := by decide +kernel
theorem dX3_replaced_74 : decode cX3_replaced 74 = .ok (.invokestatic 141, 3) := by decide +kernel
theorem dX3_replaced_77 : decode cX3_replaced 77 = .ok (.areturn, 1) := by decide +kernel
theorem dX3_joined_0 : decode cX3_joined 0 = .ok (.aload_n 0, 1) := by decide +kernel
theorem dX3_joined_1 : decode cX3_joined 1 = .ok (.invokestatic 53, 3) := by decide +kernel
theorem dX3_joined_4 : decode cX3_joined 4 = .ok (.aload_n 1, 1) := by decide +kernel
theorem dX3_joined_5 : decode cX3_joined 5 = .ok (.invokestatic 53, 3) := by decide +kernel
theorem dX3_joined_8 : decode cX3_joined 8 = .ok (.iadd, 1) := by decide +kernel
theorem dX3_joined_9 : decode cX3_joined 9 = .ok (.iconst 1, 1) := by decide +kernel
theorem dX3_joined_10 : decode cX3_joined 10 = .ok (.if_icmp .le 13, 3) := by decide +kernel
theorem dX3_joined_13 : decode cX3_joined 13 = .ok (.new 9, 3) := by decide +kernel
theorem dX3_joined_16 : decode cX3_joined 16 = .ok (.dup, 1) := by decide +kernel
theorem dX3_joined_17 : decode cX3_joined 17 = .ok (.aload_n 0, 1) := by decide +kernel
theorem dX3_joined_18 : decode cX3_joined 18 = .ok (.aload_n 1, 1) := by decide +kernel
theorem dX3_joined_19 : decode cX3_joined 19 = .ok (.invokespecial 145, 3) := by decide +kernel
theorem dX3_joined_22 : decode cX3_joined 22 = .ok (.areturn, 1) := by decide +kernel
theorem dX3_joined_23 : decode cX3_joined 23 = .ok (.aload_n 0, 1) := by decide +kernel
theorem dX3_joined_24 : decode cX3_joined 24 = .ok (.ifnonnull 7, 3) := by decide +kernel
theorem dX3_joined_27 : decode cX3_joined 27 = .ok (.aload_n 1, 1) := by decide +kernel
theorem dX3_joined_28 : decode cX3_joined 28 = .ok (.goto 4, 3) := by decide +kernel
theorem dX3_joined_31 : decode cX3_joined 31 = .ok (.aload_n 0, 1) := by decide +kernel
theorem dX3_joined_32 : decode cX3_joined 32 = .ok (.areturn, 1) := by decide +kernel
theorem dX3_digestOf_0 : decode cX3_digestOf 0 = .ok (.aload_n 0, 1) := by decide +kernel
theorem dX3_digestOf_1 : decode cX3_digestOf 1 = .ok (.ifnull 9, 3) := by decide +kernel
theorem dX3_digestOf_4 : decode cX3_digestOf 4 = .ok (.iload_n 1, 1) := by decide +kernel
theorem dX3_digestOf_5 : decode cX3_digestOf 5 = .ok (.bipush 16, 2) := by decide +kernel
theorem dX3_digestOf_7 : decode cX3_digestOf 7 = .ok (.if_icmp .le 8, 3) := by decide +kernel
theorem dX3_digestOf_10 : decode cX3_digestOf 10 = .ok (.aload_n 2, 1) := by decide +kernel
theorem dX3_digestOf_11 : decode cX3_digestOf 11 = .ok (.getfield 148, 3) := by decide +kernel
theorem dX3_digestOf_14 : decode cX3_digestOf 14 = .ok (.areturn, 1) := by decide +kernel
theorem dX3_digestOf_15 : decode cX3_digestOf 15 = .ok (.aload_n 0, 1) := by decide +kernel
theorem dX3_digestOf_16 : decode cX3_digestOf 16 = .ok (.getfield 151, 3) := by decide +kernel
theorem dX3_digestOf_19 : decode cX3_digestOf 19 = .ok (.ifnonnull 72, 3) := by decide +kernel
theorem dX3_digestOf_22 : decode cX3_digestOf 22 = .ok (.bipush 8, 2) := by decide +kernel
theorem dX3_digestOf_24 : decode cX3_digestOf 24 = .ok (.newarray .int, 2) := by decide +kernel
theorem dX3_digestOf_26 : decode cX3_digestOf 26 = .ok (.astore_n 3, 1) := by decide +kernel
theorem dX3_digestOf_27 : decode cX3_digestOf 27 = .ok (.aload_n 0, 1) := by decide +kernel
theorem dX3_digestOf_28 : decode cX3_digestOf 28 = .ok (.getfield 132, 3) := by decide +kernel
theorem dX3_digestOf_31 : decode cX3_digestOf 31 = .ok (.iconst 1, 1) := by decide +kernel
theorem dX3_digestOf_32 : decode cX3_digestOf 32 = .ok (.if_icmp .ne 19, 3) := by decide +kernel
theorem dX3_digestOf_35 : decode cX3_digestOf 35 = .ok (.aload_n 2, 1) := by decide +kernel
theorem dX3_digestOf_36 : decode cX3_digestOf 36 = .ok (.aload_n 0, 1) := by decide +kernel
theorem dX3_digestOf_37 : decode cX3_digestOf 37 = .ok (.getfield 105, 3) := by decide +kernel
theorem dX3_digestOf_40 : decode cX3_digestOf 40 = .ok (.aload_n 0, 1) := by decide +kernel
theorem dX3_digestOf_41 : decode cX3_digestOf 41 = .ok (.getfield 73, 3) := by decide +kernel
theorem dX3_digestOf_44 : decode cX3_digestOf 44 = .ok (.aload_n 3, 1) := by decide +kernel
theorem dX3_digestOf_45 : decode cX3_digestOf 45 = .ok (.invokevirtual 154, 3) := by decide +kernel
theorem dX3_digestOf_48 : decode cX3_digestOf 48 = .ok (.goto 38, 3) := by decide +kernel
theorem dX3_digestOf_51 : decode cX3_digestOf 51 = .ok (.aload_n 0, 1) := by decide +kernel
theorem dX3_digestOf_52 : decode cX3_digestOf 52 = .ok (.getfield 135, 3) := by decide +kernel
theorem dX3_digestOf_55 : decode cX3_digestOf 55 = .ok (.iload_n 1, 1) := by decide +kernel
theorem dX3_digestOf_56 : decode cX3_digestOf 56 = .ok (.iconst 1, 1) := by decide +kernel
theorem dX3_digestOf_57 : decode cX3_digestOf 57 = .ok (.iadd, 1) := by decide +kernel
theorem dX3_digestOf_58 : decode cX3_digestOf 58 = .ok (.aload_n 2, 1) := by decide +kernel
theorem dX3_digestOf_59 : decode cX3_digestOf 59 = .ok (.invokestatic 79, 3) := by decide +kernel
theorem dX3_digestOf_62 : decode cX3_digestOf 62 = .ok (.astore 4, 2) := by decide +kernel
theorem dX3_digestOf_64 : decode cX3_digestOf 64 = .ok (.aload_n 0, 1) := by decide +kernel
theorem dX3_digestOf_65 : decode cX3_digestOf 65 = .ok (.getfield 138, 3) := by decide +kernel
theorem dX3_digestOf_68 : decode cX3_digestOf 68 = .ok (.iload_n 1, 1) := by decide +kernel
theorem dX3_digestOf_69 : decode cX3_digestOf 69 = .ok (.iconst 1, 1) := by decide +kernel
theorem dX3_digestOf_70 : decode cX3_digestOf 70 = .ok (.iadd, 1) := by decide +kernel
theorem dX3_digestOf_71 : decode cX3_digestOf 71 = .ok (.aload_n 2, 1) := by decide +kernel
theorem dX3_digestOf_72 : decode cX3_digestOf 72 = .ok (.invokestatic 79, 3) := by decide +kernel
theorem dX3_digestOf_75 : decode cX3_digestOf 75 = .ok (.astore 5, 2) := by decide +kernel
theorem dX3_digestOf_77 : decode cX3_digestOf 77 = .ok (.aload_n 2, 1) := by decide +kernel
theorem dX3_digestOf_78 : decode cX3_digestOf 78 = .ok (.aload 4, 2) := by decide +kernel
theorem dX3_digestOf_80 : decode cX3_digestOf 80 = .ok (.aload 5, 2) := by decide +kernel
theorem dX3_digestOf_82 : decode cX3_digestOf 82 = .ok (.aload_n 3, 1) := by decide +kernel
theorem dX3_digestOf_83 : decode cX3_digestOf 83 = .ok (.invokevirtual 158, 3) := by decide +kernel
theorem dX3_digestOf_86 : decode cX3_digestOf 86 = .ok (.aload_n 0, 1) := by decide +kernel
theorem dX3_digestOf_87 : decode cX3_digestOf 87 = .ok (.aload_n 3, 1) := by decide +kernel
theorem dX3_digestOf_88 : decode cX3_digestOf 88 = .ok (.putfield 151, 3) := by decide +kernel
theorem dX3_digestOf_91 : decode cX3_digestOf 91 = .ok (.aload_n 0, 1) := by decide +kernel
theorem dX3_digestOf_92 : decode cX3_digestOf 92 = .ok (.getfield 151, 3) := by decide +kernel
theorem dX3_digestOf_95 : decode cX3_digestOf 95 = .ok (.areturn, 1) := by decide +kernel
theorem dX3_foldProof_0 : decode cX3_foldProof 0 = .ok (.aload_n 0, 1) := by decide +kernel
theorem dX3_foldProof_1 : decode cX3_foldProof 1 = .ok (.getfield 26, 3) := by decide +kernel
theorem dX3_foldProof_4 : decode cX3_foldProof 4 = .ok (.getfield 114, 3) := by decide +kernel
theorem dX3_foldProof_7 : decode cX3_foldProof 7 = .ok (.ifCond .eq 31, 3) := by decide +kernel
theorem dX3_foldProof_10 : decode cX3_foldProof 10 = .ok (.aload_n 0, 1) := by decide +kernel
theorem dX3_foldProof_11 : decode cX3_foldProof 11 = .ok (.getfield 33, 3) := by decide +kernel
theorem dX3_foldProof_14 : decode cX3_foldProof 14 = .ok (.aload_n 0, 1) := by decide +kernel
theorem dX3_foldProof_15 : decode cX3_foldProof 15 = .ok (.getfield 26, 3) := by decide +kernel
theorem dX3_foldProof_18 : decode cX3_foldProof 18 = .ok (.getfield 118, 3) := by decide +kernel
theorem dX3_foldProof_21 : decode cX3_foldProof 21 = .ok (.aload_n 0, 1) := by decide +kernel
theorem dX3_foldProof_22 : decode cX3_foldProof 22 = .ok (.getfield 26, 3) := by decide +kernel
theorem dX3_foldProof_25 : decode cX3_foldProof 25 = .ok (.getfield 119, 3) := by decide +kernel
theorem dX3_foldProof_28 : decode cX3_foldProof 28 = .ok (.aload_n 0, 1) := by decide +kernel
theorem dX3_foldProof_29 : decode cX3_foldProof 29 = .ok (.getfield 37, 3) := by decide +kernel
theorem dX3_foldProof_32 : decode cX3_foldProof 32 = .ok (.invokevirtual 154, 3) := by decide +kernel
theorem dX3_foldProof_35 : decode cX3_foldProof 35 = .ok (.goto 17, 3) := by decide +kernel
theorem dX3_foldProof_38 : decode cX3_foldProof 38 = .ok (.aload_n 0, 1) := by decide +kernel
theorem dX3_foldProof_39 : decode cX3_foldProof 39 = .ok (.getfield 33, 3) := by decide +kernel
theorem dX3_foldProof_42 : decode cX3_foldProof 42 = .ok (.getfield 148, 3) := by decide +kernel
theorem dX3_foldProof_45 : decode cX3_foldProof 45 = .ok (.aload_n 0, 1) := by decide +kernel
theorem dX3_foldProof_46 : decode cX3_foldProof 46 = .ok (.getfield 37, 3) := by decide +kernel
theorem dX3_foldProof_49 : decode cX3_foldProof 49 = .ok (.invokestatic 95, 3) := by decide +kernel
theorem dX3_foldProof_52 : decode cX3_foldProof 52 = .ok (.aload_n 0, 1) := by decide +kernel
theorem dX3_foldProof_53 : decode cX3_foldProof 53 = .ok (.getfield 26, 3) := by decide +kernel
theorem dX3_foldProof_56 : decode cX3_foldProof 56 = .ok (.getfield 99, 3) := by decide +kernel
theorem dX3_foldProof_59 : decode cX3_foldProof 59 = .ok (.bipush 16, 2) := by decide +kernel
theorem dX3_foldProof_61 : decode cX3_foldProof 61 = .ok (.invokestatic 162, 3) := by decide +kernel
theorem dX3_foldProof_64 : decode cX3_foldProof 64 = .ok (.iconst 1, 1) := by decide +kernel
theorem dX3_foldProof_65 : decode cX3_foldProof 65 = .ok (.isub, 1) := by decide +kernel
theorem dX3_foldProof_66 : decode cX3_foldProof 66 = .ok (.istore_n 2, 1) := by decide +kernel
theorem dX3_foldProof_67 : decode cX3_foldProof 67 = .ok (.iload_n 2, 1) := by decide +kernel
theorem dX3_foldProof_68 : decode cX3_foldProof 68 = .ok (.ifCond .lt 68, 3) := by decide +kernel
theorem dX3_foldProof_71 : decode cX3_foldProof 71 = .ok (.iload_n 1, 1) := by decide +kernel
theorem dX3_foldProof_72 : decode cX3_foldProof 72 = .ok (.iload_n 2, 1) := by decide +kernel
theorem dX3_foldProof_73 : decode cX3_foldProof 73 = .ok (.invokestatic 83, 3) := by decide +kernel
theorem dX3_foldProof_76 : decode cX3_foldProof 76 = .ok (.ifCond .ne 30, 3) := by decide +kernel
theorem dX3_foldProof_79 : decode cX3_foldProof 79 = .ok (.aload_n 0, 1) := by decide +kernel
theorem dX3_foldProof_80 : decode cX3_foldProof 80 = .ok (.getfield 33, 3) := by decide +kernel
theorem dX3_foldProof_83 : decode cX3_foldProof 83 = .ok (.aload_n 0, 1) := by decide +kernel
theorem dX3_foldProof_84 : decode cX3_foldProof 84 = .ok (.getfield 37, 3) := by decide +kernel
theorem dX3_foldProof_87 : decode cX3_foldProof 87 = .ok (.aload_n 0, 1) := by decide +kernel
theorem dX3_foldProof_88 : decode cX3_foldProof 88 = .ok (.getfield 26, 3) := by decide +kernel
theorem dX3_foldProof_91 : decode cX3_foldProof 91 = .ok (.getfield 91, 3) := by decide +kernel
theorem dX3_foldProof_94 : decode cX3_foldProof 94 = .ok (.iload_n 2, 1) := by decide +kernel
theorem dX3_foldProof_95 : decode cX3_foldProof 95 = .ok (.aaload, 1) := by decide +kernel
theorem dX3_foldProof_96 : decode cX3_foldProof 96 = .ok (.aload_n 0, 1) := by decide +kernel
theorem dX3_foldProof_97 : decode cX3_foldProof 97 = .ok (.getfield 37, 3) := by decide +kernel
theorem dX3_foldProof_100 : decode cX3_foldProof 100 = .ok (.invokevirtual 158, 3) := by decide +kernel
theorem dX3_foldProof_103 : decode cX3_foldProof 103 = .ok (.goto 27, 3) := by decide +kernel
theorem dX3_foldProof_106 : decode cX3_foldProof 106 = .ok (.aload_n 0, 1) := by decide +kernel
theorem dX3_foldProof_107 : decode cX3_foldProof 107 = .ok (.getfield 33, 3) := by decide +kernel
theorem dX3_foldProof_110 : decode cX3_foldProof 110 = .ok (.aload_n 0, 1) := by decide +kernel
theorem dX3_foldProof_111 : decode cX3_foldProof 111 = .ok (.getfield 26, 3) := by decide +kernel
theorem dX3_foldProof_114 : decode cX3_foldProof 114 = .ok (.getfield 91, 3) := by decide +kernel
theorem dX3_foldProof_117 : decode cX3_foldProof 117 = .ok (.iload_n 2, 1) := by decide +kernel
theorem dX3_foldProof_118 : decode cX3_foldProof 118 = .ok (.aaload, 1) := by decide +kernel
theorem dX3_foldProof_119 : decode cX3_foldProof 119 = .ok (.aload_n 0, 1) := by decide +kernel
theorem dX3_foldProof_120 : decode cX3_foldProof 120 = .ok (.getfield 37, 3) := by decide +kernel
theorem dX3_foldProof_123 : decode cX3_foldProof 123 = .ok (.aload_n 0, 1) := by decide +kernel
theorem dX3_foldProof_124 : decode cX3_foldProof 124 = .ok (.getfield 37, 3) := by decide +kernel
theorem dX3_foldProof_127 : decode cX3_foldProof 127 = .ok (.invokevirtual 158, 3) := by decide +kernel
theorem dX3_foldProof_130 : decode cX3_foldProof 130 = .ok (.iinc 2 (-1), 3) := by decide +kernel
theorem dX3_foldProof_133 : decode cX3_foldProof 133 = .ok (.goto (-66), 3) := by decide +kernel
theorem dX3_foldProof_136 : decode cX3_foldProof 136 = .ok (.return_, 1) := by decide +kernel
theorem dX3_copyWords_0 : decode cX3_copyWords 0 = .ok (.iconst 0, 1) := by decide +kernel
theorem dX3_copyWords_1 : decode cX3_copyWords 1 = .ok (.istore_n 2, 1) := by decide +kernel
theorem dX3_copyWords_2 : decode cX3_copyWords 2 = .ok (.iload_n 2, 1) := by decide +kernel
theorem dX3_copyWords_3 : decode cX3_copyWords 3 = .ok (.bipush 8, 2) := by decide +kernel
theorem dX3_copyWords_5 : decode cX3_copyWords 5 = .ok (.if_icmp .ge 15, 3) := by decide +kernel
theorem dX3_copyWords_8 : decode cX3_copyWords 8 = .ok (.aload_n 1, 1) := by decide +kernel
theorem dX3_copyWords_9 : decode cX3_copyWords 9 = .ok (.iload_n 2, 1) := by decide +kernel
theorem dX3_copyWords_10 : decode cX3_copyWords 10 = .ok (.aload_n 0, 1) := by decide +kernel
theorem dX3_copyWords_11 : decode cX3_copyWords 11 = .ok (.iload_n 2, 1) := by decide +kernel
theorem dX3_copyWords_12 : decode cX3_copyWords 12 = .ok (.iaload, 1) := by decide +kernel
theorem dX3_copyWords_13 : decode cX3_copyWords 13 = .ok (.iastore, 1) := by decide +kernel
theorem dX3_copyWords_14 : decode cX3_copyWords 14 = .ok (.iinc 2 1, 3) := by decide +kernel
theorem dX3_copyWords_17 : decode cX3_copyWords 17 = .ok (.goto (-15), 3) := by decide +kernel
theorem dX3_copyWords_20 : decode cX3_copyWords 20 = .ok (.return_, 1) := by decide +kernel
theorem dX3_sameWords_0 : decode cX3_sameWords 0 = .ok (.iconst 0, 1) := by decide +kernel
theorem dX3_sameWords_1 : decode cX3_sameWords 1 = .ok (.istore_n 2, 1) := by decide +kernel
theorem dX3_sameWords_2 : decode cX3_sameWords 2 = .ok (.iload_n 2, 1) := by decide +kernel
theorem dX3_sameWords_3 : decode cX3_sameWords 3 = .ok (.bipush 8, 2) := by decide +kernel
theorem dX3_sameWords_5 : decode cX3_sameWords 5 = .ok (.if_icmp .ge 20, 3) := by decide +kernel
theorem dX3_sameWords_8 : decode cX3_sameWords 8 = .ok (.aload_n 0, 1) := by decide +kernel
theorem dX3_sameWords_9 : decode cX3_sameWords 9 = .ok (.iload_n 2, 1) := by decide +kernel
theorem dX3_sameWords_10 : decode cX3_sameWords 10 = .ok (.iaload, 1) := by decide +kernel
theorem dX3_sameWords_11 : decode cX3_sameWords 11 = .ok (.aload_n 1, 1) := by decide +kernel
theorem dX3_sameWords_12 : decode cX3_sameWords 12 = .ok (.iload_n 2, 1) := by decide +kernel
theorem dX3_sameWords_13 : decode cX3_sameWords 13 = .ok (.iaload, 1) := by decide +kernel
theorem dX3_sameWords_14 : decode cX3_sameWords 14 = .ok (.if_icmp .eq 5, 3) := by decide +kernel
theorem dX3_sameWords_17 : decode cX3_sameWords 17 = .ok (.iconst 0, 1) := by decide +kernel
theorem dX3_sameWords_18 : decode cX3_sameWords 18 = .ok (.ireturn, 1) := by decide +kernel
theorem dX3_sameWords_19 : decode cX3_sameWords 19 = .ok (.iinc 2 1, 3) := by decide +kernel
theorem dX3_sameWords_22 : decode cX3_sameWords 22 = .ok (.goto (-20), 3) := by decide +kernel
theorem dX3_sameWords_25 : decode cX3_sameWords 25 = .ok (.iconst 1, 1) := by decide +kernel
theorem dX3_sameWords_26 : decode cX3_sameWords 26 = .ok (.ireturn, 1) := by decide +kernel
theorem dX4_init_0 : decode cX4_init 0 = .ok (.aload_n 0, 1) := by decide +kernel
theorem dX4_init_1 : decode cX4_init 1 = .ok (.invokespecial 1, 3) := by decide +kernel
theorem dX4_init_4 : decode cX4_init 4 = .ok (.aload_n 0, 1) := by decide +kernel
theorem dX4_init_5 : decode cX4_init 5 = .ok (.bipush 64, 2) := by decide +kernel
theorem dX4_init_7 : decode cX4_init 7 = .ok (.newarray .int, 2) := by decide +kernel
theorem dX4_init_9 : decode cX4_init 9 = .ok (.dup, 1) := by decide +kernel
theorem dX4_init_10 : decode cX4_init 10 = .ok (.iconst 0, 1) := by decide +kernel
theorem dX4_init_11 : decode cX4_init 11 = .ok (.ldc 7, 2) := by decide +kernel
theorem dX4_init_13 : decode cX4_init 13 = .ok (.iastore, 1) := by decide +kernel
theorem dX4_init_14 : decode cX4_init 14 = .ok (.dup, 1) := by decide +kernel
theorem dX4_init_15 : decode cX4_init 15 = .ok (.iconst 1, 1) := by decide +kernel
theorem dX4_init_16 : decode cX4_init 16 = .ok (.ldc 8, 2) := by decide +kernel
theorem dX4_init_18 : decode cX4_init 18 = .ok (.iastore, 1) := by decide +kernel
theorem dX4_init_19 : decode cX4_init 19 = .ok (.dup, 1) := by decide +kernel
theorem dX4_init_20 : decode cX4_init 20 = .ok (.iconst 2, 1) := by decide +kernel
theorem dX4_init_21 : decode cX4_init 21 = .ok (.ldc 9, 2) := by decide +kernel
theorem dX4_init_23 : decode cX4_init 23 = .ok (.iastore, 1) := by decide +kernel
theorem dX4_init_24 : decode cX4_init 24 = .ok (.dup, 1) := by decide +kernel
theorem dX4_init_25 : decode cX4_init 25 = .ok (.iconst 3, 1) := by decide +kernel
theorem dX4_init_26 : decode cX4_init 26 = .ok (.ldc 10, 2) := by decide +kernel
theorem dX4_init_28 : decode cX4_init 28 = .ok (.iastore, 1) := by decide +kernel
theorem dX4_init_29 : decode cX4_init 29 = .ok (.dup, 1) := by decide +kernel
theorem dX4_init_30 : decode cX4_init 30 = .ok (.iconst 4, 1) := by decide +kernel
theorem dX4_init_31 : decode cX4_init 31 = .ok (.ldc 11, 2) := by decide +kernel
theorem dX4_init_33 : decode cX4_init 33 = .ok (.iastore, 1) := by decide +kernel
theorem dX4_init_34 : decode cX4_init 34 = .ok (.dup, 1) := by decide +kernel
theorem dX4_init_35 : decode cX4_init 35 = .ok (.iconst 5, 1) := by decide +kernel
theorem dX4_init_36 : decode cX4_init 36 = .ok (.ldc 12, 2) := by decide +kernel
theorem dX4_init_38 : decode cX4_init 38 = .ok (.iastore, 1) := by decide +kernel
theorem dX4_init_39 : decode cX4_init 39 = .ok (.dup, 1) := by decide +kernel
theorem dX4_init_40 : decode cX4_init 40 = .ok (.bipush 6, 2) := by decide +kernel
theorem dX4_init_42 : decode cX4_init 42 = .ok (.ldc 13, 2) := by decide +kernel
theorem dX4_init_44 : decode cX4_init 44 = .ok (.iastore, 1) := by decide +kernel
theorem dX4_init_45 : decode cX4_init 45 = .ok (.dup, 1) := by decide +kernel
theorem dX4_init_46 : decode cX4_init 46 = .ok (.bipush 7, 2) := by decide +kernel
theorem dX4_init_48 : decode cX4_init 48 = .ok (.ldc 14, 2) := by decide +kernel
theorem dX4_init_50 : decode cX4_init 50 = .ok (.iastore, 1) := by decide +kernel
theorem dX4_init_51 : decode cX4_init 51 = .ok (.dup, 1) := by decide +kernel
theorem dX4_init_52 : decode cX4_init 52 = .ok (.bipush 8, 2) := by decide +kernel
theorem dX4_init_54 : decode cX4_init 54 = .ok (.ldc 15, 2) := by decide +kernel
theorem dX4_init_56 : decode cX4_init 56 = .ok (.iastore, 1) := by decide +kernel
theorem dX4_init_57 : decode cX4_init 57 = .ok (.dup, 1) := by decide +kernel
theorem dX4_init_58 : decode cX4_init 58 = .ok (.bipush 9, 2) := by decide +kernel
theorem dX4_init_60 : decode cX4_init 60 = .ok (.ldc 16, 2) := by decide +kernel
theorem dX4_init_62 : decode cX4_init 62 = .ok (.iastore, 1) := by decide +kernel
theorem dX4_init_63 : decode cX4_init 63 = .ok (.dup, 1) := by decide +kernel
theorem dX4_init_64 : decode cX4_init 64 = .ok (.bipush 10, 2) := by decide +kernel
theorem dX4_init_66 : decode cX4_init 66 = .ok (.ldc 17, 2) := by decide +kernel
theorem dX4_init_68 : decode cX4_init 68 = .ok (.iastore, 1) := by decide +kernel
theorem dX4_init_69 : decode cX4_init 69 = .ok (.dup, 1) := by decide +kernel
theorem dX4_init_70 : decode cX4_init 70 = .ok (.bipush 11, 2) := by decide +kernel
theorem dX4_init_72 : decode cX4_init 72 = .ok (.ldc 18, 2) := by decide +kernel
theorem dX4_init_74 : decode cX4_init 74 = .ok (.iastore, 1) := by decide +kernel
theorem dX4_init_75 : decode cX4_init 75 = .ok (.dup, 1) := by decide +kernel
theorem dX4_init_76 : decode cX4_init 76 = .ok (.bipush 12, 2) := by decide +kernel
theorem dX4_init_78 : decode cX4_init 78 = .ok (.ldc 19, 2) := by decide +kernel
theorem dX4_init_80 : decode cX4_init 80 = .ok (.iastore, 1) := by decide +kernel
theorem dX4_init_81 : decode cX4_init 81 = .ok (.dup, 1) := by decide +kernel
theorem dX4_init_82 : decode cX4_init 82 = .ok (.bipush 13, 2) := by decide +kernel
theorem dX4_init_84 : decode cX4_init 84 = .ok (.ldc 20, 2) := by decide +kernel
theorem dX4_init_86 : decode cX4_init 86 = .ok (.iastore, 1) := by decide +kernel
theorem dX4_init_87 : decode cX4_init 87 = .ok (.dup, 1) := by decide +kernel
theorem dX4_init_88 : decode cX4_init 88 = .ok (.bipush 14, 2) := by decide +kernel
theorem dX4_init_90 : decode cX4_init 90 = .ok (.ldc 21, 2) := by decide +kernel
theorem dX4_init_92 : decode cX4_init 92 = .ok (.iastore, 1) := by decide +kernel
theorem dX4_init_93 : decode cX4_init 93 = .ok (.dup, 1) := by decide +kernel
theorem dX4_init_94 : decode cX4_init 94 = .ok (.bipush 15, 2) := by decide +kernel
theorem dX4_init_96 : decode cX4_init 96 = .ok (.ldc 22, 2) := by decide +kernel
theorem dX4_init_98 : decode cX4_init 98 = .ok (.iastore, 1) := by decide +kernel
theorem dX4_init_99 : decode cX4_init 99 = .ok (.dup, 1) := by decide +kernel
theorem dX4_init_100 : decode cX4_init 100 = .ok (.bipush 16, 2) := by decide +kernel
theorem dX4_init_102 : decode cX4_init 102 = .ok (.ldc 23, 2) := by decide +kernel
theorem dX4_init_104 : decode cX4_init 104 = .ok (.iastore, 1) := by decide +kernel
theorem dX4_init_105 : decode cX4_init 105 = .ok (.dup, 1) := by decide +kernel
theorem dX4_init_106 : decode cX4_init 106 = .ok (.bipush 17, 2) := by decide +kernel
theorem dX4_init_108 : decode cX4_init 108 = .ok (.ldc 24, 2) := by decide +kernel
theorem dX4_init_110 : decode cX4_init 110 = .ok (.iastore, 1) := by decide +kernel
theorem dX4_init_111 : decode cX4_init 111 = .ok (.dup, 1) := by decide +kernel
theorem dX4_init_112 : decode cX4_init 112 = .ok (.bipush 18, 2) := by decide +kernel
theorem dX4_init_114 : decode cX4_init 114 = .ok (.ldc 25, 2) := by decide +kernel
theorem dX4_init_116 : decode cX4_init 116 = .ok (.iastore, 1) := by decide +kernel
end
section
theorem dX4_init_117 : decode cX4_init 117 = .ok (.dup, 1) := by decide +kernel
theorem dX4_init_118 : decode cX4_init 118 = .ok (.bipush 19, 2) := by decide +kernel
theorem dX4_init_120 : decode cX4_init 120 = .ok (.ldc 26, 2) := by decide +kernel
theorem dX4_init_122 : decode cX4_init 122 = .ok (.iastore, 1) := by decide +kernel
theorem dX4_init_123 : decode cX4_init 123 = .ok (.dup, 1) := by decide +kernel
theorem dX4_init_124 : decode cX4_init 124 = .ok (.bipush 20, 2) := by decide +kernel
theorem dX4_init_126 : decode cX4_init 126 = .ok (.ldc 27, 2) := by decide +kernel
theorem dX4_init_128 : decode cX4_init 128 = .ok (.iastore, 1) := by decide +kernel
theorem dX4_init_129 : decode cX4_init 129 = .ok (.dup, 1) := by decide +kernel
theorem dX4_init_130 : decode cX4_init 130 = .ok (.bipush 21, 2) := by decide +kernel
theorem dX4_init_132 : decode cX4_init 132 = .ok (.ldc 28, 2) := by decide +kernel
theorem dX4_init_134 : decode cX4_init 134 = .ok (.iastore, 1) := by decide +kernel
theorem dX4_init_135 : decode cX4_init 135 = .ok (.dup, 1) := by decide +kernel
theorem dX4_init_136 : decode cX4_init 136 = .ok (.bipush 22, 2) := by decide +kernel
theorem dX4_init_138 : decode cX4_init 138 = .ok (.ldc 29, 2) := by decide +kernel
theorem dX4_init_140 : decode cX4_init 140 = .ok (.iastore, 1) := by decide +kernel
theorem dX4_init_141 : decode cX4_init 141 = .ok (.dup, 1) := by decide +kernel
theorem dX4_init_142 : decode cX4_init 142 = .ok (.bipush 23, 2) := by decide +kernel
theorem dX4_init_144 : decode cX4_init 144 = .ok (.ldc 30, 2) := by decide +kernel
theorem dX4_init_146 : decode cX4_init 146 = .ok (.iastore, 1) := by decide +kernel
theorem dX4_init_147 : decode cX4_init 147 = .ok (.dup, 1) := by decide +kernel
theorem dX4_init_148 : decode cX4_init 148 = .ok (.bipush 24, 2) := by decide +kernel
theorem dX4_init_150 : decode cX4_init 150 = .ok (.ldc 31, 2) := by decide +kernel
theorem dX4_init_152 : decode cX4_init 152 = .ok (.iastore, 1) := by decide +kernel
theorem dX4_init_153 : decode cX4_init 153 = .ok (.dup, 1) := by decide +kernel
theorem dX4_init_154 : decode cX4_init 154 = .ok (.bipush 25, 2) := by decide +kernel
theorem dX4_init_156 : decode cX4_init 156 = .ok (.ldc 32, 2) := by decide +kernel
theorem dX4_init_158 : decode cX4_init 158 = .ok (.iastore, 1) := by decide +kernel
theorem dX4_init_159 : decode cX4_init 159 = .ok (.dup, 1) := by decide +kernel
theorem dX4_init_160 : decode cX4_init 160 = .ok (.bipush 26, 2) := by decide +kernel
theorem dX4_init_162 : decode cX4_init 162 = .ok (.ldc 33, 2) := by decide +kernel
theorem dX4_init_164 : decode cX4_init 164 = .ok (.iastore, 1) := by decide +kernel
theorem dX4_init_165 : decode cX4_init 165 = .ok (.dup, 1) := by decide +kernel
theorem dX4_init_166 : decode cX4_init 166 = .ok (.bipush 27, 2) := by decide +kernel
theorem dX4_init_168 : decode cX4_init 168 = .ok (.ldc 34, 2) := by decide +kernel
theorem dX4_init_170 : decode cX4_init 170 = .ok (.iastore, 1) := by decide +kernel
theorem dX4_init_171 : decode cX4_init 171 = .ok (.dup, 1) := by decide +kernel
theorem dX4_init_172 : decode cX4_init 172 = .ok (.bipush 28, 2) := by decide +kernel
theorem dX4_init_174 : decode cX4_init 174 = .ok (.ldc 35, 2) := by decide +kernel
theorem dX4_init_176 : decode cX4_init 176 = .ok (.iastore, 1) := by decide +kernel
theorem dX4_init_177 : decode cX4_init 177 = .ok (.dup, 1) := by decide +kernel
theorem dX4_init_178 : decode cX4_init 178 = .ok (.bipush 29, 2) := by decide +kernel
theorem dX4_init_180 : decode cX4_init 180 = .ok (.ldc 36, 2) := by decide +kernel
theorem dX4_init_182 : decode cX4_init 182 = .ok (.iastore, 1) := by decide +kernel
theorem dX4_init_183 : decode cX4_init 183 = .ok (.dup, 1) := by decide +kernel
theorem dX4_init_184 : decode cX4_init 184 = .ok (.bipush 30, 2) := by decide +kernel
theorem dX4_init_186 : decode cX4_init 186 = .ok (.ldc 37, 2) := by decide +kernel
theorem dX4_init_188 : decode cX4_init 188 = .ok (.iastore, 1) := by decide +kernel
theorem dX4_init_189 : decode cX4_init 189 = .ok (.dup, 1) := by decide +kernel
theorem dX4_init_190 : decode cX4_init 190 = .ok (.bipush 31, 2) := by decide +kernel
theorem dX4_init_192 : decode cX4_init 192 = .ok (.ldc 38, 2) := by decide +kernel
theorem dX4_init_194 : decode cX4_init 194 = .ok (.iastore, 1) := by decide +kernel
theorem dX4_init_195 : decode cX4_init 195 = .ok (.dup, 1) := by decide +kernel
theorem dX4_init_196 : decode cX4_init 196 = .ok (.bipush 32, 2) := by decide +kernel
theorem dX4_init_198 : decode cX4_init 198 = .ok (.ldc 39, 2) := by decide +kernel
theorem dX4_init_200 : decode cX4_init 200 = .ok (.iastore, 1) := by decide +kernel
theorem dX4_init_201 : decode cX4_init 201 = .ok (.dup, 1) := by decide +kernel
theorem dX4_init_202 : decode cX4_init 202 = .ok (.bipush 33, 2) := by decide +kernel
theorem dX4_init_204 : decode cX4_init 204 = .ok (.ldc 40, 2) := by decide +kernel
theorem dX4_init_206 : decode cX4_init 206 = .ok (.iastore, 1) := by decide +kernel
theorem dX4_init_207 : decode cX4_init 207 = .ok (.dup, 1) := by decide +kernel
theorem dX4_init_208 : decode cX4_init 208 = .ok (.bipush 34, 2) := by decide +kernel
theorem dX4_init_210 : decode cX4_init 210 = .ok (.ldc 41, 2) := by decide +kernel
theorem dX4_init_212 : decode cX4_init 212 = .ok (.iastore, 1) := by decide +kernel
theorem dX4_init_213 : decode cX4_init 213 = .ok (.dup, 1) := by decide +kernel
theorem dX4_init_214 : decode cX4_init 214 = .ok (.bipush 35, 2) := by decide +kernel
theorem dX4_init_216 : decode cX4_init 216 = .ok (.ldc 42, 2) := by decide +kernel
theorem dX4_init_218 : decode cX4_init 218 = .ok (.iastore, 1) := by decide +kernel
theorem dX4_init_219 : decode cX4_init 219 = .ok (.dup, 1) := by decide +kernel
theorem dX4_init_220 : decode cX4_init 220 = .ok (.bipush 36, 2) := by decide +kernel
theorem dX4_init_222 : decode cX4_init 222 = .ok (.ldc 43, 2) := by decide +kernel
theorem dX4_init_224 : decode cX4_init 224 = .ok (.iastore, 1) := by decide +kernel
theorem dX4_init_225 : decode cX4_init 225 = .ok (.dup, 1) := by decide +kernel
theorem dX4_init_226 : decode cX4_init 226 = .ok (.bipush 37, 2) := by decide +kernel
theorem dX4_init_228 : decode cX4_init 228 = .ok (.ldc 44, 2) := by decide +kernel
theorem dX4_init_230 : decode cX4_init 230 = .ok (.iastore, 1) := by decide +kernel
theorem dX4_init_231 : decode cX4_init 231 = .ok (.dup, 1) := by decide +kernel
theorem dX4_init_232 : decode cX4_init 232 = .ok (.bipush 38, 2) := by decide +kernel
theorem dX4_init_234 : decode cX4_init 234 = .ok (.ldc 45, 2) := by decide +kernel
theorem dX4_init_236 : decode cX4_init 236 = .ok (.iastore, 1) := by decide +kernel
theorem dX4_init_237 : decode cX4_init 237 = .ok (.dup, 1) := by decide +kernel
theorem dX4_init_238 : decode cX4_init 238 = .ok (.bipush 39, 2) := by decide +kernel
theorem dX4_init_240 : decode cX4_init 240 = .ok (.ldc 46, 2) := by decide +kernel
theorem dX4_init_242 : decode cX4_init 242 = .ok (.iastore, 1) := by decide +kernel
theorem dX4_init_243 : decode cX4_init 243 = .ok (.dup, 1) := by decide +kernel
theorem dX4_init_244 : decode cX4_init 244 = .ok (.bipush 40, 2) := by decide +kernel
theorem dX4_init_246 : decode cX4_init 246 = .ok (.ldc 47, 2) := by decide +kernel
theorem dX4_init_248 : decode cX4_init 248 = .ok (.iastore, 1) := by decide +kernel
theorem dX4_init_249 : decode cX4_init 249 = .ok (.dup, 1) := by decide +kernel
theorem dX4_init_250 : decode cX4_init 250 = .ok (.bipush 41, 2) := by decide +kernel
theorem dX4_init_252 : decode cX4_init 252 = .ok (.ldc 48, 2) := by decide +kernel
theorem dX4_init_254 : decode cX4_init 254 = .ok (.iastore, 1) := by decide +kernel
theorem dX4_init_255 : decode cX4_init 255 = .ok (.dup, 1) := by decide +kernel
theorem dX4_init_256 : decode cX4_init 256 = .ok (.bipush 42, 2) := by decide +kernel
theorem dX4_init_258 : decode cX4_init 258 = .ok (.ldc 49, 2) := by decide +kernel
theorem dX4_init_260 : decode cX4_init 260 = .ok (.iastore, 1) := by decide +kernel
theorem dX4_init_261 : decode cX4_init 261 = .ok (.dup, 1) := by decide +kernel
theorem dX4_init_262 : decode cX4_init 262 = .ok (.bipush 43, 2) := by decide +kernel
theorem dX4_init_264 : decode cX4_init 264 = .ok (.ldc 50, 2) := by decide +kernel
theorem dX4_init_266 : decode cX4_init 266 = .ok (.iastore, 1) := by decide +kernel
theorem dX4_init_267 : decode cX4_init 267 = .ok (.dup, 1) := by decide +kernel
theorem dX4_init_268 : decode cX4_init 268 = .ok (.bipush 44, 2) := by decide +kernel
theorem dX4_init_270 : decode cX4_init 270 = .ok (.ldc 51, 2) := by decide +kernel
theorem dX4_init_272 : decode cX4_init 272 = .ok (.iastore, 1) := by decide +kernel
theorem dX4_init_273 : decode cX4_init 273 = .ok (.dup, 1) := by decide +kernel
theorem dX4_init_274 : decode cX4_init 274 = .ok (.bipush 45, 2) := by decide +kernel
theorem dX4_init_276 : decode cX4_init 276 = .ok (.ldc 52, 2) := by decide +kernel
theorem dX4_init_278 : decode cX4_init 278 = .ok (.iastore, 1) := by decide +kernel
theorem dX4_init_279 : decode cX4_init 279 = .ok (.dup, 1) := by decide +kernel
theorem dX4_init_280 : decode cX4_init 280 = .ok (.bipush 46, 2) := by decide +kernel
theorem dX4_init_282 : decode cX4_init 282 = .ok (.ldc 53, 2) := by decide +kernel
theorem dX4_init_284 : decode cX4_init 284 = .ok (.iastore, 1) := by decide +kernel
theorem dX4_init_285 : decode cX4_init 285 = .ok (.dup, 1) := by decide +kernel
theorem dX4_init_286 : decode cX4_init 286 = .ok (.bipush 47, 2) := by decide +kernel
theorem dX4_init_288 : decode cX4_init 288 = .ok (.ldc 54, 2) := by decide +kernel
theorem dX4_init_290 : decode cX4_init 290 = .ok (.iastore, 1) := by decide +kernel
theorem dX4_init_291 : decode cX4_init 291 = .ok (.dup, 1) := by decide +kernel
theorem dX4_init_292 : decode cX4_init 292 = .ok (.bipush 48, 2) := by decide +kernel
theorem dX4_init_294 : decode cX4_init 294 = .ok (.ldc 55, 2) := by decide +kernel
theorem dX4_init_296 : decode cX4_init 296 = .ok (.iastore, 1) := by decide +kernel
theorem dX4_init_297 : decode cX4_init 297 = .ok (.dup, 1) := by decide +kernel
theorem dX4_init_298 : decode cX4_init 298 = .ok (.bipush 49, 2) := by decide +kernel
theorem dX4_init_300 : decode cX4_init 300 = .ok (.ldc 56, 2) := by decide +kernel
theorem dX4_init_302 : decode cX4_init 302 = .ok (.iastore, 1) := by decide +kernel
theorem dX4_init_303 : decode cX4_init 303 = .ok (.dup, 1) := by decide +kernel
theorem dX4_init_304 : decode cX4_init 304 = .ok (.bipush 50, 2) := by decide +kernel
theorem dX4_init_306 : decode cX4_init 306 = .ok (.ldc 57, 2) := by decide +kernel
theorem dX4_init_308 : decode cX4_init 308 = .ok (.iastore, 1) := by decide +kernel
theorem dX4_init_309 : decode cX4_init 309 = .ok (.dup, 1) := by decide +kernel
theorem dX4_init_310 : decode cX4_init 310 = .ok (.bipush 51, 2) := by decide +kernel
theorem dX4_init_312 : decode cX4_init 312 = .ok (.ldc 58, 2) := by decide +kernel
theorem dX4_init_314 : decode cX4_init 314 = .ok (.iastore, 1) := by decide +kernel
theorem dX4_init_315 : decode cX4_init 315 = .ok (.dup, 1) := by decide +kernel
theorem dX4_init_316 : decode cX4_init 316 = .ok (.bipush 52, 2) := by decide +kernel
theorem dX4_init_318 : decode cX4_init 318 = .ok (.ldc 59, 2) := by decide +kernel
theorem dX4_init_320 : decode cX4_init 320 = .ok (.iastore, 1) := by decide +kernel
theorem dX4_init_321 : decode cX4_init 321 = .ok (.dup, 1) := by decide +kernel
theorem dX4_init_322 : decode cX4_init 322 = .ok (.bipush 53, 2) := by decide +kernel
theorem dX4_init_324 : decode cX4_init 324 = .ok (.ldc 60, 2) := by decide +kernel
theorem dX4_init_326 : decode cX4_init 326 = .ok (.iastore, 1) := by decide +kernel
theorem dX4_init_327 : decode cX4_init 327 = .ok (.dup, 1) := by decide +kernel
theorem dX4_init_328 : decode cX4_init 328 = .ok (.bipush 54, 2) := by decide +kernel
theorem dX4_init_330 : decode cX4_init 330 = .ok (.ldc 61, 2) := by decide +kernel
theorem dX4_init_332 : decode cX4_init 332 = .ok (.iastore, 1) := by decide +kernel
theorem dX4_init_333 : decode cX4_init 333 = .ok (.dup, 1) := by decide +kernel
theorem dX4_init_334 : decode cX4_init 334 = .ok (.bipush 55, 2) := by decide +kernel
theorem dX4_init_336 : decode cX4_init 336 = .ok (.ldc 62, 2) := by decide +kernel
theorem dX4_init_338 : decode cX4_init 338 = .ok (.iastore, 1) := by decide +kernel
theorem dX4_init_339 : decode cX4_init 339 = .ok (.dup, 1) := by decide +kernel
theorem dX4_init_340 : decode cX4_init 340 = .ok (.bipush 56, 2) := by decide +kernel
theorem dX4_init_342 : decode cX4_init 342 = .ok (.ldc 63, 2) := by decide +kernel
theorem dX4_init_344 : decode cX4_init 344 = .ok (.iastore, 1) := by decide +kernel
theorem dX4_init_345 : decode cX4_init 345 = .ok (.dup, 1) := by decide +kernel
theorem dX4_init_346 : decode cX4_init 346 = .ok (.bipush 57, 2) := by decide +kernel
theorem dX4_init_348 : decode cX4_init 348 = .ok (.ldc 64, 2) := by decide +kernel
theorem dX4_init_350 : decode cX4_init 350 = .ok (.iastore, 1) := by decide +kernel
theorem dX4_init_351 : decode cX4_init 351 = .ok (.dup, 1) := by decide +kernel
theorem dX4_init_352 : decode cX4_init 352 = .ok (.bipush 58, 2) := by decide +kernel
theorem dX4_init_354 : decode cX4_init 354 = .ok (.ldc 65, 2) := by decide +kernel
theorem dX4_init_356 : decode cX4_init 356 = .ok (.iastore, 1) := by decide +kernel
theorem dX4_init_357 : decode cX4_init 357 = .ok (.dup, 1) := by decide +kernel
theorem dX4_init_358 : decode cX4_init 358 = .ok (.bipush 59, 2) := by decide +kernel
theorem dX4_init_360 : decode cX4_init 360 = .ok (.ldc 66, 2) := by decide +kernel
theorem dX4_init_362 : decode cX4_init 362 = .ok (.iastore, 1) := by decide +kernel
theorem dX4_init_363 : decode cX4_init 363 = .ok (.dup, 1) := by decide +kernel
theorem dX4_init_364 : decode cX4_init 364 = .ok (.bipush 60, 2) := by decide +kernel
theorem dX4_init_366 : decode cX4_init 366 = .ok (.ldc 67, 2) := by decide +kernel
theorem dX4_init_368 : decode cX4_init 368 = .ok (.iastore, 1) := by decide +kernel
theorem dX4_init_369 : decode cX4_init 369 = .ok (.dup, 1) := by decide +kernel
theorem dX4_init_370 : decode cX4_init 370 = .ok (.bipush 61, 2) := by decide +kernel
theorem dX4_init_372 : decode cX4_init 372 = .ok (.ldc 68, 2) := by decide +kernel
theorem dX4_init_374 : decode cX4_init 374 = .ok (.iastore, 1) := by decide +kernel
theorem dX4_init_375 : decode cX4_init 375 = .ok (.dup, 1) := by decide +kernel
theorem dX4_init_376 : decode cX4_init 376 = .ok (.bipush 62, 2) := by decide +kernel
theorem dX4_init_378 : decode cX4_init 378 = .ok (.ldc 69, 2) := by decide +kernel
theorem dX4_init_380 : decode cX4_init 380 = .ok (.iastore, 1) := by decide +kernel
theorem dX4_init_381 : decode cX4_init 381 = .ok (.dup, 1) := by decide +kernel
theorem dX4_init_382 : decode cX4_init 382 = .ok (.bipush 63, 2) := by decide +kernel
theorem dX4_init_384 : decode cX4_init 384 = .ok (.ldc 70, 2) := by decide +kernel
theorem dX4_init_386 : decode cX4_init 386 = .ok (.iastore, 1) := by decide +kernel
theorem dX4_init_387 : decode cX4_init 387 = .ok (.putfield 71, 3) := by decide +kernel
theorem dX4_init_390 : decode cX4_init 390 = .ok (.aload_n 0, 1) := by decide +kernel
theorem dX4_init_391 : decode cX4_init 391 = .ok (.bipush 8, 2) := by decide +kernel
theorem dX4_init_393 : decode cX4_init 393 = .ok (.newarray .int, 2) := by decide +kernel
theorem dX4_init_395 : decode cX4_init 395 = .ok (.dup, 1) := by decide +kernel
theorem dX4_init_396 : decode cX4_init 396 = .ok (.iconst 0, 1) := by decide +kernel
theorem dX4_init_397 : decode cX4_init 397 = .ok (.ldc 77, 2) := by decide +kernel
theorem dX4_init_399 : decode cX4_init 399 = .ok (.iastore, 1) := by decide +kernel
theorem dX4_init_400 : decode cX4_init 400 = .ok (.dup, 1) := by decide +kernel
theorem dX4_init_401 : decode cX4_init 401 = .ok (.iconst 1, 1) := by decide +kernel
theorem dX4_init_402 : decode cX4_init 402 = .ok (.ldc 78, 2) := by decide +kernel
theorem dX4_init_404 : decode cX4_init 404 = .ok (.iastore, 1) := by decide +kernel
theorem dX4_init_405 : decode cX4_init 405 = .ok (.dup, 1) := by decide +kernel
theorem dX4_init_406 : decode cX4_init 406 = .ok (.iconst 2, 1) := by decide +kernel
theorem dX4_init_407 : decode cX4_init 407 = .ok (.ldc 79, 2) := by decide +kernel
theorem dX4_init_409 : decode cX4_init 409 = .ok (.iastore, 1) := by decide +kernel
theorem dX4_init_410 : decode cX4_init 410 = .ok (.dup, 1) := by decide +kernel
theorem dX4_init_411 : decode cX4_init 411 = .ok (.iconst 3, 1) := by decide +kernel
theorem dX4_init_412 : decode cX4_init 412 = .ok (.ldc 80, 2) := by decide +kernel
theorem dX4_init_414 : decode cX4_init 414 = .ok (.iastore, 1) := by decide +kernel
theorem dX4_init_415 : decode cX4_init 415 = .ok (.dup, 1) := by decide +kernel
theorem dX4_init_416 : decode cX4_init 416 = .ok (.iconst 4, 1) := by decide +kernel
theorem dX4_init_417 : decode cX4_init 417 = .ok (.ldc 81, 2) := by decide +kernel
theorem dX4_init_419 : decode cX4_init 419 = .ok (.iastore, 1) := by decide +kernel
theorem dX4_init_420 : decode cX4_init 420 = .ok (.dup, 1) := by decide +kernel
theorem dX4_init_421 : decode cX4_init 421 = .ok (.iconst 5, 1) := by decide +kernel
theorem dX4_init_422 : decode cX4_init 422 = .ok (.ldc 82, 2) := by decide +kernel
theorem dX4_init_424 : decode cX4_init 424 = .ok (.iastore, 1) := by decide +kernel
theorem dX4_init_425 : decode cX4_init 425 = .ok (.dup, 1) := by decide +kernel
theorem dX4_init_426 : decode cX4_init 426 = .ok (.bipush 6, 2) := by decide +kernel
theorem dX4_init_428 : decode cX4_init 428 = .ok (.ldc 83, 2) := by decide +kernel
theorem dX4_init_430 : decode cX4_init 430 = .ok (.iastore, 1) := by decide +kernel
theorem dX4_init_431 : decode cX4_init 431 = .ok (.dup, 1) := by decide +kernel
theorem dX4_init_432 : decode cX4_init 432 = .ok (.bipush 7, 2) := by decide +kernel
theorem dX4_init_434 : decode cX4_init 434 = .ok (.ldc 84, 2) := by decide +kernel
theorem dX4_init_436 : decode cX4_init 436 = .ok (.iastore, 1) := by decide +kernel
theorem dX4_init_437 : decode cX4_init 437 = .ok (.putfield 85, 3) := by decide +kernel
theorem dX4_init_440 : decode cX4_init 440 = .ok (.aload_n 0, 1) := by decide +kernel
theorem dX4_init_441 : decode cX4_init 441 = .ok (.sipush 18300, 3) := by decide +kernel
theorem dX4_init_444 : decode cX4_init 444 = .ok (.newarray .int, 2) := by decide +kernel
theorem dX4_init_446 : decode cX4_init 446 = .ok (.putfield 88, 3) := by decide +kernel
theorem dX4_init_449 : decode cX4_init 449 = .ok (.aload_n 0, 1) := by decide +kernel
theorem dX4_init_450 : decode cX4_init 450 = .ok (.sipush 18300, 3) := by decide +kernel
theorem dX4_init_453 : decode cX4_init 453 = .ok (.newarray .int, 2) := by decide +kernel
theorem dX4_init_455 : decode cX4_init 455 = .ok (.putfield 91, 3) := by decide +kernel
theorem dX4_init_458 : decode cX4_init 458 = .ok (.aload_n 0, 1) := by decide +kernel
theorem dX4_init_459 : decode cX4_init 459 = .ok (.bipush 61, 2) := by decide +kernel
theorem dX4_init_461 : decode cX4_init 461 = .ok (.newarray .int, 2) := by decide +kernel
theorem dX4_init_463 : decode cX4_init 463 = .ok (.putfield 94, 3) := by decide +kernel
theorem dX4_init_466 : decode cX4_init 466 = .ok (.aload_n 0, 1) := by decide +kernel
theorem dX4_init_467 : decode cX4_init 467 = .ok (.sipush 488, 3) := by decide +kernel
theorem dX4_init_470 : decode cX4_init 470 = .ok (.newarray .int, 2) := by decide +kernel
theorem dX4_init_472 : decode cX4_init 472 = .ok (.putfield 97, 3) := by decide +kernel
theorem dX4_init_475 : decode cX4_init 475 = .ok (.aload_n 0, 1) := by decide +kernel
theorem dX4_init_476 : decode cX4_init 476 = .ok (.sipush 128, 3) := by decide +kernel
theorem dX4_init_479 : decode cX4_init 479 = .ok (.newarray .int, 2) := by decide +kernel
theorem dX4_init_481 : decode cX4_init 481 = .ok (.putfield 100, 3) := by decide +kernel
theorem dX4_init_484 : decode cX4_init 484 = .ok (.aload_n 0, 1) := by decide +kernel
theorem dX4_init_485 : decode cX4_init 485 = .ok (.bipush 64, 2) := by decide +kernel
theorem dX4_init_487 : decode cX4_init 487 = .ok (.newarray .int, 2) := by decide +kernel
theorem dX4_init_489 : decode cX4_init 489 = .ok (.putfield 103, 3) := by decide +kernel
theorem dX4_init_492 : decode cX4_init 492 = .ok (.aload_n 0, 1) := by decide +kernel
theorem dX4_init_493 : decode cX4_init 493 = .ok (.bipush 8, 2) := by decide +kernel
theorem dX4_init_495 : decode cX4_init 495 = .ok (.newarray .int, 2) := by decide +kernel
theorem dX4_init_497 : decode cX4_init 497 = .ok (.putfield 106, 3) := by decide +kernel
theorem dX4_init_500 : decode cX4_init 500 = .ok (.aload_n 0, 1) := by decide +kernel
theorem dX4_init_501 : decode cX4_init 501 = .ok (.sipush 300, 3) := by decide +kernel
theorem dX4_init_504 : decode cX4_init 504 = .ok (.newarray .int, 2) := by decide +kernel
theorem dX4_init_506 : decode cX4_init 506 = .ok (.putfield 109, 3) := by decide +kernel
theorem dX4_init_509 : decode cX4_init 509 = .ok (.aload_n 0, 1) := by decide +kernel
theorem dX4_init_510 : decode cX4_init 510 = .ok (.sipush 300, 3) := by decide +kernel
theorem dX4_init_513 : decode cX4_init 513 = .ok (.newarray .int, 2) := by decide +kernel
theorem dX4_init_515 : decode cX4_init 515 = .ok (.putfield 112, 3) := by decide +kernel
theorem dX4_init_518 : decode cX4_init 518 = .ok (.aload_n 0, 1) := by decide +kernel
theorem dX4_init_519 : decode cX4_init 519 = .ok (.sipush 300, 3) := by decide +kernel
theorem dX4_init_522 : decode cX4_init 522 = .ok (.newarray .int, 2) := by decide +kernel
theorem dX4_init_524 : decode cX4_init 524 = .ok (.putfield 115, 3) := by decide +kernel
theorem dX4_init_527 : decode cX4_init 527 = .ok (.aload_n 0, 1) := by decide +kernel
theorem dX4_init_528 : decode cX4_init 528 = .ok (.sipush 2400, 3) := by decide +kernel
theorem dX4_init_531 : decode cX4_init 531 = .ok (.newarray .int, 2) := by decide +kernel
theorem dX4_init_533 : decode cX4_init 533 = .ok (.putfield 118, 3) := by decide +kernel
theorem dX4_init_536 : decode cX4_init 536 = .ok (.aload_n 0, 1) := by decide +kernel
theorem dX4_init_537 : decode cX4_init 537 = .ok (.bipush 17, 2) := by decide +kernel
theorem dX4_init_539 : decode cX4_init 539 = .ok (.newarray .int, 2) := by decide +kernel
theorem dX4_init_541 : decode cX4_init 541 = .ok (.putfield 121, 3) := by decide +kernel
theorem dX4_init_544 : decode cX4_init 544 = .ok (.aload_n 0, 1) := by decide +kernel
theorem dX4_init_545 : decode cX4_init 545 = .ok (.bipush 17, 2) := by decide +kernel
theorem dX4_init_547 : decode cX4_init 547 = .ok (.newarray .int, 2) := by decide +kernel
theorem dX4_init_549 : decode cX4_init 549 = .ok (.putfield 124, 3) := by decide +kernel
theorem dX4_init_552 : decode cX4_init 552 = .ok (.aload_n 0, 1) := by decide +kernel
theorem dX4_init_553 : decode cX4_init 553 = .ok (.sipush 136, 3) := by decide +kernel
theorem dX4_init_556 : decode cX4_init 556 = .ok (.newarray .int, 2) := by decide +kernel
theorem dX4_init_558 : decode cX4_init 558 = .ok (.putfield 127, 3) := by decide +kernel
theorem dX4_init_561 : decode cX4_init 561 = .ok (.aload_n 0, 1) := by decide +kernel
theorem dX4_init_562 : decode cX4_init 562 = .ok (.sipush 128, 3) := by decide +kernel
theorem dX4_init_565 : decode cX4_init 565 = .ok (.newarray .int, 2) := by decide +kernel
theorem dX4_init_567 : decode cX4_init 567 = .ok (.putfield 130, 3) := by decide +kernel
theorem dX4_init_570 : decode cX4_init 570 = .ok (.return_, 1) := by decide +kernel
theorem dX4_isKey_0 : decode cX4_isKey 0 = .ok (.iload_n 0, 1) := by decide +kernel
theorem dX4_isKey_1 : decode cX4_isKey 1 = .ok (.ifCond .lt 13, 3) := by decide +kernel
theorem dX4_isKey_4 : decode cX4_isKey 4 = .ok (.iload_n 0, 1) := by decide +kernel
theorem dX4_isKey_5 : decode cX4_isKey 5 = .ok (.ldc 133, 2) := by decide +kernel
theorem dX4_isKey_7 : decode cX4_isKey 7 = .ok (.if_icmp .ge 7, 3) := by decide +kernel
theorem dX4_isKey_10 : decode cX4_isKey 10 = .ok (.iconst 1, 1) := by decide +kernel
theorem dX4_isKey_11 : decode cX4_isKey 11 = .ok (.goto 4, 3) := by decide +kernel
theorem dX4_isKey_14 : decode cX4_isKey 14 = .ok (.iconst 0, 1) := by decide +kernel
theorem dX4_isKey_15 : decode cX4_isKey 15 = .ok (.ireturn, 1) := by decide +kernel
theorem dX4_isVersion_0 : decode cX4_isVersion 0 = .ok (.iload_n 1, 1) := by decide +kernel
theorem dX4_isVersion_1 : decode cX4_isVersion 1 = .ok (.iconst (-1), 1) := by decide +kernel
theorem dX4_isVersion_2 : decode cX4_isVersion 2 = .ok (.if_icmp .lt 15, 3) := by decide +kernel
theorem dX4_isVersion_5 : decode cX4_isVersion 5 = .ok (.iload_n 1, 1) := by decide +kernel
theorem dX4_isVersion_6 : decode cX4_isVersion 6 = .ok (.aload_n 0, 1) := by decide +kernel
theorem dX4_isVersion_7 : decode cX4_isVersion 7 = .ok (.getfield 134, 3) := by decide +kernel
theorem dX4_isVersion_10 : decode cX4_isVersion 10 = .ok (.if_icmp .ge 7, 3) := by decide +kernel
theorem dX4_isVersion_13 : decode cX4_isVersion 13 = .ok (.iconst 1, 1) := by decide +kernel
theorem dX4_isVersion_14 : decode cX4_isVersion 14 = .ok (.goto 4, 3) := by decide +kernel
theorem dX4_isVersion_17 : decode cX4_isVersion 17 = .ok (.iconst 0, 1) := by decide +kernel
theorem dX4_isVersion_18 : decode cX4_isVersion 18 = .ok (.ireturn, 1) := by decide +kernel
theorem dX4_rowOf_0 : decode cX4_rowOf 0 = .ok (.iload_n 0, 1) := by decide +kernel
theorem dX4_rowOf_1 : decode cX4_rowOf 1 = .ok (.ifCond .ge 8, 3) := by decide +kernel
theorem dX4_rowOf_4 : decode cX4_rowOf 4 = .ok (.bipush 60, 2) := by decide +kernel
theorem dX4_rowOf_6 : decode cX4_rowOf 6 = .ok (.goto 4, 3) := by decide +kernel
theorem dX4_rowOf_9 : decode cX4_rowOf 9 = .ok (.iload_n 0, 1) := by decide +kernel
theorem dX4_rowOf_10 : decode cX4_rowOf 10 = .ok (.ireturn, 1) := by decide +kernel
theorem dX4_turned_0 : decode cX4_turned 0 = .ok (.iload_n 0, 1) := by decide +kernel
theorem dX4_turned_1 : decode cX4_turned 1 = .ok (.iload_n 1, 1) := by decide +kernel
theorem dX4_turned_2 : decode cX4_turned 2 = .ok (.iushr, 1) := by decide +kernel
theorem dX4_turned_3 : decode cX4_turned 3 = .ok (.iload_n 0, 1) := by decide +kernel
theorem dX4_turned_4 : decode cX4_turned 4 = .ok (.bipush 32, 2) := by decide +kernel
theorem dX4_turned_6 : decode cX4_turned 6 = .ok (.iload_n 1, 1) := by decide +kernel
theorem dX4_turned_7 : decode cX4_turned 7 = .ok (.isub, 1) := by decide +kernel
theorem dX4_turned_8 : decode cX4_turned 8 = .ok (.ishl, 1) := by decide +kernel
theorem dX4_turned_9 : decode cX4_turned 9 = .ok (.ior, 1) := by decide +kernel
theorem dX4_turned_10 : decode cX4_turned 10 = .ok (.ireturn, 1) := by decide +kernel
theorem dX4_mix_0 : decode cX4_mix 0 = .ok (.iconst 0, 1) := by decide +kernel
theorem dX4_mix_1 : decode cX4_mix 1 = .ok (.istore_n 2, 1) := by decide +kernel
theorem dX4_mix_2 : decode cX4_mix 2 = .ok (.iload_n 2, 1) := by decide +kernel
theorem dX4_mix_3 : decode cX4_mix 3 = .ok (.bipush 16, 2) := by decide +kernel
theorem dX4_mix_5 : decode cX4_mix 5 = .ok (.if_icmp .ge 63, 3) := by decide +kernel
theorem dX4_mix_8 : decode cX4_mix 8 = .ok (.iload_n 1, 1) := by decide +kernel
theorem dX4_mix_9 : decode cX4_mix 9 = .ok (.iconst 4, 1) := by decide +kernel
theorem dX4_mix_10 : decode cX4_mix 10 = .ok (.iload_n 2, 1) := by decide +kernel
theorem dX4_mix_11 : decode cX4_mix 11 = .ok (.imul, 1) := by decide +kernel
theorem dX4_mix_12 : decode cX4_mix 12 = .ok (.iadd, 1) := by decide +kernel
theorem dX4_mix_13 : decode cX4_mix 13 = .ok (.istore_n 3, 1) := by decide +kernel
theorem dX4_mix_14 : decode cX4_mix 14 = .ok (.aload_n 0, 1) := by decide +kernel
theorem dX4_mix_15 : decode cX4_mix 15 = .ok (.getfield 103, 3) := by decide +kernel
theorem dX4_mix_18 : decode cX4_mix 18 = .ok (.iload_n 2, 1) := by decide +kernel
theorem dX4_mix_19 : decode cX4_mix 19 = .ok (.aload_n 0, 1) := by decide +kernel
theorem dX4_mix_20 : decode cX4_mix 20 = .ok (.getfield 100, 3) := by decide +kernel
theorem dX4_mix_23 : decode cX4_mix 23 = .ok (.iload_n 3, 1) := by decide +kernel
theorem dX4_mix_24 : decode cX4_mix 24 = .ok (.iaload, 1) := by decide +kernel
theorem dX4_mix_25 : decode cX4_mix 25 = .ok (.bipush 24, 2) := by decide +kernel
theorem dX4_mix_27 : decode cX4_mix 27 = .ok (.ishl, 1) := by decide +kernel
theorem dX4_mix_28 : decode cX4_mix 28 = .ok (.aload_n 0, 1) := by decide +kernel
theorem dX4_mix_29 : decode cX4_mix 29 = .ok (.getfield 100, 3) := by decide +kernel
theorem dX4_mix_32 : decode cX4_mix 32 = .ok (.iload_n 3, 1) := by decide +kernel
theorem dX4_mix_33 : decode cX4_mix 33 = .ok (.iconst 1, 1) := by decide +kernel
theorem dX4_mix_34 : decode cX4_mix 34 = .ok (.iadd, 1) := by decide +kernel
theorem dX4_mix_35 : decode cX4_mix 35 = .ok (.iaload, 1) := by decide +kernel
theorem dX4_mix_36 : decode cX4_mix 36 = .ok (.bipush 16, 2) := by decide +kernel
theorem dX4_mix_38 : decode cX4_mix 38 = .ok (.ishl, 1) := by decide +kernel
theorem dX4_mix_39 : decode cX4_mix 39 = .ok (.ior, 1) := by decide +kernel
theorem dX4_mix_40 : decode cX4_mix 40 = .ok (.aload_n 0, 1) := by decide +kernel
theorem dX4_mix_41 : decode cX4_mix 41 = .ok (.getfield 100, 3) := by decide +kernel
theorem dX4_mix_44 : decode cX4_mix 44 = .ok (.iload_n 3, 1) := by decide +kernel
theorem dX4_mix_45 : decode cX4_mix 45 = .ok (.iconst 2, 1) := by decide +kernel
theorem dX4_mix_46 : decode cX4_mix 46 = .ok (.iadd, 1) := by decide +kernel
theorem dX4_mix_47 : decode cX4_mix 47 = .ok (.iaload, 1) := by decide +kernel
theorem dX4_mix_48 : decode cX4_mix 48 = .ok (.bipush 8, 2) := by decide +kernel
theorem dX4_mix_50 : decode cX4_mix 50 = .ok (.ishl, 1) := by decide +kernel
theorem dX4_mix_51 : decode cX4_mix 51 = .ok (.ior, 1) := by decide +kernel
theorem dX4_mix_52 : decode cX4_mix 52 = .ok (.aload_n 0, 1) := by decide +kernel
theorem dX4_mix_53 : decode cX4_mix 53 = .ok (.getfield 100, 3) := by decide +kernel
theorem dX4_mix_56 : decode cX4_mix 56 = .ok (.iload_n 3, 1) := by decide +kernel
theorem dX4_mix_57 : decode cX4_mix 57 = .ok (.iconst 3, 1) := by decide +kernel
theorem dX4_mix_58 : decode cX4_mix 58 = .ok (.iadd, 1) := by decide +kernel
theorem dX4_mix_59 : decode cX4_mix 59 = .ok (.iaload, 1) := by decide +kernel
theorem dX4_mix_60 : decode cX4_mix 60 = .ok (.ior, 1) := by decide +kernel
theorem dX4_mix_61 : decode cX4_mix 61 = .ok (.iastore, 1) := by decide +kernel
theorem dX4_mix_62 : decode cX4_mix 62 = .ok (.iinc 2 1, 3) := by decide +kernel
theorem dX4_mix_65 : decode cX4_mix 65 = .ok (.goto (-63), 3) := by decide +kernel
theorem dX4_mix_68 : decode cX4_mix 68 = .ok (.bipush 16, 2) := by decide +kernel
theorem dX4_mix_70 : decode cX4_mix 70 = .ok (.istore_n 2, 1) := by decide +kernel
theorem dX4_mix_71 : decode cX4_mix 71 = .ok (.iload_n 2, 1) := by decide +kernel
theorem dX4_mix_72 : decode cX4_mix 72 = .ok (.bipush 64, 2) := by decide +kernel
theorem dX4_mix_74 : decode cX4_mix 74 = .ok (.if_icmp .ge 94, 3) := by decide +kernel
theorem dX4_mix_77 : decode cX4_mix 77 = .ok (.aload_n 0, 1) := by decide +kernel
theorem dX4_mix_78 : decode cX4_mix 78 = .ok (.getfield 103, 3) := by decide +kernel
theorem dX4_mix_81 : decode cX4_mix 81 = .ok (.iload_n 2, 1) := by decide +kernel
theorem dX4_mix_82 : decode cX4_mix 82 = .ok (.bipush 15, 2) := by decide +kernel
theorem dX4_mix_84 : decode cX4_mix 84 = .ok (.isub, 1) := by decide +kernel
theorem dX4_mix_85 : decode cX4_mix 85 = .ok (.iaload, 1) := by decide +kernel
theorem dX4_mix_86 : decode cX4_mix 86 = .ok (.istore_n 3, 1) := by decide +kernel
theorem dX4_mix_87 : decode cX4_mix 87 = .ok (.aload_n 0, 1) := by decide +kernel
theorem dX4_mix_88 : decode cX4_mix 88 = .ok (.getfield 103, 3) := by decide +kernel
theorem dX4_mix_91 : decode cX4_mix 91 = .ok (.iload_n 2, 1) := by decide +kernel
theorem dX4_mix_92 : decode cX4_mix 92 = .ok (.iconst 2, 1) := by decide +kernel
theorem dX4_mix_93 : decode cX4_mix 93 = .ok (.isub, 1) := by decide +kernel
theorem dX4_mix_94 : decode cX4_mix 94 = .ok (.iaload, 1) := by decide +kernel
theorem dX4_mix_95 : decode cX4_mix 95 = .ok (.istore 4, 2) := by decide +kernel
theorem dX4_mix_97 : decode cX4_mix 97 = .ok (.aload_n 0, 1) := by decide +kernel
theorem dX4_mix_98 : decode cX4_mix 98 = .ok (.getfield 103, 3) := by decide +kernel
theorem dX4_mix_101 : decode cX4_mix 101 = .ok (.iload_n 2, 1) := by decide +kernel
theorem dX4_mix_102 : decode cX4_mix 102 = .ok (.aload_n 0, 1) := by decide +kernel
theorem dX4_mix_103 : decode cX4_mix 103 = .ok (.getfield 103, 3) := by decide +kernel
theorem dX4_mix_106 : decode cX4_mix 106 = .ok (.iload_n 2, 1) := by decide +kernel
theorem dX4_mix_107 : decode cX4_mix 107 = .ok (.bipush 16, 2) := by decide +kernel
theorem dX4_mix_109 : decode cX4_mix 109 = .ok (.isub, 1) := by decide +kernel
theorem dX4_mix_110 : decode cX4_mix 110 = .ok (.iaload, 1) := by decide +kernel
theorem dX4_mix_111 : decode cX4_mix 111 = .ok (.iload_n 3, 1) := by decide +kernel
theorem dX4_mix_112 : decode cX4_mix 112 = .ok (.bipush 7, 2) := by decide +kernel
theorem dX4_mix_114 : decode cX4_mix 114 = .ok (.invokestatic 138, 3) := by decide +kernel
theorem dX4_mix_117 : decode cX4_mix 117 = .ok (.iload_n 3, 1) := by decide +kernel
theorem dX4_mix_118 : decode cX4_mix 118 = .ok (.bipush 18, 2) := by decide +kernel
theorem dX4_mix_120 : decode cX4_mix 120 = .ok (.invokestatic 138, 3) := by decide +kernel
theorem dX4_mix_123 : decode cX4_mix 123 = .ok (.ixor, 1) := by decide +kernel
theorem dX4_mix_124 : decode cX4_mix 124 = .ok (.iload_n 3, 1) := by decide +kernel
theorem dX4_mix_125 : decode cX4_mix 125 = .ok (.iconst 3, 1) := by decide +kernel
theorem dX4_mix_126 : decode cX4_mix 126 = .ok (.iushr, 1) := by decide +kernel
theorem dX4_mix_127 : decode cX4_mix 127 = .ok (.ixor, 1) := by decide +kernel
theorem dX4_mix_128 : decode cX4_mix 128 = .ok (.iadd, 1) := by decide +kernel
theorem dX4_mix_129 : decode cX4_mix 129 = .ok (.aload_n 0, 1) := by decide +kernel
theorem dX4_mix_130 : decode cX4_mix 130 = .ok (.getfield 103, 3) := by decide +kernel
theorem dX4_mix_133 : decode cX4_mix 133 = .ok (.iload_n 2, 1) := by decide +kernel
theorem dX4_mix_134 : decode cX4_mix 134 = .ok (.bipush 7, 2) := by decide +kernel
theorem dX4_mix_136 : decode cX4_mix 136 = .ok (.isub, 1) := by decide +kernel
theorem dX4_mix_137 : decode cX4_mix 137 = .ok (.iaload, 1) := by decide +kernel
theorem dX4_mix_138 : decode cX4_mix 138 = .ok (.iadd, 1) := by decide +kernel
theorem dX4_mix_139 : decode cX4_mix 139 = .ok (.iload 4, 2) := by decide +kernel
theorem dX4_mix_141 : decode cX4_mix 141 = .ok (.bipush 17, 2) := by decide +kernel
theorem dX4_mix_143 : decode cX4_mix 143 = .ok (.invokestatic 138, 3) := by decide +kernel
theorem dX4_mix_146 : decode cX4_mix 146 = .ok (.iload 4, 2) := by decide +kernel
theorem dX4_mix_148 : decode cX4_mix 148 = .ok (.bipush 19, 2) := by decide +kernel
theorem dX4_mix_150 : decode cX4_mix 150 = .ok (.invokestatic 138, 3) := by decide +kernel
theorem dX4_mix_153 : decode cX4_mix 153 = .ok (.ixor, 1) := by decide +kernel
theorem dX4_mix_154 : decode cX4_mix 154 = .ok (.iload 4, 2) := by decide +kernel
theorem dX4_mix_156 : decode cX4_mix 156 = .ok (.bipush 10, 2) := by decide +kernel
theorem dX4_mix_158 : decode cX4_mix 158 = .ok (.iushr, 1) := by decide +kernel
theorem dX4_mix_159 : decode cX4_mix 159 = .ok (.ixor, 1) := by decide +kernel
theorem dX4_mix_160 : decode cX4_mix 160 = .ok (.iadd, 1) := by decide +kernel
theorem dX4_mix_161 : decode cX4_mix 161 = .ok (.iastore, 1) := by decide +kernel
theorem dX4_mix_162 : decode cX4_mix 162 = .ok (.iinc 2 1, 3) := by decide +kernel
theorem dX4_mix_165 : decode cX4_mix 165 = .ok (.goto (-94), 3) := by decide +kernel
theorem dX4_mix_168 : decode cX4_mix 168 = .ok (.aload_n 0, 1) := by decide +kernel
theorem dX4_mix_169 : decode cX4_mix 169 = .ok (.getfield 106, 3) := by decide +kernel
theorem dX4_mix_172 : decode cX4_mix 172 = .ok (.iconst 0, 1) := by decide +kernel
theorem dX4_mix_173 : decode cX4_mix 173 = .ok (.iaload, 1) := by decide +kernel
theorem dX4_mix_174 : decode cX4_mix 174 = .ok (.istore_n 2, 1) := by decide +kernel
theorem dX4_mix_175 : decode cX4_mix 175 = .ok (.aload_n 0, 1) := by decide +kernel
theorem dX4_mix_176 : decode cX4_mix 176 = .ok (.getfield 106, 3) := by decide +kernel
theorem dX4_mix_179 : decode cX4_mix 179 = .ok (.iconst 1, 1) := by decide +kernel
theorem dX4_mix_180 : decode cX4_mix 180 = .ok (.iaload, 1) := by decide +kernel
theorem dX4_mix_181 : decode cX4_mix 181 = .ok (.istore_n 3, 1) := by decide +kernel
theorem dX4_mix_182 : decode cX4_mix 182 = .ok (.aload_n 0, 1) := by decide +kernel
theorem dX4_mix_183 : decode cX4_mix 183 = .ok (.getfield 106, 3) := by decide +kernel
theorem dX4_mix_186 : decode cX4_mix 186 = .ok (.iconst 2, 1) := by decide +kernel
theorem dX4_mix_187 : decode cX4_mix 187 = .ok (.iaload, 1) := by decide +kernel
theorem dX4_mix_188 : decode cX4_mix 188 = .ok (.istore 4, 2) := by decide +kernel
theorem dX4_mix_190 : decode cX4_mix 190 = .ok (.aload_n 0, 1) := by decide +kernel
theorem dX4_mix_191 : decode cX4_mix 191 = .ok (.getfield 106, 3) := by decide +kernel
theorem dX4_mix_194 : decode cX4_mix 194 = .ok (.iconst 3, 1) := by decide +kernel
theorem dX4_mix_195 : decode cX4_mix 195 = .ok (.iaload, 1) := by decide +kernel
theorem dX4_mix_196 : decode cX4_mix 196 = .ok (.istore 5, 2) := by decide +kernel
theorem dX4_mix_198 : decode cX4_mix 198 = .ok (.aload_n 0, 1) := by decide +kernel
theorem dX4_mix_199 : decode cX4_mix 199 = .ok (.getfield 106, 3) := by decide +kernel
theorem dX4_mix_202 : decode cX4_mix 202 = .ok (.iconst 4, 1) := by decide +kernel
theorem dX4_mix_203 : decode cX4_mix 203 = .ok (.iaload, 1) := by decide +kernel
theorem dX4_mix_204 : decode cX4_mix 204 = .ok (.istore 6, 2) := by decide +kernel
theorem dX4_mix_206 : decode cX4_mix 206 = .ok (.aload_n 0, 1) := by decide +kernel
theorem dX4_mix_207 : decode cX4_mix 207 = .ok (.getfield 106, 3) := by decide +kernel
theorem dX4_mix_210 : decode cX4_mix 210 = .ok (.iconst 5, 1) := by decide +kernel
theorem dX4_mix_211 : decode cX4_mix 211 = .ok (.iaload, 1) := by decide +kernel
theorem dX4_mix_212 : decode cX4_mix 212 = .ok (.istore 7, 2) := by decide +kernel
theorem dX4_mix_214 : decode cX4_mix 214 = .ok (.aload_n 0, 1) := by decide +kernel
theorem dX4_mix_215 : decode cX4_mix 215 = .ok (.getfield 106, 3) := by decide +kernel
theorem dX4_mix_218 : decode cX4_mix 218 = .ok (.bipush 6, 2) := by decide +kernel
theorem dX4_mix_220 : decode cX4_mix 220 = .ok (.iaload, 1) := by decide +kernel
theorem dX4_mix_221 : decode cX4_mix 221 = .ok (.istore 8, 2) := by decide +kernel
theorem dX4_mix_223 : decode cX4_mix 223 = .ok (.aload_n 0, 1) := by decide +kernel
theorem dX4_mix_224 : decode cX4_mix 224 = .ok (.getfield 106, 3) := by decide +kernel
theorem dX4_mix_227 : decode cX4_mix 227 = .ok (.bipush 7, 2) := by decide +kernel
theorem dX4_mix_229 : decode cX4_mix 229 = .ok (.iaload, 1) := by decide +kernel
theorem dX4_mix_230 : decode cX4_mix 230 = .ok (.istore 9, 2) := by decide +kernel
theorem dX4_mix_232 : decode cX4_mix 232 = .ok (.iconst 0, 1) := by decide +kernel
theorem dX4_mix_233 : decode cX4_mix 233 = .ok (.istore 10, 2) := by decide +kernel
theorem dX4_mix_235 : decode cX4_mix 235 = .ok (.iload 10, 2) := by decide +kernel
theorem dX4_mix_237 : decode cX4_mix 237 = .ok (.bipush 64, 2) := by decide +kernel
theorem dX4_mix_239 : decode cX4_mix 239 = .ok (.if_icmp .ge 136, 3) := by decide +kernel
theorem dX4_mix_242 : decode cX4_mix 242 = .ok (.iload 9, 2) := by decide +kernel
theorem dX4_mix_244 : decode cX4_mix 244 = .ok (.iload 6, 2) := by decide +kernel
theorem dX4_mix_246 : decode cX4_mix 246 = .ok (.bipush 6, 2) := by decide +kernel
theorem dX4_mix_248 : decode cX4_mix 248 = .ok (.invokestatic 138, 3) := by decide +kernel
theorem dX4_mix_251 : decode cX4_mix 251 = .ok (.iload 6, 2) := by decide +kernel
theorem dX4_mix_253 : decode cX4_mix 253 = .ok (.bipush 11, 2) := by decide +kernel
theorem dX4_mix_255 : decode cX4_mix 255 = .ok (.invokestatic 138, 3) := by decide +kernel
theorem dX4_mix_258 : decode cX4_mix 258 = .ok (.ixor, 1) := by decide +kernel
theorem dX4_mix_259 : decode cX4_mix 259 = .ok (.iload 6, 2) := by decide +kernel
theorem dX4_mix_261 : decode cX4_mix 261 = .ok (.bipush 25, 2) := by decide +kernel
theorem dX4_mix_263 : decode cX4_mix 263 = .ok (.invokestatic 138, 3) := by decide +kernel
theorem dX4_mix_266 : decode cX4_mix 266 = .ok (.ixor, 1) := by decide +kernel
theorem dX4_mix_267 : decode cX4_mix 267 = .ok (.iadd, 1) := by decide +kernel
theorem dX4_mix_268 : decode cX4_mix 268 = .ok (.iload 6, 2) := by decide +kernel
theorem dX4_mix_270 : decode cX4_mix 270 = .ok (.iload 7, 2) := by decide +kernel
theorem dX4_mix_272 : decode cX4_mix 272 = .ok (.iand, 1) := by decide +kernel
theorem dX4_mix_273 : decode cX4_mix 273 = .ok (.iload 6, 2) := by decide +kernel
theorem dX4_mix_275 : decode cX4_mix 275 = .ok (.iconst (-1), 1) := by decide +kernel
theorem dX4_mix_276 : decode cX4_mix 276 = .ok (.ixor, 1) := by decide +kernel
theorem dX4_mix_277 : decode cX4_mix 277 = .ok (.iload 8, 2) := by decide +kernel
theorem dX4_mix_279 : decode cX4_mix 279 = .ok (.iand, 1) := by decide +kernel
theorem dX4_mix_280 : decode cX4_mix 280 = .ok (.ixor, 1) := by decide +kernel
theorem dX4_mix_281 : decode cX4_mix 281 = .ok (.iadd, 1) := by decide +kernel
theorem dX4_mix_282 : decode cX4_mix 282 = .ok (.aload_n 0, 1) := by decide +kernel
theorem dX4_mix_283 : decode cX4_mix 283 = .ok (.getfield 71, 3) := by decide +kernel
theorem dX4_mix_286 : decode cX4_mix 286 = .ok (.iload 10, 2) := by decide +kernel
theorem dX4_mix_288 : decode cX4_mix 288 = .ok (.iaload, 1) := by decide +kernel
theorem dX4_mix_289 : decode cX4_mix 289 = .ok (.iadd, 1) := by decide +kernel
theorem dX4_mix_290 : decode cX4_mix 290 = .ok (.aload_n 0, 1) := by decide +kernel
theorem dX4_mix_291 : decode cX4_mix 291 = .ok (.getfield 103, 3) := by decide +kernel
theorem dX4_mix_294 : decode cX4_mix 294 = .ok (.iload 10, 2) := by decide +kernel
theorem dX4_mix_296 : decode cX4_mix 296 = .ok (.iaload, 1) := by decide +kernel
theorem dX4_mix_297 : decode cX4_mix 297 = .ok (.iadd, 1) := by decide +kernel
theorem dX4_mix_298 : decode cX4_mix 298 = .ok (.istore 11, 2) := by decide +kernel
theorem dX4_mix_300 : decode cX4_mix 300 = .ok (.iload_n 2, 1) := by decide +kernel
theorem dX4_mix_301 : decode cX4_mix 301 = .ok (.iconst 2, 1) := by decide +kernel
theorem dX4_mix_302 : decode cX4_mix 302 = .ok (.invokestatic 138, 3) := by decide +kernel
theorem dX4_mix_305 : decode cX4_mix 305 = .ok (.iload_n 2, 1) := by decide +kernel
theorem dX4_mix_306 : decode cX4_mix 306 = .ok (.bipush 13, 2) := by decide +kernel
theorem dX4_mix_308 : decode cX4_mix 308 = .ok (.invokestatic 138, 3) := by decide +kernel
theorem dX4_mix_311 : decode cX4_mix 311 = .ok (.ixor, 1) := by decide +kernel
theorem dX4_mix_312 : decode cX4_mix 312 = .ok (.iload_n 2, 1) := by decide +kernel
theorem dX4_mix_313 : decode cX4_mix 313 = .ok (.bipush 22, 2) := by decide +kernel
theorem dX4_mix_315 : decode cX4_mix 315 = .ok (.invokestatic 138, 3) := by decide +kernel
theorem dX4_mix_318 : decode cX4_mix 318 = .ok (.ixor, 1) := by decide +kernel
theorem dX4_mix_319 : decode cX4_mix 319 = .ok (.iload_n 2, 1) := by decide +kernel
theorem dX4_mix_320 : decode cX4_mix 320 = .ok (.iload_n 3, 1) := by decide +kernel
theorem dX4_mix_321 : decode cX4_mix 321 = .ok (.iand, 1) := by decide +kernel
theorem dX4_mix_322 : decode cX4_mix 322 = .ok (.iload_n 2, 1) := by decide +kernel
theorem dX4_mix_323 : decode cX4_mix 323 = .ok (.iload 4, 2) := by decide +kernel
theorem dX4_mix_325 : decode cX4_mix 325 = .ok (.iand, 1) := by decide +kernel
theorem dX4_mix_326 : decode cX4_mix 326 = .ok (.ixor, 1) := by decide +kernel
theorem dX4_mix_327 : decode cX4_mix 327 = .ok (.iload_n 3, 1) := by decide +kernel
theorem dX4_mix_328 : decode cX4_mix 328 = .ok (.iload 4, 2) := by decide +kernel
theorem dX4_mix_330 : decode cX4_mix 330 = .ok (.iand, 1) := by decide +kernel
theorem dX4_mix_331 : decode cX4_mix 331 = .ok (.ixor, 1) := by decide +kernel
theorem dX4_mix_332 : decode cX4_mix 332 = .ok (.iadd, 1) := by decide +kernel
theorem dX4_mix_333 : decode cX4_mix 333 = .ok (.istore 12, 2) := by decide +kernel
theorem dX4_mix_335 : decode cX4_mix 335 = .ok (.iload 8, 2) := by decide +kernel
theorem dX4_mix_337 : decode cX4_mix 337 = .ok (.istore 9, 2) := by decide +kernel
theorem dX4_mix_339 : decode cX4_mix 339 = .ok (.iload 7, 2) := by decide +kernel
theorem dX4_mix_341 : decode cX4_mix 341 = .ok (.istore 8, 2) := by decide +kernel
theorem dX4_mix_343 : decode cX4_mix 343 = .ok (.iload 6, 2) := by decide +kernel
theorem dX4_mix_345 : decode cX4_mix 345 = .ok (.istore 7, 2) := by decide +kernel
theorem dX4_mix_347 : decode cX4_mix 347 = .ok (.iload 5, 2) := by decide +kernel
theorem dX4_mix_349 : decode cX4_mix 349 = .ok (.iload 11, 2) := by decide +kernel
theorem dX4_mix_351 : decode cX4_mix 351 = .ok (.iadd, 1) := by decide +kernel
theorem dX4_mix_352 : decode cX4_mix 352 = .ok (.istore 6, 2) := by decide +kernel
theorem dX4_mix_354 : decode cX4_mix 354 = .ok (.iload 4, 2) := by decide +kernel
theorem dX4_mix_356 : decode cX4_mix 356 = .ok (.istore 5, 2) := by decide +kernel
theorem dX4_mix_358 : decode cX4_mix 358 = .ok (.iload_n 3, 1) := by decide +kernel
theorem dX4_mix_359 : decode cX4_mix 359 = .ok (.istore 4, 2) := by decide +kernel
theorem dX4_mix_361 : decode cX4_mix 361 = .ok (.iload_n 2, 1) := by decide +kernel
theorem dX4_mix_362 : decode cX4_mix 362 = .ok (.istore_n 3, 1) := by decide +kernel
theorem dX4_mix_363 : decode cX4_mix 363 = .ok (.iload 11, 2) := by decide +kernel
theorem dX4_mix_365 : decode cX4_mix 365 = .ok (.iload 12, 2) := by decide +kernel
theorem dX4_mix_367 : decode cX4_mix 367 = .ok (.iadd, 1) := by decide +kernel
theorem dX4_mix_368 : decode cX4_mix 368 = .ok (.istore_n 2, 1) := by decide +kernel
theorem dX4_mix_369 : decode cX4_mix 369 = .ok (.iinc 10 1, 3) := by decide +kernel
theorem dX4_mix_372 : decode cX4_mix 372 = .ok (.goto (-137), 3) := by decide +kernel
theorem dX4_mix_375 : decode cX4_mix 375 = .ok (.aload_n 0, 1) := by decide +kernel
theorem dX4_mix_376 : decode cX4_mix 376 = .ok (.getfield 106, 3) := by decide +kernel
theorem dX4_mix_379 : decode cX4_mix 379 = .ok (.iconst 0, 1) := by decide +kernel
theorem dX4_mix_380 : decode cX4_mix 380 = .ok (.dup2, 1) := by decide +kernel
theorem dX4_mix_381 : decode cX4_mix 381 = .ok (.iaload, 1) := by decide +kernel
theorem dX4_mix_382 : decode cX4_mix 382 = .ok (.iload_n 2, 1) := by decide +kernel
theorem dX4_mix_383 : decode cX4_mix 383 = .ok (.iadd, 1) := by decide +kernel
theorem dX4_mix_384 : decode cX4_mix 384 = .ok (.iastore, 1) := by decide +kernel
theorem dX4_mix_385 : decode cX4_mix 385 = .ok (.aload_n 0, 1) := by decide +kernel
theorem dX4_mix_386 : decode cX4_mix 386 = .ok (.getfield 106, 3) := by decide +kernel
theorem dX4_mix_389 : decode cX4_mix 389 = .ok (.iconst 1, 1) := by decide +kernel
theorem dX4_mix_390 : decode cX4_mix 390 = .ok (.dup2, 1) := by decide +kernel
theorem dX4_mix_391 : decode cX4_mix 391 = .ok (.iaload, 1) := by decide +kernel
theorem dX4_mix_392 : decode cX4_mix 392 = .ok (.iload_n 3, 1) := by decide +kernel
theorem dX4_mix_393 : decode cX4_mix 393 = .ok (.iadd, 1) := by decide +kernel
theorem dX4_mix_394 : decode cX4_mix 394 = .ok (.iastore, 1) := by decide +kernel
theorem dX4_mix_395 : decode cX4_mix 395 = .ok (.aload_n 0, 1) := by decide +kernel
theorem dX4_mix_396 : decode cX4_mix 396 = .ok (.getfield 106, 3) := by decide +kernel
theorem dX4_mix_399 : decode cX4_mix 399 = .ok (.iconst 2, 1) := by decide +kernel
theorem dX4_mix_400 : decode cX4_mix 400 = .ok (.dup2, 1) := by decide +kernel
theorem dX4_mix_401 : decode cX4_mix 401 = .ok (.iaload, 1) := by decide +kernel
theorem dX4_mix_402 : decode cX4_mix 402 = .ok (.iload 4, 2) := by decide +kernel
theorem dX4_mix_404 : decode cX4_mix 404 = .ok (.iadd, 1) := by decide +kernel
theorem dX4_mix_405 : decode cX4_mix 405 = .ok (.iastore, 1) := by decide +kernel
theorem dX4_mix_406 : decode cX4_mix 406 = .ok (.aload_n 0, 1) := by decide +kernel
theorem dX4_mix_407 : decode cX4_mix 407 = .ok (.getfield 106, 3) := by decide +kernel
theorem dX4_mix_410 : decode cX4_mix 410 = .ok (.iconst 3, 1) := by decide +kernel
theorem dX4_mix_411 : decode cX4_mix 411 = .ok (.dup2, 1) := by decide +kernel
theorem dX4_mix_412 : decode cX4_mix 412 = .ok (.iaload, 1) := by decide +kernel
theorem dX4_mix_413 : decode cX4_mix 413 = .ok (.iload 5, 2) := by decide +kernel
theorem dX4_mix_415 : decode cX4_mix 415 = .ok (.iadd, 1) := by decide +kernel
theorem dX4_mix_416 : decode cX4_mix 416 = .ok (.iastore, 1) := by decide +kernel
theorem dX4_mix_417 : decode cX4_mix 417 = .ok (.aload_n 0, 1) := by decide +kernel
theorem dX4_mix_418 : decode cX4_mix 418 = .ok (.getfield 106, 3) := by decide +kernel
theorem dX4_mix_421 : decode cX4_mix 421 = .ok (.iconst 4, 1) := by decide +kernel
theorem dX4_mix_422 : decode cX4_mix 422 = .ok (.dup2, 1) := by decide +kernel
theorem dX4_mix_423 : decode cX4_mix 423 = .ok (.iaload, 1) := by decide +kernel
theorem dX4_mix_424 : decode cX4_mix 424 = .ok (.iload 6, 2) := by decide +kernel
theorem dX4_mix_426 : decode cX4_mix 426 = .ok (.iadd, 1) := by decide +kernel
theorem dX4_mix_427 : decode cX4_mix 427 = .ok (.iastore, 1) := by decide +kernel
theorem dX4_mix_428 : decode cX4_mix 428 = .ok (.aload_n 0, 1) := by decide +kernel
theorem dX4_mix_429 : decode cX4_mix 429 = .ok (.getfield 106, 3) := by decide +kernel
theorem dX4_mix_432 : decode cX4_mix 432 = .ok (.iconst 5, 1) := by decide +kernel
theorem dX4_mix_433 : decode cX4_mix 433 = .ok (.dup2, 1) := by decide +kernel
theorem dX4_mix_434 : decode cX4_mix 434 = .ok (.iaload, 1) := by decide +kernel
theorem dX4_mix_435 : decode cX4_mix 435 = .ok (.iload 7, 2) := by decide +kernel
theorem dX4_mix_437 : decode cX4_mix 437 = .ok (.iadd, 1) := by decide +kernel
theorem dX4_mix_438 : decode cX4_mix 438 = .ok (.iastore, 1) := by decide +kernel
theorem dX4_mix_439 : decode cX4_mix 439 = .ok (.aload_n 0, 1) := by decide +kernel
theorem dX4_mix_440 : decode cX4_mix 440 = .ok (.getfield 106, 3) := by decide +kernel
theorem dX4_mix_443 : decode cX4_mix 443 = .ok (.bipush 6, 2) := by decide +kernel
theorem dX4_mix_445 : decode cX4_mix 445 = .ok (.dup2, 1) := by decide +kernel
theorem dX4_mix_446 : decode cX4_mix 446 = .ok (.iaload, 1) := by decide +kernel
theorem dX4_mix_447 : decode cX4_mix 447 = .ok (.iload 8, 2) := by decide +kernel
theorem dX4_mix_449 : decode cX4_mix 449 = .ok (.iadd, 1) := by decide +kernel
theorem dX4_mix_450 : decode cX4_mix 450 = .ok (.iastore, 1) := by decide +kernel
theorem dX4_mix_451 : decode cX4_mix 451 = .ok (.aload_n 0, 1) := by decide +kernel
theorem dX4_mix_452 : decode cX4_mix 452 = .ok (.getfield 106, 3) := by decide +kernel
theorem dX4_mix_455 : decode cX4_mix 455 = .ok (.bipush 7, 2) := by decide +kernel
theorem dX4_mix_457 : decode cX4_mix 457 = .ok (.dup2, 1) := by decide +kernel
theorem dX4_mix_458 : decode cX4_mix 458 = .ok (.iaload, 1) := by decide +kernel
theorem dX4_mix_459 : decode cX4_mix 459 = .ok (.iload 9, 2) := by decide +kernel
theorem dX4_mix_461 : decode cX4_mix 461 = .ok (.iadd, 1) := by decide +kernel
theorem dX4_mix_462 : decode cX4_mix 462 = .ok (.iastore, 1) := by decide +kernel
theorem dX4_mix_463 : decode cX4_mix 463 = .ok (.return_, 1) := by decide +kernel
theorem dX4_digest_0 : decode cX4_digest 0 = .ok (.iload_n 1, 1) := by decide +kernel
theorem dX4_digest_1 : decode cX4_digest 1 = .ok (.bipush 9, 2) := by decide +kernel
theorem dX4_digest_3 : decode cX4_digest 3 = .ok (.iadd, 1) := by decide +kernel
theorem dX4_digest_4 : decode cX4_digest 4 = .ok (.bipush 63, 2) := by decide +kernel
theorem dX4_digest_6 : decode cX4_digest 6 = .ok (.iadd, 1) := by decide +kernel
theorem dX4_digest_7 : decode cX4_digest 7 = .ok (.bipush 64, 2) := by decide +kernel
theorem dX4_digest_9 : decode cX4_digest 9 = .ok (.idiv, 1) := by decide +kernel
theorem dX4_digest_10 : decode cX4_digest 10 = .ok (.istore_n 2, 1) := by decide +kernel
theorem dX4_digest_11 : decode cX4_digest 11 = .ok (.iload_n 1, 1) := by decide +kernel
theorem dX4_digest_12 : decode cX4_digest 12 = .ok (.istore_n 3, 1) := by decide +kernel
theorem dX4_digest_13 : decode cX4_digest 13 = .ok (.iload_n 3, 1) := by decide +kernel
theorem dX4_digest_14 : decode cX4_digest 14 = .ok (.bipush 64, 2) := by decide +kernel
theorem dX4_digest_16 : decode cX4_digest 16 = .ok (.iload_n 2, 1) := by decide +kernel
theorem dX4_digest_17 : decode cX4_digest 17 = .ok (.imul, 1) := by decide +kernel
theorem dX4_digest_18 : decode cX4_digest 18 = .ok (.if_icmp .ge 27, 3) := by decide +kernel
theorem dX4_digest_21 : decode cX4_digest 21 = .ok (.aload_n 0, 1) := by decide +kernel
theorem dX4_digest_22 : decode cX4_digest 22 = .ok (.getfield 100, 3) := by decide +kernel
theorem dX4_digest_25 : decode cX4_digest 25 = .ok (.iload_n 3, 1) := by decide +kernel
theorem dX4_digest_26 : decode cX4_digest 26 = .ok (.iload_n 3, 1) := by decide +kernel
theorem dX4_digest_27 : decode cX4_digest 27 = .ok (.iload_n 1, 1) := by decide +kernel
theorem dX4_digest_28 : decode cX4_digest 28 = .ok (.if_icmp .ne 9, 3) := by decide +kernel
theorem dX4_digest_31 : decode cX4_digest 31 = .ok (.sipush 128, 3) := by decide +kernel
theorem dX4_digest_34 : decode cX4_digest 34 = .ok (.goto 4, 3) := by decide +kernel
theorem dX4_digest_37 : decode cX4_digest 37 = .ok (.iconst 0, 1) := by decide +kernel
theorem dX4_digest_38 : decode cX4_digest 38 = .ok (.iastore, 1) := by decide +kernel
theorem dX4_digest_39 : decode cX4_digest 39 = .ok (.iinc 3 1, 3) := by decide +kernel
theorem dX4_digest_42 : decode cX4_digest 42 = .ok (.goto (-29), 3) := by decide +kernel
theorem dX4_digest_45 : decode cX4_digest 45 = .ok (.aload_n 0, 1) := by decide +kernel
theorem dX4_digest_46 : decode cX4_digest 46 = .ok (.getfield 100, 3) := by decide +kernel
theorem dX4_digest_49 : decode cX4_digest 49 = .ok (.bipush 64, 2) := by decide +kernel
theorem dX4_digest_51 : decode cX4_digest 51 = .ok (.iload_n 2, 1) := by decide +kernel
theorem dX4_digest_52 : decode cX4_digest 52 = .ok (.imul, 1) := by decide +kernel
theorem dX4_digest_53 : decode cX4_digest 53 = .ok (.iconst 2, 1) := by decide +kernel
theorem dX4_digest_54 : decode cX4_digest 54 = .ok (.isub, 1) := by decide +kernel
theorem dX4_digest_55 : decode cX4_digest 55 = .ok (.bipush 8, 2) := by decide +kernel
theorem dX4_digest_57 : decode cX4_digest 57 = .ok (.iload_n 1, 1) := by decide +kernel
theorem dX4_digest_58 : decode cX4_digest 58 = .ok (.imul, 1) := by decide +kernel
theorem dX4_digest_59 : decode cX4_digest 59 = .ok (.bipush 8, 2) := by decide +kernel
theorem dX4_digest_61 : decode cX4_digest 61 = .ok (.ishr, 1) := by decide +kernel
theorem dX4_digest_62 : decode cX4_digest 62 = .ok (.sipush 255, 3) := by decide +kernel
theorem dX4_digest_65 : decode cX4_digest 65 = .ok (.iand, 1) := by decide +kernel
theorem dX4_digest_66 : decode cX4_digest 66 = .ok (.iastore, 1) := by decide +kernel
theorem dX4_digest_67 : decode cX4_digest 67 = .ok (.aload_n 0, 1) := by decide +kernel
theorem dX4_digest_68 : decode cX4_digest 68 = .ok (.getfield 100, 3) := by decide +kernel
theorem dX4_digest_71 : decode cX4_digest 71 = .ok (.bipush 64, 2) := by decide +kernel
theorem dX4_digest_73 : decode cX4_digest 73 = .ok (.iload_n 2, 1) := by decide +kernel
theorem dX4_digest_74 : decode cX4_digest 74 = .ok (.imul, 1) := by decide +kernel
theorem dX4_digest_75 : decode cX4_digest 75 = .ok (.iconst 1, 1) := by decide +kernel
theorem dX4_digest_76 : decode cX4_digest 76 = .ok (.isub, 1) := by decide +kernel
theorem dX4_digest_77 : decode cX4_digest 77 = .ok (.bipush 8, 2) := by decide +kernel
theorem dX4_digest_79 : decode cX4_digest 79 = .ok (.iload_n 1, 1) := by decide +kernel
theorem dX4_digest_80 : decode cX4_digest 80 = .ok (.imul, 1) := by decide +kernel
theorem dX4_digest_81 : decode cX4_digest 81 = .ok (.sipush 255, 3) := by decide +kernel
theorem dX4_digest_84 : decode cX4_digest 84 = .ok (.iand, 1) := by decide +kernel
theorem dX4_digest_85 : decode cX4_digest 85 = .ok (.iastore, 1) := by decide +kernel
theorem dX4_digest_86 : decode cX4_digest 86 = .ok (.iconst 0, 1) := by decide +kernel
theorem dX4_digest_87 : decode cX4_digest 87 = .ok (.istore_n 3, 1) := by decide +kernel
theorem dX4_digest_88 : decode cX4_digest 88 = .ok (.iload_n 3, 1) := by decide +kernel
theorem dX4_digest_89 : decode cX4_digest 89 = .ok (.bipush 8, 2) := by decide +kernel
theorem dX4_digest_91 : decode cX4_digest 91 = .ok (.if_icmp .ge 21, 3) := by decide +kernel
theorem dX4_digest_94 : decode cX4_digest 94 = .ok (.aload_n 0, 1) := by decide +kernel
theorem dX4_digest_95 : decode cX4_digest 95 = .ok (.getfield 106, 3) := by decide +kernel
theorem dX4_digest_98 : decode cX4_digest 98 = .ok (.iload_n 3, 1) := by decide +kernel
theorem dX4_digest_99 : decode cX4_digest 99 = .ok (.aload_n 0, 1) := by decide +kernel
theorem dX4_digest_100 : decode cX4_digest 100 = .ok (.getfield 85, 3) := by decide +kernel
theorem dX4_digest_103 : decode cX4_digest 103 = .ok (.iload_n 3, 1) := by decide +kernel
theorem dX4_digest_104 : decode cX4_digest 104 = .ok (.iaload, 1) := by decide +kernel
theorem dX4_digest_105 : decode cX4_digest 105 = .ok (.iastore, 1) := by decide +kernel
theorem dX4_digest_106 : decode cX4_digest 106 = .ok (.iinc 3 1, 3) := by decide +kernel
theorem dX4_digest_109 : decode cX4_digest 109 = .ok (.goto (-21), 3) := by decide +kernel
theorem dX4_digest_112 : decode cX4_digest 112 = .ok (.iconst 0, 1) := by decide +kernel
theorem dX4_digest_113 : decode cX4_digest 113 = .ok (.istore_n 3, 1) := by decide +kernel
theorem dX4_digest_114 : decode cX4_digest 114 = .ok (.iload_n 3, 1) := by decide +kernel
theorem dX4_digest_115 : decode cX4_digest 115 = .ok (.iload_n 2, 1) := by decide +kernel
theorem dX4_digest_116 : decode cX4_digest 116 = .ok (.if_icmp .ge 17, 3) := by decide +kernel
theorem dX4_digest_119 : decode cX4_digest 119 = .ok (.aload_n 0, 1) := by decide +kernel
theorem dX4_digest_120 : decode cX4_digest 120 = .ok (.bipush 64, 2) := by decide +kernel
theorem dX4_digest_122 : decode cX4_digest 122 = .ok (.iload_n 3, 1) := by decide +kernel
theorem dX4_digest_123 : decode cX4_digest 123 = .ok (.imul, 1) := by decide +kernel
theorem dX4_digest_124 : decode cX4_digest 124 = .ok (.invokevirtual 142, 3) := by decide +kernel
theorem dX4_digest_127 : decode cX4_digest 127 = .ok (.iinc 3 1, 3) := by decide +kernel
theorem dX4_digest_130 : decode cX4_digest 130 = .ok (.goto (-16), 3) := by decide +kernel
theorem dX4_digest_133 : decode cX4_digest 133 = .ok (.return_, 1) := by decide +kernel
theorem dX4_leaf_0 : decode cX4_leaf 0 = .ok (.aload_n 0, 1) := by decide +kernel
theorem dX4_leaf_1 : decode cX4_leaf 1 = .ok (.getfield 100, 3) := by decide +kernel
theorem dX4_leaf_4 : decode cX4_leaf 4 = .ok (.iconst 0, 1) := by decide +kernel
end
section
theorem dX4_leaf_5 : decode cX4_leaf 5 = .ok (.iconst 0, 1) := by decide +kernel
theorem dX4_leaf_6 : decode cX4_leaf 6 = .ok (.iastore, 1) := by decide +kernel
theorem dX4_leaf_7 : decode cX4_leaf 7 = .ok (.aload_n 0, 1) := by decide +kernel
theorem dX4_leaf_8 : decode cX4_leaf 8 = .ok (.getfield 100, 3) := by decide +kernel
theorem dX4_leaf_11 : decode cX4_leaf 11 = .ok (.iconst 1, 1) := by decide +kernel
theorem dX4_leaf_12 : decode cX4_leaf 12 = .ok (.iload_n 1, 1) := by decide +kernel
theorem dX4_leaf_13 : decode cX4_leaf 13 = .ok (.bipush 8, 2) := by decide +kernel
theorem dX4_leaf_15 : decode cX4_leaf 15 = .ok (.ishr, 1) := by decide +kernel
theorem dX4_leaf_16 : decode cX4_leaf 16 = .ok (.iastore, 1) := by decide +kernel
theorem dX4_leaf_17 : decode cX4_leaf 17 = .ok (.aload_n 0, 1) := by decide +kernel
theorem dX4_leaf_18 : decode cX4_leaf 18 = .ok (.getfield 100, 3) := by decide +kernel
theorem dX4_leaf_21 : decode cX4_leaf 21 = .ok (.iconst 2, 1) := by decide +kernel
theorem dX4_leaf_22 : decode cX4_leaf 22 = .ok (.iload_n 1, 1) := by decide +kernel
theorem dX4_leaf_23 : decode cX4_leaf 23 = .ok (.sipush 255, 3) := by decide +kernel
theorem dX4_leaf_26 : decode cX4_leaf 26 = .ok (.iand, 1) := by decide +kernel
theorem dX4_leaf_27 : decode cX4_leaf 27 = .ok (.iastore, 1) := by decide +kernel
theorem dX4_leaf_28 : decode cX4_leaf 28 = .ok (.iconst 0, 1) := by decide +kernel
theorem dX4_leaf_29 : decode cX4_leaf 29 = .ok (.istore_n 3, 1) := by decide +kernel
theorem dX4_leaf_30 : decode cX4_leaf 30 = .ok (.iload_n 3, 1) := by decide +kernel
theorem dX4_leaf_31 : decode cX4_leaf 31 = .ok (.iconst 4, 1) := by decide +kernel
theorem dX4_leaf_32 : decode cX4_leaf 32 = .ok (.if_icmp .ge 30, 3) := by decide +kernel
theorem dX4_leaf_35 : decode cX4_leaf 35 = .ok (.aload_n 0, 1) := by decide +kernel
theorem dX4_leaf_36 : decode cX4_leaf 36 = .ok (.getfield 100, 3) := by decide +kernel
theorem dX4_leaf_39 : decode cX4_leaf 39 = .ok (.iconst 3, 1) := by decide +kernel
theorem dX4_leaf_40 : decode cX4_leaf 40 = .ok (.iload_n 3, 1) := by decide +kernel
theorem dX4_leaf_41 : decode cX4_leaf 41 = .ok (.iadd, 1) := by decide +kernel
theorem dX4_leaf_42 : decode cX4_leaf 42 = .ok (.iload_n 2, 1) := by decide +kernel
theorem dX4_leaf_43 : decode cX4_leaf 43 = .ok (.bipush 24, 2) := by decide +kernel
theorem dX4_leaf_45 : decode cX4_leaf 45 = .ok (.bipush 8, 2) := by decide +kernel
theorem dX4_leaf_47 : decode cX4_leaf 47 = .ok (.iload_n 3, 1) := by decide +kernel
theorem dX4_leaf_48 : decode cX4_leaf 48 = .ok (.imul, 1) := by decide +kernel
theorem dX4_leaf_49 : decode cX4_leaf 49 = .ok (.isub, 1) := by decide +kernel
theorem dX4_leaf_50 : decode cX4_leaf 50 = .ok (.ishr, 1) := by decide +kernel
theorem dX4_leaf_51 : decode cX4_leaf 51 = .ok (.sipush 255, 3) := by decide +kernel
theorem dX4_leaf_54 : decode cX4_leaf 54 = .ok (.iand, 1) := by decide +kernel
theorem dX4_leaf_55 : decode cX4_leaf 55 = .ok (.iastore, 1) := by decide +kernel
theorem dX4_leaf_56 : decode cX4_leaf 56 = .ok (.iinc 3 1, 3) := by decide +kernel
theorem dX4_leaf_59 : decode cX4_leaf 59 = .ok (.goto (-29), 3) := by decide +kernel
theorem dX4_leaf_62 : decode cX4_leaf 62 = .ok (.aload_n 0, 1) := by decide +kernel
theorem dX4_leaf_63 : decode cX4_leaf 63 = .ok (.bipush 7, 2) := by decide +kernel
theorem dX4_leaf_65 : decode cX4_leaf 65 = .ok (.invokevirtual 146, 3) := by decide +kernel
theorem dX4_leaf_68 : decode cX4_leaf 68 = .ok (.return_, 1) := by decide +kernel
theorem dX4_half_0 : decode cX4_half 0 = .ok (.iconst 0, 1) := by decide +kernel
theorem dX4_half_1 : decode cX4_half 1 = .ok (.istore 4, 2) := by decide +kernel
theorem dX4_half_3 : decode cX4_half 3 = .ok (.iload 4, 2) := by decide +kernel
theorem dX4_half_5 : decode cX4_half 5 = .ok (.iconst 4, 1) := by decide +kernel
theorem dX4_half_6 : decode cX4_half 6 = .ok (.if_icmp .ge 41, 3) := by decide +kernel
theorem dX4_half_9 : decode cX4_half 9 = .ok (.aload_n 0, 1) := by decide +kernel
theorem dX4_half_10 : decode cX4_half 10 = .ok (.getfield 100, 3) := by decide +kernel
theorem dX4_half_13 : decode cX4_half 13 = .ok (.iconst 1, 1) := by decide +kernel
theorem dX4_half_14 : decode cX4_half 14 = .ok (.bipush 32, 2) := by decide +kernel
theorem dX4_half_16 : decode cX4_half 16 = .ok (.iload_n 1, 1) := by decide +kernel
theorem dX4_half_17 : decode cX4_half 17 = .ok (.imul, 1) := by decide +kernel
theorem dX4_half_18 : decode cX4_half 18 = .ok (.iadd, 1) := by decide +kernel
theorem dX4_half_19 : decode cX4_half 19 = .ok (.iconst 4, 1) := by decide +kernel
theorem dX4_half_20 : decode cX4_half 20 = .ok (.iload_n 2, 1) := by decide +kernel
theorem dX4_half_21 : decode cX4_half 21 = .ok (.imul, 1) := by decide +kernel
theorem dX4_half_22 : decode cX4_half 22 = .ok (.iadd, 1) := by decide +kernel
theorem dX4_half_23 : decode cX4_half 23 = .ok (.iload 4, 2) := by decide +kernel
theorem dX4_half_25 : decode cX4_half 25 = .ok (.iadd, 1) := by decide +kernel
theorem dX4_half_26 : decode cX4_half 26 = .ok (.iload_n 3, 1) := by decide +kernel
theorem dX4_half_27 : decode cX4_half 27 = .ok (.bipush 24, 2) := by decide +kernel
theorem dX4_half_29 : decode cX4_half 29 = .ok (.bipush 8, 2) := by decide +kernel
theorem dX4_half_31 : decode cX4_half 31 = .ok (.iload 4, 2) := by decide +kernel
theorem dX4_half_33 : decode cX4_half 33 = .ok (.imul, 1) := by decide +kernel
theorem dX4_half_34 : decode cX4_half 34 = .ok (.isub, 1) := by decide +kernel
theorem dX4_half_35 : decode cX4_half 35 = .ok (.ishr, 1) := by decide +kernel
theorem dX4_half_36 : decode cX4_half 36 = .ok (.sipush 255, 3) := by decide +kernel
theorem dX4_half_39 : decode cX4_half 39 = .ok (.iand, 1) := by decide +kernel
theorem dX4_half_40 : decode cX4_half 40 = .ok (.iastore, 1) := by decide +kernel
theorem dX4_half_41 : decode cX4_half 41 = .ok (.iinc 4 1, 3) := by decide +kernel
theorem dX4_half_44 : decode cX4_half 44 = .ok (.goto (-41), 3) := by decide +kernel
theorem dX4_half_47 : decode cX4_half 47 = .ok (.return_, 1) := by decide +kernel
theorem dX4_join_0 : decode cX4_join 0 = .ok (.aload_n 0, 1) := by decide +kernel
theorem dX4_join_1 : decode cX4_join 1 = .ok (.getfield 100, 3) := by decide +kernel
theorem dX4_join_4 : decode cX4_join 4 = .ok (.iconst 0, 1) := by decide +kernel
theorem dX4_join_5 : decode cX4_join 5 = .ok (.iconst 1, 1) := by decide +kernel
theorem dX4_join_6 : decode cX4_join 6 = .ok (.iastore, 1) := by decide +kernel
theorem dX4_join_7 : decode cX4_join 7 = .ok (.aload_n 0, 1) := by decide +kernel
theorem dX4_join_8 : decode cX4_join 8 = .ok (.bipush 65, 2) := by decide +kernel
theorem dX4_join_10 : decode cX4_join 10 = .ok (.invokevirtual 146, 3) := by decide +kernel
theorem dX4_join_13 : decode cX4_join 13 = .ok (.return_, 1) := by decide +kernel
theorem dX4_begin_0 : decode cX4_begin 0 = .ok (.aload_n 0, 1) := by decide +kernel
theorem dX4_begin_1 : decode cX4_begin 1 = .ok (.aload_n 0, 1) := by decide +kernel
theorem dX4_begin_2 : decode cX4_begin 2 = .ok (.getfield 94, 3) := by decide +kernel
theorem dX4_begin_5 : decode cX4_begin 5 = .ok (.iload_n 1, 1) := by decide +kernel
theorem dX4_begin_6 : decode cX4_begin 6 = .ok (.iaload, 1) := by decide +kernel
theorem dX4_begin_7 : decode cX4_begin 7 = .ok (.putfield 149, 3) := by decide +kernel
theorem dX4_begin_10 : decode cX4_begin 10 = .ok (.iconst 0, 1) := by decide +kernel
theorem dX4_begin_11 : decode cX4_begin 11 = .ok (.istore_n 2, 1) := by decide +kernel
theorem dX4_begin_12 : decode cX4_begin 12 = .ok (.iload_n 2, 1) := by decide +kernel
theorem dX4_begin_13 : decode cX4_begin 13 = .ok (.aload_n 0, 1) := by decide +kernel
theorem dX4_begin_14 : decode cX4_begin 14 = .ok (.getfield 149, 3) := by decide +kernel
theorem dX4_begin_17 : decode cX4_begin 17 = .ok (.if_icmp .ge 101, 3) := by decide +kernel
theorem dX4_begin_20 : decode cX4_begin 20 = .ok (.aload_n 0, 1) := by decide +kernel
theorem dX4_begin_21 : decode cX4_begin 21 = .ok (.getfield 88, 3) := by decide +kernel
theorem dX4_begin_24 : decode cX4_begin 24 = .ok (.sipush 300, 3) := by decide +kernel
theorem dX4_begin_27 : decode cX4_begin 27 = .ok (.iload_n 1, 1) := by decide +kernel
theorem dX4_begin_28 : decode cX4_begin 28 = .ok (.imul, 1) := by decide +kernel
theorem dX4_begin_29 : decode cX4_begin 29 = .ok (.iload_n 2, 1) := by decide +kernel
theorem dX4_begin_30 : decode cX4_begin 30 = .ok (.iadd, 1) := by decide +kernel
theorem dX4_begin_31 : decode cX4_begin 31 = .ok (.iaload, 1) := by decide +kernel
theorem dX4_begin_32 : decode cX4_begin 32 = .ok (.istore_n 3, 1) := by decide +kernel
theorem dX4_begin_33 : decode cX4_begin 33 = .ok (.aload_n 0, 1) := by decide +kernel
theorem dX4_begin_34 : decode cX4_begin 34 = .ok (.getfield 109, 3) := by decide +kernel
theorem dX4_begin_37 : decode cX4_begin 37 = .ok (.iload_n 2, 1) := by decide +kernel
theorem dX4_begin_38 : decode cX4_begin 38 = .ok (.iload_n 3, 1) := by decide +kernel
theorem dX4_begin_39 : decode cX4_begin 39 = .ok (.iastore, 1) := by decide +kernel
theorem dX4_begin_40 : decode cX4_begin 40 = .ok (.aload_n 0, 1) := by decide +kernel
theorem dX4_begin_41 : decode cX4_begin 41 = .ok (.getfield 112, 3) := by decide +kernel
theorem dX4_begin_44 : decode cX4_begin 44 = .ok (.iload_n 2, 1) := by decide +kernel
theorem dX4_begin_45 : decode cX4_begin 45 = .ok (.iconst 1, 1) := by decide +kernel
theorem dX4_begin_46 : decode cX4_begin 46 = .ok (.iastore, 1) := by decide +kernel
theorem dX4_begin_47 : decode cX4_begin 47 = .ok (.aload_n 0, 1) := by decide +kernel
theorem dX4_begin_48 : decode cX4_begin 48 = .ok (.getfield 115, 3) := by decide +kernel
theorem dX4_begin_51 : decode cX4_begin 51 = .ok (.iload_n 2, 1) := by decide +kernel
theorem dX4_begin_52 : decode cX4_begin 52 = .ok (.sipush 300, 3) := by decide +kernel
theorem dX4_begin_55 : decode cX4_begin 55 = .ok (.iload_n 1, 1) := by decide +kernel
theorem dX4_begin_56 : decode cX4_begin 56 = .ok (.imul, 1) := by decide +kernel
theorem dX4_begin_57 : decode cX4_begin 57 = .ok (.iload_n 2, 1) := by decide +kernel
theorem dX4_begin_58 : decode cX4_begin 58 = .ok (.iadd, 1) := by decide +kernel
theorem dX4_begin_59 : decode cX4_begin 59 = .ok (.iastore, 1) := by decide +kernel
theorem dX4_begin_60 : decode cX4_begin 60 = .ok (.aload_n 0, 1) := by decide +kernel
theorem dX4_begin_61 : decode cX4_begin 61 = .ok (.iload_n 3, 1) := by decide +kernel
theorem dX4_begin_62 : decode cX4_begin 62 = .ok (.aload_n 0, 1) := by decide +kernel
theorem dX4_begin_63 : decode cX4_begin 63 = .ok (.getfield 91, 3) := by decide +kernel
theorem dX4_begin_66 : decode cX4_begin 66 = .ok (.sipush 300, 3) := by decide +kernel
theorem dX4_begin_69 : decode cX4_begin 69 = .ok (.iload_n 1, 1) := by decide +kernel
theorem dX4_begin_70 : decode cX4_begin 70 = .ok (.imul, 1) := by decide +kernel
theorem dX4_begin_71 : decode cX4_begin 71 = .ok (.iload_n 2, 1) := by decide +kernel
theorem dX4_begin_72 : decode cX4_begin 72 = .ok (.iadd, 1) := by decide +kernel
theorem dX4_begin_73 : decode cX4_begin 73 = .ok (.iaload, 1) := by decide +kernel
theorem dX4_begin_74 : decode cX4_begin 74 = .ok (.invokevirtual 152, 3) := by decide +kernel
theorem dX4_begin_77 : decode cX4_begin 77 = .ok (.iconst 0, 1) := by decide +kernel
theorem dX4_begin_78 : decode cX4_begin 78 = .ok (.istore 4, 2) := by decide +kernel
theorem dX4_begin_80 : decode cX4_begin 80 = .ok (.iload 4, 2) := by decide +kernel
theorem dX4_begin_82 : decode cX4_begin 82 = .ok (.bipush 8, 2) := by decide +kernel
theorem dX4_begin_84 : decode cX4_begin 84 = .ok (.if_icmp .ge 28, 3) := by decide +kernel
theorem dX4_begin_87 : decode cX4_begin 87 = .ok (.aload_n 0, 1) := by decide +kernel
theorem dX4_begin_88 : decode cX4_begin 88 = .ok (.getfield 118, 3) := by decide +kernel
theorem dX4_begin_91 : decode cX4_begin 91 = .ok (.bipush 8, 2) := by decide +kernel
theorem dX4_begin_93 : decode cX4_begin 93 = .ok (.iload_n 2, 1) := by decide +kernel
theorem dX4_begin_94 : decode cX4_begin 94 = .ok (.imul, 1) := by decide +kernel
theorem dX4_begin_95 : decode cX4_begin 95 = .ok (.iload 4, 2) := by decide +kernel
theorem dX4_begin_97 : decode cX4_begin 97 = .ok (.iadd, 1) := by decide +kernel
theorem dX4_begin_98 : decode cX4_begin 98 = .ok (.aload_n 0, 1) := by decide +kernel
theorem dX4_begin_99 : decode cX4_begin 99 = .ok (.getfield 106, 3) := by decide +kernel
theorem dX4_begin_102 : decode cX4_begin 102 = .ok (.iload 4, 2) := by decide +kernel
theorem dX4_begin_104 : decode cX4_begin 104 = .ok (.iaload, 1) := by decide +kernel
theorem dX4_begin_105 : decode cX4_begin 105 = .ok (.iastore, 1) := by decide +kernel
theorem dX4_begin_106 : decode cX4_begin 106 = .ok (.iinc 4 1, 3) := by decide +kernel
theorem dX4_begin_109 : decode cX4_begin 109 = .ok (.goto (-29), 3) := by decide +kernel
theorem dX4_begin_112 : decode cX4_begin 112 = .ok (.iinc 2 1, 3) := by decide +kernel
theorem dX4_begin_115 : decode cX4_begin 115 = .ok (.goto (-103), 3) := by decide +kernel
theorem dX4_begin_118 : decode cX4_begin 118 = .ok (.return_, 1) := by decide +kernel
theorem dX4_look_0 : decode cX4_look 0 = .ok (.iload_n 2, 1) := by decide +kernel
theorem dX4_look_1 : decode cX4_look 1 = .ok (.bipush 16, 2) := by decide +kernel
theorem dX4_look_3 : decode cX4_look 3 = .ok (.iload_n 1, 1) := by decide +kernel
theorem dX4_look_4 : decode cX4_look 4 = .ok (.isub, 1) := by decide +kernel
theorem dX4_look_5 : decode cX4_look 5 = .ok (.ishr, 1) := by decide +kernel
theorem dX4_look_6 : decode cX4_look 6 = .ok (.istore_n 3, 1) := by decide +kernel
theorem dX4_look_7 : decode cX4_look 7 = .ok (.aload_n 0, 1) := by decide +kernel
theorem dX4_look_8 : decode cX4_look 8 = .ok (.getfield 121, 3) := by decide +kernel
theorem dX4_look_11 : decode cX4_look 11 = .ok (.iload_n 1, 1) := by decide +kernel
theorem dX4_look_12 : decode cX4_look 12 = .ok (.iconst 0, 1) := by decide +kernel
theorem dX4_look_13 : decode cX4_look 13 = .ok (.iastore, 1) := by decide +kernel
theorem dX4_look_14 : decode cX4_look 14 = .ok (.iconst 0, 1) := by decide +kernel
theorem dX4_look_15 : decode cX4_look 15 = .ok (.istore 4, 2) := by decide +kernel
theorem dX4_look_17 : decode cX4_look 17 = .ok (.iload 4, 2) := by decide +kernel
theorem dX4_look_19 : decode cX4_look 19 = .ok (.bipush 8, 2) := by decide +kernel
theorem dX4_look_21 : decode cX4_look 21 = .ok (.if_icmp .ge 22, 3) := by decide +kernel
theorem dX4_look_24 : decode cX4_look 24 = .ok (.aload_n 0, 1) := by decide +kernel
theorem dX4_look_25 : decode cX4_look 25 = .ok (.getfield 127, 3) := by decide +kernel
theorem dX4_look_28 : decode cX4_look 28 = .ok (.bipush 8, 2) := by decide +kernel
theorem dX4_look_30 : decode cX4_look 30 = .ok (.iload_n 1, 1) := by decide +kernel
theorem dX4_look_31 : decode cX4_look 31 = .ok (.imul, 1) := by decide +kernel
theorem dX4_look_32 : decode cX4_look 32 = .ok (.iload 4, 2) := by decide +kernel
theorem dX4_look_34 : decode cX4_look 34 = .ok (.iadd, 1) := by decide +kernel
theorem dX4_look_35 : decode cX4_look 35 = .ok (.iconst 0, 1) := by decide +kernel
theorem dX4_look_36 : decode cX4_look 36 = .ok (.iastore, 1) := by decide +kernel
theorem dX4_look_37 : decode cX4_look 37 = .ok (.iinc 4 1, 3) := by decide +kernel
theorem dX4_look_40 : decode cX4_look 40 = .ok (.goto (-23), 3) := by decide +kernel
theorem dX4_look_43 : decode cX4_look 43 = .ok (.iconst 0, 1) := by decide +kernel
theorem dX4_look_44 : decode cX4_look 44 = .ok (.istore 4, 2) := by decide +kernel
theorem dX4_look_46 : decode cX4_look 46 = .ok (.iload 4, 2) := by decide +kernel
theorem dX4_look_48 : decode cX4_look 48 = .ok (.aload_n 0, 1) := by decide +kernel
theorem dX4_look_49 : decode cX4_look 49 = .ok (.getfield 149, 3) := by decide +kernel
theorem dX4_look_52 : decode cX4_look 52 = .ok (.if_icmp .ge 104, 3) := by decide +kernel
theorem dX4_look_55 : decode cX4_look 55 = .ok (.aload_n 0, 1) := by decide +kernel
theorem dX4_look_56 : decode cX4_look 56 = .ok (.getfield 109, 3) := by decide +kernel
theorem dX4_look_59 : decode cX4_look 59 = .ok (.iload 4, 2) := by decide +kernel
theorem dX4_look_61 : decode cX4_look 61 = .ok (.iaload, 1) := by decide +kernel
theorem dX4_look_62 : decode cX4_look 62 = .ok (.iload_n 3, 1) := by decide +kernel
theorem dX4_look_63 : decode cX4_look 63 = .ok (.if_icmp .ne 29, 3) := by decide +kernel
theorem dX4_look_66 : decode cX4_look 66 = .ok (.aload_n 0, 1) := by decide +kernel
theorem dX4_look_67 : decode cX4_look 67 = .ok (.getfield 121, 3) := by decide +kernel
theorem dX4_look_70 : decode cX4_look 70 = .ok (.iload_n 1, 1) := by decide +kernel
theorem dX4_look_71 : decode cX4_look 71 = .ok (.aload_n 0, 1) := by decide +kernel
theorem dX4_look_72 : decode cX4_look 72 = .ok (.getfield 112, 3) := by decide +kernel
theorem dX4_look_75 : decode cX4_look 75 = .ok (.iload 4, 2) := by decide +kernel
theorem dX4_look_77 : decode cX4_look 77 = .ok (.iaload, 1) := by decide +kernel
theorem dX4_look_78 : decode cX4_look 78 = .ok (.iastore, 1) := by decide +kernel
theorem dX4_look_79 : decode cX4_look 79 = .ok (.aload_n 0, 1) := by decide +kernel
theorem dX4_look_80 : decode cX4_look 80 = .ok (.getfield 124, 3) := by decide +kernel
theorem dX4_look_83 : decode cX4_look 83 = .ok (.iload_n 1, 1) := by decide +kernel
theorem dX4_look_84 : decode cX4_look 84 = .ok (.aload_n 0, 1) := by decide +kernel
theorem dX4_look_85 : decode cX4_look 85 = .ok (.getfield 115, 3) := by decide +kernel
theorem dX4_look_88 : decode cX4_look 88 = .ok (.iload 4, 2) := by decide +kernel
theorem dX4_look_90 : decode cX4_look 90 = .ok (.iaload, 1) := by decide +kernel
theorem dX4_look_91 : decode cX4_look 91 = .ok (.iastore, 1) := by decide +kernel
theorem dX4_look_92 : decode cX4_look 92 = .ok (.iconst 0, 1) := by decide +kernel
theorem dX4_look_93 : decode cX4_look 93 = .ok (.istore 5, 2) := by decide +kernel
theorem dX4_look_95 : decode cX4_look 95 = .ok (.iload 5, 2) := by decide +kernel
theorem dX4_look_97 : decode cX4_look 97 = .ok (.bipush 8, 2) := by decide +kernel
theorem dX4_look_99 : decode cX4_look 99 = .ok (.if_icmp .ge 51, 3) := by decide +kernel
theorem dX4_look_102 : decode cX4_look 102 = .ok (.iload_n 1, 1) := by decide +kernel
theorem dX4_look_103 : decode cX4_look 103 = .ok (.ifCond .le 47, 3) := by decide +kernel
theorem dX4_look_106 : decode cX4_look 106 = .ok (.aload_n 0, 1) := by decide +kernel
theorem dX4_look_107 : decode cX4_look 107 = .ok (.getfield 109, 3) := by decide +kernel
theorem dX4_look_110 : decode cX4_look 110 = .ok (.iload 4, 2) := by decide +kernel
theorem dX4_look_112 : decode cX4_look 112 = .ok (.iaload, 1) := by decide +kernel
theorem dX4_look_113 : decode cX4_look 113 = .ok (.iload_n 3, 1) := by decide +kernel
theorem dX4_look_114 : decode cX4_look 114 = .ok (.iconst 1, 1) := by decide +kernel
theorem dX4_look_115 : decode cX4_look 115 = .ok (.ixor, 1) := by decide +kernel
theorem dX4_look_116 : decode cX4_look 116 = .ok (.if_icmp .ne 34, 3) := by decide +kernel
theorem dX4_look_119 : decode cX4_look 119 = .ok (.aload_n 0, 1) := by decide +kernel
theorem dX4_look_120 : decode cX4_look 120 = .ok (.getfield 127, 3) := by decide +kernel
theorem dX4_look_123 : decode cX4_look 123 = .ok (.bipush 8, 2) := by decide +kernel
theorem dX4_look_125 : decode cX4_look 125 = .ok (.iload_n 1, 1) := by decide +kernel
theorem dX4_look_126 : decode cX4_look 126 = .ok (.imul, 1) := by decide +kernel
theorem dX4_look_127 : decode cX4_look 127 = .ok (.iload 5, 2) := by decide +kernel
theorem dX4_look_129 : decode cX4_look 129 = .ok (.iadd, 1) := by decide +kernel
theorem dX4_look_130 : decode cX4_look 130 = .ok (.aload_n 0, 1) := by decide +kernel
theorem dX4_look_131 : decode cX4_look 131 = .ok (.getfield 118, 3) := by decide +kernel
theorem dX4_look_134 : decode cX4_look 134 = .ok (.bipush 8, 2) := by decide +kernel
theorem dX4_look_136 : decode cX4_look 136 = .ok (.iload 4, 2) := by decide +kernel
theorem dX4_look_138 : decode cX4_look 138 = .ok (.imul, 1) := by decide +kernel
theorem dX4_look_139 : decode cX4_look 139 = .ok (.iload 5, 2) := by decide +kernel
theorem dX4_look_141 : decode cX4_look 141 = .ok (.iadd, 1) := by decide +kernel
theorem dX4_look_142 : decode cX4_look 142 = .ok (.iaload, 1) := by decide +kernel
theorem dX4_look_143 : decode cX4_look 143 = .ok (.iastore, 1) := by decide +kernel
theorem dX4_look_144 : decode cX4_look 144 = .ok (.iinc 5 1, 3) := by decide +kernel
theorem dX4_look_147 : decode cX4_look 147 = .ok (.goto (-52), 3) := by decide +kernel
theorem dX4_look_150 : decode cX4_look 150 = .ok (.iinc 4 1, 3) := by decide +kernel
theorem dX4_look_153 : decode cX4_look 153 = .ok (.goto (-107), 3) := by decide +kernel
theorem dX4_look_156 : decode cX4_look 156 = .ok (.return_, 1) := by decide +kernel
theorem dX4_copyNode_0 : decode cX4_copyNode 0 = .ok (.aload_n 0, 1) := by decide +kernel
theorem dX4_copyNode_1 : decode cX4_copyNode 1 = .ok (.getfield 109, 3) := by decide +kernel
theorem dX4_copyNode_4 : decode cX4_copyNode 4 = .ok (.iload_n 2, 1) := by decide +kernel
theorem dX4_copyNode_5 : decode cX4_copyNode 5 = .ok (.aload_n 0, 1) := by decide +kernel
theorem dX4_copyNode_6 : decode cX4_copyNode 6 = .ok (.getfield 109, 3) := by decide +kernel
theorem dX4_copyNode_9 : decode cX4_copyNode 9 = .ok (.iload_n 1, 1) := by decide +kernel
theorem dX4_copyNode_10 : decode cX4_copyNode 10 = .ok (.iaload, 1) := by decide +kernel
theorem dX4_copyNode_11 : decode cX4_copyNode 11 = .ok (.iconst 1, 1) := by decide +kernel
theorem dX4_copyNode_12 : decode cX4_copyNode 12 = .ok (.ishr, 1) := by decide +kernel
theorem dX4_copyNode_13 : decode cX4_copyNode 13 = .ok (.iastore, 1) := by decide +kernel
theorem dX4_copyNode_14 : decode cX4_copyNode 14 = .ok (.aload_n 0, 1) := by decide +kernel
theorem dX4_copyNode_15 : decode cX4_copyNode 15 = .ok (.getfield 112, 3) := by decide +kernel
theorem dX4_copyNode_18 : decode cX4_copyNode 18 = .ok (.iload_n 2, 1) := by decide +kernel
theorem dX4_copyNode_19 : decode cX4_copyNode 19 = .ok (.aload_n 0, 1) := by decide +kernel
theorem dX4_copyNode_20 : decode cX4_copyNode 20 = .ok (.getfield 112, 3) := by decide +kernel
theorem dX4_copyNode_23 : decode cX4_copyNode 23 = .ok (.iload_n 1, 1) := by decide +kernel
theorem dX4_copyNode_24 : decode cX4_copyNode 24 = .ok (.iaload, 1) := by decide +kernel
theorem dX4_copyNode_25 : decode cX4_copyNode 25 = .ok (.iastore, 1) := by decide +kernel
theorem dX4_copyNode_26 : decode cX4_copyNode 26 = .ok (.aload_n 0, 1) := by decide +kernel
theorem dX4_copyNode_27 : decode cX4_copyNode 27 = .ok (.getfield 115, 3) := by decide +kernel
theorem dX4_copyNode_30 : decode cX4_copyNode 30 = .ok (.iload_n 2, 1) := by decide +kernel
theorem dX4_copyNode_31 : decode cX4_copyNode 31 = .ok (.aload_n 0, 1) := by decide +kernel
theorem dX4_copyNode_32 : decode cX4_copyNode 32 = .ok (.getfield 115, 3) := by decide +kernel
theorem dX4_copyNode_35 : decode cX4_copyNode 35 = .ok (.iload_n 1, 1) := by decide +kernel
theorem dX4_copyNode_36 : decode cX4_copyNode 36 = .ok (.iaload, 1) := by decide +kernel
theorem dX4_copyNode_37 : decode cX4_copyNode 37 = .ok (.iastore, 1) := by decide +kernel
theorem dX4_copyNode_38 : decode cX4_copyNode 38 = .ok (.iconst 0, 1) := by decide +kernel
theorem dX4_copyNode_39 : decode cX4_copyNode 39 = .ok (.istore_n 3, 1) := by decide +kernel
theorem dX4_copyNode_40 : decode cX4_copyNode 40 = .ok (.iload_n 3, 1) := by decide +kernel
theorem dX4_copyNode_41 : decode cX4_copyNode 41 = .ok (.bipush 8, 2) := by decide +kernel
theorem dX4_copyNode_43 : decode cX4_copyNode 43 = .ok (.if_icmp .ge 31, 3) := by decide +kernel
theorem dX4_copyNode_46 : decode cX4_copyNode 46 = .ok (.aload_n 0, 1) := by decide +kernel
theorem dX4_copyNode_47 : decode cX4_copyNode 47 = .ok (.getfield 118, 3) := by decide +kernel
theorem dX4_copyNode_50 : decode cX4_copyNode 50 = .ok (.bipush 8, 2) := by decide +kernel
theorem dX4_copyNode_52 : decode cX4_copyNode 52 = .ok (.iload_n 2, 1) := by decide +kernel
theorem dX4_copyNode_53 : decode cX4_copyNode 53 = .ok (.imul, 1) := by decide +kernel
theorem dX4_copyNode_54 : decode cX4_copyNode 54 = .ok (.iload_n 3, 1) := by decide +kernel
theorem dX4_copyNode_55 : decode cX4_copyNode 55 = .ok (.iadd, 1) := by decide +kernel
theorem dX4_copyNode_56 : decode cX4_copyNode 56 = .ok (.aload_n 0, 1) := by decide +kernel
theorem dX4_copyNode_57 : decode cX4_copyNode 57 = .ok (.getfield 118, 3) := by decide +kernel
theorem dX4_copyNode_60 : decode cX4_copyNode 60 = .ok (.bipush 8, 2) := by decide +kernel
theorem dX4_copyNode_62 : decode cX4_copyNode 62 = .ok (.iload_n 1, 1) := by decide +kernel
theorem dX4_copyNode_63 : decode cX4_copyNode 63 = .ok (.imul, 1) := by decide +kernel
theorem dX4_copyNode_64 : decode cX4_copyNode 64 = .ok (.iload_n 3, 1) := by decide +kernel
theorem dX4_copyNode_65 : decode cX4_copyNode 65 = .ok (.iadd, 1) := by decide +kernel
theorem dX4_copyNode_66 : decode cX4_copyNode 66 = .ok (.iaload, 1) := by decide +kernel
theorem dX4_copyNode_67 : decode cX4_copyNode 67 = .ok (.iastore, 1) := by decide +kernel
theorem dX4_copyNode_68 : decode cX4_copyNode 68 = .ok (.iinc 3 1, 3) := by decide +kernel
theorem dX4_copyNode_71 : decode cX4_copyNode 71 = .ok (.goto (-31), 3) := by decide +kernel
theorem dX4_copyNode_74 : decode cX4_copyNode 74 = .ok (.return_, 1) := by decide +kernel
theorem dX4_up_0 : decode cX4_up 0 = .ok (.iconst 0, 1) := by decide +kernel
theorem dX4_up_1 : decode cX4_up 1 = .ok (.istore_n 1, 1) := by decide +kernel
theorem dX4_up_2 : decode cX4_up 2 = .ok (.iconst 0, 1) := by decide +kernel
theorem dX4_up_3 : decode cX4_up 3 = .ok (.istore_n 2, 1) := by decide +kernel
theorem dX4_up_4 : decode cX4_up 4 = .ok (.iload_n 2, 1) := by decide +kernel
theorem dX4_up_5 : decode cX4_up 5 = .ok (.aload_n 0, 1) := by decide +kernel
theorem dX4_up_6 : decode cX4_up 6 = .ok (.getfield 149, 3) := by decide +kernel
theorem dX4_up_9 : decode cX4_up 9 = .ok (.if_icmp .ge 280, 3) := by decide +kernel
theorem dX4_up_12 : decode cX4_up 12 = .ok (.iload_n 2, 1) := by decide +kernel
theorem dX4_up_13 : decode cX4_up 13 = .ok (.iconst 1, 1) := by decide +kernel
theorem dX4_up_14 : decode cX4_up 14 = .ok (.iadd, 1) := by decide +kernel
theorem dX4_up_15 : decode cX4_up 15 = .ok (.aload_n 0, 1) := by decide +kernel
theorem dX4_up_16 : decode cX4_up 16 = .ok (.getfield 149, 3) := by decide +kernel
theorem dX4_up_19 : decode cX4_up 19 = .ok (.if_icmp .ge 28, 3) := by decide +kernel
theorem dX4_up_22 : decode cX4_up 22 = .ok (.aload_n 0, 1) := by decide +kernel
theorem dX4_up_23 : decode cX4_up 23 = .ok (.getfield 109, 3) := by decide +kernel
theorem dX4_up_26 : decode cX4_up 26 = .ok (.iload_n 2, 1) := by decide +kernel
theorem dX4_up_27 : decode cX4_up 27 = .ok (.iaload, 1) := by decide +kernel
theorem dX4_up_28 : decode cX4_up 28 = .ok (.iconst 1, 1) := by decide +kernel
theorem dX4_up_29 : decode cX4_up 29 = .ok (.ishr, 1) := by decide +kernel
theorem dX4_up_30 : decode cX4_up 30 = .ok (.aload_n 0, 1) := by decide +kernel
theorem dX4_up_31 : decode cX4_up 31 = .ok (.getfield 109, 3) := by decide +kernel
theorem dX4_up_34 : decode cX4_up 34 = .ok (.iload_n 2, 1) := by decide +kernel
theorem dX4_up_35 : decode cX4_up 35 = .ok (.iconst 1, 1) := by decide +kernel
theorem dX4_up_36 : decode cX4_up 36 = .ok (.iadd, 1) := by decide +kernel
theorem dX4_up_37 : decode cX4_up 37 = .ok (.iaload, 1) := by decide +kernel
theorem dX4_up_38 : decode cX4_up 38 = .ok (.iconst 1, 1) := by decide +kernel
theorem dX4_up_39 : decode cX4_up 39 = .ok (.ishr, 1) := by decide +kernel
theorem dX4_up_40 : decode cX4_up 40 = .ok (.if_icmp .ne 7, 3) := by decide +kernel
theorem dX4_up_43 : decode cX4_up 43 = .ok (.iconst 1, 1) := by decide +kernel
theorem dX4_up_44 : decode cX4_up 44 = .ok (.goto 4, 3) := by decide +kernel
theorem dX4_up_47 : decode cX4_up 47 = .ok (.iconst 0, 1) := by decide +kernel
theorem dX4_up_48 : decode cX4_up 48 = .ok (.istore_n 3, 1) := by decide +kernel
theorem dX4_up_49 : decode cX4_up 49 = .ok (.iload_n 3, 1) := by decide +kernel
theorem dX4_up_50 : decode cX4_up 50 = .ok (.ifCond .ne 25, 3) := by decide +kernel
theorem dX4_up_53 : decode cX4_up 53 = .ok (.aload_n 0, 1) := by decide +kernel
theorem dX4_up_54 : decode cX4_up 54 = .ok (.getfield 112, 3) := by decide +kernel
theorem dX4_up_57 : decode cX4_up 57 = .ok (.iload_n 2, 1) := by decide +kernel
theorem dX4_up_58 : decode cX4_up 58 = .ok (.iaload, 1) := by decide +kernel
theorem dX4_up_59 : decode cX4_up 59 = .ok (.iconst 1, 1) := by decide +kernel
theorem dX4_up_60 : decode cX4_up 60 = .ok (.if_icmp .ne 15, 3) := by decide +kernel
theorem dX4_up_63 : decode cX4_up 63 = .ok (.aload_n 0, 1) := by decide +kernel
theorem dX4_up_64 : decode cX4_up 64 = .ok (.iload_n 2, 1) := by decide +kernel
theorem dX4_up_65 : decode cX4_up 65 = .ok (.iload_n 1, 1) := by decide +kernel
theorem dX4_up_66 : decode cX4_up 66 = .ok (.invokevirtual 156, 3) := by decide +kernel
theorem dX4_up_69 : decode cX4_up 69 = .ok (.iinc 2 1, 3) := by decide +kernel
theorem dX4_up_72 : decode cX4_up 72 = .ok (.goto 211, 3) := by decide +kernel
theorem dX4_up_75 : decode cX4_up 75 = .ok (.iconst 0, 1) := by decide +kernel
theorem dX4_up_76 : decode cX4_up 76 = .ok (.istore 4, 2) := by decide +kernel
theorem dX4_up_78 : decode cX4_up 78 = .ok (.iload 4, 2) := by decide +kernel
theorem dX4_up_80 : decode cX4_up 80 = .ok (.bipush 8, 2) := by decide +kernel
theorem dX4_up_82 : decode cX4_up 82 = .ok (.if_icmp .ge 104, 3) := by decide +kernel
theorem dX4_up_85 : decode cX4_up 85 = .ok (.aload_n 0, 1) := by decide +kernel
theorem dX4_up_86 : decode cX4_up 86 = .ok (.iconst 0, 1) := by decide +kernel
theorem dX4_up_87 : decode cX4_up 87 = .ok (.iload 4, 2) := by decide +kernel
theorem dX4_up_89 : decode cX4_up 89 = .ok (.iload_n 3, 1) := by decide +kernel
theorem dX4_up_90 : decode cX4_up 90 = .ok (.ifCond .ne 14, 3) := by decide +kernel
theorem dX4_up_93 : decode cX4_up 93 = .ok (.aload_n 0, 1) := by decide +kernel
theorem dX4_up_94 : decode cX4_up 94 = .ok (.getfield 109, 3) := by decide +kernel
theorem dX4_up_97 : decode cX4_up 97 = .ok (.iload_n 2, 1) := by decide +kernel
theorem dX4_up_98 : decode cX4_up 98 = .ok (.iaload, 1) := by decide +kernel
theorem dX4_up_99 : decode cX4_up 99 = .ok (.iconst 1, 1) := by decide +kernel
theorem dX4_up_100 : decode cX4_up 100 = .ok (.iand, 1) := by decide +kernel
theorem dX4_up_101 : decode cX4_up 101 = .ok (.ifCond .ne 18, 3) := by decide +kernel
theorem dX4_up_104 : decode cX4_up 104 = .ok (.aload_n 0, 1) := by decide +kernel
theorem dX4_up_105 : decode cX4_up 105 = .ok (.getfield 118, 3) := by decide +kernel
theorem dX4_up_108 : decode cX4_up 108 = .ok (.bipush 8, 2) := by decide +kernel
theorem dX4_up_110 : decode cX4_up 110 = .ok (.iload_n 2, 1) := by decide +kernel
theorem dX4_up_111 : decode cX4_up 111 = .ok (.imul, 1) := by decide +kernel
theorem dX4_up_112 : decode cX4_up 112 = .ok (.iload 4, 2) := by decide +kernel
theorem dX4_up_114 : decode cX4_up 114 = .ok (.iadd, 1) := by decide +kernel
theorem dX4_up_115 : decode cX4_up 115 = .ok (.iaload, 1) := by decide +kernel
theorem dX4_up_116 : decode cX4_up 116 = .ok (.goto 4, 3) := by decide +kernel
theorem dX4_up_119 : decode cX4_up 119 = .ok (.iconst 0, 1) := by decide +kernel
theorem dX4_up_120 : decode cX4_up 120 = .ok (.invokevirtual 159, 3) := by decide +kernel
theorem dX4_up_123 : decode cX4_up 123 = .ok (.aload_n 0, 1) := by decide +kernel
theorem dX4_up_124 : decode cX4_up 124 = .ok (.iconst 1, 1) := by decide +kernel
theorem dX4_up_125 : decode cX4_up 125 = .ok (.iload 4, 2) := by decide +kernel
theorem dX4_up_127 : decode cX4_up 127 = .ok (.iload_n 3, 1) := by decide +kernel
theorem dX4_up_128 : decode cX4_up 128 = .ok (.ifCond .eq 21, 3) := by decide +kernel
theorem dX4_up_131 : decode cX4_up 131 = .ok (.aload_n 0, 1) := by decide +kernel
theorem dX4_up_132 : decode cX4_up 132 = .ok (.getfield 118, 3) := by decide +kernel
theorem dX4_up_135 : decode cX4_up 135 = .ok (.bipush 8, 2) := by decide +kernel
theorem dX4_up_137 : decode cX4_up 137 = .ok (.iload_n 2, 1) := by decide +kernel
theorem dX4_up_138 : decode cX4_up 138 = .ok (.imul, 1) := by decide +kernel
theorem dX4_up_139 : decode cX4_up 139 = .ok (.bipush 8, 2) := by decide +kernel
theorem dX4_up_141 : decode cX4_up 141 = .ok (.iadd, 1) := by decide +kernel
theorem dX4_up_142 : decode cX4_up 142 = .ok (.iload 4, 2) := by decide +kernel
theorem dX4_up_144 : decode cX4_up 144 = .ok (.iadd, 1) := by decide +kernel
theorem dX4_up_145 : decode cX4_up 145 = .ok (.iaload, 1) := by decide +kernel
theorem dX4_up_146 : decode cX4_up 146 = .ok (.goto 31, 3) := by decide +kernel
theorem dX4_up_149 : decode cX4_up 149 = .ok (.aload_n 0, 1) := by decide +kernel
theorem dX4_up_150 : decode cX4_up 150 = .ok (.getfield 109, 3) := by decide +kernel
theorem dX4_up_153 : decode cX4_up 153 = .ok (.iload_n 2, 1) := by decide +kernel
theorem dX4_up_154 : decode cX4_up 154 = .ok (.iaload, 1) := by decide +kernel
theorem dX4_up_155 : decode cX4_up 155 = .ok (.iconst 1, 1) := by decide +kernel
theorem dX4_up_156 : decode cX4_up 156 = .ok (.iand, 1) := by decide +kernel
theorem dX4_up_157 : decode cX4_up 157 = .ok (.iconst 1, 1) := by decide +kernel
theorem dX4_up_158 : decode cX4_up 158 = .ok (.if_icmp .ne 18, 3) := by decide +kernel
theorem dX4_up_161 : decode cX4_up 161 = .ok (.aload_n 0, 1) := by decide +kernel
theorem dX4_up_162 : decode cX4_up 162 = .ok (.getfield 118, 3) := by decide +kernel
theorem dX4_up_165 : decode cX4_up 165 = .ok (.bipush 8, 2) := by decide +kernel
theorem dX4_up_167 : decode cX4_up 167 = .ok (.iload_n 2, 1) := by decide +kernel
theorem dX4_up_168 : decode cX4_up 168 = .ok (.imul, 1) := by decide +kernel
theorem dX4_up_169 : decode cX4_up 169 = .ok (.iload 4, 2) := by decide +kernel
theorem dX4_up_171 : decode cX4_up 171 = .ok (.iadd, 1) := by decide +kernel
theorem dX4_up_172 : decode cX4_up 172 = .ok (.iaload, 1) := by decide +kernel
theorem dX4_up_173 : decode cX4_up 173 = .ok (.goto 4, 3) := by decide +kernel
theorem dX4_up_176 : decode cX4_up 176 = .ok (.iconst 0, 1) := by decide +kernel
theorem dX4_up_177 : decode cX4_up 177 = .ok (.invokevirtual 159, 3) := by decide +kernel
theorem dX4_up_180 : decode cX4_up 180 = .ok (.iinc 4 1, 3) := by decide +kernel
theorem dX4_up_183 : decode cX4_up 183 = .ok (.goto (-105), 3) := by decide +kernel
theorem dX4_up_186 : decode cX4_up 186 = .ok (.aload_n 0, 1) := by decide +kernel
theorem dX4_up_187 : decode cX4_up 187 = .ok (.invokevirtual 163, 3) := by decide +kernel
theorem dX4_up_190 : decode cX4_up 190 = .ok (.iload_n 3, 1) := by decide +kernel
theorem dX4_up_191 : decode cX4_up 191 = .ok (.ifCond .eq 21, 3) := by decide +kernel
theorem dX4_up_194 : decode cX4_up 194 = .ok (.aload_n 0, 1) := by decide +kernel
theorem dX4_up_195 : decode cX4_up 195 = .ok (.getfield 112, 3) := by decide +kernel
theorem dX4_up_198 : decode cX4_up 198 = .ok (.iload_n 2, 1) := by decide +kernel
theorem dX4_up_199 : decode cX4_up 199 = .ok (.iaload, 1) := by decide +kernel
theorem dX4_up_200 : decode cX4_up 200 = .ok (.aload_n 0, 1) := by decide +kernel
theorem dX4_up_201 : decode cX4_up 201 = .ok (.getfield 112, 3) := by decide +kernel
theorem dX4_up_204 : decode cX4_up 204 = .ok (.iload_n 2, 1) := by decide +kernel
theorem dX4_up_205 : decode cX4_up 205 = .ok (.iconst 1, 1) := by decide +kernel
theorem dX4_up_206 : decode cX4_up 206 = .ok (.iadd, 1) := by decide +kernel
theorem dX4_up_207 : decode cX4_up 207 = .ok (.iaload, 1) := by decide +kernel
theorem dX4_up_208 : decode cX4_up 208 = .ok (.iadd, 1) := by decide +kernel
theorem dX4_up_209 : decode cX4_up 209 = .ok (.goto 9, 3) := by decide +kernel
theorem dX4_up_212 : decode cX4_up 212 = .ok (.aload_n 0, 1) := by decide +kernel
theorem dX4_up_213 : decode cX4_up 213 = .ok (.getfield 112, 3) := by decide +kernel
theorem dX4_up_216 : decode cX4_up 216 = .ok (.iload_n 2, 1) := by decide +kernel
theorem dX4_up_217 : decode cX4_up 217 = .ok (.iaload, 1) := by decide +kernel
theorem dX4_up_218 : decode cX4_up 218 = .ok (.istore 4, 2) := by decide +kernel
theorem dX4_up_220 : decode cX4_up 220 = .ok (.aload_n 0, 1) := by decide +kernel
theorem dX4_up_221 : decode cX4_up 221 = .ok (.iload_n 2, 1) := by decide +kernel
theorem dX4_up_222 : decode cX4_up 222 = .ok (.iload_n 1, 1) := by decide +kernel
theorem dX4_up_223 : decode cX4_up 223 = .ok (.invokevirtual 156, 3) := by decide +kernel
theorem dX4_up_226 : decode cX4_up 226 = .ok (.aload_n 0, 1) := by decide +kernel
theorem dX4_up_227 : decode cX4_up 227 = .ok (.getfield 112, 3) := by decide +kernel
theorem dX4_up_230 : decode cX4_up 230 = .ok (.iload_n 1, 1) := by decide +kernel
theorem dX4_up_231 : decode cX4_up 231 = .ok (.iload 4, 2) := by decide +kernel
theorem dX4_up_233 : decode cX4_up 233 = .ok (.iastore, 1) := by decide +kernel
theorem dX4_up_234 : decode cX4_up 234 = .ok (.iconst 0, 1) := by decide +kernel
theorem dX4_up_235 : decode cX4_up 235 = .ok (.istore 5, 2) := by decide +kernel
theorem dX4_up_237 : decode cX4_up 237 = .ok (.iload 5, 2) := by decide +kernel
theorem dX4_up_239 : decode cX4_up 239 = .ok (.bipush 8, 2) := by decide +kernel
theorem dX4_up_241 : decode cX4_up 241 = .ok (.if_icmp .ge 28, 3) := by decide +kernel
theorem dX4_up_244 : decode cX4_up 244 = .ok (.aload_n 0, 1) := by decide +kernel
theorem dX4_up_245 : decode cX4_up 245 = .ok (.getfield 118, 3) := by decide +kernel
theorem dX4_up_248 : decode cX4_up 248 = .ok (.bipush 8, 2) := by decide +kernel
theorem dX4_up_250 : decode cX4_up 250 = .ok (.iload_n 1, 1) := by decide +kernel
theorem dX4_up_251 : decode cX4_up 251 = .ok (.imul, 1) := by decide +kernel
theorem dX4_up_252 : decode cX4_up 252 = .ok (.iload 5, 2) := by decide +kernel
theorem dX4_up_254 : decode cX4_up 254 = .ok (.iadd, 1) := by decide +kernel
theorem dX4_up_255 : decode cX4_up 255 = .ok (.aload_n 0, 1) := by decide +kernel
theorem dX4_up_256 : decode cX4_up 256 = .ok (.getfield 106, 3) := by decide +kernel
theorem dX4_up_259 : decode cX4_up 259 = .ok (.iload 5, 2) := by decide +kernel
theorem dX4_up_261 : decode cX4_up 261 = .ok (.iaload, 1) := by decide +kernel
theorem dX4_up_262 : decode cX4_up 262 = .ok (.iastore, 1) := by decide +kernel
theorem dX4_up_263 : decode cX4_up 263 = .ok (.iinc 5 1, 3) := by decide +kernel
theorem dX4_up_266 : decode cX4_up 266 = .ok (.goto (-29), 3) := by decide +kernel
theorem dX4_up_269 : decode cX4_up 269 = .ok (.iload_n 3, 1) := by decide +kernel
theorem dX4_up_270 : decode cX4_up 270 = .ok (.ifCond .eq 9, 3) := by decide +kernel
theorem dX4_up_273 : decode cX4_up 273 = .ok (.iload_n 2, 1) := by decide +kernel
theorem dX4_up_274 : decode cX4_up 274 = .ok (.iconst 2, 1) := by decide +kernel
theorem dX4_up_275 : decode cX4_up 275 = .ok (.iadd, 1) := by decide +kernel
theorem dX4_up_276 : decode cX4_up 276 = .ok (.goto 6, 3) := by decide +kernel
theorem dX4_up_279 : decode cX4_up 279 = .ok (.iload_n 2, 1) := by decide +kernel
theorem dX4_up_280 : decode cX4_up 280 = .ok (.iconst 1, 1) := by decide +kernel
theorem dX4_up_281 : decode cX4_up 281 = .ok (.iadd, 1) := by decide +kernel
theorem dX4_up_282 : decode cX4_up 282 = .ok (.istore_n 2, 1) := by decide +kernel
theorem dX4_up_283 : decode cX4_up 283 = .ok (.iinc 1 1, 3) := by decide +kernel
theorem dX4_up_286 : decode cX4_up 286 = .ok (.goto (-282), 3) := by decide +kernel
theorem dX4_up_289 : decode cX4_up 289 = .ok (.aload_n 0, 1) := by decide +kernel
theorem dX4_up_290 : decode cX4_up 290 = .ok (.iload_n 1, 1) := by decide +kernel
theorem dX4_up_291 : decode cX4_up 291 = .ok (.putfield 149, 3) := by decide +kernel
theorem dX4_up_294 : decode cX4_up 294 = .ok (.return_, 1) := by decide +kernel
theorem dX4_work_0 : decode cX4_work 0 = .ok (.aload_n 0, 1) := by decide +kernel
theorem dX4_work_1 : decode cX4_work 1 = .ok (.iload_n 1, 1) := by decide +kernel
theorem dX4_work_2 : decode cX4_work 2 = .ok (.invokevirtual 166, 3) := by decide +kernel
theorem dX4_work_5 : decode cX4_work 5 = .ok (.aload_n 0, 1) := by decide +kernel
theorem dX4_work_6 : decode cX4_work 6 = .ok (.bipush 16, 2) := by decide +kernel
theorem dX4_work_8 : decode cX4_work 8 = .ok (.iload_n 2, 1) := by decide +kernel
theorem dX4_work_9 : decode cX4_work 9 = .ok (.invokevirtual 169, 3) := by decide +kernel
theorem dX4_work_12 : decode cX4_work 12 = .ok (.bipush 15, 2) := by decide +kernel
theorem dX4_work_14 : decode cX4_work 14 = .ok (.istore_n 3, 1) := by decide +kernel
theorem dX4_work_15 : decode cX4_work 15 = .ok (.iload_n 3, 1) := by decide +kernel
theorem dX4_work_16 : decode cX4_work 16 = .ok (.ifCond .lt 19, 3) := by decide +kernel
theorem dX4_work_19 : decode cX4_work 19 = .ok (.aload_n 0, 1) := by decide +kernel
theorem dX4_work_20 : decode cX4_work 20 = .ok (.invokevirtual 172, 3) := by decide +kernel
theorem dX4_work_23 : decode cX4_work 23 = .ok (.aload_n 0, 1) := by decide +kernel
theorem dX4_work_24 : decode cX4_work 24 = .ok (.iload_n 3, 1) := by decide +kernel
theorem dX4_work_25 : decode cX4_work 25 = .ok (.iload_n 2, 1) := by decide +kernel
theorem dX4_work_26 : decode cX4_work 26 = .ok (.invokevirtual 169, 3) := by decide +kernel
theorem dX4_work_29 : decode cX4_work 29 = .ok (.iinc 3 (-1), 3) := by decide +kernel
theorem dX4_work_32 : decode cX4_work 32 = .ok (.goto (-17), 3) := by decide +kernel
theorem dX4_work_35 : decode cX4_work 35 = .ok (.iconst 0, 1) := by decide +kernel
theorem dX4_work_36 : decode cX4_work 36 = .ok (.istore_n 3, 1) := by decide +kernel
theorem dX4_work_37 : decode cX4_work 37 = .ok (.iload_n 3, 1) := by decide +kernel
theorem dX4_work_38 : decode cX4_work 38 = .ok (.bipush 8, 2) := by decide +kernel
theorem dX4_work_40 : decode cX4_work 40 = .ok (.if_icmp .ge 37, 3) := by decide +kernel
theorem dX4_work_43 : decode cX4_work 43 = .ok (.aload_n 0, 1) := by decide +kernel
theorem dX4_work_44 : decode cX4_work 44 = .ok (.getfield 97, 3) := by decide +kernel
theorem dX4_work_47 : decode cX4_work 47 = .ok (.bipush 8, 2) := by decide +kernel
theorem dX4_work_49 : decode cX4_work 49 = .ok (.iload_n 1, 1) := by decide +kernel
theorem dX4_work_50 : decode cX4_work 50 = .ok (.imul, 1) := by decide +kernel
theorem dX4_work_51 : decode cX4_work 51 = .ok (.iload_n 3, 1) := by decide +kernel
theorem dX4_work_52 : decode cX4_work 52 = .ok (.iadd, 1) := by decide +kernel
theorem dX4_work_53 : decode cX4_work 53 = .ok (.aload_n 0, 1) := by decide +kernel
theorem dX4_work_54 : decode cX4_work 54 = .ok (.getfield 149, 3) := by decide +kernel
theorem dX4_work_57 : decode cX4_work 57 = .ok (.ifCond .ne 7, 3) := by decide +kernel
theorem dX4_work_60 : decode cX4_work 60 = .ok (.iconst 0, 1) := by decide +kernel
theorem dX4_work_61 : decode cX4_work 61 = .ok (.goto 9, 3) := by decide +kernel
theorem dX4_work_64 : decode cX4_work 64 = .ok (.aload_n 0, 1) := by decide +kernel
theorem dX4_work_65 : decode cX4_work 65 = .ok (.getfield 118, 3) := by decide +kernel
theorem dX4_work_68 : decode cX4_work 68 = .ok (.iload_n 3, 1) := by decide +kernel
theorem dX4_work_69 : decode cX4_work 69 = .ok (.iaload, 1) := by decide +kernel
theorem dX4_work_70 : decode cX4_work 70 = .ok (.iastore, 1) := by decide +kernel
theorem dX4_work_71 : decode cX4_work 71 = .ok (.iinc 3 1, 3) := by decide +kernel
theorem dX4_work_74 : decode cX4_work 74 = .ok (.goto (-37), 3) := by decide +kernel
theorem dX4_work_77 : decode cX4_work 77 = .ok (.aload_n 0, 1) := by decide +kernel
theorem dX4_work_78 : decode cX4_work 78 = .ok (.aload_n 0, 1) := by decide +kernel
theorem dX4_work_79 : decode cX4_work 79 = .ok (.getfield 175, 3) := by decide +kernel
theorem dX4_work_82 : decode cX4_work 82 = .ok (.ifCond .ne 9, 3) := by decide +kernel
theorem dX4_work_85 : decode cX4_work 85 = .ok (.iload_n 1, 1) := by decide +kernel
theorem dX4_work_86 : decode cX4_work 86 = .ok (.bipush 60, 2) := by decide +kernel
theorem dX4_work_88 : decode cX4_work 88 = .ok (.if_icmp .ne 7, 3) := by decide +kernel
theorem dX4_work_91 : decode cX4_work 91 = .ok (.iconst 1, 1) := by decide +kernel
theorem dX4_work_92 : decode cX4_work 92 = .ok (.goto 4, 3) := by decide +kernel
theorem dX4_work_95 : decode cX4_work 95 = .ok (.iconst 0, 1) := by decide +kernel
theorem dX4_work_96 : decode cX4_work 96 = .ok (.putfield 175, 3) := by decide +kernel
theorem dX4_work_99 : decode cX4_work 99 = .ok (.return_, 1) := by decide +kernel
theorem dX4_know_0 : decode cX4_know 0 = .ok (.aload_n 0, 1) := by decide +kernel
theorem dX4_know_1 : decode cX4_know 1 = .ok (.getfield 175, 3) := by decide +kernel
theorem dX4_know_4 : decode cX4_know 4 = .ok (.ifCond .ne 10, 3) := by decide +kernel
theorem dX4_know_7 : decode cX4_know 7 = .ok (.aload_n 0, 1) := by decide +kernel
theorem dX4_know_8 : decode cX4_know 8 = .ok (.bipush 60, 2) := by decide +kernel
theorem dX4_know_10 : decode cX4_know 10 = .ok (.iconst 0, 1) := by decide +kernel
theorem dX4_know_11 : decode cX4_know 11 = .ok (.invokevirtual 179, 3) := by decide +kernel
theorem dX4_know_14 : decode cX4_know 14 = .ok (.return_, 1) := by decide +kernel
theorem dX4_find_0 : decode cX4_find 0 = .ok (.iconst 0, 1) := by decide +kernel
theorem dX4_find_1 : decode cX4_find 1 = .ok (.istore_n 3, 1) := by decide +kernel
theorem dX4_find_2 : decode cX4_find 2 = .ok (.iload_n 3, 1) := by decide +kernel
theorem dX4_find_3 : decode cX4_find 3 = .ok (.aload_n 0, 1) := by decide +kernel
theorem dX4_find_4 : decode cX4_find 4 = .ok (.getfield 94, 3) := by decide +kernel
theorem dX4_find_7 : decode cX4_find 7 = .ok (.iload_n 1, 1) := by decide +kernel
theorem dX4_find_8 : decode cX4_find 8 = .ok (.iaload, 1) := by decide +kernel
theorem dX4_find_9 : decode cX4_find 9 = .ok (.if_icmp .ge 25, 3) := by decide +kernel
theorem dX4_find_12 : decode cX4_find 12 = .ok (.aload_n 0, 1) := by decide +kernel
theorem dX4_find_13 : decode cX4_find 13 = .ok (.getfield 88, 3) := by decide +kernel
theorem dX4_find_16 : decode cX4_find 16 = .ok (.sipush 300, 3) := by decide +kernel
theorem dX4_find_19 : decode cX4_find 19 = .ok (.iload_n 1, 1) := by decide +kernel
theorem dX4_find_20 : decode cX4_find 20 = .ok (.imul, 1) := by decide +kernel
theorem dX4_find_21 : decode cX4_find 21 = .ok (.iload_n 3, 1) := by decide +kernel
theorem dX4_find_22 : decode cX4_find 22 = .ok (.iadd, 1) := by decide +kernel
theorem dX4_find_23 : decode cX4_find 23 = .ok (.iaload, 1) := by decide +kernel
theorem dX4_find_24 : decode cX4_find 24 = .ok (.iload_n 2, 1) := by decide +kernel
theorem dX4_find_25 : decode cX4_find 25 = .ok (.if_icmp .ge 9, 3) := by decide +kernel
theorem dX4_find_28 : decode cX4_find 28 = .ok (.iinc 3 1, 3) := by decide +kernel
theorem dX4_find_31 : decode cX4_find 31 = .ok (.goto (-29), 3) := by decide +kernel
theorem dX4_find_34 : decode cX4_find 34 = .ok (.iload_n 3, 1) := by decide +kernel
theorem dX4_find_35 : decode cX4_find 35 = .ok (.ireturn, 1) := by decide +kernel
theorem dX4_isThere_0 : decode cX4_isThere 0 = .ok (.iload_n 2, 1) := by decide +kernel
theorem dX4_isThere_1 : decode cX4_isThere 1 = .ok (.aload_n 0, 1) := by decide +kernel
theorem dX4_isThere_2 : decode cX4_isThere 2 = .ok (.getfield 94, 3) := by decide +kernel
theorem dX4_isThere_5 : decode cX4_isThere 5 = .ok (.iload_n 1, 1) := by decide +kernel
theorem dX4_isThere_6 : decode cX4_isThere 6 = .ok (.iaload, 1) := by decide +kernel
theorem dX4_isThere_7 : decode cX4_isThere 7 = .ok (.if_icmp .ge 23, 3) := by decide +kernel
theorem dX4_isThere_10 : decode cX4_isThere 10 = .ok (.aload_n 0, 1) := by decide +kernel
theorem dX4_isThere_11 : decode cX4_isThere 11 = .ok (.getfield 88, 3) := by decide +kernel
theorem dX4_isThere_14 : decode cX4_isThere 14 = .ok (.sipush 300, 3) := by decide +kernel
theorem dX4_isThere_17 : decode cX4_isThere 17 = .ok (.iload_n 1, 1) := by decide +kernel
theorem dX4_isThere_18 : decode cX4_isThere 18 = .ok (.imul, 1) := by decide +kernel
theorem dX4_isThere_19 : decode cX4_isThere 19 = .ok (.iload_n 2, 1) := by decide +kernel
theorem dX4_isThere_20 : decode cX4_isThere 20 = .ok (.iadd, 1) := by decide +kernel
theorem dX4_isThere_21 : decode cX4_isThere 21 = .ok (.iaload, 1) := by decide +kernel
theorem dX4_isThere_22 : decode cX4_isThere 22 = .ok (.iload_n 3, 1) := by decide +kernel
theorem dX4_isThere_23 : decode cX4_isThere 23 = .ok (.if_icmp .ne 7, 3) := by decide +kernel
theorem dX4_isThere_26 : decode cX4_isThere 26 = .ok (.iconst 1, 1) := by decide +kernel
theorem dX4_isThere_27 : decode cX4_isThere 27 = .ok (.goto 4, 3) := by decide +kernel
theorem dX4_isThere_30 : decode cX4_isThere 30 = .ok (.iconst 0, 1) := by decide +kernel
theorem dX4_isThere_31 : decode cX4_isThere 31 = .ok (.ireturn, 1) := by decide +kernel
theorem dX4_put_0 : decode cX4_put 0 = .ok (.iload_n 1, 1) := by decide +kernel
theorem dX4_put_1 : decode cX4_put 1 = .ok (.invokestatic 182, 3) := by decide +kernel
theorem dX4_put_4 : decode cX4_put 4 = .ok (.ifCond .ne 5, 3) := by decide +kernel
theorem dX4_put_7 : decode cX4_put 7 = .ok (.iconst (-1), 1) := by decide +kernel
theorem dX4_put_8 : decode cX4_put 8 = .ok (.ireturn, 1) := by decide +kernel
theorem dX4_put_9 : decode cX4_put 9 = .ok (.aload_n 0, 1) := by decide +kernel
theorem dX4_put_10 : decode cX4_put 10 = .ok (.bipush 60, 2) := by decide +kernel
theorem dX4_put_12 : decode cX4_put 12 = .ok (.iload_n 1, 1) := by decide +kernel
theorem dX4_put_13 : decode cX4_put 13 = .ok (.invokevirtual 186, 3) := by decide +kernel
theorem dX4_put_16 : decode cX4_put 16 = .ok (.istore_n 3, 1) := by decide +kernel
theorem dX4_put_17 : decode cX4_put 17 = .ok (.aload_n 0, 1) := by decide +kernel
theorem dX4_put_18 : decode cX4_put 18 = .ok (.bipush 60, 2) := by decide +kernel
theorem dX4_put_20 : decode cX4_put 20 = .ok (.iload_n 3, 1) := by decide +kernel
theorem dX4_put_21 : decode cX4_put 21 = .ok (.iload_n 1, 1) := by decide +kernel
theorem dX4_put_22 : decode cX4_put 22 = .ok (.invokevirtual 189, 3) := by decide +kernel
theorem dX4_put_25 : decode cX4_put 25 = .ok (.istore 4, 2) := by decide +kernel
theorem dX4_put_27 : decode cX4_put 27 = .ok (.iload 4, 2) := by decide +kernel
theorem dX4_put_29 : decode cX4_put 29 = .ok (.ifCond .ne 19, 3) := by decide +kernel
theorem dX4_put_32 : decode cX4_put 32 = .ok (.aload_n 0, 1) := by decide +kernel
theorem dX4_put_33 : decode cX4_put 33 = .ok (.getfield 94, 3) := by decide +kernel
theorem dX4_put_36 : decode cX4_put 36 = .ok (.bipush 60, 2) := by decide +kernel
theorem dX4_put_38 : decode cX4_put 38 = .ok (.iaload, 1) := by decide +kernel
theorem dX4_put_39 : decode cX4_put 39 = .ok (.sipush 300, 3) := by decide +kernel
theorem dX4_put_42 : decode cX4_put 42 = .ok (.if_icmp .ne 6, 3) := by decide +kernel
theorem dX4_put_45 : decode cX4_put 45 = .ok (.bipush (-3), 2) := by decide +kernel
theorem dX4_put_47 : decode cX4_put 47 = .ok (.ireturn, 1) := by decide +kernel
theorem dX4_put_48 : decode cX4_put 48 = .ok (.sipush 18000, 3) := by decide +kernel
theorem dX4_put_51 : decode cX4_put 51 = .ok (.istore 5, 2) := by decide +kernel
theorem dX4_put_53 : decode cX4_put 53 = .ok (.aload_n 0, 1) := by decide +kernel
theorem dX4_put_54 : decode cX4_put 54 = .ok (.getfield 94, 3) := by decide +kernel
theorem dX4_put_57 : decode cX4_put 57 = .ok (.bipush 60, 2) := by decide +kernel
theorem dX4_put_59 : decode cX4_put 59 = .ok (.iaload, 1) := by decide +kernel
theorem dX4_put_60 : decode cX4_put 60 = .ok (.istore 6, 2) := by decide +kernel
theorem dX4_put_62 : decode cX4_put 62 = .ok (.iload 6, 2) := by decide +kernel
theorem dX4_put_64 : decode cX4_put 64 = .ok (.iload_n 3, 1) := by decide +kernel
theorem dX4_put_65 : decode cX4_put 65 = .ok (.if_icmp .le 58, 3) := by decide +kernel
theorem dX4_put_68 : decode cX4_put 68 = .ok (.iload 4, 2) := by decide +kernel
theorem dX4_put_70 : decode cX4_put 70 = .ok (.ifCond .ne 53, 3) := by decide +kernel
theorem dX4_put_73 : decode cX4_put 73 = .ok (.aload_n 0, 1) := by decide +kernel
theorem dX4_put_74 : decode cX4_put 74 = .ok (.getfield 88, 3) := by decide +kernel
theorem dX4_put_77 : decode cX4_put 77 = .ok (.iload 5, 2) := by decide +kernel
theorem dX4_put_79 : decode cX4_put 79 = .ok (.iload 6, 2) := by decide +kernel
theorem dX4_put_81 : decode cX4_put 81 = .ok (.iadd, 1) := by decide +kernel
theorem dX4_put_82 : decode cX4_put 82 = .ok (.aload_n 0, 1) := by decide +kernel
theorem dX4_put_83 : decode cX4_put 83 = .ok (.getfield 88, 3) := by decide +kernel
theorem dX4_put_86 : decode cX4_put 86 = .ok (.iload 5, 2) := by decide +kernel
theorem dX4_put_88 : decode cX4_put 88 = .ok (.iload 6, 2) := by decide +kernel
theorem dX4_put_90 : decode cX4_put 90 = .ok (.iadd, 1) := by decide +kernel
theorem dX4_put_91 : decode cX4_put 91 = .ok (.iconst 1, 1) := by decide +kernel
theorem dX4_put_92 : decode cX4_put 92 = .ok (.isub, 1) := by decide +kernel
theorem dX4_put_93 : decode cX4_put 93 = .ok (.iaload, 1) := by decide +kernel
theorem dX4_put_94 : decode cX4_put 94 = .ok (.iastore, 1) := by decide +kernel
theorem dX4_put_95 : decode cX4_put 95 = .ok (.aload_n 0, 1) := by decide +kernel
theorem dX4_put_96 : decode cX4_put 96 = .ok (.getfield 91, 3) := by decide +kernel
theorem dX4_put_99 : decode cX4_put 99 = .ok (.iload 5, 2) := by decide +kernel
theorem dX4_put_101 : decode cX4_put 101 = .ok (.iload 6, 2) := by decide +kernel
theorem dX4_put_103 : decode cX4_put 103 = .ok (.iadd, 1) := by decide +kernel
theorem dX4_put_104 : decode cX4_put 104 = .ok (.aload_n 0, 1) := by decide +kernel
theorem dX4_put_105 : decode cX4_put 105 = .ok (.getfield 91, 3) := by decide +kernel
theorem dX4_put_108 : decode cX4_put 108 = .ok (.iload 5, 2) := by decide +kernel
theorem dX4_put_110 : decode cX4_put 110 = .ok (.iload 6, 2) := by decide +kernel
theorem dX4_put_112 : decode cX4_put 112 = .ok (.iadd, 1) := by decide +kernel
theorem dX4_put_113 : decode cX4_put 113 = .ok (.iconst 1, 1) := by decide +kernel
theorem dX4_put_114 : decode cX4_put 114 = .ok (.isub, 1) := by decide +kernel
theorem dX4_put_115 : decode cX4_put 115 = .ok (.iaload, 1) := by decide +kernel
theorem dX4_put_116 : decode cX4_put 116 = .ok (.iastore, 1) := by decide +kernel
theorem dX4_put_117 : decode cX4_put 117 = .ok (.iinc 6 (-1), 3) := by decide +kernel
theorem dX4_put_120 : decode cX4_put 120 = .ok (.goto (-58), 3) := by decide +kernel
theorem dX4_put_123 : decode cX4_put 123 = .ok (.aload_n 0, 1) := by decide +kernel
theorem dX4_put_124 : decode cX4_put 124 = .ok (.getfield 88, 3) := by decide +kernel
theorem dX4_put_127 : decode cX4_put 127 = .ok (.iload 5, 2) := by decide +kernel
theorem dX4_put_129 : decode cX4_put 129 = .ok (.iload_n 3, 1) := by decide +kernel
theorem dX4_put_130 : decode cX4_put 130 = .ok (.iadd, 1) := by decide +kernel
theorem dX4_put_131 : decode cX4_put 131 = .ok (.iload_n 1, 1) := by decide +kernel
theorem dX4_put_132 : decode cX4_put 132 = .ok (.iastore, 1) := by decide +kernel
theorem dX4_put_133 : decode cX4_put 133 = .ok (.aload_n 0, 1) := by decide +kernel
theorem dX4_put_134 : decode cX4_put 134 = .ok (.getfield 91, 3) := by decide +kernel
theorem dX4_put_137 : decode cX4_put 137 = .ok (.iload 5, 2) := by decide +kernel
theorem dX4_put_139 : decode cX4_put 139 = .ok (.iload_n 3, 1) := by decide +kernel
theorem dX4_put_140 : decode cX4_put 140 = .ok (.iadd, 1) := by decide +kernel
theorem dX4_put_141 : decode cX4_put 141 = .ok (.iload_n 2, 1) := by decide +kernel
theorem dX4_put_142 : decode cX4_put 142 = .ok (.iastore, 1) := by decide +kernel
theorem dX4_put_143 : decode cX4_put 143 = .ok (.aload_n 0, 1) := by decide +kernel
theorem dX4_put_144 : decode cX4_put 144 = .ok (.getfield 94, 3) := by decide +kernel
theorem dX4_put_147 : decode cX4_put 147 = .ok (.bipush 60, 2) := by decide +kernel
theorem dX4_put_149 : decode cX4_put 149 = .ok (.iload 4, 2) := by decide +kernel
theorem dX4_put_151 : decode cX4_put 151 = .ok (.ifCond .eq 13, 3) := by decide +kernel
theorem dX4_put_154 : decode cX4_put 154 = .ok (.aload_n 0, 1) := by decide +kernel
theorem dX4_put_155 : decode cX4_put 155 = .ok (.getfield 94, 3) := by decide +kernel
theorem dX4_put_158 : decode cX4_put 158 = .ok (.bipush 60, 2) := by decide +kernel
theorem dX4_put_160 : decode cX4_put 160 = .ok (.iaload, 1) := by decide +kernel
theorem dX4_put_161 : decode cX4_put 161 = .ok (.goto 12, 3) := by decide +kernel
theorem dX4_put_164 : decode cX4_put 164 = .ok (.aload_n 0, 1) := by decide +kernel
theorem dX4_put_165 : decode cX4_put 165 = .ok (.getfield 94, 3) := by decide +kernel
theorem dX4_put_168 : decode cX4_put 168 = .ok (.bipush 60, 2) := by decide +kernel
theorem dX4_put_170 : decode cX4_put 170 = .ok (.iaload, 1) := by decide +kernel
theorem dX4_put_171 : decode cX4_put 171 = .ok (.iconst 1, 1) := by decide +kernel
theorem dX4_put_172 : decode cX4_put 172 = .ok (.iadd, 1) := by decide +kernel
theorem dX4_put_173 : decode cX4_put 173 = .ok (.iastore, 1) := by decide +kernel
theorem dX4_put_174 : decode cX4_put 174 = .ok (.aload_n 0, 1) := by decide +kernel
theorem dX4_put_175 : decode cX4_put 175 = .ok (.iconst 0, 1) := by decide +kernel
theorem dX4_put_176 : decode cX4_put 176 = .ok (.putfield 175, 3) := by decide +kernel
theorem dX4_put_179 : decode cX4_put 179 = .ok (.iload 4, 2) := by decide +kernel
theorem dX4_put_181 : decode cX4_put 181 = .ok (.ifCond .eq 7, 3) := by decide +kernel
theorem dX4_put_184 : decode cX4_put 184 = .ok (.iconst 0, 1) := by decide +kernel
theorem dX4_put_185 : decode cX4_put 185 = .ok (.goto 4, 3) := by decide +kernel
theorem dX4_put_188 : decode cX4_put 188 = .ok (.iconst 1, 1) := by decide +kernel
theorem dX4_put_189 : decode cX4_put 189 = .ok (.ireturn, 1) := by decide +kernel
theorem dX4_remove_0 : decode cX4_remove 0 = .ok (.iload_n 1, 1) := by decide +kernel
theorem dX4_remove_1 : decode cX4_remove 1 = .ok (.invokestatic 182, 3) := by decide +kernel
theorem dX4_remove_4 : decode cX4_remove 4 = .ok (.ifCond .ne 5, 3) := by decide +kernel
theorem dX4_remove_7 : decode cX4_remove 7 = .ok (.iconst (-1), 1) := by decide +kernel
theorem dX4_remove_8 : decode cX4_remove 8 = .ok (.ireturn, 1) := by decide +kernel
theorem dX4_remove_9 : decode cX4_remove 9 = .ok (.aload_n 0, 1) := by decide +kernel
theorem dX4_remove_10 : decode cX4_remove 10 = .ok (.bipush 60, 2) := by decide +kernel
theorem dX4_remove_12 : decode cX4_remove 12 = .ok (.iload_n 1, 1) := by decide +kernel
theorem dX4_remove_13 : decode cX4_remove 13 = .ok (.invokevirtual 186, 3) := by decide +kernel
theorem dX4_remove_16 : decode cX4_remove 16 = .ok (.istore_n 2, 1) := by decide +kernel
theorem dX4_remove_17 : decode cX4_remove 17 = .ok (.aload_n 0, 1) := by decide +kernel
theorem dX4_remove_18 : decode cX4_remove 18 = .ok (.bipush 60, 2) := by decide +kernel
theorem dX4_remove_20 : decode cX4_remove 20 = .ok (.iload_n 2, 1) := by decide +kernel
theorem dX4_remove_21 : decode cX4_remove 21 = .ok (.iload_n 1, 1) := by decide +kernel
end
section
theorem dX4_remove_22 : decode cX4_remove 22 = .ok (.invokevirtual 189, 3) := by decide +kernel
theorem dX4_remove_25 : decode cX4_remove 25 = .ok (.ifCond .ne 5, 3) := by decide +kernel
theorem dX4_remove_28 : decode cX4_remove 28 = .ok (.iconst 0, 1) := by decide +kernel
theorem dX4_remove_29 : decode cX4_remove 29 = .ok (.ireturn, 1) := by decide +kernel
theorem dX4_remove_30 : decode cX4_remove 30 = .ok (.sipush 18000, 3) := by decide +kernel
theorem dX4_remove_33 : decode cX4_remove 33 = .ok (.istore_n 3, 1) := by decide +kernel
theorem dX4_remove_34 : decode cX4_remove 34 = .ok (.aload_n 0, 1) := by decide +kernel
theorem dX4_remove_35 : decode cX4_remove 35 = .ok (.getfield 94, 3) := by decide +kernel
theorem dX4_remove_38 : decode cX4_remove 38 = .ok (.bipush 60, 2) := by decide +kernel
theorem dX4_remove_40 : decode cX4_remove 40 = .ok (.dup2, 1) := by decide +kernel
theorem dX4_remove_41 : decode cX4_remove 41 = .ok (.iaload, 1) := by decide +kernel
theorem dX4_remove_42 : decode cX4_remove 42 = .ok (.iconst 1, 1) := by decide +kernel
theorem dX4_remove_43 : decode cX4_remove 43 = .ok (.isub, 1) := by decide +kernel
theorem dX4_remove_44 : decode cX4_remove 44 = .ok (.iastore, 1) := by decide +kernel
theorem dX4_remove_45 : decode cX4_remove 45 = .ok (.iload_n 2, 1) := by decide +kernel
theorem dX4_remove_46 : decode cX4_remove 46 = .ok (.istore 4, 2) := by decide +kernel
theorem dX4_remove_48 : decode cX4_remove 48 = .ok (.iload 4, 2) := by decide +kernel
theorem dX4_remove_50 : decode cX4_remove 50 = .ok (.aload_n 0, 1) := by decide +kernel
theorem dX4_remove_51 : decode cX4_remove 51 = .ok (.getfield 94, 3) := by decide +kernel
theorem dX4_remove_54 : decode cX4_remove 54 = .ok (.bipush 60, 2) := by decide +kernel
theorem dX4_remove_56 : decode cX4_remove 56 = .ok (.iaload, 1) := by decide +kernel
theorem dX4_remove_57 : decode cX4_remove 57 = .ok (.if_icmp .ge 49, 3) := by decide +kernel
theorem dX4_remove_60 : decode cX4_remove 60 = .ok (.aload_n 0, 1) := by decide +kernel
theorem dX4_remove_61 : decode cX4_remove 61 = .ok (.getfield 88, 3) := by decide +kernel
theorem dX4_remove_64 : decode cX4_remove 64 = .ok (.iload_n 3, 1) := by decide +kernel
theorem dX4_remove_65 : decode cX4_remove 65 = .ok (.iload 4, 2) := by decide +kernel
theorem dX4_remove_67 : decode cX4_remove 67 = .ok (.iadd, 1) := by decide +kernel
theorem dX4_remove_68 : decode cX4_remove 68 = .ok (.aload_n 0, 1) := by decide +kernel
theorem dX4_remove_69 : decode cX4_remove 69 = .ok (.getfield 88, 3) := by decide +kernel
theorem dX4_remove_72 : decode cX4_remove 72 = .ok (.iload_n 3, 1) := by decide +kernel
theorem dX4_remove_73 : decode cX4_remove 73 = .ok (.iload 4, 2) := by decide +kernel
theorem dX4_remove_75 : decode cX4_remove 75 = .ok (.iadd, 1) := by decide +kernel
theorem dX4_remove_76 : decode cX4_remove 76 = .ok (.iconst 1, 1) := by decide +kernel
theorem dX4_remove_77 : decode cX4_remove 77 = .ok (.iadd, 1) := by decide +kernel
theorem dX4_remove_78 : decode cX4_remove 78 = .ok (.iaload, 1) := by decide +kernel
theorem dX4_remove_79 : decode cX4_remove 79 = .ok (.iastore, 1) := by decide +kernel
theorem dX4_remove_80 : decode cX4_remove 80 = .ok (.aload_n 0, 1) := by decide +kernel
theorem dX4_remove_81 : decode cX4_remove 81 = .ok (.getfield 91, 3) := by decide +kernel
theorem dX4_remove_84 : decode cX4_remove 84 = .ok (.iload_n 3, 1) := by decide +kernel
theorem dX4_remove_85 : decode cX4_remove 85 = .ok (.iload 4, 2) := by decide +kernel
theorem dX4_remove_87 : decode cX4_remove 87 = .ok (.iadd, 1) := by decide +kernel
theorem dX4_remove_88 : decode cX4_remove 88 = .ok (.aload_n 0, 1) := by decide +kernel
theorem dX4_remove_89 : decode cX4_remove 89 = .ok (.getfield 91, 3) := by decide +kernel
theorem dX4_remove_92 : decode cX4_remove 92 = .ok (.iload_n 3, 1) := by decide +kernel
theorem dX4_remove_93 : decode cX4_remove 93 = .ok (.iload 4, 2) := by decide +kernel
theorem dX4_remove_95 : decode cX4_remove 95 = .ok (.iadd, 1) := by decide +kernel
theorem dX4_remove_96 : decode cX4_remove 96 = .ok (.iconst 1, 1) := by decide +kernel
theorem dX4_remove_97 : decode cX4_remove 97 = .ok (.iadd, 1) := by decide +kernel
theorem dX4_remove_98 : decode cX4_remove 98 = .ok (.iaload, 1) := by decide +kernel
theorem dX4_remove_99 : decode cX4_remove 99 = .ok (.iastore, 1) := by decide +kernel
theorem dX4_remove_100 : decode cX4_remove 100 = .ok (.iinc 4 1, 3) := by decide +kernel
theorem dX4_remove_103 : decode cX4_remove 103 = .ok (.goto (-55), 3) := by decide +kernel
theorem dX4_remove_106 : decode cX4_remove 106 = .ok (.aload_n 0, 1) := by decide +kernel
theorem dX4_remove_107 : decode cX4_remove 107 = .ok (.iconst 0, 1) := by decide +kernel
theorem dX4_remove_108 : decode cX4_remove 108 = .ok (.putfield 175, 3) := by decide +kernel
theorem dX4_remove_111 : decode cX4_remove 111 = .ok (.iconst 1, 1) := by decide +kernel
theorem dX4_remove_112 : decode cX4_remove 112 = .ok (.ireturn, 1) := by decide +kernel
theorem dX4_get_0 : decode cX4_get 0 = .ok (.aload_n 0, 1) := by decide +kernel
theorem dX4_get_1 : decode cX4_get 1 = .ok (.iload_n 1, 1) := by decide +kernel
theorem dX4_get_2 : decode cX4_get 2 = .ok (.invokevirtual 193, 3) := by decide +kernel
theorem dX4_get_5 : decode cX4_get 5 = .ok (.ifCond .eq 10, 3) := by decide +kernel
theorem dX4_get_8 : decode cX4_get 8 = .ok (.iload_n 2, 1) := by decide +kernel
theorem dX4_get_9 : decode cX4_get 9 = .ok (.invokestatic 182, 3) := by decide +kernel
theorem dX4_get_12 : decode cX4_get 12 = .ok (.ifCond .ne 7, 3) := by decide +kernel
theorem dX4_get_15 : decode cX4_get 15 = .ok (.ldc2_w 196, 3) := by decide +kernel
theorem dX4_get_18 : decode cX4_get 18 = .ok (.lreturn, 1) := by decide +kernel
theorem dX4_get_19 : decode cX4_get 19 = .ok (.iload_n 1, 1) := by decide +kernel
theorem dX4_get_20 : decode cX4_get 20 = .ok (.invokestatic 198, 3) := by decide +kernel
theorem dX4_get_23 : decode cX4_get 23 = .ok (.istore_n 3, 1) := by decide +kernel
theorem dX4_get_24 : decode cX4_get 24 = .ok (.aload_n 0, 1) := by decide +kernel
theorem dX4_get_25 : decode cX4_get 25 = .ok (.iload_n 3, 1) := by decide +kernel
theorem dX4_get_26 : decode cX4_get 26 = .ok (.iload_n 2, 1) := by decide +kernel
theorem dX4_get_27 : decode cX4_get 27 = .ok (.invokevirtual 186, 3) := by decide +kernel
theorem dX4_get_30 : decode cX4_get 30 = .ok (.istore 4, 2) := by decide +kernel
theorem dX4_get_32 : decode cX4_get 32 = .ok (.aload_n 0, 1) := by decide +kernel
theorem dX4_get_33 : decode cX4_get 33 = .ok (.iload_n 3, 1) := by decide +kernel
theorem dX4_get_34 : decode cX4_get 34 = .ok (.iload 4, 2) := by decide +kernel
theorem dX4_get_36 : decode cX4_get 36 = .ok (.iload_n 2, 1) := by decide +kernel
theorem dX4_get_37 : decode cX4_get 37 = .ok (.invokevirtual 189, 3) := by decide +kernel
theorem dX4_get_40 : decode cX4_get 40 = .ok (.ifCond .eq 20, 3) := by decide +kernel
theorem dX4_get_43 : decode cX4_get 43 = .ok (.aload_n 0, 1) := by decide +kernel
theorem dX4_get_44 : decode cX4_get 44 = .ok (.getfield 91, 3) := by decide +kernel
theorem dX4_get_47 : decode cX4_get 47 = .ok (.sipush 300, 3) := by decide +kernel
theorem dX4_get_50 : decode cX4_get 50 = .ok (.iload_n 3, 1) := by decide +kernel
theorem dX4_get_51 : decode cX4_get 51 = .ok (.imul, 1) := by decide +kernel
theorem dX4_get_52 : decode cX4_get 52 = .ok (.iload 4, 2) := by decide +kernel
theorem dX4_get_54 : decode cX4_get 54 = .ok (.iadd, 1) := by decide +kernel
theorem dX4_get_55 : decode cX4_get 55 = .ok (.iaload, 1) := by decide +kernel
theorem dX4_get_56 : decode cX4_get 56 = .ok (.i2l, 1) := by decide +kernel
theorem dX4_get_57 : decode cX4_get 57 = .ok (.goto 6, 3) := by decide +kernel
theorem dX4_get_60 : decode cX4_get 60 = .ok (.ldc2_w 196, 3) := by decide +kernel
theorem dX4_get_63 : decode cX4_get 63 = .ok (.lreturn, 1) := by decide +kernel
theorem dX4_size_0 : decode cX4_size 0 = .ok (.aload_n 0, 1) := by decide +kernel
theorem dX4_size_1 : decode cX4_size 1 = .ok (.iload_n 1, 1) := by decide +kernel
theorem dX4_size_2 : decode cX4_size 2 = .ok (.invokevirtual 193, 3) := by decide +kernel
theorem dX4_size_5 : decode cX4_size 5 = .ok (.ifCond .eq 15, 3) := by decide +kernel
theorem dX4_size_8 : decode cX4_size 8 = .ok (.aload_n 0, 1) := by decide +kernel
theorem dX4_size_9 : decode cX4_size 9 = .ok (.getfield 94, 3) := by decide +kernel
theorem dX4_size_12 : decode cX4_size 12 = .ok (.iload_n 1, 1) := by decide +kernel
theorem dX4_size_13 : decode cX4_size 13 = .ok (.invokestatic 198, 3) := by decide +kernel
theorem dX4_size_16 : decode cX4_size 16 = .ok (.iaload, 1) := by decide +kernel
theorem dX4_size_17 : decode cX4_size 17 = .ok (.goto 4, 3) := by decide +kernel
theorem dX4_size_20 : decode cX4_size 20 = .ok (.iconst (-1), 1) := by decide +kernel
theorem dX4_size_21 : decode cX4_size 21 = .ok (.ireturn, 1) := by decide +kernel
theorem dX4_copyRow_0 : decode cX4_copyRow 0 = .ok (.aload_n 0, 1) := by decide +kernel
theorem dX4_copyRow_1 : decode cX4_copyRow 1 = .ok (.getfield 94, 3) := by decide +kernel
theorem dX4_copyRow_4 : decode cX4_copyRow 4 = .ok (.iload_n 2, 1) := by decide +kernel
theorem dX4_copyRow_5 : decode cX4_copyRow 5 = .ok (.aload_n 0, 1) := by decide +kernel
theorem dX4_copyRow_6 : decode cX4_copyRow 6 = .ok (.getfield 94, 3) := by decide +kernel
theorem dX4_copyRow_9 : decode cX4_copyRow 9 = .ok (.iload_n 1, 1) := by decide +kernel
theorem dX4_copyRow_10 : decode cX4_copyRow 10 = .ok (.iaload, 1) := by decide +kernel
theorem dX4_copyRow_11 : decode cX4_copyRow 11 = .ok (.iastore, 1) := by decide +kernel
theorem dX4_copyRow_12 : decode cX4_copyRow 12 = .ok (.iconst 0, 1) := by decide +kernel
theorem dX4_copyRow_13 : decode cX4_copyRow 13 = .ok (.istore_n 3, 1) := by decide +kernel
theorem dX4_copyRow_14 : decode cX4_copyRow 14 = .ok (.iload_n 3, 1) := by decide +kernel
theorem dX4_copyRow_15 : decode cX4_copyRow 15 = .ok (.aload_n 0, 1) := by decide +kernel
theorem dX4_copyRow_16 : decode cX4_copyRow 16 = .ok (.getfield 94, 3) := by decide +kernel
theorem dX4_copyRow_19 : decode cX4_copyRow 19 = .ok (.iload_n 1, 1) := by decide +kernel
theorem dX4_copyRow_20 : decode cX4_copyRow 20 = .ok (.iaload, 1) := by decide +kernel
theorem dX4_copyRow_21 : decode cX4_copyRow 21 = .ok (.if_icmp .ge 57, 3) := by decide +kernel
theorem dX4_copyRow_24 : decode cX4_copyRow 24 = .ok (.aload_n 0, 1) := by decide +kernel
theorem dX4_copyRow_25 : decode cX4_copyRow 25 = .ok (.getfield 88, 3) := by decide +kernel
theorem dX4_copyRow_28 : decode cX4_copyRow 28 = .ok (.sipush 300, 3) := by decide +kernel
theorem dX4_copyRow_31 : decode cX4_copyRow 31 = .ok (.iload_n 2, 1) := by decide +kernel
theorem dX4_copyRow_32 : decode cX4_copyRow 32 = .ok (.imul, 1) := by decide +kernel
theorem dX4_copyRow_33 : decode cX4_copyRow 33 = .ok (.iload_n 3, 1) := by decide +kernel
theorem dX4_copyRow_34 : decode cX4_copyRow 34 = .ok (.iadd, 1) := by decide +kernel
theorem dX4_copyRow_35 : decode cX4_copyRow 35 = .ok (.aload_n 0, 1) := by decide +kernel
theorem dX4_copyRow_36 : decode cX4_copyRow 36 = .ok (.getfield 88, 3) := by decide +kernel
theorem dX4_copyRow_39 : decode cX4_copyRow 39 = .ok (.sipush 300, 3) := by decide +kernel
theorem dX4_copyRow_42 : decode cX4_copyRow 42 = .ok (.iload_n 1, 1) := by decide +kernel
theorem dX4_copyRow_43 : decode cX4_copyRow 43 = .ok (.imul, 1) := by decide +kernel
theorem dX4_copyRow_44 : decode cX4_copyRow 44 = .ok (.iload_n 3, 1) := by decide +kernel
theorem dX4_copyRow_45 : decode cX4_copyRow 45 = .ok (.iadd, 1) := by decide +kernel
theorem dX4_copyRow_46 : decode cX4_copyRow 46 = .ok (.iaload, 1) := by decide +kernel
theorem dX4_copyRow_47 : decode cX4_copyRow 47 = .ok (.iastore, 1) := by decide +kernel
theorem dX4_copyRow_48 : decode cX4_copyRow 48 = .ok (.aload_n 0, 1) := by decide +kernel
theorem dX4_copyRow_49 : decode cX4_copyRow 49 = .ok (.getfield 91, 3) := by decide +kernel
theorem dX4_copyRow_52 : decode cX4_copyRow 52 = .ok (.sipush 300, 3) := by decide +kernel
theorem dX4_copyRow_55 : decode cX4_copyRow 55 = .ok (.iload_n 2, 1) := by decide +kernel
theorem dX4_copyRow_56 : decode cX4_copyRow 56 = .ok (.imul, 1) := by decide +kernel
theorem dX4_copyRow_57 : decode cX4_copyRow 57 = .ok (.iload_n 3, 1) := by decide +kernel
theorem dX4_copyRow_58 : decode cX4_copyRow 58 = .ok (.iadd, 1) := by decide +kernel
theorem dX4_copyRow_59 : decode cX4_copyRow 59 = .ok (.aload_n 0, 1) := by decide +kernel
theorem dX4_copyRow_60 : decode cX4_copyRow 60 = .ok (.getfield 91, 3) := by decide +kernel
theorem dX4_copyRow_63 : decode cX4_copyRow 63 = .ok (.sipush 300, 3) := by decide +kernel
theorem dX4_copyRow_66 : decode cX4_copyRow 66 = .ok (.iload_n 1, 1) := by decide +kernel
theorem dX4_copyRow_67 : decode cX4_copyRow 67 = .ok (.imul, 1) := by decide +kernel
theorem dX4_copyRow_68 : decode cX4_copyRow 68 = .ok (.iload_n 3, 1) := by decide +kernel
theorem dX4_copyRow_69 : decode cX4_copyRow 69 = .ok (.iadd, 1) := by decide +kernel
theorem dX4_copyRow_70 : decode cX4_copyRow 70 = .ok (.iaload, 1) := by decide +kernel
theorem dX4_copyRow_71 : decode cX4_copyRow 71 = .ok (.iastore, 1) := by decide +kernel
theorem dX4_copyRow_72 : decode cX4_copyRow 72 = .ok (.iinc 3 1, 3) := by decide +kernel
theorem dX4_copyRow_75 : decode cX4_copyRow 75 = .ok (.goto (-61), 3) := by decide +kernel
theorem dX4_copyRow_78 : decode cX4_copyRow 78 = .ok (.iconst 0, 1) := by decide +kernel
theorem dX4_copyRow_79 : decode cX4_copyRow 79 = .ok (.istore_n 3, 1) := by decide +kernel
theorem dX4_copyRow_80 : decode cX4_copyRow 80 = .ok (.iload_n 3, 1) := by decide +kernel
theorem dX4_copyRow_81 : decode cX4_copyRow 81 = .ok (.bipush 8, 2) := by decide +kernel
theorem dX4_copyRow_83 : decode cX4_copyRow 83 = .ok (.if_icmp .ge 31, 3) := by decide +kernel
theorem dX4_copyRow_86 : decode cX4_copyRow 86 = .ok (.aload_n 0, 1) := by decide +kernel
theorem dX4_copyRow_87 : decode cX4_copyRow 87 = .ok (.getfield 97, 3) := by decide +kernel
theorem dX4_copyRow_90 : decode cX4_copyRow 90 = .ok (.bipush 8, 2) := by decide +kernel
theorem dX4_copyRow_92 : decode cX4_copyRow 92 = .ok (.iload_n 2, 1) := by decide +kernel
theorem dX4_copyRow_93 : decode cX4_copyRow 93 = .ok (.imul, 1) := by decide +kernel
theorem dX4_copyRow_94 : decode cX4_copyRow 94 = .ok (.iload_n 3, 1) := by decide +kernel
theorem dX4_copyRow_95 : decode cX4_copyRow 95 = .ok (.iadd, 1) := by decide +kernel
theorem dX4_copyRow_96 : decode cX4_copyRow 96 = .ok (.aload_n 0, 1) := by decide +kernel
theorem dX4_copyRow_97 : decode cX4_copyRow 97 = .ok (.getfield 97, 3) := by decide +kernel
theorem dX4_copyRow_100 : decode cX4_copyRow 100 = .ok (.bipush 8, 2) := by decide +kernel
theorem dX4_copyRow_102 : decode cX4_copyRow 102 = .ok (.iload_n 1, 1) := by decide +kernel
theorem dX4_copyRow_103 : decode cX4_copyRow 103 = .ok (.imul, 1) := by decide +kernel
theorem dX4_copyRow_104 : decode cX4_copyRow 104 = .ok (.iload_n 3, 1) := by decide +kernel
theorem dX4_copyRow_105 : decode cX4_copyRow 105 = .ok (.iadd, 1) := by decide +kernel
theorem dX4_copyRow_106 : decode cX4_copyRow 106 = .ok (.iaload, 1) := by decide +kernel
theorem dX4_copyRow_107 : decode cX4_copyRow 107 = .ok (.iastore, 1) := by decide +kernel
theorem dX4_copyRow_108 : decode cX4_copyRow 108 = .ok (.iinc 3 1, 3) := by decide +kernel
theorem dX4_copyRow_111 : decode cX4_copyRow 111 = .ok (.goto (-31), 3) := by decide +kernel
theorem dX4_copyRow_114 : decode cX4_copyRow 114 = .ok (.return_, 1) := by decide +kernel
theorem dX4_commit_0 : decode cX4_commit 0 = .ok (.aload_n 0, 1) := by decide +kernel
theorem dX4_commit_1 : decode cX4_commit 1 = .ok (.getfield 134, 3) := by decide +kernel
theorem dX4_commit_4 : decode cX4_commit 4 = .ok (.bipush 60, 2) := by decide +kernel
theorem dX4_commit_6 : decode cX4_commit 6 = .ok (.if_icmp .ne 6, 3) := by decide +kernel
theorem dX4_commit_9 : decode cX4_commit 9 = .ok (.bipush (-3), 2) := by decide +kernel
theorem dX4_commit_11 : decode cX4_commit 11 = .ok (.ireturn, 1) := by decide +kernel
theorem dX4_commit_12 : decode cX4_commit 12 = .ok (.aload_n 0, 1) := by decide +kernel
theorem dX4_commit_13 : decode cX4_commit 13 = .ok (.invokevirtual 202, 3) := by decide +kernel
theorem dX4_commit_16 : decode cX4_commit 16 = .ok (.aload_n 0, 1) := by decide +kernel
theorem dX4_commit_17 : decode cX4_commit 17 = .ok (.bipush 60, 2) := by decide +kernel
theorem dX4_commit_19 : decode cX4_commit 19 = .ok (.aload_n 0, 1) := by decide +kernel
theorem dX4_commit_20 : decode cX4_commit 20 = .ok (.getfield 134, 3) := by decide +kernel
theorem dX4_commit_23 : decode cX4_commit 23 = .ok (.invokevirtual 205, 3) := by decide +kernel
theorem dX4_commit_26 : decode cX4_commit 26 = .ok (.aload_n 0, 1) := by decide +kernel
theorem dX4_commit_27 : decode cX4_commit 27 = .ok (.dup, 1) := by decide +kernel
theorem dX4_commit_28 : decode cX4_commit 28 = .ok (.getfield 134, 3) := by decide +kernel
theorem dX4_commit_31 : decode cX4_commit 31 = .ok (.iconst 1, 1) := by decide +kernel
theorem dX4_commit_32 : decode cX4_commit 32 = .ok (.iadd, 1) := by decide +kernel
theorem dX4_commit_33 : decode cX4_commit 33 = .ok (.putfield 134, 3) := by decide +kernel
theorem dX4_commit_36 : decode cX4_commit 36 = .ok (.aload_n 0, 1) := by decide +kernel
theorem dX4_commit_37 : decode cX4_commit 37 = .ok (.getfield 134, 3) := by decide +kernel
theorem dX4_commit_40 : decode cX4_commit 40 = .ok (.iconst 1, 1) := by decide +kernel
theorem dX4_commit_41 : decode cX4_commit 41 = .ok (.isub, 1) := by decide +kernel
theorem dX4_commit_42 : decode cX4_commit 42 = .ok (.ireturn, 1) := by decide +kernel
theorem dX4_back_0 : decode cX4_back 0 = .ok (.iload_n 1, 1) := by decide +kernel
theorem dX4_back_1 : decode cX4_back 1 = .ok (.ifCond .lt 11, 3) := by decide +kernel
theorem dX4_back_4 : decode cX4_back 4 = .ok (.iload_n 1, 1) := by decide +kernel
theorem dX4_back_5 : decode cX4_back 5 = .ok (.aload_n 0, 1) := by decide +kernel
theorem dX4_back_6 : decode cX4_back 6 = .ok (.getfield 134, 3) := by decide +kernel
theorem dX4_back_9 : decode cX4_back 9 = .ok (.if_icmp .lt 5, 3) := by decide +kernel
theorem dX4_back_12 : decode cX4_back 12 = .ok (.iconst (-1), 1) := by decide +kernel
theorem dX4_back_13 : decode cX4_back 13 = .ok (.ireturn, 1) := by decide +kernel
theorem dX4_back_14 : decode cX4_back 14 = .ok (.aload_n 0, 1) := by decide +kernel
theorem dX4_back_15 : decode cX4_back 15 = .ok (.iload_n 1, 1) := by decide +kernel
theorem dX4_back_16 : decode cX4_back 16 = .ok (.bipush 60, 2) := by decide +kernel
theorem dX4_back_18 : decode cX4_back 18 = .ok (.invokevirtual 205, 3) := by decide +kernel
theorem dX4_back_21 : decode cX4_back 21 = .ok (.aload_n 0, 1) := by decide +kernel
theorem dX4_back_22 : decode cX4_back 22 = .ok (.iconst 1, 1) := by decide +kernel
theorem dX4_back_23 : decode cX4_back 23 = .ok (.putfield 175, 3) := by decide +kernel
theorem dX4_back_26 : decode cX4_back 26 = .ok (.aload_n 0, 1) := by decide +kernel
theorem dX4_back_27 : decode cX4_back 27 = .ok (.getfield 94, 3) := by decide +kernel
theorem dX4_back_30 : decode cX4_back 30 = .ok (.bipush 60, 2) := by decide +kernel
theorem dX4_back_32 : decode cX4_back 32 = .ok (.iaload, 1) := by decide +kernel
theorem dX4_back_33 : decode cX4_back 33 = .ok (.ireturn, 1) := by decide +kernel
theorem dX4_word_0 : decode cX4_word 0 = .ok (.aload_n 0, 1) := by decide +kernel
theorem dX4_word_1 : decode cX4_word 1 = .ok (.iload_n 1, 1) := by decide +kernel
theorem dX4_word_2 : decode cX4_word 2 = .ok (.invokevirtual 193, 3) := by decide +kernel
theorem dX4_word_5 : decode cX4_word 5 = .ok (.ifCond .eq 13, 3) := by decide +kernel
theorem dX4_word_8 : decode cX4_word 8 = .ok (.iload_n 2, 1) := by decide +kernel
theorem dX4_word_9 : decode cX4_word 9 = .ok (.ifCond .lt 9, 3) := by decide +kernel
theorem dX4_word_12 : decode cX4_word 12 = .ok (.iload_n 2, 1) := by decide +kernel
theorem dX4_word_13 : decode cX4_word 13 = .ok (.bipush 8, 2) := by decide +kernel
theorem dX4_word_15 : decode cX4_word 15 = .ok (.if_icmp .lt 5, 3) := by decide +kernel
theorem dX4_word_18 : decode cX4_word 18 = .ok (.iconst 0, 1) := by decide +kernel
theorem dX4_word_19 : decode cX4_word 19 = .ok (.ireturn, 1) := by decide +kernel
theorem dX4_word_20 : decode cX4_word 20 = .ok (.aload_n 0, 1) := by decide +kernel
theorem dX4_word_21 : decode cX4_word 21 = .ok (.invokevirtual 202, 3) := by decide +kernel
theorem dX4_word_24 : decode cX4_word 24 = .ok (.aload_n 0, 1) := by decide +kernel
theorem dX4_word_25 : decode cX4_word 25 = .ok (.getfield 97, 3) := by decide +kernel
theorem dX4_word_28 : decode cX4_word 28 = .ok (.bipush 8, 2) := by decide +kernel
theorem dX4_word_30 : decode cX4_word 30 = .ok (.iload_n 1, 1) := by decide +kernel
theorem dX4_word_31 : decode cX4_word 31 = .ok (.invokestatic 198, 3) := by decide +kernel
theorem dX4_word_34 : decode cX4_word 34 = .ok (.imul, 1) := by decide +kernel
theorem dX4_word_35 : decode cX4_word 35 = .ok (.iload_n 2, 1) := by decide +kernel
theorem dX4_word_36 : decode cX4_word 36 = .ok (.iadd, 1) := by decide +kernel
theorem dX4_word_37 : decode cX4_word 37 = .ok (.iaload, 1) := by decide +kernel
theorem dX4_word_38 : decode cX4_word 38 = .ok (.ireturn, 1) := by decide +kernel
theorem dX4_prove_0 : decode cX4_prove 0 = .ok (.aload_n 0, 1) := by decide +kernel
theorem dX4_prove_1 : decode cX4_prove 1 = .ok (.iload_n 1, 1) := by decide +kernel
theorem dX4_prove_2 : decode cX4_prove 2 = .ok (.invokevirtual 193, 3) := by decide +kernel
theorem dX4_prove_5 : decode cX4_prove 5 = .ok (.ifCond .eq 10, 3) := by decide +kernel
theorem dX4_prove_8 : decode cX4_prove 8 = .ok (.iload_n 2, 1) := by decide +kernel
theorem dX4_prove_9 : decode cX4_prove 9 = .ok (.invokestatic 182, 3) := by decide +kernel
theorem dX4_prove_12 : decode cX4_prove 12 = .ok (.ifCond .ne 5, 3) := by decide +kernel
theorem dX4_prove_15 : decode cX4_prove 15 = .ok (.iconst (-1), 1) := by decide +kernel
theorem dX4_prove_16 : decode cX4_prove 16 = .ok (.ireturn, 1) := by decide +kernel
theorem dX4_prove_17 : decode cX4_prove 17 = .ok (.aload_n 0, 1) := by decide +kernel
theorem dX4_prove_18 : decode cX4_prove 18 = .ok (.iload_n 1, 1) := by decide +kernel
theorem dX4_prove_19 : decode cX4_prove 19 = .ok (.invokestatic 198, 3) := by decide +kernel
theorem dX4_prove_22 : decode cX4_prove 22 = .ok (.iload_n 2, 1) := by decide +kernel
theorem dX4_prove_23 : decode cX4_prove 23 = .ok (.invokevirtual 179, 3) := by decide +kernel
theorem dX4_prove_26 : decode cX4_prove 26 = .ok (.aload_n 0, 1) := by decide +kernel
theorem dX4_prove_27 : decode cX4_prove 27 = .ok (.iconst 0, 1) := by decide +kernel
theorem dX4_prove_28 : decode cX4_prove 28 = .ok (.putfield 208, 3) := by decide +kernel
theorem dX4_prove_31 : decode cX4_prove 31 = .ok (.aload_n 0, 1) := by decide +kernel
theorem dX4_prove_32 : decode cX4_prove 32 = .ok (.getfield 121, 3) := by decide +kernel
theorem dX4_prove_35 : decode cX4_prove 35 = .ok (.aload_n 0, 1) := by decide +kernel
theorem dX4_prove_36 : decode cX4_prove 36 = .ok (.getfield 208, 3) := by decide +kernel
theorem dX4_prove_39 : decode cX4_prove 39 = .ok (.iaload, 1) := by decide +kernel
theorem dX4_prove_40 : decode cX4_prove 40 = .ok (.iconst 1, 1) := by decide +kernel
theorem dX4_prove_41 : decode cX4_prove 41 = .ok (.if_icmp .le 61, 3) := by decide +kernel
theorem dX4_prove_44 : decode cX4_prove 44 = .ok (.aload_n 0, 1) := by decide +kernel
theorem dX4_prove_45 : decode cX4_prove 45 = .ok (.dup, 1) := by decide +kernel
theorem dX4_prove_46 : decode cX4_prove 46 = .ok (.getfield 208, 3) := by decide +kernel
theorem dX4_prove_49 : decode cX4_prove 49 = .ok (.iconst 1, 1) := by decide +kernel
theorem dX4_prove_50 : decode cX4_prove 50 = .ok (.iadd, 1) := by decide +kernel
theorem dX4_prove_51 : decode cX4_prove 51 = .ok (.putfield 208, 3) := by decide +kernel
theorem dX4_prove_54 : decode cX4_prove 54 = .ok (.iconst 0, 1) := by decide +kernel
theorem dX4_prove_55 : decode cX4_prove 55 = .ok (.istore_n 3, 1) := by decide +kernel
theorem dX4_prove_56 : decode cX4_prove 56 = .ok (.iload_n 3, 1) := by decide +kernel
theorem dX4_prove_57 : decode cX4_prove 57 = .ok (.bipush 8, 2) := by decide +kernel
theorem dX4_prove_59 : decode cX4_prove 59 = .ok (.if_icmp .ge 40, 3) := by decide +kernel
theorem dX4_prove_62 : decode cX4_prove 62 = .ok (.aload_n 0, 1) := by decide +kernel
theorem dX4_prove_63 : decode cX4_prove 63 = .ok (.getfield 130, 3) := by decide +kernel
theorem dX4_prove_66 : decode cX4_prove 66 = .ok (.bipush 8, 2) := by decide +kernel
theorem dX4_prove_68 : decode cX4_prove 68 = .ok (.aload_n 0, 1) := by decide +kernel
theorem dX4_prove_69 : decode cX4_prove 69 = .ok (.getfield 208, 3) := by decide +kernel
theorem dX4_prove_72 : decode cX4_prove 72 = .ok (.imul, 1) := by decide +kernel
theorem dX4_prove_73 : decode cX4_prove 73 = .ok (.bipush 8, 2) := by decide +kernel
theorem dX4_prove_75 : decode cX4_prove 75 = .ok (.isub, 1) := by decide +kernel
theorem dX4_prove_76 : decode cX4_prove 76 = .ok (.iload_n 3, 1) := by decide +kernel
theorem dX4_prove_77 : decode cX4_prove 77 = .ok (.iadd, 1) := by decide +kernel
theorem dX4_prove_78 : decode cX4_prove 78 = .ok (.aload_n 0, 1) := by decide +kernel
theorem dX4_prove_79 : decode cX4_prove 79 = .ok (.getfield 127, 3) := by decide +kernel
theorem dX4_prove_82 : decode cX4_prove 82 = .ok (.bipush 8, 2) := by decide +kernel
theorem dX4_prove_84 : decode cX4_prove 84 = .ok (.aload_n 0, 1) := by decide +kernel
theorem dX4_prove_85 : decode cX4_prove 85 = .ok (.getfield 208, 3) := by decide +kernel
theorem dX4_prove_88 : decode cX4_prove 88 = .ok (.imul, 1) := by decide +kernel
theorem dX4_prove_89 : decode cX4_prove 89 = .ok (.iload_n 3, 1) := by decide +kernel
theorem dX4_prove_90 : decode cX4_prove 90 = .ok (.iadd, 1) := by decide +kernel
theorem dX4_prove_91 : decode cX4_prove 91 = .ok (.iaload, 1) := by decide +kernel
theorem dX4_prove_92 : decode cX4_prove 92 = .ok (.iastore, 1) := by decide +kernel
theorem dX4_prove_93 : decode cX4_prove 93 = .ok (.iinc 3 1, 3) := by decide +kernel
theorem dX4_prove_96 : decode cX4_prove 96 = .ok (.goto (-40), 3) := by decide +kernel
theorem dX4_prove_99 : decode cX4_prove 99 = .ok (.goto (-68), 3) := by decide +kernel
theorem dX4_prove_102 : decode cX4_prove 102 = .ok (.aload_n 0, 1) := by decide +kernel
theorem dX4_prove_103 : decode cX4_prove 103 = .ok (.aload_n 0, 1) := by decide +kernel
theorem dX4_prove_104 : decode cX4_prove 104 = .ok (.getfield 121, 3) := by decide +kernel
theorem dX4_prove_107 : decode cX4_prove 107 = .ok (.aload_n 0, 1) := by decide +kernel
theorem dX4_prove_108 : decode cX4_prove 108 = .ok (.getfield 208, 3) := by decide +kernel
theorem dX4_prove_111 : decode cX4_prove 111 = .ok (.iaload, 1) := by decide +kernel
theorem dX4_prove_112 : decode cX4_prove 112 = .ok (.iconst 1, 1) := by decide +kernel
theorem dX4_prove_113 : decode cX4_prove 113 = .ok (.if_icmp .ne 7, 3) := by decide +kernel
theorem dX4_prove_116 : decode cX4_prove 116 = .ok (.iconst 1, 1) := by decide +kernel
theorem dX4_prove_117 : decode cX4_prove 117 = .ok (.goto 4, 3) := by decide +kernel
theorem dX4_prove_120 : decode cX4_prove 120 = .ok (.iconst 0, 1) := by decide +kernel
theorem dX4_prove_121 : decode cX4_prove 121 = .ok (.putfield 211, 3) := by decide +kernel
theorem dX4_prove_124 : decode cX4_prove 124 = .ok (.aload_n 0, 1) := by decide +kernel
theorem dX4_prove_125 : decode cX4_prove 125 = .ok (.aload_n 0, 1) := by decide +kernel
theorem dX4_prove_126 : decode cX4_prove 126 = .ok (.getfield 211, 3) := by decide +kernel
theorem dX4_prove_129 : decode cX4_prove 129 = .ok (.ifCond .eq 20, 3) := by decide +kernel
theorem dX4_prove_132 : decode cX4_prove 132 = .ok (.aload_n 0, 1) := by decide +kernel
theorem dX4_prove_133 : decode cX4_prove 133 = .ok (.getfield 88, 3) := by decide +kernel
theorem dX4_prove_136 : decode cX4_prove 136 = .ok (.aload_n 0, 1) := by decide +kernel
theorem dX4_prove_137 : decode cX4_prove 137 = .ok (.getfield 124, 3) := by decide +kernel
theorem dX4_prove_140 : decode cX4_prove 140 = .ok (.aload_n 0, 1) := by decide +kernel
theorem dX4_prove_141 : decode cX4_prove 141 = .ok (.getfield 208, 3) := by decide +kernel
theorem dX4_prove_144 : decode cX4_prove 144 = .ok (.iaload, 1) := by decide +kernel
theorem dX4_prove_145 : decode cX4_prove 145 = .ok (.iaload, 1) := by decide +kernel
theorem dX4_prove_146 : decode cX4_prove 146 = .ok (.goto 4, 3) := by decide +kernel
theorem dX4_prove_149 : decode cX4_prove 149 = .ok (.iconst 0, 1) := by decide +kernel
theorem dX4_prove_150 : decode cX4_prove 150 = .ok (.putfield 214, 3) := by decide +kernel
theorem dX4_prove_153 : decode cX4_prove 153 = .ok (.aload_n 0, 1) := by decide +kernel
theorem dX4_prove_154 : decode cX4_prove 154 = .ok (.aload_n 0, 1) := by decide +kernel
theorem dX4_prove_155 : decode cX4_prove 155 = .ok (.getfield 211, 3) := by decide +kernel
theorem dX4_prove_158 : decode cX4_prove 158 = .ok (.ifCond .eq 20, 3) := by decide +kernel
theorem dX4_prove_161 : decode cX4_prove 161 = .ok (.aload_n 0, 1) := by decide +kernel
theorem dX4_prove_162 : decode cX4_prove 162 = .ok (.getfield 91, 3) := by decide +kernel
theorem dX4_prove_165 : decode cX4_prove 165 = .ok (.aload_n 0, 1) := by decide +kernel
theorem dX4_prove_166 : decode cX4_prove 166 = .ok (.getfield 124, 3) := by decide +kernel
theorem dX4_prove_169 : decode cX4_prove 169 = .ok (.aload_n 0, 1) := by decide +kernel
theorem dX4_prove_170 : decode cX4_prove 170 = .ok (.getfield 208, 3) := by decide +kernel
theorem dX4_prove_173 : decode cX4_prove 173 = .ok (.iaload, 1) := by decide +kernel
theorem dX4_prove_174 : decode cX4_prove 174 = .ok (.iaload, 1) := by decide +kernel
theorem dX4_prove_175 : decode cX4_prove 175 = .ok (.goto 4, 3) := by decide +kernel
theorem dX4_prove_178 : decode cX4_prove 178 = .ok (.iconst 0, 1) := by decide +kernel
theorem dX4_prove_179 : decode cX4_prove 179 = .ok (.putfield 217, 3) := by decide +kernel
theorem dX4_prove_182 : decode cX4_prove 182 = .ok (.aload_n 0, 1) := by decide +kernel
theorem dX4_prove_183 : decode cX4_prove 183 = .ok (.getfield 208, 3) := by decide +kernel
theorem dX4_prove_186 : decode cX4_prove 186 = .ok (.ireturn, 1) := by decide +kernel
theorem dX4_siblings_0 : decode cX4_siblings 0 = .ok (.aload_n 0, 1) := by decide +kernel
theorem dX4_siblings_1 : decode cX4_siblings 1 = .ok (.getfield 208, 3) := by decide +kernel
theorem dX4_siblings_4 : decode cX4_siblings 4 = .ok (.ireturn, 1) := by decide +kernel
theorem dX4_isSibling_0 : decode cX4_isSibling 0 = .ok (.iload_n 1, 1) := by decide +kernel
theorem dX4_isSibling_1 : decode cX4_isSibling 1 = .ok (.ifCond .lt 25, 3) := by decide +kernel
theorem dX4_isSibling_4 : decode cX4_isSibling 4 = .ok (.iload_n 1, 1) := by decide +kernel
theorem dX4_isSibling_5 : decode cX4_isSibling 5 = .ok (.aload_n 0, 1) := by decide +kernel
theorem dX4_isSibling_6 : decode cX4_isSibling 6 = .ok (.getfield 208, 3) := by decide +kernel
theorem dX4_isSibling_9 : decode cX4_isSibling 9 = .ok (.if_icmp .ge 17, 3) := by decide +kernel
theorem dX4_isSibling_12 : decode cX4_isSibling 12 = .ok (.iload_n 2, 1) := by decide +kernel
theorem dX4_isSibling_13 : decode cX4_isSibling 13 = .ok (.ifCond .lt 13, 3) := by decide +kernel
theorem dX4_isSibling_16 : decode cX4_isSibling 16 = .ok (.iload_n 2, 1) := by decide +kernel
theorem dX4_isSibling_17 : decode cX4_isSibling 17 = .ok (.bipush 8, 2) := by decide +kernel
theorem dX4_isSibling_19 : decode cX4_isSibling 19 = .ok (.if_icmp .ge 7, 3) := by decide +kernel
theorem dX4_isSibling_22 : decode cX4_isSibling 22 = .ok (.iconst 1, 1) := by decide +kernel
theorem dX4_isSibling_23 : decode cX4_isSibling 23 = .ok (.goto 4, 3) := by decide +kernel
theorem dX4_isSibling_26 : decode cX4_isSibling 26 = .ok (.iconst 0, 1) := by decide +kernel
theorem dX4_isSibling_27 : decode cX4_isSibling 27 = .ok (.ireturn, 1) := by decide +kernel
theorem dX4_sibling_0 : decode cX4_sibling 0 = .ok (.aload_n 0, 1) := by decide +kernel
theorem dX4_sibling_1 : decode cX4_sibling 1 = .ok (.iload_n 1, 1) := by decide +kernel
theorem dX4_sibling_2 : decode cX4_sibling 2 = .ok (.iload_n 2, 1) := by decide +kernel
theorem dX4_sibling_3 : decode cX4_sibling 3 = .ok (.invokevirtual 220, 3) := by decide +kernel
theorem dX4_sibling_6 : decode cX4_sibling 6 = .ok (.ifCond .eq 17, 3) := by decide +kernel
theorem dX4_sibling_9 : decode cX4_sibling 9 = .ok (.aload_n 0, 1) := by decide +kernel
theorem dX4_sibling_10 : decode cX4_sibling 10 = .ok (.getfield 130, 3) := by decide +kernel
theorem dX4_sibling_13 : decode cX4_sibling 13 = .ok (.bipush 8, 2) := by decide +kernel
theorem dX4_sibling_15 : decode cX4_sibling 15 = .ok (.iload_n 1, 1) := by decide +kernel
theorem dX4_sibling_16 : decode cX4_sibling 16 = .ok (.imul, 1) := by decide +kernel
theorem dX4_sibling_17 : decode cX4_sibling 17 = .ok (.iload_n 2, 1) := by decide +kernel
theorem dX4_sibling_18 : decode cX4_sibling 18 = .ok (.iadd, 1) := by decide +kernel
theorem dX4_sibling_19 : decode cX4_sibling 19 = .ok (.iaload, 1) := by decide +kernel
theorem dX4_sibling_20 : decode cX4_sibling 20 = .ok (.goto 4, 3) := by decide +kernel
theorem dX4_sibling_23 : decode cX4_sibling 23 = .ok (.iconst 0, 1) := by decide +kernel
theorem dX4_sibling_24 : decode cX4_sibling 24 = .ok (.ireturn, 1) := by decide +kernel
theorem dX4_end_0 : decode cX4_end 0 = .ok (.iload_n 1, 1) := by decide +kernel
theorem dX4_end_1 : decode cX4_end 1 = .ok (.ifCond .lt 8, 3) := by decide +kernel
theorem dX4_end_4 : decode cX4_end 4 = .ok (.iload_n 1, 1) := by decide +kernel
theorem dX4_end_5 : decode cX4_end 5 = .ok (.iconst 2, 1) := by decide +kernel
theorem dX4_end_6 : decode cX4_end 6 = .ok (.if_icmp .le 5, 3) := by decide +kernel
theorem dX4_end_9 : decode cX4_end 9 = .ok (.iconst (-1), 1) := by decide +kernel
theorem dX4_end_10 : decode cX4_end 10 = .ok (.ireturn, 1) := by decide +kernel
theorem dX4_end_11 : decode cX4_end 11 = .ok (.iload_n 1, 1) := by decide +kernel
theorem dX4_end_12 : decode cX4_end 12 = .ok (.ifCond .ne 18, 3) := by decide +kernel
theorem dX4_end_15 : decode cX4_end 15 = .ok (.aload_n 0, 1) := by decide +kernel
theorem dX4_end_16 : decode cX4_end 16 = .ok (.getfield 211, 3) := by decide +kernel
theorem dX4_end_19 : decode cX4_end 19 = .ok (.ifCond .eq 7, 3) := by decide +kernel
theorem dX4_end_22 : decode cX4_end 22 = .ok (.iconst 1, 1) := by decide +kernel
theorem dX4_end_23 : decode cX4_end 23 = .ok (.goto 23, 3) := by decide +kernel
theorem dX4_end_26 : decode cX4_end 26 = .ok (.iconst 0, 1) := by decide +kernel
theorem dX4_end_27 : decode cX4_end 27 = .ok (.goto 19, 3) := by decide +kernel
theorem dX4_end_30 : decode cX4_end 30 = .ok (.iload_n 1, 1) := by decide +kernel
theorem dX4_end_31 : decode cX4_end 31 = .ok (.iconst 1, 1) := by decide +kernel
theorem dX4_end_32 : decode cX4_end 32 = .ok (.if_icmp .ne 10, 3) := by decide +kernel
theorem dX4_end_35 : decode cX4_end 35 = .ok (.aload_n 0, 1) := by decide +kernel
theorem dX4_end_36 : decode cX4_end 36 = .ok (.getfield 214, 3) := by decide +kernel
theorem dX4_end_39 : decode cX4_end 39 = .ok (.goto 7, 3) := by decide +kernel
theorem dX4_end_42 : decode cX4_end 42 = .ok (.aload_n 0, 1) := by decide +kernel
theorem dX4_end_43 : decode cX4_end 43 = .ok (.getfield 217, 3) := by decide +kernel
theorem dX4_end_46 : decode cX4_end 46 = .ok (.ireturn, 1) := by decide +kernel
theorem dX4_alter_0 : decode cX4_alter 0 = .ok (.aload_n 0, 1) := by decide +kernel
theorem dX4_alter_1 : decode cX4_alter 1 = .ok (.iload_n 1, 1) := by decide +kernel
theorem dX4_alter_2 : decode cX4_alter 2 = .ok (.iload_n 2, 1) := by decide +kernel
theorem dX4_alter_3 : decode cX4_alter 3 = .ok (.invokevirtual 220, 3) := by decide +kernel
theorem dX4_alter_6 : decode cX4_alter 6 = .ok (.ifCond .ne 5, 3) := by decide +kernel
theorem dX4_alter_9 : decode cX4_alter 9 = .ok (.iconst (-1), 1) := by decide +kernel
theorem dX4_alter_10 : decode cX4_alter 10 = .ok (.ireturn, 1) := by decide +kernel
theorem dX4_alter_11 : decode cX4_alter 11 = .ok (.aload_n 0, 1) := by decide +kernel
theorem dX4_alter_12 : decode cX4_alter 12 = .ok (.getfield 130, 3) := by decide +kernel
theorem dX4_alter_15 : decode cX4_alter 15 = .ok (.bipush 8, 2) := by decide +kernel
theorem dX4_alter_17 : decode cX4_alter 17 = .ok (.iload_n 1, 1) := by decide +kernel
theorem dX4_alter_18 : decode cX4_alter 18 = .ok (.imul, 1) := by decide +kernel
theorem dX4_alter_19 : decode cX4_alter 19 = .ok (.iload_n 2, 1) := by decide +kernel
theorem dX4_alter_20 : decode cX4_alter 20 = .ok (.iadd, 1) := by decide +kernel
theorem dX4_alter_21 : decode cX4_alter 21 = .ok (.aload_n 0, 1) := by decide +kernel
theorem dX4_alter_22 : decode cX4_alter 22 = .ok (.getfield 130, 3) := by decide +kernel
theorem dX4_alter_25 : decode cX4_alter 25 = .ok (.bipush 8, 2) := by decide +kernel
theorem dX4_alter_27 : decode cX4_alter 27 = .ok (.iload_n 1, 1) := by decide +kernel
theorem dX4_alter_28 : decode cX4_alter 28 = .ok (.imul, 1) := by decide +kernel
theorem dX4_alter_29 : decode cX4_alter 29 = .ok (.iload_n 2, 1) := by decide +kernel
theorem dX4_alter_30 : decode cX4_alter 30 = .ok (.iadd, 1) := by decide +kernel
theorem dX4_alter_31 : decode cX4_alter 31 = .ok (.iaload, 1) := by decide +kernel
theorem dX4_alter_32 : decode cX4_alter 32 = .ok (.iload_n 3, 1) := by decide +kernel
theorem dX4_alter_33 : decode cX4_alter 33 = .ok (.ixor, 1) := by decide +kernel
theorem dX4_alter_34 : decode cX4_alter 34 = .ok (.iastore, 1) := by decide +kernel
theorem dX4_alter_35 : decode cX4_alter 35 = .ok (.iconst 1, 1) := by decide +kernel
theorem dX4_alter_36 : decode cX4_alter 36 = .ok (.ireturn, 1) := by decide +kernel
theorem dX4_claim_0 : decode cX4_claim 0 = .ok (.iload_n 1, 1) := by decide +kernel
theorem dX4_claim_1 : decode cX4_claim 1 = .ok (.iconst (-1), 1) := by decide +kernel
theorem dX4_claim_2 : decode cX4_claim 2 = .ok (.if_icmp .eq 12, 3) := by decide +kernel
theorem dX4_claim_5 : decode cX4_claim 5 = .ok (.iload_n 1, 1) := by decide +kernel
theorem dX4_claim_6 : decode cX4_claim 6 = .ok (.invokestatic 182, 3) := by decide +kernel
theorem dX4_claim_9 : decode cX4_claim 9 = .ok (.ifCond .ne 5, 3) := by decide +kernel
theorem dX4_claim_12 : decode cX4_claim 12 = .ok (.iconst (-1), 1) := by decide +kernel
theorem dX4_claim_13 : decode cX4_claim 13 = .ok (.ireturn, 1) := by decide +kernel
theorem dX4_claim_14 : decode cX4_claim 14 = .ok (.aload_n 0, 1) := by decide +kernel
theorem dX4_claim_15 : decode cX4_claim 15 = .ok (.iload_n 1, 1) := by decide +kernel
theorem dX4_claim_16 : decode cX4_claim 16 = .ok (.ifCond .lt 7, 3) := by decide +kernel
theorem dX4_claim_19 : decode cX4_claim 19 = .ok (.iconst 1, 1) := by decide +kernel
theorem dX4_claim_20 : decode cX4_claim 20 = .ok (.goto 4, 3) := by decide +kernel
theorem dX4_claim_23 : decode cX4_claim 23 = .ok (.iconst 0, 1) := by decide +kernel
theorem dX4_claim_24 : decode cX4_claim 24 = .ok (.putfield 211, 3) := by decide +kernel
theorem dX4_claim_27 : decode cX4_claim 27 = .ok (.aload_n 0, 1) := by decide +kernel
theorem dX4_claim_28 : decode cX4_claim 28 = .ok (.aload_n 0, 1) := by decide +kernel
theorem dX4_claim_29 : decode cX4_claim 29 = .ok (.getfield 211, 3) := by decide +kernel
theorem dX4_claim_32 : decode cX4_claim 32 = .ok (.ifCond .eq 7, 3) := by decide +kernel
theorem dX4_claim_35 : decode cX4_claim 35 = .ok (.iload_n 1, 1) := by decide +kernel
theorem dX4_claim_36 : decode cX4_claim 36 = .ok (.goto 4, 3) := by decide +kernel
theorem dX4_claim_39 : decode cX4_claim 39 = .ok (.iconst 0, 1) := by decide +kernel
theorem dX4_claim_40 : decode cX4_claim 40 = .ok (.putfield 214, 3) := by decide +kernel
theorem dX4_claim_43 : decode cX4_claim 43 = .ok (.aload_n 0, 1) := by decide +kernel
theorem dX4_claim_44 : decode cX4_claim 44 = .ok (.aload_n 0, 1) := by decide +kernel
theorem dX4_claim_45 : decode cX4_claim 45 = .ok (.getfield 211, 3) := by decide +kernel
theorem dX4_claim_48 : decode cX4_claim 48 = .ok (.ifCond .eq 7, 3) := by decide +kernel
theorem dX4_claim_51 : decode cX4_claim 51 = .ok (.iload_n 2, 1) := by decide +kernel
theorem dX4_claim_52 : decode cX4_claim 52 = .ok (.goto 4, 3) := by decide +kernel
theorem dX4_claim_55 : decode cX4_claim 55 = .ok (.iconst 0, 1) := by decide +kernel
theorem dX4_claim_56 : decode cX4_claim 56 = .ok (.putfield 217, 3) := by decide +kernel
theorem dX4_claim_59 : decode cX4_claim 59 = .ok (.iconst 1, 1) := by decide +kernel
theorem dX4_claim_60 : decode cX4_claim 60 = .ok (.ireturn, 1) := by decide +kernel
theorem dX4_cut_0 : decode cX4_cut 0 = .ok (.iload_n 1, 1) := by decide +kernel
theorem dX4_cut_1 : decode cX4_cut 1 = .ok (.ifCond .lt 11, 3) := by decide +kernel
theorem dX4_cut_4 : decode cX4_cut 4 = .ok (.iload_n 1, 1) := by decide +kernel
theorem dX4_cut_5 : decode cX4_cut 5 = .ok (.aload_n 0, 1) := by decide +kernel
theorem dX4_cut_6 : decode cX4_cut 6 = .ok (.getfield 208, 3) := by decide +kernel
theorem dX4_cut_9 : decode cX4_cut 9 = .ok (.if_icmp .le 5, 3) := by decide +kernel
theorem dX4_cut_12 : decode cX4_cut 12 = .ok (.iconst (-1), 1) := by decide +kernel
theorem dX4_cut_13 : decode cX4_cut 13 = .ok (.ireturn, 1) := by decide +kernel
theorem dX4_cut_14 : decode cX4_cut 14 = .ok (.aload_n 0, 1) := by decide +kernel
theorem dX4_cut_15 : decode cX4_cut 15 = .ok (.iload_n 1, 1) := by decide +kernel
theorem dX4_cut_16 : decode cX4_cut 16 = .ok (.putfield 208, 3) := by decide +kernel
theorem dX4_cut_19 : decode cX4_cut 19 = .ok (.iconst 1, 1) := by decide +kernel
theorem dX4_cut_20 : decode cX4_cut 20 = .ok (.ireturn, 1) := by decide +kernel
theorem dX4_bitsAlike_0 : decode cX4_bitsAlike 0 = .ok (.iconst 0, 1) := by decide +kernel
theorem dX4_bitsAlike_1 : decode cX4_bitsAlike 1 = .ok (.istore_n 2, 1) := by decide +kernel
theorem dX4_bitsAlike_2 : decode cX4_bitsAlike 2 = .ok (.iload_n 2, 1) := by decide +kernel
theorem dX4_bitsAlike_3 : decode cX4_bitsAlike 3 = .ok (.bipush 16, 2) := by decide +kernel
theorem dX4_bitsAlike_5 : decode cX4_bitsAlike 5 = .ok (.if_icmp .ge 24, 3) := by decide +kernel
theorem dX4_bitsAlike_8 : decode cX4_bitsAlike 8 = .ok (.iload_n 0, 1) := by decide +kernel
theorem dX4_bitsAlike_9 : decode cX4_bitsAlike 9 = .ok (.bipush 15, 2) := by decide +kernel
theorem dX4_bitsAlike_11 : decode cX4_bitsAlike 11 = .ok (.iload_n 2, 1) := by decide +kernel
theorem dX4_bitsAlike_12 : decode cX4_bitsAlike 12 = .ok (.isub, 1) := by decide +kernel
theorem dX4_bitsAlike_13 : decode cX4_bitsAlike 13 = .ok (.ishr, 1) := by decide +kernel
theorem dX4_bitsAlike_14 : decode cX4_bitsAlike 14 = .ok (.iload_n 1, 1) := by decide +kernel
theorem dX4_bitsAlike_15 : decode cX4_bitsAlike 15 = .ok (.bipush 15, 2) := by decide +kernel
theorem dX4_bitsAlike_17 : decode cX4_bitsAlike 17 = .ok (.iload_n 2, 1) := by decide +kernel
theorem dX4_bitsAlike_18 : decode cX4_bitsAlike 18 = .ok (.isub, 1) := by decide +kernel
theorem dX4_bitsAlike_19 : decode cX4_bitsAlike 19 = .ok (.ishr, 1) := by decide +kernel
theorem dX4_bitsAlike_20 : decode cX4_bitsAlike 20 = .ok (.if_icmp .ne 9, 3) := by decide +kernel
theorem dX4_bitsAlike_23 : decode cX4_bitsAlike 23 = .ok (.iinc 2 1, 3) := by decide +kernel
theorem dX4_bitsAlike_26 : decode cX4_bitsAlike 26 = .ok (.goto (-24), 3) := by decide +kernel
theorem dX4_bitsAlike_29 : decode cX4_bitsAlike 29 = .ok (.iload_n 2, 1) := by decide +kernel
theorem dX4_bitsAlike_30 : decode cX4_bitsAlike 30 = .ok (.ireturn, 1) := by decide +kernel
theorem dX4_verify_0 : decode cX4_verify 0 = .ok (.aload_n 0, 1) := by decide +kernel
theorem dX4_verify_1 : decode cX4_verify 1 = .ok (.iload_n 1, 1) := by decide +kernel
theorem dX4_verify_2 : decode cX4_verify 2 = .ok (.invokevirtual 193, 3) := by decide +kernel
theorem dX4_verify_5 : decode cX4_verify 5 = .ok (.ifCond .eq 10, 3) := by decide +kernel
theorem dX4_verify_8 : decode cX4_verify 8 = .ok (.iload_n 2, 1) := by decide +kernel
theorem dX4_verify_9 : decode cX4_verify 9 = .ok (.invokestatic 182, 3) := by decide +kernel
theorem dX4_verify_12 : decode cX4_verify 12 = .ok (.ifCond .ne 5, 3) := by decide +kernel
theorem dX4_verify_15 : decode cX4_verify 15 = .ok (.iconst (-1), 1) := by decide +kernel
theorem dX4_verify_16 : decode cX4_verify 16 = .ok (.ireturn, 1) := by decide +kernel
theorem dX4_verify_17 : decode cX4_verify 17 = .ok (.aload_n 0, 1) := by decide +kernel
theorem dX4_verify_18 : decode cX4_verify 18 = .ok (.getfield 211, 3) := by decide +kernel
theorem dX4_verify_21 : decode cX4_verify 21 = .ok (.ifCond .eq 21, 3) := by decide +kernel
theorem dX4_verify_24 : decode cX4_verify 24 = .ok (.aload_n 0, 1) := by decide +kernel
theorem dX4_verify_25 : decode cX4_verify 25 = .ok (.getfield 214, 3) := by decide +kernel
theorem dX4_verify_28 : decode cX4_verify 28 = .ok (.iload_n 2, 1) := by decide +kernel
theorem dX4_verify_29 : decode cX4_verify 29 = .ok (.invokestatic 224, 3) := by decide +kernel
theorem dX4_verify_32 : decode cX4_verify 32 = .ok (.aload_n 0, 1) := by decide +kernel
theorem dX4_verify_33 : decode cX4_verify 33 = .ok (.getfield 208, 3) := by decide +kernel
theorem dX4_verify_36 : decode cX4_verify 36 = .ok (.if_icmp .ge 6, 3) := by decide +kernel
theorem dX4_verify_39 : decode cX4_verify 39 = .ok (.bipush (-2), 2) := by decide +kernel
theorem dX4_verify_41 : decode cX4_verify 41 = .ok (.ireturn, 1) := by decide +kernel
theorem dX4_verify_42 : decode cX4_verify 42 = .ok (.aload_n 0, 1) := by decide +kernel
theorem dX4_verify_43 : decode cX4_verify 43 = .ok (.invokevirtual 202, 3) := by decide +kernel
theorem dX4_verify_46 : decode cX4_verify 46 = .ok (.iconst 0, 1) := by decide +kernel
theorem dX4_verify_47 : decode cX4_verify 47 = .ok (.istore_n 3, 1) := by decide +kernel
theorem dX4_verify_48 : decode cX4_verify 48 = .ok (.iload_n 3, 1) := by decide +kernel
theorem dX4_verify_49 : decode cX4_verify 49 = .ok (.bipush 8, 2) := by decide +kernel
theorem dX4_verify_51 : decode cX4_verify 51 = .ok (.if_icmp .ge 16, 3) := by decide +kernel
theorem dX4_verify_54 : decode cX4_verify 54 = .ok (.aload_n 0, 1) := by decide +kernel
theorem dX4_verify_55 : decode cX4_verify 55 = .ok (.getfield 106, 3) := by decide +kernel
theorem dX4_verify_58 : decode cX4_verify 58 = .ok (.iload_n 3, 1) := by decide +kernel
theorem dX4_verify_59 : decode cX4_verify 59 = .ok (.iconst 0, 1) := by decide +kernel
theorem dX4_verify_60 : decode cX4_verify 60 = .ok (.iastore, 1) := by decide +kernel
theorem dX4_verify_61 : decode cX4_verify 61 = .ok (.iinc 3 1, 3) := by decide +kernel
theorem dX4_verify_64 : decode cX4_verify 64 = .ok (.goto (-16), 3) := by decide +kernel
theorem dX4_verify_67 : decode cX4_verify 67 = .ok (.aload_n 0, 1) := by decide +kernel
theorem dX4_verify_68 : decode cX4_verify 68 = .ok (.getfield 211, 3) := by decide +kernel
theorem dX4_verify_71 : decode cX4_verify 71 = .ok (.ifCond .eq 15, 3) := by decide +kernel
theorem dX4_verify_74 : decode cX4_verify 74 = .ok (.aload_n 0, 1) := by decide +kernel
theorem dX4_verify_75 : decode cX4_verify 75 = .ok (.aload_n 0, 1) := by decide +kernel
theorem dX4_verify_76 : decode cX4_verify 76 = .ok (.getfield 214, 3) := by decide +kernel
theorem dX4_verify_79 : decode cX4_verify 79 = .ok (.aload_n 0, 1) := by decide +kernel
theorem dX4_verify_80 : decode cX4_verify 80 = .ok (.getfield 217, 3) := by decide +kernel
theorem dX4_verify_83 : decode cX4_verify 83 = .ok (.invokevirtual 152, 3) := by decide +kernel
theorem dX4_verify_86 : decode cX4_verify 86 = .ok (.aload_n 0, 1) := by decide +kernel
theorem dX4_verify_87 : decode cX4_verify 87 = .ok (.getfield 208, 3) := by decide +kernel
theorem dX4_verify_90 : decode cX4_verify 90 = .ok (.iconst 1, 1) := by decide +kernel
theorem dX4_verify_91 : decode cX4_verify 91 = .ok (.isub, 1) := by decide +kernel
theorem dX4_verify_92 : decode cX4_verify 92 = .ok (.istore_n 3, 1) := by decide +kernel
theorem dX4_verify_93 : decode cX4_verify 93 = .ok (.iload_n 3, 1) := by decide +kernel
theorem dX4_verify_94 : decode cX4_verify 94 = .ok (.ifCond .lt 76, 3) := by decide +kernel
theorem dX4_verify_97 : decode cX4_verify 97 = .ok (.iload_n 2, 1) := by decide +kernel
theorem dX4_verify_98 : decode cX4_verify 98 = .ok (.bipush 15, 2) := by decide +kernel
theorem dX4_verify_100 : decode cX4_verify 100 = .ok (.iload_n 3, 1) := by decide +kernel
theorem dX4_verify_101 : decode cX4_verify 101 = .ok (.isub, 1) := by decide +kernel
theorem dX4_verify_102 : decode cX4_verify 102 = .ok (.ishr, 1) := by decide +kernel
theorem dX4_verify_103 : decode cX4_verify 103 = .ok (.iconst 1, 1) := by decide +kernel
theorem dX4_verify_104 : decode cX4_verify 104 = .ok (.iand, 1) := by decide +kernel
theorem dX4_verify_105 : decode cX4_verify 105 = .ok (.istore 4, 2) := by decide +kernel
theorem dX4_verify_107 : decode cX4_verify 107 = .ok (.iconst 0, 1) := by decide +kernel
theorem dX4_verify_108 : decode cX4_verify 108 = .ok (.istore 5, 2) := by decide +kernel
theorem dX4_verify_110 : decode cX4_verify 110 = .ok (.iload 5, 2) := by decide +kernel
theorem dX4_verify_112 : decode cX4_verify 112 = .ok (.bipush 8, 2) := by decide +kernel
theorem dX4_verify_114 : decode cX4_verify 114 = .ok (.if_icmp .ge 46, 3) := by decide +kernel
theorem dX4_verify_117 : decode cX4_verify 117 = .ok (.aload_n 0, 1) := by decide +kernel
theorem dX4_verify_118 : decode cX4_verify 118 = .ok (.iload 4, 2) := by decide +kernel
theorem dX4_verify_120 : decode cX4_verify 120 = .ok (.iload 5, 2) := by decide +kernel
theorem dX4_verify_122 : decode cX4_verify 122 = .ok (.aload_n 0, 1) := by decide +kernel
theorem dX4_verify_123 : decode cX4_verify 123 = .ok (.getfield 106, 3) := by decide +kernel
theorem dX4_verify_126 : decode cX4_verify 126 = .ok (.iload 5, 2) := by decide +kernel
theorem dX4_verify_128 : decode cX4_verify 128 = .ok (.iaload, 1) := by decide +kernel
theorem dX4_verify_129 : decode cX4_verify 129 = .ok (.invokevirtual 159, 3) := by decide +kernel
theorem dX4_verify_132 : decode cX4_verify 132 = .ok (.aload_n 0, 1) := by decide +kernel
theorem dX4_verify_133 : decode cX4_verify 133 = .ok (.iconst 1, 1) := by decide +kernel
theorem dX4_verify_134 : decode cX4_verify 134 = .ok (.iload 4, 2) := by decide +kernel
theorem dX4_verify_136 : decode cX4_verify 136 = .ok (.isub, 1) := by decide +kernel
theorem dX4_verify_137 : decode cX4_verify 137 = .ok (.iload 5, 2) := by decide +kernel
theorem dX4_verify_139 : decode cX4_verify 139 = .ok (.aload_n 0, 1) := by decide +kernel
theorem dX4_verify_140 : decode cX4_verify 140 = .ok (.getfield 130, 3) := by decide +kernel
theorem dX4_verify_143 : decode cX4_verify 143 = .ok (.bipush 8, 2) := by decide +kernel
theorem dX4_verify_145 : decode cX4_verify 145 = .ok (.iload_n 3, 1) := by decide +kernel
theorem dX4_verify_146 : decode cX4_verify 146 = .ok (.imul, 1) := by decide +kernel
theorem dX4_verify_147 : decode cX4_verify 147 = .ok (.iload 5, 2) := by decide +kernel
theorem dX4_verify_149 : decode cX4_verify 149 = .ok (.iadd, 1) := by decide +kernel
theorem dX4_verify_150 : decode cX4_verify 150 = .ok (.iaload, 1) := by decide +kernel
theorem dX4_verify_151 : decode cX4_verify 151 = .ok (.invokevirtual 159, 3) := by decide +kernel
theorem dX4_verify_154 : decode cX4_verify 154 = .ok (.iinc 5 1, 3) := by decide +kernel
theorem dX4_verify_157 : decode cX4_verify 157 = .ok (.goto (-47), 3) := by decide +kernel
theorem dX4_verify_160 : decode cX4_verify 160 = .ok (.aload_n 0, 1) := by decide +kernel
theorem dX4_verify_161 : decode cX4_verify 161 = .ok (.invokevirtual 163, 3) := by decide +kernel
theorem dX4_verify_164 : decode cX4_verify 164 = .ok (.iinc 3 (-1), 3) := by decide +kernel
theorem dX4_verify_167 : decode cX4_verify 167 = .ok (.goto (-74), 3) := by decide +kernel
theorem dX4_verify_170 : decode cX4_verify 170 = .ok (.iconst 1, 1) := by decide +kernel
theorem dX4_verify_171 : decode cX4_verify 171 = .ok (.istore_n 3, 1) := by decide +kernel
theorem dX4_verify_172 : decode cX4_verify 172 = .ok (.iconst 0, 1) := by decide +kernel
theorem dX4_verify_173 : decode cX4_verify 173 = .ok (.istore 4, 2) := by decide +kernel
theorem dX4_verify_175 : decode cX4_verify 175 = .ok (.iload 4, 2) := by decide +kernel
theorem dX4_verify_177 : decode cX4_verify 177 = .ok (.bipush 8, 2) := by decide +kernel
theorem dX4_verify_179 : decode cX4_verify 179 = .ok (.if_icmp .ge 44, 3) := by decide +kernel
theorem dX4_verify_182 : decode cX4_verify 182 = .ok (.iload_n 3, 1) := by decide +kernel
theorem dX4_verify_183 : decode cX4_verify 183 = .ok (.ifCond .eq 32, 3) := by decide +kernel
theorem dX4_verify_186 : decode cX4_verify 186 = .ok (.aload_n 0, 1) := by decide +kernel
theorem dX4_verify_187 : decode cX4_verify 187 = .ok (.getfield 106, 3) := by decide +kernel
theorem dX4_verify_190 : decode cX4_verify 190 = .ok (.iload 4, 2) := by decide +kernel
theorem dX4_verify_192 : decode cX4_verify 192 = .ok (.iaload, 1) := by decide +kernel
theorem dX4_verify_193 : decode cX4_verify 193 = .ok (.aload_n 0, 1) := by decide +kernel
theorem dX4_verify_194 : decode cX4_verify 194 = .ok (.getfield 97, 3) := by decide +kernel
theorem dX4_verify_197 : decode cX4_verify 197 = .ok (.bipush 8, 2) := by decide +kernel
theorem dX4_verify_199 : decode cX4_verify 199 = .ok (.iload_n 1, 1) := by decide +kernel
theorem dX4_verify_200 : decode cX4_verify 200 = .ok (.invokestatic 198, 3) := by decide +kernel
theorem dX4_verify_203 : decode cX4_verify 203 = .ok (.imul, 1) := by decide +kernel
theorem dX4_verify_204 : decode cX4_verify 204 = .ok (.iload 4, 2) := by decide +kernel
theorem dX4_verify_206 : decode cX4_verify 206 = .ok (.iadd, 1) := by decide +kernel
theorem dX4_verify_207 : decode cX4_verify 207 = .ok (.iaload, 1) := by decide +kernel
theorem dX4_verify_208 : decode cX4_verify 208 = .ok (.if_icmp .ne 7, 3) := by decide +kernel
theorem dX4_verify_211 : decode cX4_verify 211 = .ok (.iconst 1, 1) := by decide +kernel
theorem dX4_verify_212 : decode cX4_verify 212 = .ok (.goto 4, 3) := by decide +kernel
theorem dX4_verify_215 : decode cX4_verify 215 = .ok (.iconst 0, 1) := by decide +kernel
theorem dX4_verify_216 : decode cX4_verify 216 = .ok (.istore_n 3, 1) := by decide +kernel
theorem dX4_verify_217 : decode cX4_verify 217 = .ok (.iinc 4 1, 3) := by decide +kernel
theorem dX4_verify_220 : decode cX4_verify 220 = .ok (.goto (-45), 3) := by decide +kernel
theorem dX4_verify_223 : decode cX4_verify 223 = .ok (.iload_n 3, 1) := by decide +kernel
theorem dX4_verify_224 : decode cX4_verify 224 = .ok (.ifCond .ne 8, 3) := by decide +kernel
theorem dX4_verify_227 : decode cX4_verify 227 = .ok (.bipush (-2), 2) := by decide +kernel
theorem dX4_verify_229 : decode cX4_verify 229 = .ok (.goto 23, 3) := by decide +kernel
theorem dX4_verify_232 : decode cX4_verify 232 = .ok (.aload_n 0, 1) := by decide +kernel
theorem dX4_verify_233 : decode cX4_verify 233 = .ok (.getfield 211, 3) := by decide +kernel
theorem dX4_verify_236 : decode cX4_verify 236 = .ok (.ifCond .eq 15, 3) := by decide +kernel
theorem dX4_verify_239 : decode cX4_verify 239 = .ok (.aload_n 0, 1) := by decide +kernel
theorem dX4_verify_240 : decode cX4_verify 240 = .ok (.getfield 214, 3) := by decide +kernel
theorem dX4_verify_243 : decode cX4_verify 243 = .ok (.iload_n 2, 1) := by decide +kernel
theorem dX4_verify_244 : decode cX4_verify 244 = .ok (.if_icmp .ne 7, 3) := by decide +kernel
theorem dX4_verify_247 : decode cX4_verify 247 = .ok (.iconst 1, 1) := by decide +kernel
theorem dX4_verify_248 : decode cX4_verify 248 = .ok (.goto 4, 3) := by decide +kernel
theorem dX4_verify_251 : decode cX4_verify 251 = .ok (.iconst 0, 1) := by decide +kernel
theorem dX4_verify_252 : decode cX4_verify 252 = .ok (.ireturn, 1) := by decide +kernel
theorem dX4_alike_0 : decode cX4_alike 0 = .ok (.iload_n 1, 1) := by decide +kernel
theorem dX4_alike_1 : decode cX4_alike 1 = .ok (.invokestatic 182, 3) := by decide +kernel
theorem dX4_alike_4 : decode cX4_alike 4 = .ok (.ifCond .eq 18, 3) := by decide +kernel
theorem dX4_alike_7 : decode cX4_alike 7 = .ok (.iload_n 2, 1) := by decide +kernel
theorem dX4_alike_8 : decode cX4_alike 8 = .ok (.invokestatic 182, 3) := by decide +kernel
theorem dX4_alike_11 : decode cX4_alike 11 = .ok (.ifCond .eq 11, 3) := by decide +kernel
theorem dX4_alike_14 : decode cX4_alike 14 = .ok (.iload_n 1, 1) := by decide +kernel
theorem dX4_alike_15 : decode cX4_alike 15 = .ok (.iload_n 2, 1) := by decide +kernel
theorem dX4_alike_16 : decode cX4_alike 16 = .ok (.invokestatic 224, 3) := by decide +kernel
theorem dX4_alike_19 : decode cX4_alike 19 = .ok (.goto 4, 3) := by decide +kernel
theorem dX4_alike_22 : decode cX4_alike 22 = .ok (.iconst (-1), 1) := by decide +kernel
theorem dX4_alike_23 : decode cX4_alike 23 = .ok (.ireturn, 1) := by decide +kernel
theorem dX4_versions_0 : decode cX4_versions 0 = .ok (.aload_n 0, 1) := by decide +kernel
theorem dX4_versions_1 : decode cX4_versions 1 = .ok (.getfield 134, 3) := by decide +kernel
theorem dX4_versions_4 : decode cX4_versions 4 = .ok (.ireturn, 1) := by decide +kernel
theorem dJ9_min_7cf53_0 : decode cJ9_min_7cf53 0 = .ok (.iload_n 0, 1) := by decide +kernel
theorem dJ9_min_7cf53_1 : decode cJ9_min_7cf53 1 = .ok (.iload_n 1, 1) := by decide +kernel
theorem dJ9_min_7cf53_2 : decode cJ9_min_7cf53 2 = .ok (.if_icmp .gt 7, 3) := by decide +kernel
theorem dJ9_min_7cf53_5 : decode cJ9_min_7cf53 5 = .ok (.iload_n 0, 1) := by decide +kernel
theorem dJ9_min_7cf53_6 : decode cJ9_min_7cf53 6 = .ok (.goto 4, 3) := by decide +kernel
theorem dJ9_min_7cf53_9 : decode cJ9_min_7cf53 9 = .ok (.iload_n 1, 1) := by decide +kernel
theorem dJ9_min_7cf53_10 : decode cJ9_min_7cf53 10 = .ok (.ireturn, 1) := by decide +kernel
theorem dL_law_0 : decode cL_law 0 = .ok (.new 7, 3) := by decide +kernel
theorem dL_law_3 : decode cL_law 3 = .ok (.dup, 1) := by decide +kernel
theorem dL_law_4 : decode cL_law 4 = .ok (.invokespecial 9, 3) := by decide +kernel
theorem dL_law_7 : decode cL_law 7 = .ok (.astore_n 1, 1) := by decide +kernel
theorem dL_law_8 : decode cL_law 8 = .ok (.new 10, 3) := by decide +kernel
theorem dL_law_11 : decode cL_law 11 = .ok (.dup, 1) := by decide +kernel
theorem dL_law_12 : decode cL_law 12 = .ok (.invokespecial 12, 3) := by decide +kernel
theorem dL_law_15 : decode cL_law 15 = .ok (.astore_n 2, 1) := by decide +kernel
theorem dL_law_16 : decode cL_law 16 = .ok (.iconst 0, 1) := by decide +kernel
theorem dL_law_17 : decode cL_law 17 = .ok (.istore_n 3, 1) := by decide +kernel
theorem dL_law_18 : decode cL_law 18 = .ok (.iload_n 3, 1) := by decide +kernel
theorem dL_law_19 : decode cL_law 19 = .ok (.aload_n 0, 1) := by decide +kernel
theorem dL_law_20 : decode cL_law 20 = .ok (.arraylength, 1) := by decide +kernel
theorem dL_law_21 : decode cL_law 21 = .ok (.iconst 4, 1) := by decide +kernel
theorem dL_law_22 : decode cL_law 22 = .ok (.isub, 1) := by decide +kernel
theorem dL_law_23 : decode cL_law 23 = .ok (.if_icmp .gt 561, 3) := by decide +kernel
theorem dL_law_26 : decode cL_law 26 = .ok (.aload_n 0, 1) := by decide +kernel
theorem dL_law_27 : decode cL_law 27 = .ok (.iload_n 3, 1) := by decide +kernel
theorem dL_law_28 : decode cL_law 28 = .ok (.iaload, 1) := by decide +kernel
theorem dL_law_29 : decode cL_law 29 = .ok (.bipush 31, 2) := by decide +kernel
theorem dL_law_31 : decode cL_law 31 = .ok (.iand, 1) := by decide +kernel
theorem dL_law_32 : decode cL_law 32 = .ok (.tableswitch 546 0 16 #[84, 117, 140, 174, 197, 210, 233, 266, 299, 312, 345, 368, 411, 444, 467, 500, 533], 84) := by decide +kernel
theorem dL_law_116 : decode cL_law 116 = .ok (.aload_n 1, 1) := by decide +kernel
theorem dL_law_117 : decode cL_law 117 = .ok (.aload_n 0, 1) := by decide +kernel
theorem dL_law_118 : decode cL_law 118 = .ok (.iload_n 3, 1) := by decide +kernel
theorem dL_law_119 : decode cL_law 119 = .ok (.iconst 1, 1) := by decide +kernel
theorem dL_law_120 : decode cL_law 120 = .ok (.iadd, 1) := by decide +kernel
theorem dL_law_121 : decode cL_law 121 = .ok (.iaload, 1) := by decide +kernel
theorem dL_law_122 : decode cL_law 122 = .ok (.aload_n 0, 1) := by decide +kernel
theorem dL_law_123 : decode cL_law 123 = .ok (.iload_n 3, 1) := by decide +kernel
theorem dL_law_124 : decode cL_law 124 = .ok (.iconst 2, 1) := by decide +kernel
theorem dL_law_125 : decode cL_law 125 = .ok (.iadd, 1) := by decide +kernel
theorem dL_law_126 : decode cL_law 126 = .ok (.iaload, 1) := by decide +kernel
theorem dL_law_127 : decode cL_law 127 = .ok (.invokevirtual 13, 3) := by decide +kernel
theorem dL_law_130 : decode cL_law 130 = .ok (.aload_n 2, 1) := by decide +kernel
theorem dL_law_131 : decode cL_law 131 = .ok (.aload_n 0, 1) := by decide +kernel
theorem dL_law_132 : decode cL_law 132 = .ok (.iload_n 3, 1) := by decide +kernel
theorem dL_law_133 : decode cL_law 133 = .ok (.iconst 1, 1) := by decide +kernel
theorem dL_law_134 : decode cL_law 134 = .ok (.iadd, 1) := by decide +kernel
theorem dL_law_135 : decode cL_law 135 = .ok (.iaload, 1) := by decide +kernel
theorem dL_law_136 : decode cL_law 136 = .ok (.aload_n 0, 1) := by decide +kernel
theorem dL_law_137 : decode cL_law 137 = .ok (.iload_n 3, 1) := by decide +kernel
end
section
theorem dL_law_138 : decode cL_law 138 = .ok (.iconst 2, 1) := by decide +kernel
theorem dL_law_139 : decode cL_law 139 = .ok (.iadd, 1) := by decide +kernel
theorem dL_law_140 : decode cL_law 140 = .ok (.iaload, 1) := by decide +kernel
theorem dL_law_141 : decode cL_law 141 = .ok (.invokevirtual 17, 3) := by decide +kernel
theorem dL_law_144 : decode cL_law 144 = .ok (.if_icmp .eq 434, 3) := by decide +kernel
theorem dL_law_147 : decode cL_law 147 = .ok (.iconst 0, 1) := by decide +kernel
theorem dL_law_148 : decode cL_law 148 = .ok (.ireturn, 1) := by decide +kernel
theorem dL_law_149 : decode cL_law 149 = .ok (.aload_n 1, 1) := by decide +kernel
theorem dL_law_150 : decode cL_law 150 = .ok (.aload_n 0, 1) := by decide +kernel
theorem dL_law_151 : decode cL_law 151 = .ok (.iload_n 3, 1) := by decide +kernel
theorem dL_law_152 : decode cL_law 152 = .ok (.iconst 1, 1) := by decide +kernel
theorem dL_law_153 : decode cL_law 153 = .ok (.iadd, 1) := by decide +kernel
theorem dL_law_154 : decode cL_law 154 = .ok (.iaload, 1) := by decide +kernel
theorem dL_law_155 : decode cL_law 155 = .ok (.invokevirtual 18, 3) := by decide +kernel
theorem dL_law_158 : decode cL_law 158 = .ok (.aload_n 2, 1) := by decide +kernel
theorem dL_law_159 : decode cL_law 159 = .ok (.aload_n 0, 1) := by decide +kernel
theorem dL_law_160 : decode cL_law 160 = .ok (.iload_n 3, 1) := by decide +kernel
theorem dL_law_161 : decode cL_law 161 = .ok (.iconst 1, 1) := by decide +kernel
theorem dL_law_162 : decode cL_law 162 = .ok (.iadd, 1) := by decide +kernel
theorem dL_law_163 : decode cL_law 163 = .ok (.iaload, 1) := by decide +kernel
theorem dL_law_164 : decode cL_law 164 = .ok (.invokevirtual 22, 3) := by decide +kernel
theorem dL_law_167 : decode cL_law 167 = .ok (.if_icmp .eq 411, 3) := by decide +kernel
theorem dL_law_170 : decode cL_law 170 = .ok (.iconst 0, 1) := by decide +kernel
theorem dL_law_171 : decode cL_law 171 = .ok (.ireturn, 1) := by decide +kernel
theorem dL_law_172 : decode cL_law 172 = .ok (.aload_n 1, 1) := by decide +kernel
theorem dL_law_173 : decode cL_law 173 = .ok (.aload_n 0, 1) := by decide +kernel
theorem dL_law_174 : decode cL_law 174 = .ok (.iload_n 3, 1) := by decide +kernel
theorem dL_law_175 : decode cL_law 175 = .ok (.iconst 1, 1) := by decide +kernel
theorem dL_law_176 : decode cL_law 176 = .ok (.iadd, 1) := by decide +kernel
theorem dL_law_177 : decode cL_law 177 = .ok (.iaload, 1) := by decide +kernel
theorem dL_law_178 : decode cL_law 178 = .ok (.aload_n 0, 1) := by decide +kernel
theorem dL_law_179 : decode cL_law 179 = .ok (.iload_n 3, 1) := by decide +kernel
theorem dL_law_180 : decode cL_law 180 = .ok (.iconst 2, 1) := by decide +kernel
theorem dL_law_181 : decode cL_law 181 = .ok (.iadd, 1) := by decide +kernel
theorem dL_law_182 : decode cL_law 182 = .ok (.iaload, 1) := by decide +kernel
theorem dL_law_183 : decode cL_law 183 = .ok (.invokevirtual 23, 3) := by decide +kernel
theorem dL_law_186 : decode cL_law 186 = .ok (.aload_n 2, 1) := by decide +kernel
theorem dL_law_187 : decode cL_law 187 = .ok (.aload_n 0, 1) := by decide +kernel
theorem dL_law_188 : decode cL_law 188 = .ok (.iload_n 3, 1) := by decide +kernel
theorem dL_law_189 : decode cL_law 189 = .ok (.iconst 1, 1) := by decide +kernel
theorem dL_law_190 : decode cL_law 190 = .ok (.iadd, 1) := by decide +kernel
theorem dL_law_191 : decode cL_law 191 = .ok (.iaload, 1) := by decide +kernel
theorem dL_law_192 : decode cL_law 192 = .ok (.aload_n 0, 1) := by decide +kernel
theorem dL_law_193 : decode cL_law 193 = .ok (.iload_n 3, 1) := by decide +kernel
theorem dL_law_194 : decode cL_law 194 = .ok (.iconst 2, 1) := by decide +kernel
theorem dL_law_195 : decode cL_law 195 = .ok (.iadd, 1) := by decide +kernel
theorem dL_law_196 : decode cL_law 196 = .ok (.iaload, 1) := by decide +kernel
theorem dL_law_197 : decode cL_law 197 = .ok (.invokevirtual 27, 3) := by decide +kernel
theorem dL_law_200 : decode cL_law 200 = .ok (.lcmp, 1) := by decide +kernel
theorem dL_law_201 : decode cL_law 201 = .ok (.ifCond .eq 377, 3) := by decide +kernel
theorem dL_law_204 : decode cL_law 204 = .ok (.iconst 0, 1) := by decide +kernel
theorem dL_law_205 : decode cL_law 205 = .ok (.ireturn, 1) := by decide +kernel
theorem dL_law_206 : decode cL_law 206 = .ok (.aload_n 1, 1) := by decide +kernel
theorem dL_law_207 : decode cL_law 207 = .ok (.aload_n 0, 1) := by decide +kernel
theorem dL_law_208 : decode cL_law 208 = .ok (.iload_n 3, 1) := by decide +kernel
theorem dL_law_209 : decode cL_law 209 = .ok (.iconst 1, 1) := by decide +kernel
theorem dL_law_210 : decode cL_law 210 = .ok (.iadd, 1) := by decide +kernel
theorem dL_law_211 : decode cL_law 211 = .ok (.iaload, 1) := by decide +kernel
theorem dL_law_212 : decode cL_law 212 = .ok (.invokevirtual 28, 3) := by decide +kernel
theorem dL_law_215 : decode cL_law 215 = .ok (.aload_n 2, 1) := by decide +kernel
theorem dL_law_216 : decode cL_law 216 = .ok (.aload_n 0, 1) := by decide +kernel
theorem dL_law_217 : decode cL_law 217 = .ok (.iload_n 3, 1) := by decide +kernel
theorem dL_law_218 : decode cL_law 218 = .ok (.iconst 1, 1) := by decide +kernel
theorem dL_law_219 : decode cL_law 219 = .ok (.iadd, 1) := by decide +kernel
theorem dL_law_220 : decode cL_law 220 = .ok (.iaload, 1) := by decide +kernel
theorem dL_law_221 : decode cL_law 221 = .ok (.invokevirtual 31, 3) := by decide +kernel
theorem dL_law_224 : decode cL_law 224 = .ok (.if_icmp .eq 354, 3) := by decide +kernel
theorem dL_law_227 : decode cL_law 227 = .ok (.iconst 0, 1) := by decide +kernel
theorem dL_law_228 : decode cL_law 228 = .ok (.ireturn, 1) := by decide +kernel
theorem dL_law_229 : decode cL_law 229 = .ok (.aload_n 1, 1) := by decide +kernel
theorem dL_law_230 : decode cL_law 230 = .ok (.invokevirtual 32, 3) := by decide +kernel
theorem dL_law_233 : decode cL_law 233 = .ok (.aload_n 2, 1) := by decide +kernel
theorem dL_law_234 : decode cL_law 234 = .ok (.invokevirtual 36, 3) := by decide +kernel
theorem dL_law_237 : decode cL_law 237 = .ok (.if_icmp .eq 341, 3) := by decide +kernel
theorem dL_law_240 : decode cL_law 240 = .ok (.iconst 0, 1) := by decide +kernel
theorem dL_law_241 : decode cL_law 241 = .ok (.ireturn, 1) := by decide +kernel
theorem dL_law_242 : decode cL_law 242 = .ok (.aload_n 1, 1) := by decide +kernel
theorem dL_law_243 : decode cL_law 243 = .ok (.aload_n 0, 1) := by decide +kernel
theorem dL_law_244 : decode cL_law 244 = .ok (.iload_n 3, 1) := by decide +kernel
theorem dL_law_245 : decode cL_law 245 = .ok (.iconst 1, 1) := by decide +kernel
theorem dL_law_246 : decode cL_law 246 = .ok (.iadd, 1) := by decide +kernel
theorem dL_law_247 : decode cL_law 247 = .ok (.iaload, 1) := by decide +kernel
theorem dL_law_248 : decode cL_law 248 = .ok (.invokevirtual 37, 3) := by decide +kernel
theorem dL_law_251 : decode cL_law 251 = .ok (.aload_n 2, 1) := by decide +kernel
theorem dL_law_252 : decode cL_law 252 = .ok (.aload_n 0, 1) := by decide +kernel
theorem dL_law_253 : decode cL_law 253 = .ok (.iload_n 3, 1) := by decide +kernel
theorem dL_law_254 : decode cL_law 254 = .ok (.iconst 1, 1) := by decide +kernel
theorem dL_law_255 : decode cL_law 255 = .ok (.iadd, 1) := by decide +kernel
theorem dL_law_256 : decode cL_law 256 = .ok (.iaload, 1) := by decide +kernel
theorem dL_law_257 : decode cL_law 257 = .ok (.invokevirtual 40, 3) := by decide +kernel
theorem dL_law_260 : decode cL_law 260 = .ok (.if_icmp .eq 318, 3) := by decide +kernel
theorem dL_law_263 : decode cL_law 263 = .ok (.iconst 0, 1) := by decide +kernel
theorem dL_law_264 : decode cL_law 264 = .ok (.ireturn, 1) := by decide +kernel
theorem dL_law_265 : decode cL_law 265 = .ok (.aload_n 1, 1) := by decide +kernel
theorem dL_law_266 : decode cL_law 266 = .ok (.aload_n 0, 1) := by decide +kernel
theorem dL_law_267 : decode cL_law 267 = .ok (.iload_n 3, 1) := by decide +kernel
theorem dL_law_268 : decode cL_law 268 = .ok (.iconst 1, 1) := by decide +kernel
theorem dL_law_269 : decode cL_law 269 = .ok (.iadd, 1) := by decide +kernel
theorem dL_law_270 : decode cL_law 270 = .ok (.iaload, 1) := by decide +kernel
theorem dL_law_271 : decode cL_law 271 = .ok (.aload_n 0, 1) := by decide +kernel
theorem dL_law_272 : decode cL_law 272 = .ok (.iload_n 3, 1) := by decide +kernel
theorem dL_law_273 : decode cL_law 273 = .ok (.iconst 2, 1) := by decide +kernel
theorem dL_law_274 : decode cL_law 274 = .ok (.iadd, 1) := by decide +kernel
theorem dL_law_275 : decode cL_law 275 = .ok (.iaload, 1) := by decide +kernel
theorem dL_law_276 : decode cL_law 276 = .ok (.invokevirtual 41, 3) := by decide +kernel
theorem dL_law_279 : decode cL_law 279 = .ok (.aload_n 2, 1) := by decide +kernel
theorem dL_law_280 : decode cL_law 280 = .ok (.aload_n 0, 1) := by decide +kernel
theorem dL_law_281 : decode cL_law 281 = .ok (.iload_n 3, 1) := by decide +kernel
theorem dL_law_282 : decode cL_law 282 = .ok (.iconst 1, 1) := by decide +kernel
theorem dL_law_283 : decode cL_law 283 = .ok (.iadd, 1) := by decide +kernel
theorem dL_law_284 : decode cL_law 284 = .ok (.iaload, 1) := by decide +kernel
theorem dL_law_285 : decode cL_law 285 = .ok (.aload_n 0, 1) := by decide +kernel
theorem dL_law_286 : decode cL_law 286 = .ok (.iload_n 3, 1) := by decide +kernel
theorem dL_law_287 : decode cL_law 287 = .ok (.iconst 2, 1) := by decide +kernel
theorem dL_law_288 : decode cL_law 288 = .ok (.iadd, 1) := by decide +kernel
theorem dL_law_289 : decode cL_law 289 = .ok (.iaload, 1) := by decide +kernel
theorem dL_law_290 : decode cL_law 290 = .ok (.invokevirtual 44, 3) := by decide +kernel
theorem dL_law_293 : decode cL_law 293 = .ok (.if_icmp .eq 285, 3) := by decide +kernel
theorem dL_law_296 : decode cL_law 296 = .ok (.iconst 0, 1) := by decide +kernel
theorem dL_law_297 : decode cL_law 297 = .ok (.ireturn, 1) := by decide +kernel
theorem dL_law_298 : decode cL_law 298 = .ok (.aload_n 1, 1) := by decide +kernel
theorem dL_law_299 : decode cL_law 299 = .ok (.aload_n 0, 1) := by decide +kernel
theorem dL_law_300 : decode cL_law 300 = .ok (.iload_n 3, 1) := by decide +kernel
theorem dL_law_301 : decode cL_law 301 = .ok (.iconst 1, 1) := by decide +kernel
theorem dL_law_302 : decode cL_law 302 = .ok (.iadd, 1) := by decide +kernel
theorem dL_law_303 : decode cL_law 303 = .ok (.iaload, 1) := by decide +kernel
theorem dL_law_304 : decode cL_law 304 = .ok (.aload_n 0, 1) := by decide +kernel
theorem dL_law_305 : decode cL_law 305 = .ok (.iload_n 3, 1) := by decide +kernel
theorem dL_law_306 : decode cL_law 306 = .ok (.iconst 2, 1) := by decide +kernel
theorem dL_law_307 : decode cL_law 307 = .ok (.iadd, 1) := by decide +kernel
theorem dL_law_308 : decode cL_law 308 = .ok (.iaload, 1) := by decide +kernel
theorem dL_law_309 : decode cL_law 309 = .ok (.invokevirtual 45, 3) := by decide +kernel
theorem dL_law_312 : decode cL_law 312 = .ok (.aload_n 2, 1) := by decide +kernel
theorem dL_law_313 : decode cL_law 313 = .ok (.aload_n 0, 1) := by decide +kernel
theorem dL_law_314 : decode cL_law 314 = .ok (.iload_n 3, 1) := by decide +kernel
theorem dL_law_315 : decode cL_law 315 = .ok (.iconst 1, 1) := by decide +kernel
theorem dL_law_316 : decode cL_law 316 = .ok (.iadd, 1) := by decide +kernel
theorem dL_law_317 : decode cL_law 317 = .ok (.iaload, 1) := by decide +kernel
theorem dL_law_318 : decode cL_law 318 = .ok (.aload_n 0, 1) := by decide +kernel
theorem dL_law_319 : decode cL_law 319 = .ok (.iload_n 3, 1) := by decide +kernel
theorem dL_law_320 : decode cL_law 320 = .ok (.iconst 2, 1) := by decide +kernel
theorem dL_law_321 : decode cL_law 321 = .ok (.iadd, 1) := by decide +kernel
theorem dL_law_322 : decode cL_law 322 = .ok (.iaload, 1) := by decide +kernel
theorem dL_law_323 : decode cL_law 323 = .ok (.invokevirtual 48, 3) := by decide +kernel
theorem dL_law_326 : decode cL_law 326 = .ok (.if_icmp .eq 252, 3) := by decide +kernel
theorem dL_law_329 : decode cL_law 329 = .ok (.iconst 0, 1) := by decide +kernel
theorem dL_law_330 : decode cL_law 330 = .ok (.ireturn, 1) := by decide +kernel
theorem dL_law_331 : decode cL_law 331 = .ok (.aload_n 1, 1) := by decide +kernel
theorem dL_law_332 : decode cL_law 332 = .ok (.invokevirtual 49, 3) := by decide +kernel
theorem dL_law_335 : decode cL_law 335 = .ok (.aload_n 2, 1) := by decide +kernel
theorem dL_law_336 : decode cL_law 336 = .ok (.invokevirtual 52, 3) := by decide +kernel
theorem dL_law_339 : decode cL_law 339 = .ok (.if_icmp .eq 239, 3) := by decide +kernel
theorem dL_law_342 : decode cL_law 342 = .ok (.iconst 0, 1) := by decide +kernel
theorem dL_law_343 : decode cL_law 343 = .ok (.ireturn, 1) := by decide +kernel
theorem dL_law_344 : decode cL_law 344 = .ok (.aload_n 1, 1) := by decide +kernel
theorem dL_law_345 : decode cL_law 345 = .ok (.aload_n 0, 1) := by decide +kernel
theorem dL_law_346 : decode cL_law 346 = .ok (.iload_n 3, 1) := by decide +kernel
theorem dL_law_347 : decode cL_law 347 = .ok (.iconst 1, 1) := by decide +kernel
theorem dL_law_348 : decode cL_law 348 = .ok (.iadd, 1) := by decide +kernel
theorem dL_law_349 : decode cL_law 349 = .ok (.iaload, 1) := by decide +kernel
theorem dL_law_350 : decode cL_law 350 = .ok (.aload_n 0, 1) := by decide +kernel
theorem dL_law_351 : decode cL_law 351 = .ok (.iload_n 3, 1) := by decide +kernel
theorem dL_law_352 : decode cL_law 352 = .ok (.iconst 2, 1) := by decide +kernel
theorem dL_law_353 : decode cL_law 353 = .ok (.iadd, 1) := by decide +kernel
theorem dL_law_354 : decode cL_law 354 = .ok (.iaload, 1) := by decide +kernel
theorem dL_law_355 : decode cL_law 355 = .ok (.invokevirtual 53, 3) := by decide +kernel
theorem dL_law_358 : decode cL_law 358 = .ok (.aload_n 2, 1) := by decide +kernel
theorem dL_law_359 : decode cL_law 359 = .ok (.aload_n 0, 1) := by decide +kernel
theorem dL_law_360 : decode cL_law 360 = .ok (.iload_n 3, 1) := by decide +kernel
theorem dL_law_361 : decode cL_law 361 = .ok (.iconst 1, 1) := by decide +kernel
theorem dL_law_362 : decode cL_law 362 = .ok (.iadd, 1) := by decide +kernel
theorem dL_law_363 : decode cL_law 363 = .ok (.iaload, 1) := by decide +kernel
theorem dL_law_364 : decode cL_law 364 = .ok (.aload_n 0, 1) := by decide +kernel
theorem dL_law_365 : decode cL_law 365 = .ok (.iload_n 3, 1) := by decide +kernel
theorem dL_law_366 : decode cL_law 366 = .ok (.iconst 2, 1) := by decide +kernel
theorem dL_law_367 : decode cL_law 367 = .ok (.iadd, 1) := by decide +kernel
theorem dL_law_368 : decode cL_law 368 = .ok (.iaload, 1) := by decide +kernel
theorem dL_law_369 : decode cL_law 369 = .ok (.invokevirtual 56, 3) := by decide +kernel
theorem dL_law_372 : decode cL_law 372 = .ok (.if_icmp .eq 206, 3) := by decide +kernel
theorem dL_law_375 : decode cL_law 375 = .ok (.iconst 0, 1) := by decide +kernel
theorem dL_law_376 : decode cL_law 376 = .ok (.ireturn, 1) := by decide +kernel
theorem dL_law_377 : decode cL_law 377 = .ok (.aload_n 1, 1) := by decide +kernel
theorem dL_law_378 : decode cL_law 378 = .ok (.aload_n 0, 1) := by decide +kernel
theorem dL_law_379 : decode cL_law 379 = .ok (.iload_n 3, 1) := by decide +kernel
theorem dL_law_380 : decode cL_law 380 = .ok (.iconst 1, 1) := by decide +kernel
theorem dL_law_381 : decode cL_law 381 = .ok (.iadd, 1) := by decide +kernel
theorem dL_law_382 : decode cL_law 382 = .ok (.iaload, 1) := by decide +kernel
theorem dL_law_383 : decode cL_law 383 = .ok (.invokevirtual 57, 3) := by decide +kernel
theorem dL_law_386 : decode cL_law 386 = .ok (.aload_n 2, 1) := by decide +kernel
theorem dL_law_387 : decode cL_law 387 = .ok (.aload_n 0, 1) := by decide +kernel
theorem dL_law_388 : decode cL_law 388 = .ok (.iload_n 3, 1) := by decide +kernel
theorem dL_law_389 : decode cL_law 389 = .ok (.iconst 1, 1) := by decide +kernel
theorem dL_law_390 : decode cL_law 390 = .ok (.iadd, 1) := by decide +kernel
theorem dL_law_391 : decode cL_law 391 = .ok (.iaload, 1) := by decide +kernel
theorem dL_law_392 : decode cL_law 392 = .ok (.invokevirtual 60, 3) := by decide +kernel
theorem dL_law_395 : decode cL_law 395 = .ok (.if_icmp .eq 183, 3) := by decide +kernel
theorem dL_law_398 : decode cL_law 398 = .ok (.iconst 0, 1) := by decide +kernel
theorem dL_law_399 : decode cL_law 399 = .ok (.ireturn, 1) := by decide +kernel
theorem dL_law_400 : decode cL_law 400 = .ok (.aload_n 1, 1) := by decide +kernel
theorem dL_law_401 : decode cL_law 401 = .ok (.aload_n 0, 1) := by decide +kernel
theorem dL_law_402 : decode cL_law 402 = .ok (.iload_n 3, 1) := by decide +kernel
theorem dL_law_403 : decode cL_law 403 = .ok (.iconst 1, 1) := by decide +kernel
theorem dL_law_404 : decode cL_law 404 = .ok (.iadd, 1) := by decide +kernel
theorem dL_law_405 : decode cL_law 405 = .ok (.iaload, 1) := by decide +kernel
theorem dL_law_406 : decode cL_law 406 = .ok (.aload_n 0, 1) := by decide +kernel
theorem dL_law_407 : decode cL_law 407 = .ok (.iload_n 3, 1) := by decide +kernel
theorem dL_law_408 : decode cL_law 408 = .ok (.iconst 2, 1) := by decide +kernel
theorem dL_law_409 : decode cL_law 409 = .ok (.iadd, 1) := by decide +kernel
theorem dL_law_410 : decode cL_law 410 = .ok (.iaload, 1) := by decide +kernel
theorem dL_law_411 : decode cL_law 411 = .ok (.aload_n 0, 1) := by decide +kernel
theorem dL_law_412 : decode cL_law 412 = .ok (.iload_n 3, 1) := by decide +kernel
theorem dL_law_413 : decode cL_law 413 = .ok (.iconst 3, 1) := by decide +kernel
theorem dL_law_414 : decode cL_law 414 = .ok (.iadd, 1) := by decide +kernel
theorem dL_law_415 : decode cL_law 415 = .ok (.iaload, 1) := by decide +kernel
theorem dL_law_416 : decode cL_law 416 = .ok (.invokevirtual 61, 3) := by decide +kernel
theorem dL_law_419 : decode cL_law 419 = .ok (.aload_n 2, 1) := by decide +kernel
theorem dL_law_420 : decode cL_law 420 = .ok (.aload_n 0, 1) := by decide +kernel
theorem dL_law_421 : decode cL_law 421 = .ok (.iload_n 3, 1) := by decide +kernel
theorem dL_law_422 : decode cL_law 422 = .ok (.iconst 1, 1) := by decide +kernel
theorem dL_law_423 : decode cL_law 423 = .ok (.iadd, 1) := by decide +kernel
theorem dL_law_424 : decode cL_law 424 = .ok (.iaload, 1) := by decide +kernel
theorem dL_law_425 : decode cL_law 425 = .ok (.aload_n 0, 1) := by decide +kernel
theorem dL_law_426 : decode cL_law 426 = .ok (.iload_n 3, 1) := by decide +kernel
theorem dL_law_427 : decode cL_law 427 = .ok (.iconst 2, 1) := by decide +kernel
theorem dL_law_428 : decode cL_law 428 = .ok (.iadd, 1) := by decide +kernel
theorem dL_law_429 : decode cL_law 429 = .ok (.iaload, 1) := by decide +kernel
theorem dL_law_430 : decode cL_law 430 = .ok (.aload_n 0, 1) := by decide +kernel
theorem dL_law_431 : decode cL_law 431 = .ok (.iload_n 3, 1) := by decide +kernel
theorem dL_law_432 : decode cL_law 432 = .ok (.iconst 3, 1) := by decide +kernel
theorem dL_law_433 : decode cL_law 433 = .ok (.iadd, 1) := by decide +kernel
theorem dL_law_434 : decode cL_law 434 = .ok (.iaload, 1) := by decide +kernel
theorem dL_law_435 : decode cL_law 435 = .ok (.invokevirtual 65, 3) := by decide +kernel
theorem dL_law_438 : decode cL_law 438 = .ok (.if_icmp .eq 140, 3) := by decide +kernel
theorem dL_law_441 : decode cL_law 441 = .ok (.iconst 0, 1) := by decide +kernel
theorem dL_law_442 : decode cL_law 442 = .ok (.ireturn, 1) := by decide +kernel
theorem dL_law_443 : decode cL_law 443 = .ok (.aload_n 1, 1) := by decide +kernel
theorem dL_law_444 : decode cL_law 444 = .ok (.aload_n 0, 1) := by decide +kernel
theorem dL_law_445 : decode cL_law 445 = .ok (.iload_n 3, 1) := by decide +kernel
theorem dL_law_446 : decode cL_law 446 = .ok (.iconst 1, 1) := by decide +kernel
theorem dL_law_447 : decode cL_law 447 = .ok (.iadd, 1) := by decide +kernel
theorem dL_law_448 : decode cL_law 448 = .ok (.iaload, 1) := by decide +kernel
theorem dL_law_449 : decode cL_law 449 = .ok (.aload_n 0, 1) := by decide +kernel
theorem dL_law_450 : decode cL_law 450 = .ok (.iload_n 3, 1) := by decide +kernel
theorem dL_law_451 : decode cL_law 451 = .ok (.iconst 2, 1) := by decide +kernel
theorem dL_law_452 : decode cL_law 452 = .ok (.iadd, 1) := by decide +kernel
theorem dL_law_453 : decode cL_law 453 = .ok (.iaload, 1) := by decide +kernel
theorem dL_law_454 : decode cL_law 454 = .ok (.invokevirtual 66, 3) := by decide +kernel
theorem dL_law_457 : decode cL_law 457 = .ok (.aload_n 2, 1) := by decide +kernel
theorem dL_law_458 : decode cL_law 458 = .ok (.aload_n 0, 1) := by decide +kernel
theorem dL_law_459 : decode cL_law 459 = .ok (.iload_n 3, 1) := by decide +kernel
theorem dL_law_460 : decode cL_law 460 = .ok (.iconst 1, 1) := by decide +kernel
theorem dL_law_461 : decode cL_law 461 = .ok (.iadd, 1) := by decide +kernel
theorem dL_law_462 : decode cL_law 462 = .ok (.iaload, 1) := by decide +kernel
theorem dL_law_463 : decode cL_law 463 = .ok (.aload_n 0, 1) := by decide +kernel
theorem dL_law_464 : decode cL_law 464 = .ok (.iload_n 3, 1) := by decide +kernel
theorem dL_law_465 : decode cL_law 465 = .ok (.iconst 2, 1) := by decide +kernel
theorem dL_law_466 : decode cL_law 466 = .ok (.iadd, 1) := by decide +kernel
theorem dL_law_467 : decode cL_law 467 = .ok (.iaload, 1) := by decide +kernel
theorem dL_law_468 : decode cL_law 468 = .ok (.invokevirtual 69, 3) := by decide +kernel
theorem dL_law_471 : decode cL_law 471 = .ok (.if_icmp .eq 107, 3) := by decide +kernel
theorem dL_law_474 : decode cL_law 474 = .ok (.iconst 0, 1) := by decide +kernel
theorem dL_law_475 : decode cL_law 475 = .ok (.ireturn, 1) := by decide +kernel
theorem dL_law_476 : decode cL_law 476 = .ok (.aload_n 1, 1) := by decide +kernel
theorem dL_law_477 : decode cL_law 477 = .ok (.aload_n 0, 1) := by decide +kernel
theorem dL_law_478 : decode cL_law 478 = .ok (.iload_n 3, 1) := by decide +kernel
theorem dL_law_479 : decode cL_law 479 = .ok (.iconst 1, 1) := by decide +kernel
theorem dL_law_480 : decode cL_law 480 = .ok (.iadd, 1) := by decide +kernel
theorem dL_law_481 : decode cL_law 481 = .ok (.iaload, 1) := by decide +kernel
theorem dL_law_482 : decode cL_law 482 = .ok (.invokevirtual 70, 3) := by decide +kernel
theorem dL_law_485 : decode cL_law 485 = .ok (.aload_n 2, 1) := by decide +kernel
theorem dL_law_486 : decode cL_law 486 = .ok (.aload_n 0, 1) := by decide +kernel
theorem dL_law_487 : decode cL_law 487 = .ok (.iload_n 3, 1) := by decide +kernel
theorem dL_law_488 : decode cL_law 488 = .ok (.iconst 1, 1) := by decide +kernel
theorem dL_law_489 : decode cL_law 489 = .ok (.iadd, 1) := by decide +kernel
theorem dL_law_490 : decode cL_law 490 = .ok (.iaload, 1) := by decide +kernel
theorem dL_law_491 : decode cL_law 491 = .ok (.invokevirtual 73, 3) := by decide +kernel
theorem dL_law_494 : decode cL_law 494 = .ok (.if_icmp .eq 84, 3) := by decide +kernel
theorem dL_law_497 : decode cL_law 497 = .ok (.iconst 0, 1) := by decide +kernel
theorem dL_law_498 : decode cL_law 498 = .ok (.ireturn, 1) := by decide +kernel
theorem dL_law_499 : decode cL_law 499 = .ok (.aload_n 1, 1) := by decide +kernel
theorem dL_law_500 : decode cL_law 500 = .ok (.aload_n 0, 1) := by decide +kernel
theorem dL_law_501 : decode cL_law 501 = .ok (.iload_n 3, 1) := by decide +kernel
theorem dL_law_502 : decode cL_law 502 = .ok (.iconst 1, 1) := by decide +kernel
theorem dL_law_503 : decode cL_law 503 = .ok (.iadd, 1) := by decide +kernel
theorem dL_law_504 : decode cL_law 504 = .ok (.iaload, 1) := by decide +kernel
theorem dL_law_505 : decode cL_law 505 = .ok (.aload_n 0, 1) := by decide +kernel
theorem dL_law_506 : decode cL_law 506 = .ok (.iload_n 3, 1) := by decide +kernel
theorem dL_law_507 : decode cL_law 507 = .ok (.iconst 2, 1) := by decide +kernel
theorem dL_law_508 : decode cL_law 508 = .ok (.iadd, 1) := by decide +kernel
theorem dL_law_509 : decode cL_law 509 = .ok (.iaload, 1) := by decide +kernel
theorem dL_law_510 : decode cL_law 510 = .ok (.invokevirtual 74, 3) := by decide +kernel
theorem dL_law_513 : decode cL_law 513 = .ok (.aload_n 2, 1) := by decide +kernel
theorem dL_law_514 : decode cL_law 514 = .ok (.aload_n 0, 1) := by decide +kernel
theorem dL_law_515 : decode cL_law 515 = .ok (.iload_n 3, 1) := by decide +kernel
theorem dL_law_516 : decode cL_law 516 = .ok (.iconst 1, 1) := by decide +kernel
theorem dL_law_517 : decode cL_law 517 = .ok (.iadd, 1) := by decide +kernel
theorem dL_law_518 : decode cL_law 518 = .ok (.iaload, 1) := by decide +kernel
theorem dL_law_519 : decode cL_law 519 = .ok (.aload_n 0, 1) := by decide +kernel
theorem dL_law_520 : decode cL_law 520 = .ok (.iload_n 3, 1) := by decide +kernel
theorem dL_law_521 : decode cL_law 521 = .ok (.iconst 2, 1) := by decide +kernel
theorem dL_law_522 : decode cL_law 522 = .ok (.iadd, 1) := by decide +kernel
theorem dL_law_523 : decode cL_law 523 = .ok (.iaload, 1) := by decide +kernel
theorem dL_law_524 : decode cL_law 524 = .ok (.invokevirtual 77, 3) := by decide +kernel
theorem dL_law_527 : decode cL_law 527 = .ok (.if_icmp .eq 51, 3) := by decide +kernel
theorem dL_law_530 : decode cL_law 530 = .ok (.iconst 0, 1) := by decide +kernel
theorem dL_law_531 : decode cL_law 531 = .ok (.ireturn, 1) := by decide +kernel
theorem dL_law_532 : decode cL_law 532 = .ok (.aload_n 1, 1) := by decide +kernel
theorem dL_law_533 : decode cL_law 533 = .ok (.aload_n 0, 1) := by decide +kernel
theorem dL_law_534 : decode cL_law 534 = .ok (.iload_n 3, 1) := by decide +kernel
theorem dL_law_535 : decode cL_law 535 = .ok (.iconst 1, 1) := by decide +kernel
theorem dL_law_536 : decode cL_law 536 = .ok (.iadd, 1) := by decide +kernel
theorem dL_law_537 : decode cL_law 537 = .ok (.iaload, 1) := by decide +kernel
theorem dL_law_538 : decode cL_law 538 = .ok (.aload_n 0, 1) := by decide +kernel
theorem dL_law_539 : decode cL_law 539 = .ok (.iload_n 3, 1) := by decide +kernel
theorem dL_law_540 : decode cL_law 540 = .ok (.iconst 2, 1) := by decide +kernel
theorem dL_law_541 : decode cL_law 541 = .ok (.iadd, 1) := by decide +kernel
theorem dL_law_542 : decode cL_law 542 = .ok (.iaload, 1) := by decide +kernel
theorem dL_law_543 : decode cL_law 543 = .ok (.invokevirtual 78, 3) := by decide +kernel
theorem dL_law_546 : decode cL_law 546 = .ok (.aload_n 2, 1) := by decide +kernel
theorem dL_law_547 : decode cL_law 547 = .ok (.aload_n 0, 1) := by decide +kernel
theorem dL_law_548 : decode cL_law 548 = .ok (.iload_n 3, 1) := by decide +kernel
theorem dL_law_549 : decode cL_law 549 = .ok (.iconst 1, 1) := by decide +kernel
theorem dL_law_550 : decode cL_law 550 = .ok (.iadd, 1) := by decide +kernel
theorem dL_law_551 : decode cL_law 551 = .ok (.iaload, 1) := by decide +kernel
theorem dL_law_552 : decode cL_law 552 = .ok (.aload_n 0, 1) := by decide +kernel
theorem dL_law_553 : decode cL_law 553 = .ok (.iload_n 3, 1) := by decide +kernel
theorem dL_law_554 : decode cL_law 554 = .ok (.iconst 2, 1) := by decide +kernel
theorem dL_law_555 : decode cL_law 555 = .ok (.iadd, 1) := by decide +kernel
theorem dL_law_556 : decode cL_law 556 = .ok (.iaload, 1) := by decide +kernel
theorem dL_law_557 : decode cL_law 557 = .ok (.invokevirtual 81, 3) := by decide +kernel
theorem dL_law_560 : decode cL_law 560 = .ok (.if_icmp .eq 18, 3) := by decide +kernel
theorem dL_law_563 : decode cL_law 563 = .ok (.iconst 0, 1) := by decide +kernel
theorem dL_law_564 : decode cL_law 564 = .ok (.ireturn, 1) := by decide +kernel
theorem dL_law_565 : decode cL_law 565 = .ok (.aload_n 1, 1) := by decide +kernel
theorem dL_law_566 : decode cL_law 566 = .ok (.invokevirtual 82, 3) := by decide +kernel
theorem dL_law_569 : decode cL_law 569 = .ok (.aload_n 2, 1) := by decide +kernel
theorem dL_law_570 : decode cL_law 570 = .ok (.invokevirtual 85, 3) := by decide +kernel
theorem dL_law_573 : decode cL_law 573 = .ok (.if_icmp .eq 5, 3) := by decide +kernel
theorem dL_law_576 : decode cL_law 576 = .ok (.iconst 0, 1) := by decide +kernel
theorem dL_law_577 : decode cL_law 577 = .ok (.ireturn, 1) := by decide +kernel
theorem dL_law_578 : decode cL_law 578 = .ok (.iinc 3 4, 3) := by decide +kernel
theorem dL_law_581 : decode cL_law 581 = .ok (.goto (-563), 3) := by decide +kernel
theorem dL_law_584 : decode cL_law 584 = .ok (.iconst 1, 1) := by decide +kernel
theorem dL_law_585 : decode cL_law 585 = .ok (.ireturn, 1) := by decide +kernel
end
section
/-! the memory picture: a partial function from addresses to cells; all methods speak of it -/
abbrev hM : Type := Nat → Option va_E
/-- what stays over a run: the classes' numbers and slots; the classes of int[], Node[], int[][]; the first new address; the cells of START and ROUND_WORDS -/
abbrev hG : Type := va_G × (ClassId × ClassId × ClassId) × Nat × Nat × Nat
abbrev gD (g : hG) : va_G := g.1
abbrev gI (g : hG) : ClassId := g.2.1.1
abbrev gN (g : hG) : ClassId := g.2.1.2.1
abbrev gR (g : hG) : ClassId := g.2.1.2.2
abbrev gB (g : hG) : Nat := g.2.2.1
abbrev gS (g : hG) : Nat := g.2.2.2.1
abbrev gK (g : hG) : Nat := g.2.2.2.2
def hA (g : hG) : Nat → Prop := fun q => gB g ≤ q
def hTy (g : hG) : List (ClassId × FieldType) := [(gI g, .int), (gN g, .object "ProofMap$Node"), (gR g, .array .int)]
/-- an int[], a Node[], an int[][] in the picture -/
abbrev aI (g : hG) (n : Nat) (f : Nat → Int32) : va_E := .inl (gI g, n, .inl f)
abbrev aN (g : hG) (n : Nat) (f : Nat → Option Nat) : va_E := .inl (gN g, n, .inr (.inr (.inr (.inr f))))
abbrev aR (g : hG) (n : Nat) (f : Nat → Option Nat) : va_E := .inl (gR g, n, .inr (.inr (.inr (.inr f))))
def hm_up (M : hM) (a : Nat) (e : va_E) : hM := fun q => if q = a then some e else M q
theorem up_eq {M : hM} {a : Nat} {e : va_E} : hm_up M a e a = some e := if_pos rfl
theorem up_ne {M : hM} {a b : Nat} {e : va_E} (h : b ≠ a) : hm_up M a e b = M b := if_neg h
theorem up_at {M : hM} {a b : Nat} {e e' : va_E} (h : b ≠ a) (hb : M b = some e') : hm_up M a e b = some e' := (up_ne h).trans hb
/-- two cells with different contents are two cells -/
theorem ne_lk {M : hM} {a b : Nat} {e e' : va_E} (ha : M a = some e) (hb : M b = some e') (h : e ≠ e') : a ≠ b := fun q => h (Option.some.inj (ha.symm.trans ((congrArg M q).trans hb)))
theorem ne_new {M : hM} {a b : Nat} {e : va_E} (hb : M b = none) (ha : M a = some e) : a ≠ b := fun q => by rw [q, hb] at ha; cases ha
/-- the heap holds the picture, and all of it is new -/
def hp (g : hG) (M : hM) (H : Heap) : Prop := ∀ a e, M a = some e → gB g ≤ a ∧ va_at (gD g) vwCl (a, e) H
def kStart : Nat → Int32 := fun j => (#[1779033703, -1150833019, 1013904242, -1521486534, 1359893119, -1694144372, 528734635, 1541459225] : Array Int32).getD j 0
def kRound : Nat → Int32 := fun j => (#[1116352408, 1899447441, -1245643825, -373957723, 961987163, 1508970993, -1841331548, -1424204075, -670586216, 310598401, 607225278, 1426881987, 1925078388, -2132889090, -1680079193, -1046744716, -459576895, -272742522, 264347078, 604807628, 770255983, 1249150122, 1555081692, 1996064986, -1740746414, -1473132947, -1341970488, -1084653625, -958395405, -710438585, 113926993, 338241895, 666307205, 773529912, 1294757372, 1396182291, 1695183700, 1986661051, -2117940946, -1838011259, -1564481375, -1474664885, -1035236496, -949202525, -778901479, -694614492, -200395387, 275423344, 430227734, 506948616, 659060556, 883997877, 958139571, 1322822218, 1537002063, 1747873779, 1955562222, 2024104815, -2067236844, -1933114872, -1866530822, -1538233109, -1090935817, -965641998] : Array Int32).getD j 0
/-- the words that don't pass on by themselves: two links to private methods of the nest's host, and that Node[] and int[][] are there -/
def hX (U : State) : Prop := va_Nw (.methodLinkNest RX1 30 yX3_countOf RX3) U ∧ va_Nw (.methodLinkNest RX0 34 yX3_copyWords RX3) U ∧ va_AO "ProofMap$Node" U ∧ va_Nw (.arrayOver (.array .int)) U
theorem hX_AOA {u U : State} (hvm : u.vm.Alike U.vm) (h : va_Nw (.arrayOver (.array .int)) u) : va_Nw (.arrayOver (.array .int)) U := by
  obtain ⟨comp, c, k, h1, h2, h3, h4, h5⟩ := arrayOverA_spec h
  obtain ⟨k', hk', he⟩ := hvm.2.2 _ _ h3
  have hi := (va_idx_bare U.vm comp).symm.trans (Eq.trans (by first | rw [hvm.bare_eq] | rw [← hvm.bare_eq]) ((va_idx_bare u.vm comp).trans h2))
  have hkind : k'.kind = .array comp (.array .int) := by rw [he]; exact h4
  have f1 : U.vm.findClass (FieldType.array .int).toString = some comp := by rw [hvm.findClass]; exact h1
  have f2 : U.vm.findClass ("[" ++ (FieldType.array .int).toString) = some c := by rw [hvm.findClass]; exact h5
  unfold va_Nw Cond.before Cond.holds
  simp only [Cond.value]
  rw [f1, Option.bind_some]
  refine (congrArg (fun o : Option Nat => (o.bind (fun c => (U.vm.classes[c]?).map fun (k : Class) => match k.kind with | .array _ ty => decide (ty = FieldType.array .int) && decide (U.vm.findClass ("[" ++ (FieldType.array .int).toString) = some c) | _ => false) == some true)) hi).trans ?_
  simp [hk', hkind, f2]
theorem hX.warm {s U : State} (hW : s.WarmedH U.vm) (h : hX s) : hX U := ⟨va_Nw.warmM hW h.1, va_Nw.warmM hW h.2.1, va_AO.moved hW.alike h.2.2.1, hX_AOA hW.alike h.2.2.2⟩
theorem hX.call {U : State} (h : hX U) (f : JFrame) (mk : MethodId) (a : Array Value) : hX (U.calling f mk a) :=
  ⟨va_Nw.same rfl rfl h.1, va_Nw.same rfl rfl h.2.1, va_AO.moved (u := U) (U := U.calling f mk a) (Vm.Alike.refl U.vm) h.2.2.1, hX_AOA (u := U) (U := U.calling f mk a) (Vm.Alike.refl U.vm) h.2.2.2⟩
/-- what stays of the machine -/
def hGX (g : hG) (U : State) : Prop := va_K (gD g) vwCl (hTy g) U ∧ gB g ≤ U.heap.size ∧ va_Z "ProofMap$Hasher" "START" "[I" (.ref (gS g)) (hA g) U U.heap ∧ va_Z "ProofMap$Hasher" "ROUND_WORDS" "[I" (.ref (gK g)) (hA g) U U.heap ∧ va_X (gS g) 8 kStart U U.heap ∧ va_X (gK g) 64 kRound U U.heap ∧ gS g < gB g ∧ gK g < gB g ∧ hX U
theorem hGX.move {g : hG} {s U : State} {H : Heap} {locs : List Loc} (h : hGX g s) (hS : va_S (hA g) s.heap H locs) (hU : U.heap = H) (hW : s.WarmedH U.vm) : hGX g U := by
  obtain ⟨h1, h2, h3, h4, h5, h6, h7, h8, h9⟩ := h
  have hvm : s.vm.Alike U.vm := hW.alike
  have hq : ∀ a : Nat, a < s.heap.size → ¬ hA g a → U.heap[a]? = s.heap[a]? := fun a x y => by rw [hU]; exact hS.2.1 a x y
  have n7 : ¬ hA g (gS g) := Nat.not_le.mpr h7
  have n8 : ¬ hA g (gK g) := Nat.not_le.mpr h8
  exact ⟨va_K.moved hvm h1, Nat.le_trans h2 (by rw [hU]; exact hS.1), (h3.moved hvm).kept hq, (h4.moved hvm).kept hq, (h5.moved hvm).kept (hq _ (Nat.lt_of_lt_of_le h7 h2) n7), (h6.moved hvm).kept (hq _ (Nat.lt_of_lt_of_le h8 h2) n8), h7, h8, h9.warm hW⟩
theorem hGX.call {g : hG} {U : State} (h : hGX g U) (f : JFrame) (mk : MethodId) (a : Array Value) : hGX g (U.calling f mk a) := by
  obtain ⟨h1, h2, h3, h4, h5, h6, h7, h8, h9⟩ := h
  have hvm : U.vm.Alike (U.calling f mk a).vm := Vm.Alike.refl U.vm
  exact ⟨va_K.moved hvm h1, h2, h3.moved hvm, h4.moved hvm, h5.moved hvm, h6.moved hvm, h7, h8, h9.call f mk a⟩
/-- a method's own surroundings -/
def hE (p : Program) (c : Code) (cc : ByteArray) (nL : Nat) (s : State) (args : Array Value) (m : MethodId) (own : String) (g : hG) : Prop :=
  p.tables.exec = Jvm.exec ∧ c.code = cc ∧ c.maxLocals = nL ∧ s.vm.findClass own = some m.cls ∧ (∀ w ∈ hT, w.before args s = true) ∧ hGX g s
/-- the words of every method: its code, then all words of the law -/
abbrev hW (y : MethodName) (cc : ByteArray) (n : Nat) (r : Option FieldType) : List Cond := Cond.code y cc n r :: hT
/-- the room of a level, with so many cells and slots to make -/
abbrev hR (k mc ms : Nat) : Room := { frames := k, cells := mc, slots := ms, locals := 100 * k }
theorem hW_good {y : MethodName} {cc : ByteArray} {n : Nat} {r : Option FieldType} (h : Cond.code y cc n r ∈ hT) : GoodIn hT (hW y cc n r) := fun w hw => by
  rcases List.mem_cons.mp hw with e | e
  · rw [e]; exact hT_good _ h
  · exact hT_good _ e
abbrev hPre (g : hG) (M : hM) (av : List Value) : Array Value → State → Prop := va_Pc av (fun U => hGX g U ∧ hp g M U.heap)
/-- contracts: int (and boolean), long, void, reference or null; from the picture M, with a post over the new picture -/
abbrev Ci (l : Launch) (g : hG) (y : MethodName) (cc : ByteArray) (n : Nat) (r : FieldType) (k mc ms : Nat) (av : List Value) (M : hM) (post : Int32 → hM → Prop) : Prop := Met l y (hW y cc n (some r)) (hR k mc ms) (hPre g M av) (va_Qi post (fun M' t => hp g M' t.heap) (hA g)) mc ms (hA g)
abbrev Cl (l : Launch) (g : hG) (y : MethodName) (cc : ByteArray) (n : Nat) (k mc ms : Nat) (av : List Value) (M : hM) (post : Int64 → hM → Prop) : Prop := Met l y (hW y cc n (some .long)) (hR k mc ms) (hPre g M av) (va_Ql post (fun M' t => hp g M' t.heap) (hA g)) mc ms (hA g)
abbrev Cv (l : Launch) (g : hG) (y : MethodName) (cc : ByteArray) (n : Nat) (k mc ms : Nat) (av : List Value) (M : hM) (post : hM → Prop) : Prop := Met l y (hW y cc n none) (hR k mc ms) (hPre g M av) (va_Qv post (fun M' t => hp g M' t.heap) (hA g)) mc ms (hA g)
abbrev Cq (l : Launch) (g : hG) (y : MethodName) (cc : ByteArray) (n : Nat) (r : FieldType) (k mc ms : Nat) (av : List Value) (M : hM) (post : Option Nat → hM → Prop) : Prop := Met l y (hW y cc n (some r)) (hR k mc ms) (hPre g M av) (va_Qq post (fun M' t => hp g M' t.heap) (hA g)) mc ms (hA g)
theorem hPre.blind {g : hG} {M : hM} {av : List Value} : FrameBlind (hPre g M av) := fun a U f mk h => ⟨h.1, h.2.1.call f mk a, h.2.2⟩
/-- a method's facts for its callers -/
def hMs (y : MethodName) (cc : ByteArray) (n : Nat) (r : Option FieldType) (np : Nat) : Prop := Cond.code y cc n r ∈ hT ∧ Cond.initialized y.cls ∈ hT ∧ y.cls ≠ "java/lang/invoke/MethodHandle" ∧ y.cls ≠ "java/lang/invoke/VarHandle" ∧ (parseMethodDescriptor y.desc).map (fun d => d.parameters.length) = some np
section HP
variable {p : Program} {l : Launch} {e : Env} {R : Room} {s : State} {m : MethodId} {args : Array Value} {below : List Frame} {meth : Method} {c : Code} {H : Heap} {locs : List Loc} {cells slots : Nat} {Q : State → Prop}
variable {cc : ByteArray} {pc : Nat} {ls : Array Slot} {rest : List Value} {a : Nat} {g : hG} {M : hM} {own : String} {nL : Nat}
/-- getfield -/
theorem hp_get (E : hE p c cc nL s args m own g) (hm : hp g M H) {C : String} {T : u_T} {N ci index : Nat} {fs : List Value} (he : M a = some (.inr (ci, fs))) (hin : ∀ w ∈ u_ws C T N, w ∈ hT) (hc : vwCl[ci]? = some (C, T, N)) (k : Nat) (hk : k < N) (hlink : Cond.fieldLink own index (T k).1 (T k).2.1 (T k).2.2.1 ∈ hT) {v : Value} (hv : fs[k]? = some v) (hdg : decode cc pc = .ok (.getfield index, 3))
    (kk : W p l e R s m args below meth c H locs cells slots Q (F0 m (pc + 3) ls (v :: rest))) : W p l e R s m args below meth c H locs cells slots Q (F0 m pc ls (.ref a :: rest)) := by
  obtain ⟨hx, hb, -, hown, hts, hG⟩ := E
  exact va_get (ws := [(a, .inr (ci, fs))]) hx hb hts hin hown hG.1 (fun k q h => by
    match k, h with
    | 0, h => cases h; exact (hm _ _ he).2
    | k + 1, h => simp at h) 0 rfl hc k hk (hts _ hlink) (fun _ h => h) hv hdg kk
/-- putfield of a field that isn't final -/
theorem hp_put (E : hE p c cc nL s args m own g) (hm : hp g M H) (hS : va_S (hA g) s.heap H locs) {C : String} {T : u_T} {N ci index : Nat} {fs : List Value} (he : M a = some (.inr (ci, fs))) (hin : ∀ w ∈ u_ws C T N, w ∈ hT) (ty0 : Nat → FieldType) (hty : ∀ k, k < N → parseFieldDescriptor (T k).2.2.1 = some (ty0 k)) (hnm : ∀ a, a < N → ∀ b, b < N → a ≠ b → (T a).2.1 ≠ (T b).2.1) (hc : vwCl[ci]? = some (C, T, N)) (k : Nat) (hk : k < N) (hlink : Cond.fieldLink own index (T k).1 (T k).2.1 (T k).2.2.1 ∈ hT) (hfin : (T k).2.2.2 = false) {ty : FieldType} {v : Value} (hd : parseFieldDescriptor (T k).2.2.1 = some ty) (hn : narrow ty v = v) (hfit : fits ty v = true) (hl : k < fs.length) (hdg : decode cc pc = .ok (.putfield index, 3))
    (kk : ∀ (H1 : Heap) (locs1 : List Loc), hp g (hm_up M a (.inr (ci, fs.set k v))) H1 → va_S (hA g) s.heap H1 locs1 → W p l e R s m args below meth c H1 locs1 cells slots Q (F0 m (pc + 3) ls rest)) : W p l e R s m args below meth c H locs cells slots Q (F0 m pc ls (v :: .ref a :: rest)) := by
  obtain ⟨hx, hb, -, hown, hts, hG⟩ := E
  have hap := va_apart (own := own) hts hin ty0 hty hnm hG.1 hc
  obtain ⟨hBa, r, h1, cell, q1, q2, q3, q4⟩ := hm _ _ he
  have hr : r = (C, T, N) := Option.some.inj (h1.symm.trans hc)
  subst hr
  obtain ⟨hS0, hfc, kC, hkC, hkind⟩ := hG.1.1 ci _ hc
  obtain ⟨cf, kf, fi, f, hi, hsl⟩ := hS0 k hk
  have hlay := hts _ (hin _ (u_in_lay hk))
  unfold u_lay at hlay
  rw [if_neg (by rw [hfin]; decide)] at hlay
  have hst := (u_facts hfc hkC (u_lays hts hin hk) hi).1
  have h6 := u_store hfc hkC hkind hlay hi hd hn hfit
  refine W.putK hx hb (f := f) ⟨hown, hts _ hlink, ⟨_, _, _, hi⟩, hst⟩ (by rw [q2]; exact h6) q1 q3 (by rw [hsl]; exact k2_hasslot (q4 k hk)) rfl rfl hdg fun H' e1 e2 e3 => ?_
  rw [hsl] at e1 ⊢
  refine kk H' _ (fun b eb hb => ?_) (hS.put e2 e3 hBa)
  by_cases hba : b = a
  · subst hba
    rw [up_eq] at hb
    cases hb
    exact ⟨hBa, _, hc, t_OB.to (V := updV (vp_V fs) k v) ⟨_, e1, q2, q3, t_set q4 hap hk v⟩ (fun j _ => vp_updV_set hl v j)⟩
  · rw [up_ne hba] at hb
    exact ⟨(hm _ _ hb).1, (hm _ _ hb).2.kept (e3 _ hba)⟩
/-- putfield of a final field, in a constructor -/
theorem hp_putF (E : hE p c cc nL s args m own g) (hm : hp g M H) (hS : va_S (hA g) s.heap H locs) {C : String} {T : u_T} {N ci index : Nat} {fs : List Value} (he : M a = some (.inr (ci, fs))) (hin : ∀ w ∈ u_ws C T N, w ∈ hT) (ty0 : Nat → FieldType) (hty : ∀ k, k < N → parseFieldDescriptor (T k).2.2.1 = some (ty0 k)) (hnm : ∀ a, a < N → ∀ b, b < N → a ≠ b → (T a).2.1 ≠ (T b).2.1) (hc : vwCl[ci]? = some (C, T, N)) (k : Nat) (hk : k < N) (hlink : Cond.fieldLink own index (T k).1 (T k).2.1 (T k).2.2.1 ∈ hT) (hfin : (T k).2.2.2 = true) (hin2 : meth.name = "<init>") (hdecl : (T k).1 = own) {ty : FieldType} {v : Value} (hd : parseFieldDescriptor (T k).2.2.1 = some ty) (hn : narrow ty v = v) (hfit : fits ty v = true) (hl : k < fs.length) (hdg : decode cc pc = .ok (.putfield index, 3))
    (kk : ∀ (H1 : Heap) (locs1 : List Loc), hp g (hm_up M a (.inr (ci, fs.set k v))) H1 → va_S (hA g) s.heap H1 locs1 → W p l e R s m args below meth c H1 locs1 cells slots Q (F0 m (pc + 3) ls rest)) : W p l e R s m args below meth c H locs cells slots Q (F0 m pc ls (v :: .ref a :: rest)) := by
  obtain ⟨hx, hb, -, hown, hts, hG⟩ := E
  have hap := va_apart (own := own) hts hin ty0 hty hnm hG.1 hc
  obtain ⟨hBa, r, h1, cell, q1, q2, q3, q4⟩ := hm _ _ he
  have hr : r = (C, T, N) := Option.some.inj (h1.symm.trans hc)
  subst hr
  obtain ⟨hS0, hfc, kC, hkC, hkind⟩ := hG.1.1 ci _ hc
  obtain ⟨cf, kf, fi, f, hi, hsl⟩ := hS0 k hk
  have hlay := hts _ (hin _ (u_in_lay hk))
  unfold u_lay at hlay
  rw [if_pos hfin] at hlay
  have hst := (u_facts hfc hkC (u_lays hts hin hk) hi).1
  have hcf : m.cls = cf := by
    obtain ⟨_, _, c', _, _, _, -, -, hf', -, -, -, hown2, -⟩ := Cond.laysFinal_spec hlay
    have e1 : c' = cf := by have := hi.symm.trans hf'; simp at this; exact this.1.symm
    rw [hdecl] at hown2
    rw [← e1]; exact Option.some.inj (hown.symm.trans hown2)
  have h6 := u_fits hfc hkC hkind (Or.inr hlay) hi hd hn hfit
  refine W.putFinK hx hb hown (hts _ hlink) hi hst hcf hin2 (by rw [q2]; exact h6) q1 q3 (by rw [hsl]; exact k2_hasslot (q4 k hk)) rfl rfl hdg fun H' e1 e2 e3 => ?_
  rw [hsl] at e1 ⊢
  refine kk H' _ (fun b eb hb => ?_) (hS.put e2 e3 hBa)
  by_cases hba : b = a
  · subst hba
    rw [up_eq] at hb
    cases hb
    exact ⟨hBa, _, hc, t_OB.to (V := updV (vp_V fs) k v) ⟨_, e1, q2, q3, t_set q4 hap hk v⟩ (fun j _ => vp_updV_set hl v j)⟩
  · rw [up_ne hba] at hb
    exact ⟨(hm _ _ hb).1, (hm _ _ hb).2.kept (e3 _ hba)⟩
/-- iaload, iastore, arraylength -/
theorem hp_iald (E : hE p c cc nL s args m own g) (hm : hp g M H) {n : Nat} {f : Nat → Int32} (he : M a = some (aI g n f)) {i : Int32} (hin : vp_in i n) (hdg : decode cc pc = .ok (.iaload, 1))
    (kk : W p l e R s m args below meth c H locs cells slots Q (F0 m (pc + 1) ls (.int (f i.toNatClampNeg) :: rest))) : W p l e R s m args below meth c H locs cells slots Q (F0 m pc ls (.int i :: .ref a :: rest)) := by
  obtain ⟨hx, hb, -, hown, hts, hG⟩ := E
  exact va_iald (ws := [(a, aI g n f)]) hx hb hG.1 (fun k q h => by
    match k, h with
    | 0, h => cases h; exact (hm _ _ he).2
    | k + 1, h => simp at h) 0 0 rfl rfl hin hdg kk
theorem hp_iast (E : hE p c cc nL s args m own g) (hm : hp g M H) (hS : va_S (hA g) s.heap H locs) {n : Nat} {f : Nat → Int32} (he : M a = some (aI g n f)) {i x : Int32} (hin : vp_in i n) (hdg : decode cc pc = .ok (.iastore, 1))
    (kk : ∀ (H1 : Heap) (locs1 : List Loc), hp g (hm_up M a (aI g n (upd f i.toNatClampNeg x))) H1 → va_S (hA g) s.heap H1 locs1 → W p l e R s m args below meth c H1 locs1 cells slots Q (F0 m (pc + 1) ls rest)) : W p l e R s m args below meth c H locs cells slots Q (F0 m pc ls (.int x :: .int i :: .ref a :: rest)) := by
  obtain ⟨hx, hb, -, hown, hts, hG⟩ := E
  have hat : H[a]? = some (vp_cell (gI g) (n, .inl f)) := (hm _ _ he).2
  refine W.iast hx hb hat ((hG.1.2 0 (gI g, .int) rfl).1 n (fun j => .int (f j))) (fun q => by cases q) (by show ¬ (i < 0 ∨ (arrV _ _ _).slots.size ≤ _); rw [arrV_size]; exact hin) rfl rfl hdg fun H1 e1 z oq => ?_
  refine kk H1 _ (fun b eb hb => ?_) (hS.put z oq (hm _ _ he).1)
  by_cases hba : b = a
  · subst hba
    rw [up_eq] at hb
    cases hb
    refine ⟨(hm _ _ he).1, ?_⟩
    show H1[b]? = some (vp_cell _ _)
    rw [e1]
    rw [vp_cell_i, vp_cell_i, arrV_store]
    congr 2
    funext q
    by_cases hq : q = i.toNatClampNeg
    · subst hq
      simp [updV, upd]
    · simp [updV, upd, hq]
  · rw [up_ne hba] at hb
    exact ⟨(hm _ _ hb).1, (hm _ _ hb).2.kept (oq _ hba)⟩
/-- the static rows of numbers -/
theorem hp_ialdS (E : hE p c cc nL s args m own g) (hS : va_S (hA g) s.heap H locs) {i : Int32} (hin : vp_in i 8) (hdg : decode cc pc = .ok (.iaload, 1))
    (kk : W p l e R s m args below meth c H locs cells slots Q (F0 m (pc + 1) ls (.int (kStart i.toNatClampNeg) :: rest))) : W p l e R s m args below meth c H locs cells slots Q (F0 m pc ls (.int i :: .ref (gS g) :: rest)) := by
  obtain ⟨hx, hb, -, hown, hts, h1, h2, h3, h4, h5, h6, h7, h8, h9⟩ := E
  exact va_sld hx hb h5 (Nat.lt_of_lt_of_le h7 h2) (Nat.not_le.mpr h7) hS hin hdg kk
theorem hp_ialdK (E : hE p c cc nL s args m own g) (hS : va_S (hA g) s.heap H locs) {i : Int32} (hin : vp_in i 64) (hdg : decode cc pc = .ok (.iaload, 1))
    (kk : W p l e R s m args below meth c H locs cells slots Q (F0 m (pc + 1) ls (.int (kRound i.toNatClampNeg) :: rest))) : W p l e R s m args below meth c H locs cells slots Q (F0 m pc ls (.int i :: .ref (gK g) :: rest)) := by
  obtain ⟨hx, hb, -, hown, hts, h1, h2, h3, h4, h5, h6, h7, h8, h9⟩ := E
  exact va_sld hx hb h6 (Nat.lt_of_lt_of_le h8 h2) (Nat.not_le.mpr h8) hS hin hdg kk
/-- aaload of a Node[] and of an int[][] -/
theorem hp_aaldN (E : hE p c cc nL s args m own g) (hm : hp g M H) {n : Nat} {f : Nat → Option Nat} (he : M a = some (aN g n f)) {i : Int32} (hin : vp_in i n) (hdg : decode cc pc = .ok (.aaload, 1))
    (kk : W p l e R s m args below meth c H locs cells slots Q (F0 m (pc + 1) ls (va_rf (f i.toNatClampNeg) :: rest))) : W p l e R s m args below meth c H locs cells slots Q (F0 m pc ls (.int i :: .ref a :: rest)) := by
  obtain ⟨hx, hb, -, hown, hts, hG⟩ := E
  exact va_aldq (C := "ProofMap$Node") (ws := [(a, aN g n f)]) hx hb hG.1 (fun k q h => by
    match k, h with
    | 0, h => cases h; exact (hm _ _ he).2
    | k + 1, h => simp at h) 0 1 rfl rfl hin hdg kk
theorem hp_aaldR (E : hE p c cc nL s args m own g) (hm : hp g M H) {n : Nat} {f : Nat → Option Nat} (he : M a = some (aR g n f)) {i : Int32} (hin : vp_in i n) (hdg : decode cc pc = .ok (.aaload, 1))
    (kk : W p l e R s m args below meth c H locs cells slots Q (F0 m (pc + 1) ls (va_rf (f i.toNatClampNeg) :: rest))) : W p l e R s m args below meth c H locs cells slots Q (F0 m pc ls (.int i :: .ref a :: rest)) := by
  obtain ⟨hx, hb, -, hown, hts, hG⟩ := E
  have hlt : i.toNatClampNeg < n := Nat.not_le.mp fun q => hin (Or.inr q)
  have hat : H[a]? = some (vp_cell (gR g) (n, .inr (.inr (.inr (.inr f))))) := (hm _ _ he).2
  exact W.aald (v := va_rf (f i.toNatClampNeg)) (ty := .array .int) hx hb hat ((hG.1.2 2 (gR g, .array .int) rfl).1 n (fun j => va_rf (f j))) rfl (fun q => by cases q) (by show ¬ (i < 0 ∨ (arrV _ _ _).slots.size ≤ _); rw [arrV_size]; exact hin) (by show (arrV _ _ _).slots[_]? = _; rw [arrV_read _ _ hlt]) rfl rfl hdg kk
/-- new, newarray int -/
theorem hp_new (E : hE p c cc nL s args m own g) (hm : hp g M H) (hS : va_S (hA g) s.heap H locs) {C : String} {T : u_T} {N ci index : Nat} (hin : ∀ w ∈ u_ws C T N, w ∈ hT) (ty : Nat → FieldType) (hty : ∀ k, k < N → parseFieldDescriptor (T k).2.2.1 = some (ty k)) (hc : vwCl[ci]? = some (C, T, N)) (hcl : Cond.classLink own index C ∈ hT) (hinst : Cond.instantiable C N ∈ hT) (hini : Cond.initialized C ∈ hT) {fs : List Value} (hfs : ∀ j, j < N → defaultValue (ty j) = vp_V fs j) (hcells : cells + 1 ≤ R.cells) (hslots : slots + N ≤ R.slots) (hdg : decode cc pc = .ok (.new index, 3))
    (kk : ∀ (q : Nat) (H1 : Heap), M q = none → hp g (hm_up M q (.inr (ci, fs))) H1 → va_S (hA g) s.heap H1 locs → W p l e R s m args below meth c H1 locs (cells + 1) (slots + N) Q (F0 m (pc + 3) ls (.ref q :: rest))) : W p l e R s m args below meth c H locs cells slots Q (F0 m pc ls rest) := by
  obtain ⟨hx, hb, -, hown, hts, hG⟩ := E
  have hKn := hG.1.1 ci _ hc
  refine W.newcK hx hb hown (hts _ hcl) (hts _ hinst) (hts _ hini) rfl hdg hcells hslots hKn.2.1 rfl fun H1 kC hkC e1 z1 o1 => ?_
  have hnone : M H.size = none := by
    cases hq : M H.size with
    | none => rfl
    | some e0 => exact absurd ((hm _ _ hq).2.lt) (Nat.lt_irrefl _)
  refine kk H.size H1 hnone (fun b eb hb => ?_) ⟨Nat.le_trans hS.1 (by omega), fun x h1 h2 => (o1 x (Nat.lt_of_lt_of_le h1 hS.1)).trans (hS.2.1 x h1 h2), hS.2.2⟩
  by_cases hba : b = H.size
  · subst hba
    rw [up_eq] at hb
    cases hb
    exact ⟨Nat.le_trans hG.2.1 hS.1, _, hc, (u_born ty hts hin hKn hkC e1 hty).to hfs⟩
  · rw [up_ne hba] at hb
    have := (hm _ _ hb).2.lt
    exact ⟨(hm _ _ hb).1, (hm _ _ hb).2.kept (o1 _ this)⟩
theorem hp_newa (E : hE p c cc nL s args m own g) (hm : hp g M H) (hS : va_S (hA g) s.heap H locs) (harr : Cond.arrayClass .int ∈ hT) {n : Int32} {N' : Nat} (hn : ¬ n < 0) (hN : n.toNatClampNeg = N') (hbytes : N' * 4 ≤ 536870912) (hcells : cells + 1 ≤ R.cells) (hslots : slots + N' ≤ R.slots) (hdg : decode cc pc = .ok (.newarray .int, 2))
    (kk : ∀ (q : Nat) (H1 : Heap), M q = none → hp g (hm_up M q (aI g N' (fun _ => 0))) H1 → va_S (hA g) s.heap H1 locs → W p l e R s m args below meth c H1 locs (cells + 1) (slots + N') Q (F0 m (pc + 2) ls (.ref q :: rest))) : W p l e R s m args below meth c H locs cells slots Q (F0 m pc ls (.int n :: rest)) := by
  obtain ⟨hx, hb, -, hown, hts, hG⟩ := E
  refine va_newaK (atype := .int) hx hb (hts _ harr) rfl hdg rfl hn hN hbytes hcells hslots rfl fun H1 cA e1 z1 o1 hAr hNm => ?_
  have hcA : cA = gI g := Option.some.inj (hNm.symm.trans (hG.1.2 0 (gI g, .int) rfl).2)
  subst hcA
  have hnone : M H.size = none := by
    cases hq : M H.size with
    | none => rfl
    | some e0 => exact absurd ((hm _ _ hq).2.lt) (Nat.lt_irrefl _)
  refine kk H.size H1 hnone (fun b eb hb => ?_) ⟨Nat.le_trans hS.1 (by omega), fun x h1 h2 => (o1 x (Nat.lt_of_lt_of_le h1 hS.1)).trans (hS.2.1 x h1 h2), hS.2.2⟩
  by_cases hba : b = H.size
  · subst hba
    rw [up_eq] at hb
    cases hb
    exact ⟨Nat.le_trans hG.2.1 hS.1, e1⟩
  · rw [up_ne hba] at hb
    have := (hm _ _ hb).2.lt
    exact ⟨(hm _ _ hb).1, (hm _ _ hb).2.kept (o1 _ this)⟩
/-- Object.<init> -/
theorem hp_obj (E : hE p c cc nL s args m own g) {idx : Nat} (hlink : Cond.methodLink own idx objectInit ∈ hT) (hinst : Cond.instanceMethod objectInit ∈ hT) (hcode : Cond.code objectInit ⟨#[0xb1]⟩ 1 none ∈ hT) (hl : ls.size = nL) (hd : decode cc pc = .ok (.invokespecial idx, 3)) (hframes : 1 ≤ R.frames) (hlocals : (rest.map fun v => v.category).sum + 12 ≤ R.locals)
    (kk : W p l e R s m args below meth c H locs cells slots Q (F0 m (pc + 3) ls rest)) : W p l e R s m args below meth c H locs cells slots Q (F0 m pc ls (.ref a :: rest)) := by
  obtain ⟨hx, hb, hml, hown, hts, hG⟩ := E
  exact W.objInit hx hb hown (hts _ hlink) (hts _ hinst) (hts _ hcode) rfl (by rw [hml]; exact hl) rfl hd hframes (by show 2 * 0 + _ + 12 ≤ _; omega) kk
/-- calls: the run of each kind; then what goes on behind it, by the kind of the answer -/
theorem hp_runS (E : hE p c cc nL s args m own g) (hm : hp g M H) (hS : va_S (hA g) s.heap H locs) {y : MethodName} {cy : ByteArray} {ny : Nat} {r : Option FieldType} {k mc ms np index : Nat} {As st0 : List Value} {Qc : Array Value → State → Outcome → State → Prop} (hC : Met l y (hW y cy ny r) (hR k mc ms) (hPre g M As) Qc mc ms (hA g)) (hs : hMs y cy ny r np) (hst : Cond.static y ∈ hT) (hlink : Cond.methodLink own index y ∈ hT) (hn : As.length = np) (hsz : ls.size = nL) (hst0 : st0 = As.reverse ++ rest) (hcat : (rest.map fun v => v.category).sum ≤ 8) (hdg : decode cc pc = .ok (.invokestatic index, 3)) (hk : k + 1 ≤ R.frames ∧ 8 + (ny + 11) + 100 * k ≤ R.locals) (hf : cells + mc ≤ R.cells ∧ slots + ms ≤ R.slots) :
    va_Run p l e R s m args below meth c H locs cells slots mc ms (F0 m pc ls st0) rest (Qc As.toArray) (hA g) := by
  obtain ⟨hx, hb, hml, hown, hts, hG⟩ := E
  subst hst0
  exact va_runS ⟨hx, hb, hml, hown, hts⟩ hC ⟨callB_of (ws' := hT) np hts (hW_good hs.1) rfl rfl rfl (hts _ hs.2.1) (hts _ hlink) hs.2.2 hk, hts _ hst⟩ ⟨hPre.blind, fun U hU hW => ⟨rfl, hG.move hS hU hW, by rw [hU]; exact hm⟩⟩ rfl hn hsz rfl (lv_room hcat) hdg hf
theorem hp_runV (E : hE p c cc nL s args m own g) (hm : hp g M H) (hS : va_S (hA g) s.heap H locs) {y : MethodName} {cy : ByteArray} {ny : Nat} {r : Option FieldType} {k mc ms np index ci : Nat} {C : String} {T : u_T} {N : Nat} {fs : List Value} {As st0 : List Value} {Qc : Array Value → State → Outcome → State → Prop} (hC : Met l y (hW y cy ny r) (hR k mc ms) (hPre g M (.ref a :: As)) Qc mc ms (hA g)) (hs : hMs y cy ny r np) (hin : Cond.instanceMethod y ∈ hT) (hsel : Cond.selects C y y ∈ hT) (hlink : Cond.methodLink own index y ∈ hT) (he : M a = some (.inr (ci, fs))) (hc : vwCl[ci]? = some (C, T, N)) (hn : As.length = np) (hsz : ls.size = nL) (hst0 : st0 = As.reverse ++ .ref a :: rest) (hcat : (rest.map fun v => v.category).sum ≤ 8) (hdg : decode cc pc = .ok (.invokevirtual index, 3)) (hk : k + 1 ≤ R.frames ∧ 8 + (ny + 11) + 100 * k ≤ R.locals) (hf : cells + mc ≤ R.cells ∧ slots + ms ≤ R.slots) :
    va_Run p l e R s m args below meth c H locs cells slots mc ms (F0 m pc ls st0) rest (Qc (Value.ref a :: As).toArray) (hA g) := by
  obtain ⟨hx, hb, hml, hown, hts, hG⟩ := E
  subst hst0
  refine va_runV (C := C) ⟨hx, hb, hml, hown, hts⟩ hC ⟨callB_of (ws' := hT) np hts (hW_good hs.1) rfl rfl rfl (hts _ hs.2.1) (hts _ hlink) hs.2.2 hk, hts _ hin, hts _ hsel⟩ ⟨hPre.blind, ?_, fun U hU hW => ⟨rfl, hG.move hS hU hW, by rw [hU]; exact hm⟩⟩ rfl hn hsz rfl (lv_room hcat) hdg hf
  exact va_recv (ws := [(a, .inr (ci, fs))]) hG.1 (fun k q h => by
    match k, h with
    | 0, h => cases h; exact (hm _ _ he).2
    | k + 1, h => simp at h) (q0 := 0) hc rfl
theorem hp_runI (E : hE p c cc nL s args m own g) (hm : hp g M H) (hS : va_S (hA g) s.heap H locs) {y : MethodName} {cy : ByteArray} {ny : Nat} {k mc ms np index : Nat} {As st0 : List Value} {Qc : Array Value → State → Outcome → State → Prop} (hC : Met l y (hW y cy ny none) (hR k mc ms) (hPre g M (.ref a :: As)) Qc mc ms (hA g)) (hs : hMs y cy ny none np) (hin : Cond.instanceMethod y ∈ hT) (hy : y.name = "<init>") (hlink : Cond.methodLink own index y ∈ hT) (hn : As.length = np) (hsz : ls.size = nL) (hst0 : st0 = As.reverse ++ .ref a :: rest) (hcat : (rest.map fun v => v.category).sum ≤ 8) (hdg : decode cc pc = .ok (.invokespecial index, 3)) (hk : k + 1 ≤ R.frames ∧ 8 + (ny + 11) + 100 * k ≤ R.locals) (hf : cells + mc ≤ R.cells ∧ slots + ms ≤ R.slots) :
    va_Run p l e R s m args below meth c H locs cells slots mc ms (F0 m pc ls st0) rest (Qc (Value.ref a :: As).toArray) (hA g) := by
  obtain ⟨hx, hb, hml, hown, hts, hG⟩ := E
  subst hst0
  exact va_runI ⟨hx, hb, hml, hown, hts⟩ hC ⟨callB_of (ws' := hT) np hts (hW_good hs.1) rfl rfl rfl (hts _ hs.2.1) (hts _ hlink) hs.2.2 hk, hy, hts _ hin⟩ ⟨hPre.blind, fun U hU hW => ⟨rfl, hG.move hS hU hW, by rw [hU]; exact hm⟩⟩ rfl hn hsz rfl (lv_room hcat) hdg hf
theorem hp_runN (E : hE p c cc nL s args m own g) (hm : hp g M H) (hS : va_S (hA g) s.heap H locs) {y : MethodName} {cy : ByteArray} {ny : Nat} {r : Option FieldType} {k mc ms np index : Nat} {host : String} {As st0 : List Value} {Qc : Array Value → State → Outcome → State → Prop} (hC : Met l y (hW y cy ny r) (hR k mc ms) (hPre g M As) Qc mc ms (hA g)) (hs : hMs y cy ny r np) (hst : Cond.static y ∈ hT) (hlink : va_Nw (.methodLinkNest own index y host) s) (hn : As.length = np) (hsz : ls.size = nL) (hst0 : st0 = As.reverse ++ rest) (hcat : (rest.map fun v => v.category).sum ≤ 8) (hdg : decode cc pc = .ok (.invokestatic index, 3)) (hk : k + 1 ≤ R.frames ∧ 8 + (ny + 11) + 100 * k ≤ R.locals) (hf : cells + mc ≤ R.cells ∧ slots + ms ≤ R.slots) :
    va_Run p l e R s m args below meth c H locs cells slots mc ms (F0 m pc ls st0) rest (Qc As.toArray) (hA g) := by
  obtain ⟨hx, hb, hml, hown, hts, hG⟩ := E
  subst hst0
  exact va_runSN (host := host) ⟨hx, hb, hml, hown, hts⟩ hC ⟨va_cnB (ws' := hT) np hts (hW_good hs.1) rfl rfl rfl hlink (hts _ hs.2.1) hs.2.2 hk, hts _ hst, trivial⟩ ⟨hPre.blind, fun U hU hW => ⟨rfl, hG.move hS hU hW, by rw [hU]; exact hm⟩⟩ rfl hn hsz rfl (lv_room hcat) hdg hf
variable {st0 : List Value} {av : Array Value} {mc ms : Nat}
theorem hp_ci {post : Int32 → hM → Prop} (hr : va_Run p l e R s m args below meth c H locs cells slots mc ms (F0 m pc ls st0) rest (va_Qi post (fun M' t => hp g M' t.heap) (hA g) av) (hA g)) (hS : va_S (hA g) s.heap H locs)
    (kk : ∀ (r : Int32) (M1 : hM) (H1 : Heap) (locs1 : List Loc), post r M1 → hp g M1 H1 → va_S (hA g) s.heap H1 locs1 → W p l e R s m args below meth c H1 locs1 (cells + mc) (slots + ms) Q (F0 m (pc + 3) ls (.int r :: rest))) : W p l e R s m args below meth c H locs cells slots Q (F0 m pc ls st0) :=
  va_calli hr hS (fun _ _ h => h) (fun _ h => h) (fun r u t H1 locs1 ht _ hp1 hB _ _ hS1 => kk r u H1 locs1 hp1 (by rw [← ht]; exact hB) hS1)
theorem hp_cl {post : Int64 → hM → Prop} (hr : va_Run p l e R s m args below meth c H locs cells slots mc ms (F0 m pc ls st0) rest (va_Ql post (fun M' t => hp g M' t.heap) (hA g) av) (hA g)) (hS : va_S (hA g) s.heap H locs)
    (kk : ∀ (r : Int64) (M1 : hM) (H1 : Heap) (locs1 : List Loc), post r M1 → hp g M1 H1 → va_S (hA g) s.heap H1 locs1 → W p l e R s m args below meth c H1 locs1 (cells + mc) (slots + ms) Q (F0 m (pc + 3) ls (.long r :: rest))) : W p l e R s m args below meth c H locs cells slots Q (F0 m pc ls st0) :=
  va_calll hr hS (fun _ _ h => h) (fun _ h => h) (fun r u t H1 locs1 ht _ hp1 hB _ _ hS1 => kk r u H1 locs1 hp1 (by rw [← ht]; exact hB) hS1)
theorem hp_cv {post : hM → Prop} (hr : va_Run p l e R s m args below meth c H locs cells slots mc ms (F0 m pc ls st0) rest (va_Qv post (fun M' t => hp g M' t.heap) (hA g) av) (hA g)) (hS : va_S (hA g) s.heap H locs)
    (kk : ∀ (M1 : hM) (H1 : Heap) (locs1 : List Loc), post M1 → hp g M1 H1 → va_S (hA g) s.heap H1 locs1 → W p l e R s m args below meth c H1 locs1 (cells + mc) (slots + ms) Q (F0 m (pc + 3) ls rest)) : W p l e R s m args below meth c H locs cells slots Q (F0 m pc ls st0) :=
  va_callv hr hS (fun _ _ h => h) (fun _ h => h) (fun u t H1 locs1 ht _ hp1 hB _ _ hS1 => kk u H1 locs1 hp1 (by rw [← ht]; exact hB) hS1)
theorem hp_cq {post : Option Nat → hM → Prop} (hr : va_Run p l e R s m args below meth c H locs cells slots mc ms (F0 m pc ls st0) rest (va_Qq post (fun M' t => hp g M' t.heap) (hA g) av) (hA g)) (hS : va_S (hA g) s.heap H locs)
    (kk : ∀ (r : Option Nat) (M1 : hM) (H1 : Heap) (locs1 : List Loc), post r M1 → hp g M1 H1 → va_S (hA g) s.heap H1 locs1 → W p l e R s m args below meth c H1 locs1 (cells + mc) (slots + ms) Q (F0 m (pc + 3) ls (va_rf r :: rest))) : W p l e R s m args below meth c H locs cells slots Q (F0 m pc ls st0) :=
  va_callq hr hS (fun _ _ h => h) (fun _ h => h) (fun r u t H1 locs1 ht _ hp1 hB _ _ hS1 => kk r u H1 locs1 hp1 (by rw [← ht]; exact hB) hS1)
/-- returns -/
theorem hp_ri {post : Int32 → hM → Prop} {v : Int32} {ty : FieldType} (E : hE p c cc nL s args m own g) (hr : meth.sig.returnType = some ty) (hlk : meth.locks = false) (hm : hp g M H) (hS : va_S (hA g) s.heap H locs) (hn : narrow ty (.int v) = .int v) (hp1 : post v M) (hdg : decode cc pc = .ok (.ireturn, 1)) (h1 : cells ≤ mc) (h2 : slots ≤ ms) : W p l e R s m args below meth c H locs cells slots (MQ below (va_Qi post (fun M' t => hp g M' t.heap) (hA g)) args s mc ms (hA g)) (F0 m pc ls [.int v]) :=
  W.widen h1 h2 (W.zret E.1 E.2.1 hr hn (fun t ht _ => ⟨⟨v, M, rfl, hp1, by show hp g M t.heap; rw [ht]; exact hm⟩, hS.F ht⟩) hS.2.2 hdg hlk)
theorem hp_rl {post : Int64 → hM → Prop} {v : Int64} (E : hE p c cc nL s args m own g) (hr : meth.sig.returnType = some .long) (hlk : meth.locks = false) (hm : hp g M H) (hS : va_S (hA g) s.heap H locs) (hp1 : post v M) (hdg : decode cc pc = .ok (.lreturn, 1)) (h1 : cells ≤ mc) (h2 : slots ≤ ms) : W p l e R s m args below meth c H locs cells slots (MQ below (va_Ql post (fun M' t => hp g M' t.heap) (hA g)) args s mc ms (hA g)) (F0 m pc ls [.long v]) :=
  W.widen h1 h2 (W.lret E.1 E.2.1 hr (fun t ht _ => ⟨⟨v, M, rfl, hp1, by show hp g M t.heap; rw [ht]; exact hm⟩, hS.F ht⟩) hS.2.2 hdg hlk)
theorem hp_rv {post : hM → Prop} (E : hE p c cc nL s args m own g) (hr : meth.sig.returnType = none) (hlk : meth.locks = false) (hm : hp g M H) (hS : va_S (hA g) s.heap H locs) (hp1 : post M) (hdg : decode cc pc = .ok (.return_, 1)) (h1 : cells ≤ mc) (h2 : slots ≤ ms) : W p l e R s m args below meth c H locs cells slots (MQ below (va_Qv post (fun M' t => hp g M' t.heap) (hA g)) args s mc ms (hA g)) (F0 m pc ls []) :=
  W.widen h1 h2 (W.vret E.1 E.2.1 hr (fun t ht _ => ⟨⟨M, rfl, hp1, by show hp g M t.heap; rw [ht]; exact hm⟩, hS.F ht⟩) hS.2.2 hdg hlk)
theorem hp_rq {post : Option Nat → hM → Prop} {r : Option Nat} {ty : FieldType} (E : hE p c cc nL s args m own g) (hr : meth.sig.returnType = some ty) (hty : (∃ n, ty = .object n) ∨ ∃ t, ty = .array t) (hlk : meth.locks = false) (hm : hp g M H) (hS : va_S (hA g) s.heap H locs) (hp1 : post r M) (hdg : decode cc pc = .ok (.areturn, 1)) (h1 : cells ≤ mc) (h2 : slots ≤ ms) : W p l e R s m args below meth c H locs cells slots (MQ below (va_Qq post (fun M' t => hp g M' t.heap) (hA g)) args s mc ms (hA g)) (F0 m pc ls [va_rf r]) :=
  W.widen h1 h2 (W.aret E.1 E.2.1 hr hty (va_rf_or r) (fun t ht _ => ⟨⟨r, M, rfl, hp1, by show hp g M t.heap; rw [ht]; exact hm⟩, hS.F ht⟩) hS.2.2 hdg hlk)
end HP
/-! the start of a method: its surroundings, its locals, and its end -/
theorem hp_startI {l : Launch} {g : hG} {y : MethodName} {cy : ByteArray} {ny k mc ms : Nat} {r : FieldType} {av : List Value} {M : hM} {post : Int32 → hM → Prop} (hy : plainName y.cls = true) (hlen : (lg_sl av).length ≤ ny)
    (body : ∀ (p : Program) (e : Env) (s : State) (m : MethodId) (below : List Frame) (meth : Method) (c : Code) (Q : State → Prop) (H : Heap) (locs : List Loc) (ls : Array Slot), hE p c cy ny s av.toArray m y.cls g → meth.name = y.name → (∀ {H : Heap} {locs : List Loc} {cells slots : Nat} {M : hM} {v : Int32} {ls : Array Slot} {pc : Nat}, decode cy pc = .ok (.ireturn, 1) → narrow r (.int v) = .int v → hp g M H → va_S (hA g) s.heap H locs → cells ≤ mc → slots ≤ ms → post v M → W p l e (hR k mc ms) s m av.toArray below meth c H locs cells slots Q (F0 m pc ls [.int v])) → hp g M H → va_S (hA g) s.heap H locs → lv_has ls ny (lv_args 0 av) →
      W p l e (hR k mc ms) s m av.toArray below meth c H locs 0 0 Q (F0 m 0 ls [])) : Met l y (hW y cy ny (some r)) (hR k mc ms) (hPre g M av) (va_Qi post (fun M' t => hp g M' t.heap) (hA g)) mc ms (hA g) := by
  refine Met.ofW (cc := cy) (maxL := ny) (ret := (some r)) hy rfl ?_
  intro p e s m args below meth c s₁ B hml hv
  obtain ⟨rfl, hG, hm⟩ := hv
  have hts := atoms_spec (ws := hW y cy ny (some r)) B.pre
  rw [lg_entry_eq]
  have E : hE p c cy ny s av.toArray m y.cls g := ⟨B.exec, B.bytes, hml, findClass_of_methodNamed B.named, fun w h => hts w (List.mem_cons_of_mem _ h), hG⟩
  exact body p e s m below meth c _ _ _ _ E (name_of_methodNamed B.named B.method).1 (fun d hn hm hS h1 h2 hp1 => hp_ri E B.returns B.notSynchronized hm hS hn hp1 d h1 h2) hm va_S.rf (lv_entry av hlen)
theorem hp_startL {l : Launch} {g : hG} {y : MethodName} {cy : ByteArray} {ny k mc ms : Nat} {av : List Value} {M : hM} {post : Int64 → hM → Prop} (hy : plainName y.cls = true) (hlen : (lg_sl av).length ≤ ny)
    (body : ∀ (p : Program) (e : Env) (s : State) (m : MethodId) (below : List Frame) (meth : Method) (c : Code) (Q : State → Prop) (H : Heap) (locs : List Loc) (ls : Array Slot), hE p c cy ny s av.toArray m y.cls g → meth.name = y.name → (∀ {H : Heap} {locs : List Loc} {cells slots : Nat} {M : hM} {v : Int64} {ls : Array Slot} {pc : Nat}, decode cy pc = .ok (.lreturn, 1) → hp g M H → va_S (hA g) s.heap H locs → cells ≤ mc → slots ≤ ms → post v M → W p l e (hR k mc ms) s m av.toArray below meth c H locs cells slots Q (F0 m pc ls [.long v])) → hp g M H → va_S (hA g) s.heap H locs → lv_has ls ny (lv_args 0 av) →
      W p l e (hR k mc ms) s m av.toArray below meth c H locs 0 0 Q (F0 m 0 ls [])) : Met l y (hW y cy ny (some .long)) (hR k mc ms) (hPre g M av) (va_Ql post (fun M' t => hp g M' t.heap) (hA g)) mc ms (hA g) := by
  refine Met.ofW (cc := cy) (maxL := ny) (ret := (some .long)) hy rfl ?_
  intro p e s m args below meth c s₁ B hml hv
  obtain ⟨rfl, hG, hm⟩ := hv
  have hts := atoms_spec (ws := hW y cy ny (some .long)) B.pre
  rw [lg_entry_eq]
  have E : hE p c cy ny s av.toArray m y.cls g := ⟨B.exec, B.bytes, hml, findClass_of_methodNamed B.named, fun w h => hts w (List.mem_cons_of_mem _ h), hG⟩
  exact body p e s m below meth c _ _ _ _ E (name_of_methodNamed B.named B.method).1 (fun d hm hS h1 h2 hp1 => hp_rl E B.returns B.notSynchronized hm hS hp1 d h1 h2) hm va_S.rf (lv_entry av hlen)
theorem hp_startV {l : Launch} {g : hG} {y : MethodName} {cy : ByteArray} {ny k mc ms : Nat} {av : List Value} {M : hM} {post : hM → Prop} (hy : plainName y.cls = true) (hlen : (lg_sl av).length ≤ ny)
    (body : ∀ (p : Program) (e : Env) (s : State) (m : MethodId) (below : List Frame) (meth : Method) (c : Code) (Q : State → Prop) (H : Heap) (locs : List Loc) (ls : Array Slot), hE p c cy ny s av.toArray m y.cls g → meth.name = y.name → (∀ {H : Heap} {locs : List Loc} {cells slots : Nat} {M : hM} {ls : Array Slot} {pc : Nat}, decode cy pc = .ok (.return_, 1) → hp g M H → va_S (hA g) s.heap H locs → cells ≤ mc → slots ≤ ms → post M → W p l e (hR k mc ms) s m av.toArray below meth c H locs cells slots Q (F0 m pc ls [])) → hp g M H → va_S (hA g) s.heap H locs → lv_has ls ny (lv_args 0 av) →
      W p l e (hR k mc ms) s m av.toArray below meth c H locs 0 0 Q (F0 m 0 ls [])) : Met l y (hW y cy ny none) (hR k mc ms) (hPre g M av) (va_Qv post (fun M' t => hp g M' t.heap) (hA g)) mc ms (hA g) := by
  refine Met.ofW (cc := cy) (maxL := ny) (ret := none) hy rfl ?_
  intro p e s m args below meth c s₁ B hml hv
  obtain ⟨rfl, hG, hm⟩ := hv
  have hts := atoms_spec (ws := hW y cy ny none) B.pre
  rw [lg_entry_eq]
  have E : hE p c cy ny s av.toArray m y.cls g := ⟨B.exec, B.bytes, hml, findClass_of_methodNamed B.named, fun w h => hts w (List.mem_cons_of_mem _ h), hG⟩
  exact body p e s m below meth c _ _ _ _ E (name_of_methodNamed B.named B.method).1 (fun d hm hS h1 h2 hp1 => hp_rv E B.returns B.notSynchronized hm hS hp1 d h1 h2) hm va_S.rf (lv_entry av hlen)
theorem hp_startQ {l : Launch} {g : hG} {y : MethodName} {cy : ByteArray} {ny k mc ms : Nat} {r : FieldType} {av : List Value} {M : hM} {post : Option Nat → hM → Prop} (hy : plainName y.cls = true) (hlen : (lg_sl av).length ≤ ny) (hty : (∃ n, r = .object n) ∨ ∃ t, r = .array t)
    (body : ∀ (p : Program) (e : Env) (s : State) (m : MethodId) (below : List Frame) (meth : Method) (c : Code) (Q : State → Prop) (H : Heap) (locs : List Loc) (ls : Array Slot), hE p c cy ny s av.toArray m y.cls g → meth.name = y.name → (∀ {H : Heap} {locs : List Loc} {cells slots : Nat} {M : hM} {v : Option Nat} {ls : Array Slot} {pc : Nat}, decode cy pc = .ok (.areturn, 1) → hp g M H → va_S (hA g) s.heap H locs → cells ≤ mc → slots ≤ ms → post v M → W p l e (hR k mc ms) s m av.toArray below meth c H locs cells slots Q (F0 m pc ls [va_rf v])) → hp g M H → va_S (hA g) s.heap H locs → lv_has ls ny (lv_args 0 av) →
      W p l e (hR k mc ms) s m av.toArray below meth c H locs 0 0 Q (F0 m 0 ls [])) : Met l y (hW y cy ny (some r)) (hR k mc ms) (hPre g M av) (va_Qq post (fun M' t => hp g M' t.heap) (hA g)) mc ms (hA g) := by
  refine Met.ofW (cc := cy) (maxL := ny) (ret := (some r)) hy rfl ?_
  intro p e s m args below meth c s₁ B hml hv
  obtain ⟨rfl, hG, hm⟩ := hv
  have hts := atoms_spec (ws := hW y cy ny (some r)) B.pre
  rw [lg_entry_eq]
  have E : hE p c cy ny s av.toArray m y.cls g := ⟨B.exec, B.bytes, hml, findClass_of_methodNamed B.named, fun w h => hts w (List.mem_cons_of_mem _ h), hG⟩
  exact body p e s m below meth c _ _ _ _ E (name_of_methodNamed B.named B.method).1 (fun d hm hS h1 h2 hp1 => hp_rq E B.returns hty B.notSynchronized hm hS hp1 d h1 h2) hm va_S.rf (lv_entry av hlen)
section HQ
variable {p : Program} {l : Launch} {e : Env} {R : Room} {s : State} {m : MethodId} {args : Array Value} {below : List Frame} {meth : Method} {c : Code} {H : Heap} {locs : List Loc} {cells slots : Nat} {Q : State → Prop}
variable {cc : ByteArray} {pc : Nat} {ls : Array Slot} {rest : List Value}
/-! references that may be null -/
theorem hq_aload_n (hexec : p.tables.exec = Jvm.exec) (hb : c.code = cc) {k : Fin 4} {i : Nat} {x : Option Nat} (hdg : decode cc pc = .ok (.aload_n k, 1)) (hi : (k : Nat) = i) (hl : ls[i]? = some (.val (va_rf x)))
    (kk : W p l e R s m args below meth c H locs cells slots Q (F0 m (pc + 1) ls (va_rf x :: rest))) : W p l e R s m args below meth c H locs cells slots Q (F0 m pc ls rest) := by
  cases x with
  | none => exact lv_aload_nN hexec hb hdg hi hl kk
  | some a => exact lv_aload_n hexec hb hdg hi hl kk
theorem hq_aload (hexec : p.tables.exec = Jvm.exec) (hb : c.code = cc) {i : Nat} {x : Option Nat} (hdg : decode cc pc = .ok (.aload i, 2)) (hl : ls[i]? = some (.val (va_rf x)))
    (kk : W p l e R s m args below meth c H locs cells slots Q (F0 m (pc + 2) ls (va_rf x :: rest))) : W p l e R s m args below meth c H locs cells slots Q (F0 m pc ls rest) := by
  cases x with
  | none => exact lv_aloadN hexec hb hdg hl kk
  | some a => exact lv_aload hexec hb hdg hl kk
theorem hq_astore_n (hexec : p.tables.exec = Jvm.exec) (hb : c.code = cc) {k : Fin 4} {i nL : Nat} {x : Option Nat} {lv lv' : List (Nat × Value)} (hdg : decode cc pc = .ok (.astore_n k, 1)) (hi : (k : Nat) = i) (h : lv_has ls nL lv) (hn : i < nL) (hl : (i, va_rf x) :: lv.filter (fun q => !(q.1 == i) && !(q.1 + 1 == i && q.2.category == 2)) = lv')
    (kk : ∀ ls' : Array Slot, lv_has ls' nL lv' → W p l e R s m args below meth c H locs cells slots Q (F0 m (pc + 1) ls' rest)) : W p l e R s m args below meth c H locs cells slots Q (F0 m pc ls (va_rf x :: rest)) := by
  cases x with
  | none => exact lv_astore_nN hexec hb hdg hi h hn hl kk
  | some a => exact lv_astore_n hexec hb hdg hi h hn hl kk
theorem hq_astore (hexec : p.tables.exec = Jvm.exec) (hb : c.code = cc) {i nL : Nat} {x : Option Nat} {lv lv' : List (Nat × Value)} (hdg : decode cc pc = .ok (.astore i, 2)) (h : lv_has ls nL lv) (hn : i < nL) (hl : (i, va_rf x) :: lv.filter (fun q => !(q.1 == i) && !(q.1 + 1 == i && q.2.category == 2)) = lv')
    (kk : ∀ ls' : Array Slot, lv_has ls' nL lv' → W p l e R s m args below meth c H locs cells slots Q (F0 m (pc + 2) ls' rest)) : W p l e R s m args below meth c H locs cells slots Q (F0 m pc ls (va_rf x :: rest)) := by
  cases x with
  | none => exact lv_astoreN hexec hb hdg h hn hl kk
  | some a => exact lv_astore hexec hb hdg h hn hl kk
theorem hq_ifnull (hexec : p.tables.exec = Jvm.exec) (hb : c.code = cc) {x : Option Nat} {off : Int} {tgt : Nat} (hdg : decode cc pc = .ok (.ifnull off, 3)) (ht : (pc : Int) + off = (tgt : Int))
    (kt : x = none → W p l e R s m args below meth c H locs cells slots Q (F0 m tgt ls rest)) (kf : ∀ a, x = some a → W p l e R s m args below meth c H locs cells slots Q (F0 m (pc + 3) ls rest)) : W p l e R s m args below meth c H locs cells slots Q (F0 m pc ls (va_rf x :: rest)) := by
  cases x with
  | none => exact lv_ifnullN hexec hb hdg ht (kt rfl)
  | some a => exact lv_ifnull hexec hb hdg (kf a rfl)
theorem hq_ifnonnull (hexec : p.tables.exec = Jvm.exec) (hb : c.code = cc) {x : Option Nat} {off : Int} {tgt : Nat} (hdg : decode cc pc = .ok (.ifnonnull off, 3)) (ht : (pc : Int) + off = (tgt : Int))
    (kt : ∀ a, x = some a → W p l e R s m args below meth c H locs cells slots Q (F0 m tgt ls rest)) (kf : x = none → W p l e R s m args below meth c H locs cells slots Q (F0 m (pc + 3) ls rest)) : W p l e R s m args below meth c H locs cells slots Q (F0 m pc ls (va_rf x :: rest)) := by
  cases x with
  | none => exact lv_ifnonnullN hexec hb hdg (kf rfl)
  | some a => exact lv_ifnonnull hexec hb hdg ht (kt a rfl)
end HQ
/-- the unsigned shift -/
def ush (x y : Int32) : Int32 := (x.toUInt32 >>> (y.toUInt32 &&& Int32.toUInt32 31)).toInt32
theorem na_i {v : Int32} : narrow .int (.int v) = .int v := rfl
theorem na_0 : narrow .boolean (.int 0) = .int 0 := by decide
theorem na_1 : narrow .boolean (.int 1) = .int 1 := by decide
def bI (b : Bool) : Int32 := if b then 1 else 0
theorem na_b {b : Bool} : narrow .boolean (.int (bI b)) = .int (bI b) := by cases b <;> decide
theorem fi_b {b : Bool} : fits .boolean (.int (bI b)) = true := by cases b <;> decide
/-! int arrays by natural places -/
section HN
variable {p : Program} {l : Launch} {e : Env} {R : Room} {s : State} {m : MethodId} {args : Array Value} {below : List Frame} {meth : Method} {c : Code} {H : Heap} {locs : List Loc} {cells slots : Nat} {Q : State → Prop}
variable {cc : ByteArray} {pc : Nat} {ls : Array Slot} {rest : List Value} {a : Nat} {g : hG} {M : hM} {own : String} {nL : Nat}
theorem hp_ialdN (E : hE p c cc nL s args m own g) (hm : hp g M H) {n : Nat} {f : Nat → Int32} (he : M a = some (aI g n f)) {x : Int32} (i : Nat) (hi : x = nI i) (hlt : i < n) (hn : n < 2 ^ 31) (hdg : decode cc pc = .ok (.iaload, 1))
    (kk : W p l e R s m args below meth c H locs cells slots Q (F0 m (pc + 1) ls (.int (f i) :: rest))) : W p l e R s m args below meth c H locs cells slots Q (F0 m pc ls (.int x :: .ref a :: rest)) := by
  subst hi
  refine hp_iald E hm he (vp_in_nI hlt hn) hdg ?_
  rw [nI_clamp (by omega)]
  exact kk
theorem hp_iastN (E : hE p c cc nL s args m own g) (hm : hp g M H) (hS : va_S (hA g) s.heap H locs) {n : Nat} {f : Nat → Int32} (he : M a = some (aI g n f)) {x v : Int32} (i : Nat) (hi : x = nI i) (hlt : i < n) (hn : n < 2 ^ 31) (hdg : decode cc pc = .ok (.iastore, 1))
    (kk : ∀ (H1 : Heap) (locs1 : List Loc), hp g (hm_up M a (aI g n (upd f i v))) H1 → va_S (hA g) s.heap H1 locs1 → W p l e R s m args below meth c H1 locs1 cells slots Q (F0 m (pc + 1) ls rest)) : W p l e R s m args below meth c H locs cells slots Q (F0 m pc ls (.int v :: .int x :: .ref a :: rest)) := by
  subst hi
  refine hp_iast E hm hS he (vp_in_nI hlt hn) hdg ?_
  rw [nI_clamp (by omega)]
  exact kk
theorem hp_ialdSN (E : hE p c cc nL s args m own g) (hS : va_S (hA g) s.heap H locs) {x : Int32} (i : Nat) (hi : x = nI i) (hlt : i < 8) (hdg : decode cc pc = .ok (.iaload, 1))
    (kk : W p l e R s m args below meth c H locs cells slots Q (F0 m (pc + 1) ls (.int (kStart i) :: rest))) : W p l e R s m args below meth c H locs cells slots Q (F0 m pc ls (.int x :: .ref (gS g) :: rest)) := by
  subst hi
  refine hp_ialdS E hS (vp_in_nI hlt (by decide)) hdg ?_
  rw [nI_clamp (by omega)]
  exact kk
theorem hp_ialdKN (E : hE p c cc nL s args m own g) (hS : va_S (hA g) s.heap H locs) {x : Int32} (i : Nat) (hi : x = nI i) (hlt : i < 64) (hdg : decode cc pc = .ok (.iaload, 1))
    (kk : W p l e R s m args below meth c H locs cells slots Q (F0 m (pc + 1) ls (.int (kRound i) :: rest))) : W p l e R s m args below meth c H locs cells slots Q (F0 m pc ls (.int x :: .ref (gK g) :: rest)) := by
  subst hi
  refine hp_ialdK E hS (vp_in_nI hlt (by decide)) hdg ?_
  rw [nI_clamp (by omega)]
  exact kk
end HN
end
section
theorem ms_X3_init : hMs yX3_init cX3_init 1 none 0 := ⟨wcode_X3_init, wn_X3, by decide, by decide, by decide +kernel⟩
theorem ms_X2_init : hMs yX2_init cX2_init 1 none 0 := ⟨wcode_X2_init, wn_X2, by decide, by decide, by decide +kernel⟩
theorem ms_X0_init : hMs yX0_init cX0_init 1 none 0 := ⟨wcode_X0_init, wn_X0, by decide, by decide, by decide +kernel⟩
theorem ms_X3_put : hMs yX3_put cX3_put 4 (some .int) 2 := ⟨wcode_X3_put, wn_X3, by decide, by decide, by decide +kernel⟩
theorem ms_X3_isKey : hMs yX3_isKey cX3_isKey 1 (some .boolean) 1 := ⟨wcode_X3_isKey, wn_X3, by decide, by decide, by decide +kernel⟩
theorem ms_X3_endOf : hMs yX3_endOf cX3_endOf 4 (some ((.object "ProofMap$Node"))) 2 := ⟨wcode_X3_endOf, wn_X3, by decide, by decide, by decide +kernel⟩
theorem ms_X3_countOf : hMs yX3_countOf cX3_countOf 1 (some .int) 1 := ⟨wcode_X3_countOf, wn_X3, by decide, by decide, by decide +kernel⟩
theorem ms_X3_bitAt : hMs yX3_bitAt cX3_bitAt 2 (some .int) 2 := ⟨wcode_X3_bitAt, wn_X3, by decide, by decide, by decide +kernel⟩
theorem ms_X3_half : hMs yX3_half cX3_half 3 (some ((.object "ProofMap$Node"))) 3 := ⟨wcode_X3_half, wn_X3, by decide, by decide, by decide +kernel⟩
theorem ms_X3_isEntry : hMs yX3_isEntry cX3_isEntry 2 (some .boolean) 2 := ⟨wcode_X3_isEntry, wn_X3, by decide, by decide, by decide +kernel⟩
theorem ms_X1_init : hMs yX1_init cX1_init 3 none 2 := ⟨wcode_X1_init, wn_X1, by decide, by decide, by decide +kernel⟩
theorem ms_X3_replaced : hMs yX3_replaced cX3_replaced 7 (some ((.object "ProofMap$Node"))) 4 := ⟨wcode_X3_replaced, wn_X3, by decide, by decide, by decide +kernel⟩
theorem ms_X3_joined : hMs yX3_joined cX3_joined 2 (some ((.object "ProofMap$Node"))) 2 := ⟨wcode_X3_joined, wn_X3, by decide, by decide, by decide +kernel⟩
theorem ms_X1_init_ : hMs yX1_init_ cX1_init_ 3 none 2 := ⟨wcode_X1_init_, wn_X1, by decide, by decide, by decide +kernel⟩
theorem ms_X3_remove : hMs yX3_remove cX3_remove 2 (some .int) 1 := ⟨wcode_X3_remove, wn_X3, by decide, by decide, by decide +kernel⟩
theorem ms_X3_get : hMs yX3_get cX3_get 4 (some .long) 2 := ⟨wcode_X3_get, wn_X3, by decide, by decide, by decide +kernel⟩
theorem ms_X3_isVersion : hMs yX3_isVersion cX3_isVersion 2 (some .boolean) 1 := ⟨wcode_X3_isVersion, wn_X3, by decide, by decide, by decide +kernel⟩
theorem ms_X3_rootOf : hMs yX3_rootOf cX3_rootOf 2 (some ((.object "ProofMap$Node"))) 1 := ⟨wcode_X3_rootOf, wn_X3, by decide, by decide, by decide +kernel⟩
theorem ms_X3_size : hMs yX3_size cX3_size 2 (some .int) 1 := ⟨wcode_X3_size, wn_X3, by decide, by decide, by decide +kernel⟩
theorem ms_X3_commit : hMs yX3_commit cX3_commit 2 (some .int) 0 := ⟨wcode_X3_commit, wn_X3, by decide, by decide, by decide +kernel⟩
theorem ms_X3_back : hMs yX3_back cX3_back 2 (some .int) 1 := ⟨wcode_X3_back, wn_X3, by decide, by decide, by decide +kernel⟩
theorem ms_X3_word : hMs yX3_word cX3_word 3 (some .int) 2 := ⟨wcode_X3_word, wn_X3, by decide, by decide, by decide +kernel⟩
theorem ms_X3_isWord : hMs yX3_isWord cX3_isWord 1 (some .boolean) 1 := ⟨wcode_X3_isWord, wn_X3, by decide, by decide, by decide +kernel⟩
theorem ms_X3_digestOf : hMs yX3_digestOf cX3_digestOf 6 (some ((.array .int))) 3 := ⟨wcode_X3_digestOf, wn_X3, by decide, by decide, by decide +kernel⟩
theorem ms_X0_hashEntry : hMs yX0_hashEntry cX0_hashEntry 4 none 3 := ⟨wcode_X0_hashEntry, wn_X0, by decide, by decide, by decide +kernel⟩
theorem ms_X0_clearMessage : hMs yX0_clearMessage cX0_clearMessage 2 none 0 := ⟨wcode_X0_clearMessage, wn_X0, by decide, by decide, by decide +kernel⟩
theorem ms_X0_start : hMs yX0_start cX0_start 1 none 0 := ⟨wcode_X0_start, wn_X0, by decide, by decide, by decide +kernel⟩
theorem ms_X3_copyWords : hMs yX3_copyWords cX3_copyWords 3 none 2 := ⟨wcode_X3_copyWords, wn_X3, by decide, by decide, by decide +kernel⟩
theorem ms_X0_compress : hMs yX0_compress cX0_compress 16 none 1 := ⟨wcode_X0_compress, wn_X0, by decide, by decide, by decide +kernel⟩
theorem ms_X0_spread : hMs yX0_spread cX0_spread 7 none 1 := ⟨wcode_X0_spread, wn_X0, by decide, by decide, by decide +kernel⟩
theorem ms_X0_turned : hMs yX0_turned cX0_turned 2 (some .int) 2 := ⟨wcode_X0_turned, wn_X0, by decide, by decide, by decide +kernel⟩
theorem ms_X0_hashPair : hMs yX0_hashPair cX0_hashPair 6 none 3 := ⟨wcode_X0_hashPair, wn_X0, by decide, by decide, by decide +kernel⟩
theorem ms_X3_prove : hMs yX3_prove cX3_prove 6 (some .int) 2 := ⟨wcode_X3_prove, wn_X3, by decide, by decide, by decide +kernel⟩
theorem ms_X2_endWithNothing : hMs yX2_endWithNothing cX2_endWithNothing 1 none 0 := ⟨wcode_X2_endWithNothing, wn_X2, by decide, by decide, by decide +kernel⟩
theorem ms_X2_endWithEntry : hMs yX2_endWithEntry cX2_endWithEntry 3 none 2 := ⟨wcode_X2_endWithEntry, wn_X2, by decide, by decide, by decide +kernel⟩
theorem ms_X3_siblings : hMs yX3_siblings cX3_siblings 1 (some .int) 0 := ⟨wcode_X3_siblings, wn_X3, by decide, by decide, by decide +kernel⟩
theorem ms_X3_sibling : hMs yX3_sibling cX3_sibling 3 (some .int) 2 := ⟨wcode_X3_sibling, wn_X3, by decide, by decide, by decide +kernel⟩
theorem ms_X3_isSibling : hMs yX3_isSibling cX3_isSibling 2 (some .boolean) 1 := ⟨wcode_X3_isSibling, wn_X3, by decide, by decide, by decide +kernel⟩
theorem ms_X3_end : hMs yX3_end cX3_end 2 (some .int) 1 := ⟨wcode_X3_end, wn_X3, by decide, by decide, by decide +kernel⟩
theorem ms_X3_alter : hMs yX3_alter cX3_alter 4 (some .int) 3 := ⟨wcode_X3_alter, wn_X3, by decide, by decide, by decide +kernel⟩
theorem ms_X3_claim : hMs yX3_claim cX3_claim 3 (some .int) 2 := ⟨wcode_X3_claim, wn_X3, by decide, by decide, by decide +kernel⟩
theorem ms_X3_cut : hMs yX3_cut cX3_cut 2 (some .int) 1 := ⟨wcode_X3_cut, wn_X3, by decide, by decide, by decide +kernel⟩
theorem ms_X3_verify : hMs yX3_verify cX3_verify 3 (some .int) 2 := ⟨wcode_X3_verify, wn_X3, by decide, by decide, by decide +kernel⟩
theorem ms_X3_sameFirstBits : hMs yX3_sameFirstBits cX3_sameFirstBits 3 (some .int) 2 := ⟨wcode_X3_sameFirstBits, wn_X3, by decide, by decide, by decide +kernel⟩
theorem ms_X3_foldProof : hMs yX3_foldProof cX3_foldProof 3 none 1 := ⟨wcode_X3_foldProof, wn_X3, by decide, by decide, by decide +kernel⟩
theorem ms_J9_min_7cf53 : hMs yJ9_min_7cf53 cJ9_min_7cf53 2 (some .int) 2 := ⟨wcode_J9_min_7cf53, wn_J9, by decide, by decide, by decide +kernel⟩
theorem ms_X3_sameWords : hMs yX3_sameWords cX3_sameWords 3 (some .boolean) 2 := ⟨wcode_X3_sameWords, wn_X3, by decide, by decide, by decide +kernel⟩
theorem ms_X3_alike : hMs yX3_alike cX3_alike 3 (some .int) 2 := ⟨wcode_X3_alike, wn_X3, by decide, by decide, by decide +kernel⟩
theorem ms_X3_versions : hMs yX3_versions cX3_versions 1 (some .int) 0 := ⟨wcode_X3_versions, wn_X3, by decide, by decide, by decide +kernel⟩
theorem ms_X4_init : hMs yX4_init cX4_init 1 none 0 := ⟨wcode_X4_init, wn_X4, by decide, by decide, by decide +kernel⟩
theorem ms_X4_put : hMs yX4_put cX4_put 7 (some .int) 2 := ⟨wcode_X4_put, wn_X4, by decide, by decide, by decide +kernel⟩
theorem ms_X4_isKey : hMs yX4_isKey cX4_isKey 1 (some .boolean) 1 := ⟨wcode_X4_isKey, wn_X4, by decide, by decide, by decide +kernel⟩
theorem ms_X4_find : hMs yX4_find cX4_find 4 (some .int) 2 := ⟨wcode_X4_find, wn_X4, by decide, by decide, by decide +kernel⟩
theorem ms_X4_isThere : hMs yX4_isThere cX4_isThere 4 (some .boolean) 3 := ⟨wcode_X4_isThere, wn_X4, by decide, by decide, by decide +kernel⟩
theorem ms_X4_remove : hMs yX4_remove cX4_remove 5 (some .int) 1 := ⟨wcode_X4_remove, wn_X4, by decide, by decide, by decide +kernel⟩
theorem ms_X4_get : hMs yX4_get cX4_get 5 (some .long) 2 := ⟨wcode_X4_get, wn_X4, by decide, by decide, by decide +kernel⟩
theorem ms_X4_isVersion : hMs yX4_isVersion cX4_isVersion 2 (some .boolean) 1 := ⟨wcode_X4_isVersion, wn_X4, by decide, by decide, by decide +kernel⟩
theorem ms_X4_rowOf : hMs yX4_rowOf cX4_rowOf 1 (some .int) 1 := ⟨wcode_X4_rowOf, wn_X4, by decide, by decide, by decide +kernel⟩
theorem ms_X4_size : hMs yX4_size cX4_size 2 (some .int) 1 := ⟨wcode_X4_size, wn_X4, by decide, by decide, by decide +kernel⟩
theorem ms_X4_commit : hMs yX4_commit cX4_commit 1 (some .int) 0 := ⟨wcode_X4_commit, wn_X4, by decide, by decide, by decide +kernel⟩
theorem ms_X4_know : hMs yX4_know cX4_know 1 none 0 := ⟨wcode_X4_know, wn_X4, by decide, by decide, by decide +kernel⟩
theorem ms_X4_work : hMs yX4_work cX4_work 4 none 2 := ⟨wcode_X4_work, wn_X4, by decide, by decide, by decide +kernel⟩
theorem ms_X4_begin : hMs yX4_begin cX4_begin 5 none 1 := ⟨wcode_X4_begin, wn_X4, by decide, by decide, by decide +kernel⟩
theorem ms_X4_leaf : hMs yX4_leaf cX4_leaf 4 none 2 := ⟨wcode_X4_leaf, wn_X4, by decide, by decide, by decide +kernel⟩
theorem ms_X4_digest : hMs yX4_digest cX4_digest 4 none 1 := ⟨wcode_X4_digest, wn_X4, by decide, by decide, by decide +kernel⟩
theorem ms_X4_mix : hMs yX4_mix cX4_mix 13 none 1 := ⟨wcode_X4_mix, wn_X4, by decide, by decide, by decide +kernel⟩
theorem ms_X4_turned : hMs yX4_turned cX4_turned 2 (some .int) 2 := ⟨wcode_X4_turned, wn_X4, by decide, by decide, by decide +kernel⟩
theorem ms_X4_look : hMs yX4_look cX4_look 6 none 2 := ⟨wcode_X4_look, wn_X4, by decide, by decide, by decide +kernel⟩
theorem ms_X4_up : hMs yX4_up cX4_up 6 none 0 := ⟨wcode_X4_up, wn_X4, by decide, by decide, by decide +kernel⟩
theorem ms_X4_copyNode : hMs yX4_copyNode cX4_copyNode 4 none 2 := ⟨wcode_X4_copyNode, wn_X4, by decide, by decide, by decide +kernel⟩
theorem ms_X4_half : hMs yX4_half cX4_half 5 none 3 := ⟨wcode_X4_half, wn_X4, by decide, by decide, by decide +kernel⟩
theorem ms_X4_join : hMs yX4_join cX4_join 1 none 0 := ⟨wcode_X4_join, wn_X4, by decide, by decide, by decide +kernel⟩
theorem ms_X4_copyRow : hMs yX4_copyRow cX4_copyRow 4 none 2 := ⟨wcode_X4_copyRow, wn_X4, by decide, by decide, by decide +kernel⟩
theorem ms_X4_back : hMs yX4_back cX4_back 2 (some .int) 1 := ⟨wcode_X4_back, wn_X4, by decide, by decide, by decide +kernel⟩
theorem ms_X4_word : hMs yX4_word cX4_word 3 (some .int) 2 := ⟨wcode_X4_word, wn_X4, by decide, by decide, by decide +kernel⟩
theorem ms_X4_prove : hMs yX4_prove cX4_prove 4 (some .int) 2 := ⟨wcode_X4_prove, wn_X4, by decide, by decide, by decide +kernel⟩
theorem ms_X4_siblings : hMs yX4_siblings cX4_siblings 1 (some .int) 0 := ⟨wcode_X4_siblings, wn_X4, by decide, by decide, by decide +kernel⟩
theorem ms_X4_sibling : hMs yX4_sibling cX4_sibling 3 (some .int) 2 := ⟨wcode_X4_sibling, wn_X4, by decide, by decide, by decide +kernel⟩
theorem ms_X4_isSibling : hMs yX4_isSibling cX4_isSibling 3 (some .boolean) 2 := ⟨wcode_X4_isSibling, wn_X4, by decide, by decide, by decide +kernel⟩
theorem ms_X4_end : hMs yX4_end cX4_end 2 (some .int) 1 := ⟨wcode_X4_end, wn_X4, by decide, by decide, by decide +kernel⟩
theorem ms_X4_alter : hMs yX4_alter cX4_alter 4 (some .int) 3 := ⟨wcode_X4_alter, wn_X4, by decide, by decide, by decide +kernel⟩
theorem ms_X4_claim : hMs yX4_claim cX4_claim 3 (some .int) 2 := ⟨wcode_X4_claim, wn_X4, by decide, by decide, by decide +kernel⟩
theorem ms_X4_cut : hMs yX4_cut cX4_cut 2 (some .int) 1 := ⟨wcode_X4_cut, wn_X4, by decide, by decide, by decide +kernel⟩
theorem ms_X4_verify : hMs yX4_verify cX4_verify 6 (some .int) 2 := ⟨wcode_X4_verify, wn_X4, by decide, by decide, by decide +kernel⟩
theorem ms_X4_bitsAlike : hMs yX4_bitsAlike cX4_bitsAlike 3 (some .int) 2 := ⟨wcode_X4_bitsAlike, wn_X4, by decide, by decide, by decide +kernel⟩
theorem ms_X4_alike : hMs yX4_alike cX4_alike 3 (some .int) 2 := ⟨wcode_X4_alike, wn_X4, by decide, by decide, by decide +kernel⟩
theorem ms_X4_versions : hMs yX4_versions cX4_versions 1 (some .int) 0 := ⟨wcode_X4_versions, wn_X4, by decide, by decide, by decide +kernel⟩
theorem cat_rf (r : Option Nat) : (va_rf r).category = 1 := by cases r <;> rfl
end
section
def isK (k : Int32) : Bool := decide (0 ≤ k) && decide (k < 65536)
def isW (k : Int32) : Bool := decide (0 ≤ k) && decide (k < 8)
theorem i_nlt0 {x : Int32} (h : ¬ x < 0) : 0 ≤ x := Int32.not_lt.mp h
theorem isK_a {k : Int32} (h : k < 0) : isK k = false := by simp [isK, Int32.not_le.mpr h]
theorem isK_b {k : Int32} (h : 65536 ≤ k) : isK k = false := by simp [isK, Int32.not_lt.mpr h]
theorem isK_c {k : Int32} (h : ¬ k < 0) (h2 : ¬ 65536 ≤ k) : isK k = true := by simp [isK, Int32.not_lt.mp h, Int32.not_le.mp h2]
theorem isW_a {k : Int32} (h : k < 0) : isW k = false := by simp [isW, Int32.not_le.mpr h]
theorem isW_b {k : Int32} (h : 8 ≤ k) : isW k = false := by simp [isW, Int32.not_lt.mpr h]
theorem isW_c {k : Int32} (h : ¬ k < 0) (h2 : ¬ 8 ≤ k) : isW k = true := by simp [isW, Int32.not_lt.mp h, Int32.not_le.mp h2]
set_option maxHeartbeats 4000000 in
set_option maxRecDepth 100000 in
theorem c_X3_isKey (l : Launch) (g : hG) (M : hM) (k0 : Int32) : Ci l g yX3_isKey cX3_isKey 1 .boolean 1 0 0 [.int k0] M (fun r M9 => r = bI (isK k0) ∧ M9 = M) := by
  refine hp_startI (by decide) (by exact Nat.le_of_ble_eq_true rfl) ?_
  intro p e s m below meth c Q H locs ls E hnm ret hm hS hl
  have hx := E.1
  have hb := E.2.1
  have hown := E.2.2.2.1
  have hts := E.2.2.2.2.1
  have hl : lv_has ls 1 [(0, .int k0)] := hl
  refine lv_iload_n hx hb dX3_isKey_0 rfl (lv_at hl 0 rfl) ?_
  refine lv_if_lt (tgt := 14) hx hb dX3_isKey_1 (by decide) (fun c_1 => ?_) (fun c_1 => ?_)
  · refine lv_iconst (v := 0) hx hb dX3_isKey_14 (by decide) ?_
    exact ret dX3_isKey_15 na_0 hm hS (Nat.le_of_ble_eq_true rfl) (Nat.le_of_ble_eq_true rfl) (⟨by first | (rw [isK_a c_1]; rfl) | (rw [isK_b c_7]; rfl) | (rw [isK_b c_6]; rfl) | (rw [isK_c c_1 c_7]; rfl) | (rw [isK_c c_1 c_6]; rfl), rfl⟩)
  · refine lv_iload_n hx hb dX3_isKey_4 rfl (lv_at hl 0 rfl) ?_
    refine lv_ldc (v := 65536) hx hb hown (hts _ wk_X3_131) dX3_isKey_5 ?_
    refine lv_icmp_ge (tgt := 14) hx hb dX3_isKey_7 (by decide) (fun c_7 => ?_) (fun c_7 => ?_)
    · refine lv_iconst (v := 0) hx hb dX3_isKey_14 (by decide) ?_
      exact ret dX3_isKey_15 na_0 hm hS (Nat.le_of_ble_eq_true rfl) (Nat.le_of_ble_eq_true rfl) (⟨by first | (rw [isK_a c_1]; rfl) | (rw [isK_b c_7]; rfl) | (rw [isK_b c_6]; rfl) | (rw [isK_c c_1 c_7]; rfl) | (rw [isK_c c_1 c_6]; rfl), rfl⟩)
    · refine lv_iconst (v := 1) hx hb dX3_isKey_10 (by decide) ?_
      refine lv_goto (tgt := 15) hx hb dX3_isKey_11 (by decide) ?_
      exact ret dX3_isKey_15 na_1 hm hS (Nat.le_of_ble_eq_true rfl) (Nat.le_of_ble_eq_true rfl) (⟨by first | (rw [isK_a c_1]; rfl) | (rw [isK_b c_7]; rfl) | (rw [isK_b c_6]; rfl) | (rw [isK_c c_1 c_7]; rfl) | (rw [isK_c c_1 c_6]; rfl), rfl⟩)
set_option maxHeartbeats 4000000 in
set_option maxRecDepth 100000 in
theorem c_X4_isKey (l : Launch) (g : hG) (M : hM) (k0 : Int32) : Ci l g yX4_isKey cX4_isKey 1 .boolean 1 0 0 [.int k0] M (fun r M9 => r = bI (isK k0) ∧ M9 = M) := by
  refine hp_startI (by decide) (by exact Nat.le_of_ble_eq_true rfl) ?_
  intro p e s m below meth c Q H locs ls E hnm ret hm hS hl
  have hx := E.1
  have hb := E.2.1
  have hown := E.2.2.2.1
  have hts := E.2.2.2.2.1
  have hl : lv_has ls 1 [(0, .int k0)] := hl
  refine lv_iload_n hx hb dX4_isKey_0 rfl (lv_at hl 0 rfl) ?_
  refine lv_if_lt (tgt := 14) hx hb dX4_isKey_1 (by decide) (fun c_1 => ?_) (fun c_1 => ?_)
  · refine lv_iconst (v := 0) hx hb dX4_isKey_14 (by decide) ?_
    exact ret dX4_isKey_15 na_0 hm hS (Nat.le_of_ble_eq_true rfl) (Nat.le_of_ble_eq_true rfl) (⟨by first | (rw [isK_a c_1]; rfl) | (rw [isK_b c_7]; rfl) | (rw [isK_b c_6]; rfl) | (rw [isK_c c_1 c_7]; rfl) | (rw [isK_c c_1 c_6]; rfl), rfl⟩)
  · refine lv_iload_n hx hb dX4_isKey_4 rfl (lv_at hl 0 rfl) ?_
    refine lv_ldc (v := 65536) hx hb hown (hts _ wk_X4_133) dX4_isKey_5 ?_
    refine lv_icmp_ge (tgt := 14) hx hb dX4_isKey_7 (by decide) (fun c_7 => ?_) (fun c_7 => ?_)
    · refine lv_iconst (v := 0) hx hb dX4_isKey_14 (by decide) ?_
      exact ret dX4_isKey_15 na_0 hm hS (Nat.le_of_ble_eq_true rfl) (Nat.le_of_ble_eq_true rfl) (⟨by first | (rw [isK_a c_1]; rfl) | (rw [isK_b c_7]; rfl) | (rw [isK_b c_6]; rfl) | (rw [isK_c c_1 c_7]; rfl) | (rw [isK_c c_1 c_6]; rfl), rfl⟩)
    · refine lv_iconst (v := 1) hx hb dX4_isKey_10 (by decide) ?_
      refine lv_goto (tgt := 15) hx hb dX4_isKey_11 (by decide) ?_
      exact ret dX4_isKey_15 na_1 hm hS (Nat.le_of_ble_eq_true rfl) (Nat.le_of_ble_eq_true rfl) (⟨by first | (rw [isK_a c_1]; rfl) | (rw [isK_b c_7]; rfl) | (rw [isK_b c_6]; rfl) | (rw [isK_c c_1 c_7]; rfl) | (rw [isK_c c_1 c_6]; rfl), rfl⟩)
set_option maxHeartbeats 4000000 in
set_option maxRecDepth 100000 in
theorem c_X3_isWord (l : Launch) (g : hG) (M : hM) (k0 : Int32) : Ci l g yX3_isWord cX3_isWord 1 .boolean 1 0 0 [.int k0] M (fun r M9 => r = bI (isW k0) ∧ M9 = M) := by
  refine hp_startI (by decide) (by exact Nat.le_of_ble_eq_true rfl) ?_
  intro p e s m below meth c Q H locs ls E hnm ret hm hS hl
  have hx := E.1
  have hb := E.2.1
  have hown := E.2.2.2.1
  have hts := E.2.2.2.2.1
  have hl : lv_has ls 1 [(0, .int k0)] := hl
  refine lv_iload_n hx hb dX3_isWord_0 rfl (lv_at hl 0 rfl) ?_
  refine lv_if_lt (tgt := 14) hx hb dX3_isWord_1 (by decide) (fun c_1 => ?_) (fun c_1 => ?_)
  · refine lv_iconst (v := 0) hx hb dX3_isWord_14 (by decide) ?_
    exact ret dX3_isWord_15 na_0 hm hS (Nat.le_of_ble_eq_true rfl) (Nat.le_of_ble_eq_true rfl) (⟨by first | (rw [isW_a c_1]; rfl) | (rw [isW_b c_7]; rfl) | (rw [isW_b c_6]; rfl) | (rw [isW_c c_1 c_7]; rfl) | (rw [isW_c c_1 c_6]; rfl), rfl⟩)
  · refine lv_iload_n hx hb dX3_isWord_4 rfl (lv_at hl 0 rfl) ?_
    refine lv_bipush (v := 8) hx hb dX3_isWord_5 (by decide) ?_
    refine lv_icmp_ge (tgt := 14) hx hb dX3_isWord_7 (by decide) (fun c_7 => ?_) (fun c_7 => ?_)
    · refine lv_iconst (v := 0) hx hb dX3_isWord_14 (by decide) ?_
      exact ret dX3_isWord_15 na_0 hm hS (Nat.le_of_ble_eq_true rfl) (Nat.le_of_ble_eq_true rfl) (⟨by first | (rw [isW_a c_1]; rfl) | (rw [isW_b c_7]; rfl) | (rw [isW_b c_6]; rfl) | (rw [isW_c c_1 c_7]; rfl) | (rw [isW_c c_1 c_6]; rfl), rfl⟩)
    · refine lv_iconst (v := 1) hx hb dX3_isWord_10 (by decide) ?_
      refine lv_goto (tgt := 15) hx hb dX3_isWord_11 (by decide) ?_
      exact ret dX3_isWord_15 na_1 hm hS (Nat.le_of_ble_eq_true rfl) (Nat.le_of_ble_eq_true rfl) (⟨by first | (rw [isW_a c_1]; rfl) | (rw [isW_b c_7]; rfl) | (rw [isW_b c_6]; rfl) | (rw [isW_c c_1 c_7]; rfl) | (rw [isW_c c_1 c_6]; rfl), rfl⟩)
/-- the bit of a key behind its first d -/
def bitA (k d : Int32) : Int32 := ush k (15 - d) &&& 1
set_option maxHeartbeats 4000000 in
set_option maxRecDepth 100000 in
theorem c_X3_bitAt (l : Launch) (g : hG) (M : hM) (k0 d0 : Int32) : Ci l g yX3_bitAt cX3_bitAt 2 .int 1 0 0 [.int k0, .int d0] M (fun r M9 => r = bitA k0 d0 ∧ M9 = M) := by
  refine hp_startI (by decide) (by exact Nat.le_of_ble_eq_true rfl) ?_
  intro p e s m below meth c Q H locs ls E hnm ret hm hS hl
  have hx := E.1
  have hb := E.2.1
  have hown := E.2.2.2.1
  have hts := E.2.2.2.2.1
  have hl : lv_has ls 2 [(0, .int k0), (1, .int d0)] := hl
  refine lv_iload_n hx hb dX3_bitAt_0 rfl (lv_at hl 0 rfl) ?_
  refine lv_bipush (v := 15) hx hb dX3_bitAt_1 (by decide) ?_
  refine lv_iload_n hx hb dX3_bitAt_3 rfl (lv_at hl 1 rfl) ?_
  refine lv_isub hx hb dX3_bitAt_4 ?_
  refine lv_iushr (v := ush k0 (15 - d0)) hx hb dX3_bitAt_5 rfl ?_
  refine lv_iconst (v := 1) hx hb dX3_bitAt_6 (by decide) ?_
  refine lv_iand hx hb dX3_bitAt_7 ?_
  exact ret dX3_bitAt_8 na_i hm hS (Nat.le_of_ble_eq_true rfl) (Nat.le_of_ble_eq_true rfl) (⟨rfl, rfl⟩)
/-- a word turned right -/
def tur (x n : Int32) : Int32 := ush x n ||| (x <<< ((32 - n) &&& 31))
set_option maxHeartbeats 4000000 in
set_option maxRecDepth 100000 in
theorem c_X0_turned (l : Launch) (g : hG) (M : hM) (x0 n0 : Int32) : Ci l g yX0_turned cX0_turned 2 .int 1 0 0 [.int x0, .int n0] M (fun r M9 => r = tur x0 n0 ∧ M9 = M) := by
  refine hp_startI (by decide) (by exact Nat.le_of_ble_eq_true rfl) ?_
  intro p e s m below meth c Q H locs ls E hnm ret hm hS hl
  have hx := E.1
  have hb := E.2.1
  have hown := E.2.2.2.1
  have hts := E.2.2.2.2.1
  have hl : lv_has ls 2 [(0, .int x0), (1, .int n0)] := hl
  refine lv_iload_n hx hb dX0_turned_0 rfl (lv_at hl 0 rfl) ?_
  refine lv_iload_n hx hb dX0_turned_1 rfl (lv_at hl 1 rfl) ?_
  refine lv_iushr (v := ush x0 n0) hx hb dX0_turned_2 rfl ?_
  refine lv_iload_n hx hb dX0_turned_3 rfl (lv_at hl 0 rfl) ?_
  refine lv_bipush (v := 32) hx hb dX0_turned_4 (by decide) ?_
  refine lv_iload_n hx hb dX0_turned_6 rfl (lv_at hl 1 rfl) ?_
  refine lv_isub hx hb dX0_turned_7 ?_
  refine lv_ishl hx hb dX0_turned_8 ?_
  refine lv_ior hx hb dX0_turned_9 ?_
  exact ret dX0_turned_10 na_i hm hS (Nat.le_of_ble_eq_true rfl) (Nat.le_of_ble_eq_true rfl) (⟨rfl, rfl⟩)
set_option maxHeartbeats 4000000 in
set_option maxRecDepth 100000 in
theorem c_X4_turned (l : Launch) (g : hG) (M : hM) (x0 n0 : Int32) : Ci l g yX4_turned cX4_turned 2 .int 1 0 0 [.int x0, .int n0] M (fun r M9 => r = tur x0 n0 ∧ M9 = M) := by
  refine hp_startI (by decide) (by exact Nat.le_of_ble_eq_true rfl) ?_
  intro p e s m below meth c Q H locs ls E hnm ret hm hS hl
  have hx := E.1
  have hb := E.2.1
  have hown := E.2.2.2.1
  have hts := E.2.2.2.2.1
  have hl : lv_has ls 2 [(0, .int x0), (1, .int n0)] := hl
  refine lv_iload_n hx hb dX4_turned_0 rfl (lv_at hl 0 rfl) ?_
  refine lv_iload_n hx hb dX4_turned_1 rfl (lv_at hl 1 rfl) ?_
  refine lv_iushr (v := ush x0 n0) hx hb dX4_turned_2 rfl ?_
  refine lv_iload_n hx hb dX4_turned_3 rfl (lv_at hl 0 rfl) ?_
  refine lv_bipush (v := 32) hx hb dX4_turned_4 (by decide) ?_
  refine lv_iload_n hx hb dX4_turned_6 rfl (lv_at hl 1 rfl) ?_
  refine lv_isub hx hb dX4_turned_7 ?_
  refine lv_ishl hx hb dX4_turned_8 ?_
  refine lv_ior hx hb dX4_turned_9 ?_
  exact ret dX4_turned_10 na_i hm hS (Nat.le_of_ble_eq_true rfl) (Nat.le_of_ble_eq_true rfl) (⟨rfl, rfl⟩)
/-- the row of a version -/
def rowO (v : Int32) : Int32 := if 0 ≤ v then v else 60
set_option maxHeartbeats 4000000 in
set_option maxRecDepth 100000 in
theorem c_X4_rowOf (l : Launch) (g : hG) (M : hM) (v0 : Int32) : Ci l g yX4_rowOf cX4_rowOf 1 .int 1 0 0 [.int v0] M (fun r M9 => r = rowO v0 ∧ M9 = M) := by
  refine hp_startI (by decide) (by exact Nat.le_of_ble_eq_true rfl) ?_
  intro p e s m below meth c Q H locs ls E hnm ret hm hS hl
  have hx := E.1
  have hb := E.2.1
  have hown := E.2.2.2.1
  have hts := E.2.2.2.2.1
  have hl : lv_has ls 1 [(0, .int v0)] := hl
  refine lv_iload_n hx hb dX4_rowOf_0 rfl (lv_at hl 0 rfl) ?_
  refine lv_if_ge (tgt := 9) hx hb dX4_rowOf_1 (by decide) (fun c_1 => ?_) (fun c_1 => ?_)
  · refine lv_iload_n hx hb dX4_rowOf_9 rfl (lv_at hl 0 rfl) ?_
    exact ret dX4_rowOf_10 na_i hm hS (Nat.le_of_ble_eq_true rfl) (Nat.le_of_ble_eq_true rfl) (⟨by first | rw [rowO, if_pos c_1] | rw [rowO, if_neg c_1], rfl⟩)
  · refine lv_bipush (v := 60) hx hb dX4_rowOf_4 (by decide) ?_
    refine lv_goto (tgt := 10) hx hb dX4_rowOf_6 (by decide) ?_
    exact ret dX4_rowOf_10 na_i hm hS (Nat.le_of_ble_eq_true rfl) (Nat.le_of_ble_eq_true rfl) (⟨by first | rw [rowO, if_pos c_1] | rw [rowO, if_neg c_1], rfl⟩)
end
section
/-! the words of SHA-256, as both programs reckon them -/
def sE (x : Int32) : Int32 := (tur x 7 ^^^ tur x 18) ^^^ ush x 3
def sL (x : Int32) : Int32 := (tur x 17 ^^^ tur x 19) ^^^ ush x 10
def bE (x : Int32) : Int32 := (tur x 6 ^^^ tur x 11) ^^^ tur x 25
def bA (x : Int32) : Int32 := (tur x 2 ^^^ tur x 13) ^^^ tur x 22
def chF (x y z : Int32) : Int32 := (x &&& y) ^^^ ((x ^^^ (-1)) &&& z)
def mjF (x y z : Int32) : Int32 := ((x &&& y) ^^^ (x &&& z)) ^^^ (y &&& z)
/-- the schedule after n steps behind the sixteenth word -/
def schF (w : Nat → Int32) : Nat → Nat → Int32
  | 0 => w
  | n + 1 => upd (schF w n) (16 + n) (((sL (schF w n (14 + n)) + schF w n (9 + n)) + sE (schF w n (1 + n))) + schF w n n)
abbrev S8 : Type := Int32 × Int32 × Int32 × Int32 × Int32 × Int32 × Int32 × Int32
def rdS (t : S8) (k w : Int32) : S8 := match t with
  | (a, b, c, d, e, f, g, h) => (((((((h + bE e) + chF e f g) + k) + w) + bA a) + mjF a b c), a, b, c, d + ((((h + bE e) + chF e f g) + k) + w), e, f, g)
def rdF (w : Nat → Int32) (t : S8) : Nat → S8
  | 0 => t
  | n + 1 => rdS (rdF w t n) (kRound n) (w n)
def at8 (t : S8) (j : Nat) : Int32 := match t, j with
  | (a, _, _, _, _, _, _, _), 0 => a
  | (_, b, _, _, _, _, _, _), 1 => b
  | (_, _, c, _, _, _, _, _), 2 => c
  | (_, _, _, d, _, _, _, _), 3 => d
  | (_, _, _, _, e, _, _, _), 4 => e
  | (_, _, _, _, _, f, _, _), 5 => f
  | (_, _, _, _, _, _, g, _), 6 => g
  | (_, _, _, _, _, _, _, h), _ => h
def of8 (s : Nat → Int32) : S8 := (s 0, s 1, s 2, s 3, s 4, s 5, s 6, s 7)
/-- a block taken in -/
def shaB (s w : Nat → Int32) : Nat → Int32 := fun j => s j + at8 (rdF (schF w 48) (of8 s) 64) j
theorem lt8 {j : Nat} (h : j < 8) : j = 0 ∨ j = 1 ∨ j = 2 ∨ j = 3 ∨ j = 4 ∨ j = 5 ∨ j = 6 ∨ j = 7 := by omega
theorem schF_w {w w' : Nat → Int32} (h : ∀ j, j < 16 → w j = w' j) : ∀ n j, j < 16 + n → schF w n j = schF w' n j
  | 0, j, hj => h j hj
  | n + 1, j, hj => by
    have ih := schF_w h n
    unfold schF
    by_cases hq : j = 16 + n
    · subst hq
      rw [pk_us, pk_us, ih (14 + n) (by omega), ih (9 + n) (by omega), ih (1 + n) (by omega), ih n (by omega)]
    · rw [pk_un hq, pk_un hq, ih j (by omega)]
theorem rdF_w {w w' : Nat → Int32} (t : S8) : ∀ n, (∀ j, j < n → w j = w' j) → rdF w t n = rdF w' t n
  | 0, _ => rfl
  | n + 1, h => by
    show rdS (rdF w t n) (kRound n) (w n) = rdS (rdF w' t n) (kRound n) (w' n)
    rw [rdF_w t n (fun j hj => h j (by omega)), h n (by omega)]
theorem shaB_w {s s' w w' : Nat → Int32} (hs : ∀ j, j < 8 → s j = s' j) (h : ∀ j, j < 16 → w j = w' j) {j : Nat} (hj : j < 8) : shaB s w j = shaB s' w' j := by
  have e : of8 s = of8 s' := by unfold of8; rw [hs 0 (by omega), hs 1 (by omega), hs 2 (by omega), hs 3 (by omega), hs 4 (by omega), hs 5 (by omega), hs 6 (by omega), hs 7 (by omega)]
  show s j + at8 (rdF (schF w 48) (of8 s) 64) j = s' j + at8 (rdF (schF w' 48) (of8 s') 64) j
  rw [hs j hj, e, rdF_w (of8 s') 64 (fun i hi => schF_w h 48 i (by omega))]
set_option maxHeartbeats 4000000 in
set_option maxRecDepth 100000 in
theorem c_X3_copyWords (l : Launch) (g : hG) (M : hM) (a b : Nat) (f fb : Nat → Int32) (e_a : M a = some (aI g 8 f)) (e_b : M b = some (aI g 8 fb)) (hab : a ≠ b) : Cv l g yX3_copyWords cX3_copyWords 3 1 0 0 [.ref a, .ref b] M (fun M9 => ∃ f9, M9 b = some (aI g 8 f9) ∧ (∀ q, q ≠ b → M9 q = M q) ∧ ∀ j, j < 8 → f9 j = f j) := by
  refine hp_startV (by decide) (by exact Nat.le_of_ble_eq_true rfl) ?_
  intro p e s m below meth c Q H locs ls E hnm ret hm hS hl
  have hx := E.1
  have hb := E.2.1
  have hown := E.2.2.2.1
  have hts := E.2.2.2.2.1
  have hl : lv_has ls 3 [(0, .ref a), (1, .ref b)] := hl
  refine lv_iconst (v := 0) hx hb dX3_copyWords_0 (by decide) ?_
  refine lv_istore_n (lv' := [(2, .int 0), (0, .ref a), (1, .ref b)]) hx hb dX3_copyWords_1 rfl hl (by decide) rfl (fun ls hl => ?_)
  have lp : ∀ (n i : Nat) (M1 : hM) (f1 : Nat → Int32) (H : Heap) (locs : List Loc) (ls : Array Slot), 9 ≤ i + n → i ≤ 8 → M1 b = some (aI g 8 f1) → (∀ q, q ≠ b → M1 q = M q) → (∀ j, j < i → f1 j = f j) → hp g M1 H → va_S (hA g) s.heap H locs → lv_has ls 3 [(2, .int (nI i)), (0, .ref a), (1, .ref b)] → W p l e (hR 1 0 0) s m [.ref a, .ref b].toArray below meth c H locs 0 0 Q (F0 m 2 ls []) := by
    intro n
    induction n with
    | zero => intro i M1 f1 H locs ls hn hi e_b hfr hf; exact absurd hn (by omega)
    | succ n ih =>
      intro i M1 f1 H locs ls hn hi e_b hfr hf hm hS hl
      have e_a : M1 a = some (aI g 8 f) := (hfr a hab).trans e_a
      refine lv_iload_n hx hb dX3_copyWords_2 rfl (lv_at hl 0 rfl) ?_
      refine lv_bipush (v := 8) hx hb dX3_copyWords_3 (by decide) ?_
      refine lv_icmp_ge (tgt := 20) hx hb dX3_copyWords_5 (by decide) (fun c_5 => ?_) (fun c_5 => ?_)
      · have c_5 : 8 ≤ i := (nI_leI (a := 8) (b := i) (by decide) (by omega)).mp c_5
        exact ret dX3_copyWords_20 hm hS (Nat.le_of_ble_eq_true rfl) (Nat.le_of_ble_eq_true rfl) (⟨f1, e_b, hfr, fun j hj => hf j (by omega)⟩)
      · have c_5 : ¬ 8 ≤ i := fun h9 => c_5 ((nI_leI (a := 8) (b := i) (by decide) (by omega)).mpr h9)
        refine lv_aload_n hx hb dX3_copyWords_8 rfl (lv_at hl 2 rfl) ?_
        refine lv_iload_n hx hb dX3_copyWords_9 rfl (lv_at hl 0 rfl) ?_
        refine lv_aload_n hx hb dX3_copyWords_10 rfl (lv_at hl 1 rfl) ?_
        refine lv_iload_n hx hb dX3_copyWords_11 rfl (lv_at hl 0 rfl) ?_
        refine hp_ialdN E hm e_a i rfl (by omega) (by decide) dX3_copyWords_12 ?_
        refine hp_iastN E hm hS e_b i rfl (by omega) (by decide) dX3_copyWords_13 (fun H locs hm hS => ?_)
        obtain ⟨Mx1, hMx1⟩ : ∃ Mz, Mz = hm_up M1 b (aI g 8 (upd f1 i (f i))) := ⟨_, rfl⟩
        have hm : hp g Mx1 H := by rw [hMx1]; exact hm
        have e_a : Mx1 a = some (aI g 8 f) := by rw [hMx1]; exact up_at hab e_a
        have e_b : Mx1 b = some (aI g 8 (upd f1 i (f i))) := by rw [hMx1]; exact up_eq
        refine lv_iinc (v := nI (i + 1)) (lv' := [(2, .int (nI (i + 1))), (0, .ref a), (1, .ref b)]) hx hb dX3_copyWords_14 hl (k := 0) rfl (nI_1 _) (by decide) rfl (fun ls hl => ?_)
        refine lv_goto (tgt := 2) hx hb dX3_copyWords_17 (by decide) ?_
        refine ih (i + 1) Mx1 _ H locs ls (by omega) (by omega) e_b (fun q hq => by rw [hMx1, up_ne hq]; exact hfr q hq) (fun j hj => ?_) hm hS (lv_sub hl [0, 1, 2] rfl)
        rcases Nat.lt_or_eq_of_le (Nat.le_of_lt_succ hj) with q | q
        · rw [pk_un (by omega)]; exact hf j q
        · rw [q, pk_us]
  exact lp 9 0 M fb H locs ls (by omega) (by omega) e_b (fun _ _ => rfl) (fun j hj => absurd hj (Nat.not_lt_zero j)) hm hS (lv_sub hl [0, 1, 2] rfl)
set_option maxHeartbeats 4000000 in
set_option maxRecDepth 100000 in
theorem c_X3_copyWordsS (l : Launch) (g : hG) (M : hM) (b : Nat) (fb : Nat → Int32) (e_b : M b = some (aI g 8 fb)) : Cv l g yX3_copyWords cX3_copyWords 3 1 0 0 [.ref (gS g), .ref b] M (fun M9 => ∃ f9, M9 b = some (aI g 8 f9) ∧ (∀ q, q ≠ b → M9 q = M q) ∧ ∀ j, j < 8 → f9 j = kStart j) := by
  refine hp_startV (by decide) (by exact Nat.le_of_ble_eq_true rfl) ?_
  intro p e s m below meth c Q H locs ls E hnm ret hm hS hl
  have hx := E.1
  have hb := E.2.1
  have hown := E.2.2.2.1
  have hts := E.2.2.2.2.1
  have hl : lv_has ls 3 [(0, .ref (gS g)), (1, .ref b)] := hl
  refine lv_iconst (v := 0) hx hb dX3_copyWords_0 (by decide) ?_
  refine lv_istore_n (lv' := [(2, .int 0), (0, .ref (gS g)), (1, .ref b)]) hx hb dX3_copyWords_1 rfl hl (by decide) rfl (fun ls hl => ?_)
  have lp : ∀ (n i : Nat) (M1 : hM) (f1 : Nat → Int32) (H : Heap) (locs : List Loc) (ls : Array Slot), 9 ≤ i + n → i ≤ 8 → M1 b = some (aI g 8 f1) → (∀ q, q ≠ b → M1 q = M q) → (∀ j, j < i → f1 j = kStart j) → hp g M1 H → va_S (hA g) s.heap H locs → lv_has ls 3 [(2, .int (nI i)), (0, .ref (gS g)), (1, .ref b)] → W p l e (hR 1 0 0) s m [.ref (gS g), .ref b].toArray below meth c H locs 0 0 Q (F0 m 2 ls []) := by
    intro n
    induction n with
    | zero => intro i M1 f1 H locs ls hn hi e_b hfr hf; exact absurd hn (by omega)
    | succ n ih =>
      intro i M1 f1 H locs ls hn hi e_b hfr hf hm hS hl
      refine lv_iload_n hx hb dX3_copyWords_2 rfl (lv_at hl 0 rfl) ?_
      refine lv_bipush (v := 8) hx hb dX3_copyWords_3 (by decide) ?_
      refine lv_icmp_ge (tgt := 20) hx hb dX3_copyWords_5 (by decide) (fun c_5 => ?_) (fun c_5 => ?_)
      · have c_5 : 8 ≤ i := (nI_leI (a := 8) (b := i) (by decide) (by omega)).mp c_5
        exact ret dX3_copyWords_20 hm hS (Nat.le_of_ble_eq_true rfl) (Nat.le_of_ble_eq_true rfl) (⟨f1, e_b, hfr, fun j hj => hf j (by omega)⟩)
      · have c_5 : ¬ 8 ≤ i := fun h9 => c_5 ((nI_leI (a := 8) (b := i) (by decide) (by omega)).mpr h9)
        refine lv_aload_n hx hb dX3_copyWords_8 rfl (lv_at hl 2 rfl) ?_
        refine lv_iload_n hx hb dX3_copyWords_9 rfl (lv_at hl 0 rfl) ?_
        refine lv_aload_n hx hb dX3_copyWords_10 rfl (lv_at hl 1 rfl) ?_
        refine lv_iload_n hx hb dX3_copyWords_11 rfl (lv_at hl 0 rfl) ?_
        refine hp_ialdSN E hS i rfl (by omega) dX3_copyWords_12 ?_
        refine hp_iastN E hm hS e_b i rfl (by omega) (by decide) dX3_copyWords_13 (fun H locs hm hS => ?_)
        obtain ⟨Mx1, hMx1⟩ : ∃ Mz, Mz = hm_up M1 b (aI g 8 (upd f1 i (kStart i))) := ⟨_, rfl⟩
        have hm : hp g Mx1 H := by rw [hMx1]; exact hm
        have e_b : Mx1 b = some (aI g 8 (upd f1 i (kStart i))) := by rw [hMx1]; exact up_eq
        refine lv_iinc (v := nI (i + 1)) (lv' := [(2, .int (nI (i + 1))), (0, .ref (gS g)), (1, .ref b)]) hx hb dX3_copyWords_14 hl (k := 0) rfl (nI_1 _) (by decide) rfl (fun ls hl => ?_)
        refine lv_goto (tgt := 2) hx hb dX3_copyWords_17 (by decide) ?_
        refine ih (i + 1) Mx1 _ H locs ls (by omega) (by omega) e_b (fun q hq => by rw [hMx1, up_ne hq]; exact hfr q hq) (fun j hj => ?_) hm hS (lv_sub hl [0, 1, 2] rfl)
        rcases Nat.lt_or_eq_of_le (Nat.le_of_lt_succ hj) with q | q
        · rw [pk_un (by omega)]; exact hf j q
        · rw [q, pk_us]
  exact lp 9 0 M fb H locs ls (by omega) (by omega) e_b (fun _ _ => rfl) (fun j hj => absurd hj (Nat.not_lt_zero j)) hm hS (lv_sub hl [0, 1, 2] rfl)
/-- the Hasher at h: its rows nm (zeros), ms, sc, sa, which hold these -/
def HS (g : hG) (M : hM) (h nm ms sc sa : Nat) (fm fs fa : Nat → Int32) : Prop := M h = some (.inr (0, [.ref nm, .ref ms, .ref sc, .ref sa])) ∧ M ms = some (aI g 32 fm) ∧ M sc = some (aI g 64 fs) ∧ M sa = some (aI g 8 fa) ∧ (∃ fn, M nm = some (aI g 8 fn) ∧ ∀ j, j < 8 → fn j = 0) ∧ ms ≠ sc ∧ ms ≠ sa ∧ sc ≠ sa ∧ nm ≠ ms ∧ nm ≠ sc ∧ nm ≠ sa
set_option maxHeartbeats 4000000 in
set_option maxRecDepth 100000 in
theorem c_X0_clearMessage (l : Launch) (g : hG) (M : hM) (h nm ms sc sa : Nat) (fm fs fa : Nat → Int32) (hH : HS g M h nm ms sc sa fm fs fa) : Cv l g yX0_clearMessage cX0_clearMessage 2 1 0 0 [.ref h] M (fun M9 => ∃ f9, M9 ms = some (aI g 32 f9) ∧ (∀ q, q ≠ ms → M9 q = M q) ∧ ∀ j, j < 32 → f9 j = 0) := by
  obtain ⟨e_h, e_ms, e_sc, e_sa, ⟨fn, e_nm, hz⟩, n_1, n_2, n_3, n_4, n_5, n_6⟩ := hH
  have n_0 : h ≠ ms := ne_lk e_h e_ms (by simp)
  refine hp_startV (by decide) (by exact Nat.le_of_ble_eq_true rfl) ?_
  intro p e s m below meth c Q H locs ls E hnm ret hm hS hl
  have hx := E.1
  have hb := E.2.1
  have hown := E.2.2.2.1
  have hts := E.2.2.2.2.1
  have hl : lv_has ls 2 [(0, .ref h)] := hl
  refine lv_iconst (v := 0) hx hb dX0_clearMessage_0 (by decide) ?_
  refine lv_istore_n (lv' := [(1, .int 0), (0, .ref h)]) hx hb dX0_clearMessage_1 rfl hl (by decide) rfl (fun ls hl => ?_)
  have lp : ∀ (n i : Nat) (M1 : hM) (f1 : Nat → Int32) (H : Heap) (locs : List Loc) (ls : Array Slot), 33 ≤ i + n → i ≤ 32 → M1 ms = some (aI g 32 f1) → (∀ q, q ≠ ms → M1 q = M q) → (∀ j, j < i → f1 j = 0) → hp g M1 H → va_S (hA g) s.heap H locs → lv_has ls 2 [(1, .int (nI i)), (0, .ref h)] → W p l e (hR 1 0 0) s m [.ref h].toArray below meth c H locs 0 0 Q (F0 m 2 ls []) := by
    intro n
    induction n with
    | zero => intro i M1 f1 H locs ls hn hi e_ms hfr hf; exact absurd hn (by omega)
    | succ n ih =>
      intro i M1 f1 H locs ls hn hi e_ms hfr hf hm hS hl
      have e_h : M1 h = some (.inr (0, [.ref nm, .ref ms, .ref sc, .ref sa])) := (hfr h n_0).trans e_h
      refine lv_iload_n hx hb dX0_clearMessage_2 rfl (lv_at hl 0 rfl) ?_
      refine lv_bipush (v := 32) hx hb dX0_clearMessage_3 (by decide) ?_
      refine lv_icmp_ge (tgt := 21) hx hb dX0_clearMessage_5 (by decide) (fun c_5 => ?_) (fun c_5 => ?_)
      · have c_5 : 32 ≤ i := (nI_leI (a := 32) (b := i) (by decide) (by omega)).mp c_5
        exact ret dX0_clearMessage_21 hm hS (Nat.le_of_ble_eq_true rfl) (Nat.le_of_ble_eq_true rfl) (⟨f1, e_ms, hfr, fun j hj => hf j (by omega)⟩)
      · have c_5 : ¬ 32 ≤ i := fun h9 => c_5 ((nI_leI (a := 32) (b := i) (by decide) (by omega)).mpr h9)
        refine lv_aload_n hx hb dX0_clearMessage_8 rfl (lv_at hl 1 rfl) ?_
        refine hp_get (C := RX0) (T := TX0) (N := 4) (v := .ref ms) E hm e_h inh0 rfl 1 (by decide) wf_X0_15 rfl dX0_clearMessage_9 ?_
        refine lv_iload_n hx hb dX0_clearMessage_12 rfl (lv_at hl 0 rfl) ?_
        refine lv_iconst (v := 0) hx hb dX0_clearMessage_13 (by decide) ?_
        refine hp_iastN E hm hS e_ms i rfl (by omega) (by decide) dX0_clearMessage_14 (fun H locs hm hS => ?_)
        obtain ⟨Mx1, hMx1⟩ : ∃ Mz, Mz = hm_up M1 ms (aI g 32 (upd f1 i 0)) := ⟨_, rfl⟩
        have hm : hp g Mx1 H := by rw [hMx1]; exact hm
        have e_h : Mx1 h = some (.inr (0, [.ref nm, .ref ms, .ref sc, .ref sa])) := by rw [hMx1]; exact up_at (ne_lk e_h e_ms (by simp)) e_h
        have e_ms : Mx1 ms = some (aI g 32 (upd f1 i 0)) := by rw [hMx1]; exact up_eq
        refine lv_iinc (v := nI (i + 1)) (lv' := [(1, .int (nI (i + 1))), (0, .ref h)]) hx hb dX0_clearMessage_15 hl (k := 0) rfl (nI_1 _) (by decide) rfl (fun ls hl => ?_)
        refine lv_goto (tgt := 2) hx hb dX0_clearMessage_18 (by decide) ?_
        refine ih (i + 1) Mx1 _ H locs ls (by omega) (by omega) e_ms (fun q hq => by rw [hMx1, up_ne hq]; exact hfr q hq) (fun j hj => ?_) hm hS (lv_sub hl [0, 1] rfl)
        rcases Nat.lt_or_eq_of_le (Nat.le_of_lt_succ hj) with q | q
        · rw [pk_un (by omega)]; exact hf j q
        · rw [q, pk_us]
  exact lp 33 0 M fm H locs ls (by omega) (by omega) e_ms (fun _ _ => rfl) (fun j hj => absurd hj (Nat.not_lt_zero j)) hm hS (lv_sub hl [0, 1] rfl)
set_option maxHeartbeats 4000000 in
set_option maxRecDepth 100000 in
theorem c_X0_start (l : Launch) (g : hG) (M : hM) (h nm ms sc sa : Nat) (fm fs fa : Nat → Int32) (hH : HS g M h nm ms sc sa fm fs fa) : Cv l g yX0_start cX0_start 1 2 0 0 [.ref h] M (fun M9 => ∃ f9, M9 sa = some (aI g 8 f9) ∧ (∀ q, q ≠ sa → M9 q = M q) ∧ ∀ j, j < 8 → f9 j = kStart j) := by
  obtain ⟨e_h, e_ms, e_sc, e_sa, ⟨fn, e_nm, hz⟩, n_1, n_2, n_3, n_4, n_5, n_6⟩ := hH
  refine hp_startV (by decide) (by exact Nat.le_of_ble_eq_true rfl) ?_
  intro p e s m below meth c Q H locs ls E hnm ret hm hS hl
  have hx := E.1
  have hb := E.2.1
  have hown := E.2.2.2.1
  have hts := E.2.2.2.2.1
  have hl : lv_has ls 1 [(0, .ref h)] := hl
  refine va_gets hx hb E.2.2.2.2.2.2.2.1 hS hown (hts _ wf_X0_39) (fun _ h => h) dX0_start_0 ?_
  refine lv_aload_n hx hb dX0_start_3 rfl (lv_at hl 0 rfl) ?_
  refine hp_get (C := RX0) (T := TX0) (N := 4) (v := .ref sa) E hm e_h inh0 rfl 3 (by decide) wf_X0_21 rfl dX0_start_4 ?_
  refine hp_cv (hp_runN (np := 2) (k := 1) (mc := 0) (ms := 0) (As := [.ref (gS g), .ref sa]) (rest := []) E hm hS (c_X3_copyWordsS l g M sa fa e_sa) ms_X3_copyWords wt_X3_copyWords E.2.2.2.2.2.2.2.2.2.2.2.2.2.2.1 rfl hl.1 rfl (Nat.le_of_ble_eq_true rfl) dX0_start_7 ⟨Nat.le_of_ble_eq_true rfl, Nat.le_of_ble_eq_true rfl⟩ ⟨(Nat.le_of_ble_eq_true rfl), (Nat.le_of_ble_eq_true rfl)⟩) hS (fun Mx1 H locs hq2 hm hS => ?_)
  exact ret dX0_start_10 hm hS (Nat.le_of_ble_eq_true rfl) (Nat.le_of_ble_eq_true rfl) (hq2)
theorem ix_sub {a b c : Nat} (h : a = b + c) : nI a - nI b = nI c := by
  subst h
  rw [pk_sub (by omega), Nat.add_sub_cancel_left]
set_option maxHeartbeats 4000000 in
set_option maxRecDepth 100000 in
theorem c_X0_spread (l : Launch) (g : hG) (M : hM) (h nm ms sc sa : Nat) (fm fs fa : Nat → Int32) (hH : HS g M h nm ms sc sa fm fs fa) (fr : Nat) (hfr0 : fr + 16 ≤ 32) : Cv l g yX0_spread cX0_spread 7 2 0 0 [.ref h, .int (nI fr)] M (fun M9 => ∃ f9, M9 sc = some (aI g 64 f9) ∧ (∀ q, q ≠ sc → M9 q = M q) ∧ ∀ j, j < 64 → f9 j = schF (fun t => fm (fr + t)) 48 j) := by
  obtain ⟨e_h, e_ms, e_sc, e_sa, ⟨fn, e_nm, hz⟩, n_1, n_2, n_3, n_4, n_5, n_6⟩ := hH
  have n_0 : h ≠ sc := ne_lk e_h e_sc (by simp)
  refine hp_startV (by decide) (by exact Nat.le_of_ble_eq_true rfl) ?_
  intro p e s m below meth c Q H locs ls E hnm ret hm hS hl
  have hx := E.1
  have hb := E.2.1
  have hown := E.2.2.2.1
  have hts := E.2.2.2.2.1
  have hl : lv_has ls 7 [(0, .ref h), (1, .int (nI fr))] := hl
  refine lv_iconst (v := 0) hx hb dX0_spread_0 (by decide) ?_
  refine lv_istore_n (lv' := [(2, .int 0), (0, .ref h), (1, .int (nI fr))]) hx hb dX0_spread_1 rfl hl (by decide) rfl (fun ls hl => ?_)
  have e_h0 := e_h
  have e_ms0 := e_ms
  have lp : ∀ (n i : Nat) (M1 : hM) (f1 : Nat → Int32) (H : Heap) (locs : List Loc) (ls : Array Slot), 17 ≤ i + n → i ≤ 16 → M1 sc = some (aI g 64 f1) → (∀ q, q ≠ sc → M1 q = M q) → (∀ j, j < i → f1 j = fm (fr + j)) → hp g M1 H → va_S (hA g) s.heap H locs → lv_has ls 7 [(2, .int (nI i)), (0, .ref h), (1, .int (nI fr))] → W p l e (hR 2 0 0) s m [.ref h, .int (nI fr)].toArray below meth c H locs 0 0 Q (F0 m 2 ls []) := by
    intro n
    induction n with
    | zero => intro i M1 f1 H locs ls hn hi e_sc hfr hf; exact absurd hn (by omega)
    | succ n ih =>
      intro i M1 f1 H locs ls hn hi e_sc hfr hf hm hS hl
      have e_h : M1 h = some (.inr (0, [.ref nm, .ref ms, .ref sc, .ref sa])) := (hfr h n_0).trans e_h
      have e_ms : M1 ms = some (aI g 32 fm) := (hfr ms n_1).trans e_ms
      refine lv_iload_n hx hb dX0_spread_2 rfl (lv_at hl 0 rfl) ?_
      refine lv_bipush (v := 16) hx hb dX0_spread_3 (by decide) ?_
      refine lv_icmp_ge (tgt := 28) hx hb dX0_spread_5 (by decide) (fun c_5 => ?_) (fun c_5 => ?_)
      · have c_5 : 16 ≤ i := (nI_leI (a := 16) (b := i) (by decide) (by omega)).mp c_5
        refine lv_bipush (v := 16) hx hb dX0_spread_28 (by decide) ?_
        refine lv_istore_n (lv' := [(2, .int 16), (0, .ref h), (1, .int (nI fr))]) hx hb dX0_spread_30 rfl hl (by decide) rfl (fun ls hl => ?_)
        have lp2 : ∀ (n u : Nat) (M2 : hM) (f2 : Nat → Int32) (H : Heap) (locs : List Loc) (ls : Array Slot), 49 ≤ u + n → u ≤ 48 → M2 sc = some (aI g 64 f2) → (∀ q, q ≠ sc → M2 q = M q) → (∀ j, j < 16 + u → f2 j = schF (fun t => fm (fr + t)) u j) → hp g M2 H → va_S (hA g) s.heap H locs → lv_has ls 7 [(2, .int (nI (16 + u))), (0, .ref h), (1, .int (nI fr))] → W p l e (hR 2 0 0) s m [.ref h, .int (nI fr)].toArray below meth c H locs 0 0 Q (F0 m 31 ls []) := by
          intro n
          induction n with
          | zero => intro u M2 f2 H locs ls hn2 hu e_sc hfr2 hf2; exact absurd hn2 (by omega)
          | succ n ih =>
            intro u M2 f2 H locs ls hn2 hu e_sc hfr2 hf2 hm hS hl
            have e_h : M2 h = some (.inr (0, [.ref nm, .ref ms, .ref sc, .ref sa])) := (hfr2 h n_0).trans e_h0
            refine lv_iload_n hx hb dX0_spread_31 rfl (lv_at hl 0 rfl) ?_
            refine lv_bipush (v := 64) hx hb dX0_spread_32 (by decide) ?_
            refine lv_icmp_ge (tgt := 136) hx hb dX0_spread_34 (by decide) (fun c_34 => ?_) (fun c_34 => ?_)
            · have c_34 : 64 ≤ (16 + u) := (nI_leI (a := 64) (b := 16 + u) (by decide) (by omega)).mp c_34
              exact ret dX0_spread_136 hm hS (Nat.le_of_ble_eq_true rfl) (Nat.le_of_ble_eq_true rfl) (⟨f2, e_sc, hfr2, fun j hj => by rw [show u = 48 by omega] at hf2; exact hf2 j (by omega)⟩)
            · have c_34 : ¬ 64 ≤ (16 + u) := fun h9 => c_34 ((nI_leI (a := 64) (b := 16 + u) (by decide) (by omega)).mpr h9)
              refine lv_aload_n hx hb dX0_spread_37 rfl (lv_at hl 1 rfl) ?_
              refine hp_get (C := RX0) (T := TX0) (N := 4) (v := .ref sc) E hm e_h inh0 rfl 2 (by decide) wf_X0_18 rfl dX0_spread_38 ?_
              refine lv_iload_n hx hb dX0_spread_41 rfl (lv_at hl 0 rfl) ?_
              refine lv_bipush (v := 15) hx hb dX0_spread_42 (by decide) ?_
              refine lv_isub hx hb dX0_spread_44 ?_
              refine hp_ialdN E hm e_sc (1 + u) (ix_sub (b := 15) (by omega)) (by omega) (by decide) dX0_spread_45 ?_
              refine lv_istore_n (lv' := [(3, .int (f2 (1 + u))), (2, .int (nI (16 + u))), (0, .ref h), (1, .int (nI fr))]) hx hb dX0_spread_46 rfl hl (by decide) rfl (fun ls hl => ?_)
              refine lv_aload_n hx hb dX0_spread_47 rfl (lv_at hl 2 rfl) ?_
              refine hp_get (C := RX0) (T := TX0) (N := 4) (v := .ref sc) E hm e_h inh0 rfl 2 (by decide) wf_X0_18 rfl dX0_spread_48 ?_
              refine lv_iload_n hx hb dX0_spread_51 rfl (lv_at hl 1 rfl) ?_
              refine lv_iconst (v := 2) hx hb dX0_spread_52 (by decide) ?_
              refine lv_isub hx hb dX0_spread_53 ?_
              refine hp_ialdN E hm e_sc (14 + u) (ix_sub (b := 2) (by omega)) (by omega) (by decide) dX0_spread_54 ?_
              refine lv_istore (lv' := [(4, .int (f2 (14 + u))), (3, .int (f2 (1 + u))), (2, .int (nI (16 + u))), (0, .ref h), (1, .int (nI fr))]) hx hb dX0_spread_55 hl (by decide) rfl (fun ls hl => ?_)
              refine lv_iload_n hx hb dX0_spread_57 rfl (lv_at hl 1 rfl) ?_
              refine lv_bipush (v := 7) hx hb dX0_spread_58 (by decide) ?_
              refine hp_ci (hp_runS (np := 2) (k := 1) (mc := 0) (ms := 0) (As := [.int (f2 (1 + u)), .int 7]) (rest := []) E hm hS (c_X0_turned l g M2 (f2 (1 + u)) 7) ms_X0_turned wt_X0_turned wl_X0_45 rfl hl.1 rfl (Nat.le_of_ble_eq_true rfl) dX0_spread_60 ⟨Nat.le_of_ble_eq_true rfl, Nat.le_of_ble_eq_true rfl⟩ ⟨(Nat.le_of_ble_eq_true rfl), (Nat.le_of_ble_eq_true rfl)⟩) hS (fun r1 Mx2 H locs hq3 hm hS => ?_)
              obtain ⟨rfl, h9⟩ := hq3
              rw [h9] at hm
              refine lv_iload_n hx hb dX0_spread_63 rfl (lv_at hl 1 rfl) ?_
              refine lv_bipush (v := 18) hx hb dX0_spread_64 (by decide) ?_
              refine hp_ci (hp_runS (np := 2) (k := 1) (mc := 0) (ms := 0) (As := [.int (f2 (1 + u)), .int 18]) (rest := [.int (tur (f2 (1 + u)) 7)]) E hm hS (c_X0_turned l g M2 (f2 (1 + u)) 18) ms_X0_turned wt_X0_turned wl_X0_45 rfl hl.1 rfl (Nat.le_of_ble_eq_true rfl) dX0_spread_66 ⟨Nat.le_of_ble_eq_true rfl, Nat.le_of_ble_eq_true rfl⟩ ⟨(Nat.le_of_ble_eq_true rfl), (Nat.le_of_ble_eq_true rfl)⟩) hS (fun r4 Mx5 H locs hq6 hm hS => ?_)
              obtain ⟨rfl, h9⟩ := hq6
              rw [h9] at hm
              refine lv_ixor hx hb dX0_spread_69 ?_
              refine lv_iload_n hx hb dX0_spread_70 rfl (lv_at hl 1 rfl) ?_
              refine lv_iconst (v := 3) hx hb dX0_spread_71 (by decide) ?_
              refine lv_iushr (v := ush (f2 (1 + u)) 3) hx hb dX0_spread_72 rfl ?_
              refine lv_ixor hx hb dX0_spread_73 ?_
              refine lv_istore (lv' := [(5, .int (((tur (f2 (1 + u)) 7) ^^^ (tur (f2 (1 + u)) 18)) ^^^ (ush (f2 (1 + u)) 3))), (4, .int (f2 (14 + u))), (3, .int (f2 (1 + u))), (2, .int (nI (16 + u))), (0, .ref h), (1, .int (nI fr))]) hx hb dX0_spread_74 hl (by decide) rfl (fun ls hl => ?_)
              refine lv_iload hx hb dX0_spread_76 (lv_at hl 1 rfl) ?_
              refine lv_bipush (v := 17) hx hb dX0_spread_78 (by decide) ?_
              refine hp_ci (hp_runS (np := 2) (k := 1) (mc := 0) (ms := 0) (As := [.int (f2 (14 + u)), .int 17]) (rest := []) E hm hS (c_X0_turned l g M2 (f2 (14 + u)) 17) ms_X0_turned wt_X0_turned wl_X0_45 rfl hl.1 rfl (Nat.le_of_ble_eq_true rfl) dX0_spread_80 ⟨Nat.le_of_ble_eq_true rfl, Nat.le_of_ble_eq_true rfl⟩ ⟨(Nat.le_of_ble_eq_true rfl), (Nat.le_of_ble_eq_true rfl)⟩) hS (fun r7 Mx8 H locs hq9 hm hS => ?_)
              obtain ⟨rfl, h9⟩ := hq9
              rw [h9] at hm
              refine lv_iload hx hb dX0_spread_83 (lv_at hl 1 rfl) ?_
              refine lv_bipush (v := 19) hx hb dX0_spread_85 (by decide) ?_
              refine hp_ci (hp_runS (np := 2) (k := 1) (mc := 0) (ms := 0) (As := [.int (f2 (14 + u)), .int 19]) (rest := [.int (tur (f2 (14 + u)) 17)]) E hm hS (c_X0_turned l g M2 (f2 (14 + u)) 19) ms_X0_turned wt_X0_turned wl_X0_45 rfl hl.1 rfl (Nat.le_of_ble_eq_true rfl) dX0_spread_87 ⟨Nat.le_of_ble_eq_true rfl, Nat.le_of_ble_eq_true rfl⟩ ⟨(Nat.le_of_ble_eq_true rfl), (Nat.le_of_ble_eq_true rfl)⟩) hS (fun r10 Mx11 H locs hq12 hm hS => ?_)
              obtain ⟨rfl, h9⟩ := hq12
              rw [h9] at hm
              refine lv_ixor hx hb dX0_spread_90 ?_
              refine lv_iload hx hb dX0_spread_91 (lv_at hl 1 rfl) ?_
              refine lv_bipush (v := 10) hx hb dX0_spread_93 (by decide) ?_
              refine lv_iushr (v := ush (f2 (14 + u)) 10) hx hb dX0_spread_95 rfl ?_
              refine lv_ixor hx hb dX0_spread_96 ?_
              refine lv_istore (lv' := [(6, .int (((tur (f2 (14 + u)) 17) ^^^ (tur (f2 (14 + u)) 19)) ^^^ (ush (f2 (14 + u)) 10))), (5, .int (((tur (f2 (1 + u)) 7) ^^^ (tur (f2 (1 + u)) 18)) ^^^ (ush (f2 (1 + u)) 3))), (4, .int (f2 (14 + u))), (3, .int (f2 (1 + u))), (2, .int (nI (16 + u))), (0, .ref h), (1, .int (nI fr))]) hx hb dX0_spread_97 hl (by decide) rfl (fun ls hl => ?_)
              refine lv_aload_n hx hb dX0_spread_99 rfl (lv_at hl 5 rfl) ?_
              refine hp_get (C := RX0) (T := TX0) (N := 4) (v := .ref sc) E hm e_h inh0 rfl 2 (by decide) wf_X0_18 rfl dX0_spread_100 ?_
              refine lv_iload_n hx hb dX0_spread_103 rfl (lv_at hl 4 rfl) ?_
              refine lv_iload hx hb dX0_spread_104 (lv_at hl 0 rfl) ?_
              refine lv_aload_n hx hb dX0_spread_106 rfl (lv_at hl 5 rfl) ?_
              refine hp_get (C := RX0) (T := TX0) (N := 4) (v := .ref sc) E hm e_h inh0 rfl 2 (by decide) wf_X0_18 rfl dX0_spread_107 ?_
              refine lv_iload_n hx hb dX0_spread_110 rfl (lv_at hl 4 rfl) ?_
              refine lv_bipush (v := 7) hx hb dX0_spread_111 (by decide) ?_
              refine lv_isub hx hb dX0_spread_113 ?_
              refine hp_ialdN E hm e_sc (9 + u) (ix_sub (b := 7) (by omega)) (by omega) (by decide) dX0_spread_114 ?_
              refine lv_iadd hx hb dX0_spread_115 ?_
              refine lv_iload hx hb dX0_spread_116 (lv_at hl 1 rfl) ?_
              refine lv_iadd hx hb dX0_spread_118 ?_
              refine lv_aload_n hx hb dX0_spread_119 rfl (lv_at hl 5 rfl) ?_
              refine hp_get (C := RX0) (T := TX0) (N := 4) (v := .ref sc) E hm e_h inh0 rfl 2 (by decide) wf_X0_18 rfl dX0_spread_120 ?_
              refine lv_iload_n hx hb dX0_spread_123 rfl (lv_at hl 4 rfl) ?_
              refine lv_bipush (v := 16) hx hb dX0_spread_124 (by decide) ?_
              refine lv_isub hx hb dX0_spread_126 ?_
              refine hp_ialdN E hm e_sc u (ix_sub (b := 16) (by omega)) (by omega) (by decide) dX0_spread_127 ?_
              refine lv_iadd hx hb dX0_spread_128 ?_
              refine hp_iastN E hm hS e_sc ((16 + u)) rfl (by omega) (by decide) dX0_spread_129 (fun H locs hm hS => ?_)
              obtain ⟨Mx13, hMx13⟩ : ∃ Mz, Mz = hm_up M2 sc (aI g 64 (upd f2 ((16 + u)) ((((((tur (f2 (14 + u)) 17) ^^^ (tur (f2 (14 + u)) 19)) ^^^ (ush (f2 (14 + u)) 10)) + (f2 (9 + u))) + (((tur (f2 (1 + u)) 7) ^^^ (tur (f2 (1 + u)) 18)) ^^^ (ush (f2 (1 + u)) 3))) + (f2 u)))) := ⟨_, rfl⟩
              have hm : hp g Mx13 H := by rw [hMx13]; exact hm
              have e_h : Mx13 h = some (.inr (0, [.ref nm, .ref ms, .ref sc, .ref sa])) := by rw [hMx13]; exact up_at (ne_lk e_h e_sc (by simp)) e_h
              have e_sc : Mx13 sc = some (aI g 64 (upd f2 ((16 + u)) ((((((tur (f2 (14 + u)) 17) ^^^ (tur (f2 (14 + u)) 19)) ^^^ (ush (f2 (14 + u)) 10)) + (f2 (9 + u))) + (((tur (f2 (1 + u)) 7) ^^^ (tur (f2 (1 + u)) 18)) ^^^ (ush (f2 (1 + u)) 3))) + (f2 u)))) := by rw [hMx13]; exact up_eq
              refine lv_iinc (v := nI ((16 + u) + 1)) (lv' := [(2, .int (nI ((16 + u) + 1))), (6, .int (((tur (f2 (14 + u)) 17) ^^^ (tur (f2 (14 + u)) 19)) ^^^ (ush (f2 (14 + u)) 10))), (5, .int (((tur (f2 (1 + u)) 7) ^^^ (tur (f2 (1 + u)) 18)) ^^^ (ush (f2 (1 + u)) 3))), (4, .int (f2 (14 + u))), (3, .int (f2 (1 + u))), (0, .ref h), (1, .int (nI fr))]) hx hb dX0_spread_130 hl (k := 4) rfl (nI_1 _) (by decide) rfl (fun ls hl => ?_)
              refine lv_goto (tgt := 31) hx hb dX0_spread_133 (by decide) ?_
              refine ih (u + 1) Mx13 _ H locs ls (by omega) (by omega) e_sc (fun q hq => by rw [hMx13, up_ne hq]; exact hfr2 q hq) (fun j hj => ?_) hm hS (lv_sub hl [0, 5, 6] rfl)
              show _ = upd (schF _ u) (16 + u) _ j
              by_cases q : j = 16 + u
              · rw [q, pk_us, pk_us, ← hf2 (14 + u) (by omega), ← hf2 (9 + u) (by omega), ← hf2 (1 + u) (by omega), ← hf2 u (by omega)]
                rfl
              · rw [pk_un q, pk_un q]; exact hf2 j (by omega)
        exact lp2 49 0 M1 f1 H locs ls (by omega) (by omega) e_sc hfr (fun j hj => hf j (by omega)) hm hS (lv_sub hl [0, 1, 2] rfl)
      · have c_5 : ¬ 16 ≤ i := fun h9 => c_5 ((nI_leI (a := 16) (b := i) (by decide) (by omega)).mpr h9)
        refine lv_aload_n hx hb dX0_spread_8 rfl (lv_at hl 1 rfl) ?_
        refine hp_get (C := RX0) (T := TX0) (N := 4) (v := .ref sc) E hm e_h inh0 rfl 2 (by decide) wf_X0_18 rfl dX0_spread_9 ?_
        refine lv_iload_n hx hb dX0_spread_12 rfl (lv_at hl 0 rfl) ?_
        refine lv_aload_n hx hb dX0_spread_13 rfl (lv_at hl 1 rfl) ?_
        refine hp_get (C := RX0) (T := TX0) (N := 4) (v := .ref ms) E hm e_h inh0 rfl 1 (by decide) wf_X0_15 rfl dX0_spread_14 ?_
        refine lv_iload_n hx hb dX0_spread_17 rfl (lv_at hl 2 rfl) ?_
        refine lv_iload_n hx hb dX0_spread_18 rfl (lv_at hl 0 rfl) ?_
        refine lv_iadd hx hb dX0_spread_19 ?_
        refine hp_ialdN E hm e_ms (fr + i) (nI_add fr i) (by omega) (by decide) dX0_spread_20 ?_
        refine hp_iastN E hm hS e_sc i rfl (by omega) (by decide) dX0_spread_21 (fun H locs hm hS => ?_)
        obtain ⟨Mx14, hMx14⟩ : ∃ Mz, Mz = hm_up M1 sc (aI g 64 (upd f1 i (fm (fr + i)))) := ⟨_, rfl⟩
        have hm : hp g Mx14 H := by rw [hMx14]; exact hm
        have e_h : Mx14 h = some (.inr (0, [.ref nm, .ref ms, .ref sc, .ref sa])) := by rw [hMx14]; exact up_at (ne_lk e_h e_sc (by simp)) e_h
        have e_ms : Mx14 ms = some (aI g 32 fm) := by rw [hMx14]; exact up_at n_1 e_ms
        have e_sc : Mx14 sc = some (aI g 64 (upd f1 i (fm (fr + i)))) := by rw [hMx14]; exact up_eq
        refine lv_iinc (v := nI (i + 1)) (lv' := [(2, .int (nI (i + 1))), (0, .ref h), (1, .int (nI fr))]) hx hb dX0_spread_22 hl (k := 0) rfl (nI_1 _) (by decide) rfl (fun ls hl => ?_)
        refine lv_goto (tgt := 2) hx hb dX0_spread_25 (by decide) ?_
        refine ih (i + 1) Mx14 _ H locs ls (by omega) (by omega) e_sc (fun q hq => by rw [hMx14, up_ne hq]; exact hfr q hq) (fun j hj => ?_) hm hS (lv_sub hl [0, 1, 2] rfl)
        rcases Nat.lt_or_eq_of_le (Nat.le_of_lt_succ hj) with q | q
        · rw [pk_un (by omega)]; exact hf j q
        · rw [q, pk_us]
  exact lp 17 0 M fs H locs ls (by omega) (by omega) e_sc (fun _ _ => rfl) (fun j hj => absurd hj (Nat.not_lt_zero j)) hm hS (lv_sub hl [0, 1, 2] rfl)
set_option maxHeartbeats 4000000 in
set_option maxRecDepth 100000 in
theorem c_X0_compress (l : Launch) (g : hG) (M : hM) (h nm ms sc sa : Nat) (fm fs fa : Nat → Int32) (hH : HS g M h nm ms sc sa fm fs fa) (fr : Nat) (hfr0 : fr + 16 ≤ 32) : Cv l g yX0_compress cX0_compress 16 3 0 0 [.ref h, .int (nI fr)] M (fun M9 => ∃ f9 s9, M9 sc = some (aI g 64 f9) ∧ M9 sa = some (aI g 8 s9) ∧ (∀ q, q ≠ sc → q ≠ sa → M9 q = M q) ∧ ∀ j, j < 8 → s9 j = shaB fa (fun t => fm (fr + t)) j) := by
  have hH0 := hH
  obtain ⟨e_h, e_ms, e_sc, e_sa, ⟨fn, e_nm, hz⟩, n_1, n_2, n_3, n_4, n_5, n_6⟩ := hH
  have n_00 : h ≠ sa := ne_lk e_h e_sa (by simp)
  have n_0 : h ≠ sc := ne_lk e_h e_sc (by simp)
  refine hp_startV (by decide) (by exact Nat.le_of_ble_eq_true rfl) ?_
  intro p e s m below meth c Q H locs ls E hnm ret hm hS hl
  have hx := E.1
  have hb := E.2.1
  have hown := E.2.2.2.1
  have hts := E.2.2.2.2.1
  have hl : lv_has ls 16 [(0, .ref h), (1, .int (nI fr))] := hl
  refine lv_aload_n hx hb dX0_compress_0 rfl (lv_at hl 0 rfl) ?_
  refine lv_iload_n hx hb dX0_compress_1 rfl (lv_at hl 1 rfl) ?_
  refine hp_cv (hp_runV (C := RX0) (T := TX0) (N := 4) (np := 1) (k := 2) (mc := 0) (ms := 0) (As := [.int (nI fr)]) (rest := []) E hm hS (c_X0_spread l g M h nm ms sc sa fm fs fa hH0 fr hfr0) ms_X0_spread wi_X0_spread ws_X0_spread wl_X0_42 e_h rfl rfl hl.1 rfl (Nat.le_of_ble_eq_true rfl) dX0_compress_2 ⟨Nat.le_of_ble_eq_true rfl, Nat.le_of_ble_eq_true rfl⟩ ⟨(Nat.le_of_ble_eq_true rfl), (Nat.le_of_ble_eq_true rfl)⟩) hS (fun Mx1 H locs hq2 hm hS => ?_)
  obtain ⟨f9, e_sc, hfr, hsc⟩ := hq2
  have e_h : Mx1 h = some (.inr (0, [.ref nm, .ref ms, .ref sc, .ref sa])) := (hfr h n_0).trans e_h
  have e_sa : Mx1 sa = some (aI g 8 fa) := (hfr sa (Ne.symm n_3)).trans e_sa
  refine lv_aload_n hx hb dX0_compress_5 rfl (lv_at hl 0 rfl) ?_
  refine hp_get (C := RX0) (T := TX0) (N := 4) (v := .ref sa) E hm e_h inh0 rfl 3 (by decide) wf_X0_21 rfl dX0_compress_6 ?_
  refine lv_iconst (v := 0) hx hb dX0_compress_9 (by decide) ?_
  refine hp_ialdN E hm e_sa 0 rfl (by decide) (by decide) dX0_compress_10 ?_
  refine lv_istore_n (lv' := [(2, .int (fa 0)), (0, .ref h), (1, .int (nI fr))]) hx hb dX0_compress_11 rfl hl (by decide) rfl (fun ls hl => ?_)
  refine lv_aload_n hx hb dX0_compress_12 rfl (lv_at hl 1 rfl) ?_
  refine hp_get (C := RX0) (T := TX0) (N := 4) (v := .ref sa) E hm e_h inh0 rfl 3 (by decide) wf_X0_21 rfl dX0_compress_13 ?_
  refine lv_iconst (v := 1) hx hb dX0_compress_16 (by decide) ?_
  refine hp_ialdN E hm e_sa 1 rfl (by decide) (by decide) dX0_compress_17 ?_
  refine lv_istore_n (lv' := [(3, .int (fa 1)), (2, .int (fa 0)), (0, .ref h), (1, .int (nI fr))]) hx hb dX0_compress_18 rfl hl (by decide) rfl (fun ls hl => ?_)
  refine lv_aload_n hx hb dX0_compress_19 rfl (lv_at hl 2 rfl) ?_
  refine hp_get (C := RX0) (T := TX0) (N := 4) (v := .ref sa) E hm e_h inh0 rfl 3 (by decide) wf_X0_21 rfl dX0_compress_20 ?_
  refine lv_iconst (v := 2) hx hb dX0_compress_23 (by decide) ?_
  refine hp_ialdN E hm e_sa 2 rfl (by decide) (by decide) dX0_compress_24 ?_
  refine lv_istore (lv' := [(4, .int (fa 2)), (3, .int (fa 1)), (2, .int (fa 0)), (0, .ref h), (1, .int (nI fr))]) hx hb dX0_compress_25 hl (by decide) rfl (fun ls hl => ?_)
  refine lv_aload_n hx hb dX0_compress_27 rfl (lv_at hl 3 rfl) ?_
  refine hp_get (C := RX0) (T := TX0) (N := 4) (v := .ref sa) E hm e_h inh0 rfl 3 (by decide) wf_X0_21 rfl dX0_compress_28 ?_
  refine lv_iconst (v := 3) hx hb dX0_compress_31 (by decide) ?_
  refine hp_ialdN E hm e_sa 3 rfl (by decide) (by decide) dX0_compress_32 ?_
  refine lv_istore (lv' := [(5, .int (fa 3)), (4, .int (fa 2)), (3, .int (fa 1)), (2, .int (fa 0)), (0, .ref h), (1, .int (nI fr))]) hx hb dX0_compress_33 hl (by decide) rfl (fun ls hl => ?_)
  refine lv_aload_n hx hb dX0_compress_35 rfl (lv_at hl 4 rfl) ?_
  refine hp_get (C := RX0) (T := TX0) (N := 4) (v := .ref sa) E hm e_h inh0 rfl 3 (by decide) wf_X0_21 rfl dX0_compress_36 ?_
  refine lv_iconst (v := 4) hx hb dX0_compress_39 (by decide) ?_
  refine hp_ialdN E hm e_sa 4 rfl (by decide) (by decide) dX0_compress_40 ?_
  refine lv_istore (lv' := [(6, .int (fa 4)), (5, .int (fa 3)), (4, .int (fa 2)), (3, .int (fa 1)), (2, .int (fa 0)), (0, .ref h), (1, .int (nI fr))]) hx hb dX0_compress_41 hl (by decide) rfl (fun ls hl => ?_)
  refine lv_aload_n hx hb dX0_compress_43 rfl (lv_at hl 5 rfl) ?_
  refine hp_get (C := RX0) (T := TX0) (N := 4) (v := .ref sa) E hm e_h inh0 rfl 3 (by decide) wf_X0_21 rfl dX0_compress_44 ?_
  refine lv_iconst (v := 5) hx hb dX0_compress_47 (by decide) ?_
  refine hp_ialdN E hm e_sa 5 rfl (by decide) (by decide) dX0_compress_48 ?_
  refine lv_istore (lv' := [(7, .int (fa 5)), (6, .int (fa 4)), (5, .int (fa 3)), (4, .int (fa 2)), (3, .int (fa 1)), (2, .int (fa 0)), (0, .ref h), (1, .int (nI fr))]) hx hb dX0_compress_49 hl (by decide) rfl (fun ls hl => ?_)
  refine lv_aload_n hx hb dX0_compress_51 rfl (lv_at hl 6 rfl) ?_
  refine hp_get (C := RX0) (T := TX0) (N := 4) (v := .ref sa) E hm e_h inh0 rfl 3 (by decide) wf_X0_21 rfl dX0_compress_52 ?_
  refine lv_bipush (v := 6) hx hb dX0_compress_55 (by decide) ?_
  refine hp_ialdN E hm e_sa 6 rfl (by decide) (by decide) dX0_compress_57 ?_
  refine lv_istore (lv' := [(8, .int (fa 6)), (7, .int (fa 5)), (6, .int (fa 4)), (5, .int (fa 3)), (4, .int (fa 2)), (3, .int (fa 1)), (2, .int (fa 0)), (0, .ref h), (1, .int (nI fr))]) hx hb dX0_compress_58 hl (by decide) rfl (fun ls hl => ?_)
  refine lv_aload_n hx hb dX0_compress_60 rfl (lv_at hl 7 rfl) ?_
  refine hp_get (C := RX0) (T := TX0) (N := 4) (v := .ref sa) E hm e_h inh0 rfl 3 (by decide) wf_X0_21 rfl dX0_compress_61 ?_
  refine lv_bipush (v := 7) hx hb dX0_compress_64 (by decide) ?_
  refine hp_ialdN E hm e_sa 7 rfl (by decide) (by decide) dX0_compress_66 ?_
  refine lv_istore (lv' := [(9, .int (fa 7)), (8, .int (fa 6)), (7, .int (fa 5)), (6, .int (fa 4)), (5, .int (fa 3)), (4, .int (fa 2)), (3, .int (fa 1)), (2, .int (fa 0)), (0, .ref h), (1, .int (nI fr))]) hx hb dX0_compress_67 hl (by decide) rfl (fun ls hl => ?_)
  refine lv_iconst (v := 0) hx hb dX0_compress_69 (by decide) ?_
  refine lv_istore (lv' := [(10, .int 0), (9, .int (fa 7)), (8, .int (fa 6)), (7, .int (fa 5)), (6, .int (fa 4)), (5, .int (fa 3)), (4, .int (fa 2)), (3, .int (fa 1)), (2, .int (fa 0)), (0, .ref h), (1, .int (nI fr))]) hx hb dX0_compress_70 hl (by decide) rfl (fun ls hl => ?_)
  have lp : ∀ (n i : Nat) (x2 x3 x4 x5 x6 x7 x8 x9 : Int32) (H : Heap) (locs : List Loc) (ls : Array Slot), 65 ≤ i + n → i ≤ 64 → (x2, x3, x4, x5, x6, x7, x8, x9) = rdF f9 (of8 fa) i → hp g Mx1 H → va_S (hA g) s.heap H locs → lv_has ls 16 [(10, .int (nI i)), (2, .int x2), (3, .int x3), (4, .int x4), (5, .int x5), (6, .int x6), (7, .int x7), (8, .int x8), (9, .int x9), (0, .ref h), (1, .int (nI fr))] → W p l e (hR 3 0 0) s m [.ref h, .int (nI fr)].toArray below meth c H locs 0 0 Q (F0 m 72 ls []) := by
    intro n
    induction n with
    | zero => intro i x2 x3 x4 x5 x6 x7 x8 x9 H locs ls hn hi hr; exact absurd hn (by omega)
    | succ n ih =>
      intro i x2 x3 x4 x5 x6 x7 x8 x9 H locs ls hn hi hr hm hS hl
      refine lv_iload hx hb dX0_compress_72 (lv_at hl 0 rfl) ?_
      refine lv_bipush (v := 64) hx hb dX0_compress_74 (by decide) ?_
      refine lv_icmp_ge (tgt := 223) hx hb dX0_compress_76 (by decide) (fun c_76 => ?_) (fun c_76 => ?_)
      · have c_76 : 64 ≤ i := (nI_leI (a := 64) (b := i) (by decide) (by omega)).mp c_76
        have e_sc0 := e_sc
        refine lv_aload_n hx hb dX0_compress_223 rfl (lv_at hl 9 rfl) ?_
        refine hp_get (C := RX0) (T := TX0) (N := 4) (v := .ref sa) E hm e_h inh0 rfl 3 (by decide) wf_X0_21 rfl dX0_compress_224 ?_
        refine lv_iconst (v := 0) hx hb dX0_compress_227 (by decide) ?_
        refine lv_dup2_11 hx hb dX0_compress_228 rfl rfl ?_
        refine hp_ialdN E hm e_sa 0 rfl (by decide) (by decide) dX0_compress_229 ?_
        refine lv_iload_n hx hb dX0_compress_230 rfl (lv_at hl 1 rfl) ?_
        refine lv_iadd hx hb dX0_compress_231 ?_
        refine hp_iastN E hm hS e_sa 0 rfl (by decide) (by decide) dX0_compress_232 (fun H locs hm hS => ?_)
        obtain ⟨Mx3, hMx3⟩ : ∃ Mz, Mz = hm_up Mx1 sa (aI g 8 (upd fa 0 ((fa 0) + x2))) := ⟨_, rfl⟩
        have hm : hp g Mx3 H := by rw [hMx3]; exact hm
        have e_h : Mx3 h = some (.inr (0, [.ref nm, .ref ms, .ref sc, .ref sa])) := by rw [hMx3]; exact up_at (ne_lk e_h e_sa (by simp)) e_h
        have e_sc : Mx3 sc = some (aI g 64 f9) := by rw [hMx3]; exact up_at n_3 e_sc
        have e_sa : Mx3 sa = some (aI g 8 (upd fa 0 ((fa 0) + x2))) := by rw [hMx3]; exact up_eq
        refine lv_aload_n hx hb dX0_compress_233 rfl (lv_at hl 9 rfl) ?_
        refine hp_get (C := RX0) (T := TX0) (N := 4) (v := .ref sa) E hm e_h inh0 rfl 3 (by decide) wf_X0_21 rfl dX0_compress_234 ?_
        refine lv_iconst (v := 1) hx hb dX0_compress_237 (by decide) ?_
        refine lv_dup2_11 hx hb dX0_compress_238 rfl rfl ?_
        refine hp_ialdN E hm e_sa 1 rfl (by decide) (by decide) dX0_compress_239 ?_
        refine lv_iload_n hx hb dX0_compress_240 rfl (lv_at hl 2 rfl) ?_
        refine lv_iadd hx hb dX0_compress_241 ?_
        refine hp_iastN E hm hS e_sa 1 rfl (by decide) (by decide) dX0_compress_242 (fun H locs hm hS => ?_)
        obtain ⟨Mx4, hMx4⟩ : ∃ Mz, Mz = hm_up Mx3 sa (aI g 8 (upd (upd fa 0 ((fa 0) + x2)) 1 (((upd fa 0 ((fa 0) + x2)) 1) + x3))) := ⟨_, rfl⟩
        have hm : hp g Mx4 H := by rw [hMx4]; exact hm
        have e_h : Mx4 h = some (.inr (0, [.ref nm, .ref ms, .ref sc, .ref sa])) := by rw [hMx4]; exact up_at (ne_lk e_h e_sa (by simp)) e_h
        have e_sc : Mx4 sc = some (aI g 64 f9) := by rw [hMx4]; exact up_at n_3 e_sc
        have e_sa : Mx4 sa = some (aI g 8 (upd (upd fa 0 ((fa 0) + x2)) 1 (((upd fa 0 ((fa 0) + x2)) 1) + x3))) := by rw [hMx4]; exact up_eq
        refine lv_aload_n hx hb dX0_compress_243 rfl (lv_at hl 9 rfl) ?_
        refine hp_get (C := RX0) (T := TX0) (N := 4) (v := .ref sa) E hm e_h inh0 rfl 3 (by decide) wf_X0_21 rfl dX0_compress_244 ?_
        refine lv_iconst (v := 2) hx hb dX0_compress_247 (by decide) ?_
        refine lv_dup2_11 hx hb dX0_compress_248 rfl rfl ?_
        refine hp_ialdN E hm e_sa 2 rfl (by decide) (by decide) dX0_compress_249 ?_
        refine lv_iload hx hb dX0_compress_250 (lv_at hl 3 rfl) ?_
        refine lv_iadd hx hb dX0_compress_252 ?_
        refine hp_iastN E hm hS e_sa 2 rfl (by decide) (by decide) dX0_compress_253 (fun H locs hm hS => ?_)
        obtain ⟨Mx5, hMx5⟩ : ∃ Mz, Mz = hm_up Mx4 sa (aI g 8 (upd (upd (upd fa 0 ((fa 0) + x2)) 1 (((upd fa 0 ((fa 0) + x2)) 1) + x3)) 2 (((upd (upd fa 0 ((fa 0) + x2)) 1 (((upd fa 0 ((fa 0) + x2)) 1) + x3)) 2) + x4))) := ⟨_, rfl⟩
        have hm : hp g Mx5 H := by rw [hMx5]; exact hm
        have e_h : Mx5 h = some (.inr (0, [.ref nm, .ref ms, .ref sc, .ref sa])) := by rw [hMx5]; exact up_at (ne_lk e_h e_sa (by simp)) e_h
        have e_sc : Mx5 sc = some (aI g 64 f9) := by rw [hMx5]; exact up_at n_3 e_sc
        have e_sa : Mx5 sa = some (aI g 8 (upd (upd (upd fa 0 ((fa 0) + x2)) 1 (((upd fa 0 ((fa 0) + x2)) 1) + x3)) 2 (((upd (upd fa 0 ((fa 0) + x2)) 1 (((upd fa 0 ((fa 0) + x2)) 1) + x3)) 2) + x4))) := by rw [hMx5]; exact up_eq
        refine lv_aload_n hx hb dX0_compress_254 rfl (lv_at hl 9 rfl) ?_
        refine hp_get (C := RX0) (T := TX0) (N := 4) (v := .ref sa) E hm e_h inh0 rfl 3 (by decide) wf_X0_21 rfl dX0_compress_255 ?_
        refine lv_iconst (v := 3) hx hb dX0_compress_258 (by decide) ?_
        refine lv_dup2_11 hx hb dX0_compress_259 rfl rfl ?_
        refine hp_ialdN E hm e_sa 3 rfl (by decide) (by decide) dX0_compress_260 ?_
        refine lv_iload hx hb dX0_compress_261 (lv_at hl 4 rfl) ?_
        refine lv_iadd hx hb dX0_compress_263 ?_
        refine hp_iastN E hm hS e_sa 3 rfl (by decide) (by decide) dX0_compress_264 (fun H locs hm hS => ?_)
        obtain ⟨Mx6, hMx6⟩ : ∃ Mz, Mz = hm_up Mx5 sa (aI g 8 (upd (upd (upd (upd fa 0 ((fa 0) + x2)) 1 (((upd fa 0 ((fa 0) + x2)) 1) + x3)) 2 (((upd (upd fa 0 ((fa 0) + x2)) 1 (((upd fa 0 ((fa 0) + x2)) 1) + x3)) 2) + x4)) 3 (((upd (upd (upd fa 0 ((fa 0) + x2)) 1 (((upd fa 0 ((fa 0) + x2)) 1) + x3)) 2 (((upd (upd fa 0 ((fa 0) + x2)) 1 (((upd fa 0 ((fa 0) + x2)) 1) + x3)) 2) + x4)) 3) + x5))) := ⟨_, rfl⟩
        have hm : hp g Mx6 H := by rw [hMx6]; exact hm
        have e_h : Mx6 h = some (.inr (0, [.ref nm, .ref ms, .ref sc, .ref sa])) := by rw [hMx6]; exact up_at (ne_lk e_h e_sa (by simp)) e_h
        have e_sc : Mx6 sc = some (aI g 64 f9) := by rw [hMx6]; exact up_at n_3 e_sc
        have e_sa : Mx6 sa = some (aI g 8 (upd (upd (upd (upd fa 0 ((fa 0) + x2)) 1 (((upd fa 0 ((fa 0) + x2)) 1) + x3)) 2 (((upd (upd fa 0 ((fa 0) + x2)) 1 (((upd fa 0 ((fa 0) + x2)) 1) + x3)) 2) + x4)) 3 (((upd (upd (upd fa 0 ((fa 0) + x2)) 1 (((upd fa 0 ((fa 0) + x2)) 1) + x3)) 2 (((upd (upd fa 0 ((fa 0) + x2)) 1 (((upd fa 0 ((fa 0) + x2)) 1) + x3)) 2) + x4)) 3) + x5))) := by rw [hMx6]; exact up_eq
        refine lv_aload_n hx hb dX0_compress_265 rfl (lv_at hl 9 rfl) ?_
        refine hp_get (C := RX0) (T := TX0) (N := 4) (v := .ref sa) E hm e_h inh0 rfl 3 (by decide) wf_X0_21 rfl dX0_compress_266 ?_
        refine lv_iconst (v := 4) hx hb dX0_compress_269 (by decide) ?_
        refine lv_dup2_11 hx hb dX0_compress_270 rfl rfl ?_
        refine hp_ialdN E hm e_sa 4 rfl (by decide) (by decide) dX0_compress_271 ?_
        refine lv_iload hx hb dX0_compress_272 (lv_at hl 5 rfl) ?_
        refine lv_iadd hx hb dX0_compress_274 ?_
        refine hp_iastN E hm hS e_sa 4 rfl (by decide) (by decide) dX0_compress_275 (fun H locs hm hS => ?_)
        obtain ⟨Mx7, hMx7⟩ : ∃ Mz, Mz = hm_up Mx6 sa (aI g 8 (upd (upd (upd (upd (upd fa 0 ((fa 0) + x2)) 1 (((upd fa 0 ((fa 0) + x2)) 1) + x3)) 2 (((upd (upd fa 0 ((fa 0) + x2)) 1 (((upd fa 0 ((fa 0) + x2)) 1) + x3)) 2) + x4)) 3 (((upd (upd (upd fa 0 ((fa 0) + x2)) 1 (((upd fa 0 ((fa 0) + x2)) 1) + x3)) 2 (((upd (upd fa 0 ((fa 0) + x2)) 1 (((upd fa 0 ((fa 0) + x2)) 1) + x3)) 2) + x4)) 3) + x5)) 4 (((upd (upd (upd (upd fa 0 ((fa 0) + x2)) 1 (((upd fa 0 ((fa 0) + x2)) 1) + x3)) 2 (((upd (upd fa 0 ((fa 0) + x2)) 1 (((upd fa 0 ((fa 0) + x2)) 1) + x3)) 2) + x4)) 3 (((upd (upd (upd fa 0 ((fa 0) + x2)) 1 (((upd fa 0 ((fa 0) + x2)) 1) + x3)) 2 (((upd (upd fa 0 ((fa 0) + x2)) 1 (((upd fa 0 ((fa 0) + x2)) 1) + x3)) 2) + x4)) 3) + x5)) 4) + x6))) := ⟨_, rfl⟩
        have hm : hp g Mx7 H := by rw [hMx7]; exact hm
        have e_h : Mx7 h = some (.inr (0, [.ref nm, .ref ms, .ref sc, .ref sa])) := by rw [hMx7]; exact up_at (ne_lk e_h e_sa (by simp)) e_h
        have e_sc : Mx7 sc = some (aI g 64 f9) := by rw [hMx7]; exact up_at n_3 e_sc
        have e_sa : Mx7 sa = some (aI g 8 (upd (upd (upd (upd (upd fa 0 ((fa 0) + x2)) 1 (((upd fa 0 ((fa 0) + x2)) 1) + x3)) 2 (((upd (upd fa 0 ((fa 0) + x2)) 1 (((upd fa 0 ((fa 0) + x2)) 1) + x3)) 2) + x4)) 3 (((upd (upd (upd fa 0 ((fa 0) + x2)) 1 (((upd fa 0 ((fa 0) + x2)) 1) + x3)) 2 (((upd (upd fa 0 ((fa 0) + x2)) 1 (((upd fa 0 ((fa 0) + x2)) 1) + x3)) 2) + x4)) 3) + x5)) 4 (((upd (upd (upd (upd fa 0 ((fa 0) + x2)) 1 (((upd fa 0 ((fa 0) + x2)) 1) + x3)) 2 (((upd (upd fa 0 ((fa 0) + x2)) 1 (((upd fa 0 ((fa 0) + x2)) 1) + x3)) 2) + x4)) 3 (((upd (upd (upd fa 0 ((fa 0) + x2)) 1 (((upd fa 0 ((fa 0) + x2)) 1) + x3)) 2 (((upd (upd fa 0 ((fa 0) + x2)) 1 (((upd fa 0 ((fa 0) + x2)) 1) + x3)) 2) + x4)) 3) + x5)) 4) + x6))) := by rw [hMx7]; exact up_eq
        refine lv_aload_n hx hb dX0_compress_276 rfl (lv_at hl 9 rfl) ?_
        refine hp_get (C := RX0) (T := TX0) (N := 4) (v := .ref sa) E hm e_h inh0 rfl 3 (by decide) wf_X0_21 rfl dX0_compress_277 ?_
        refine lv_iconst (v := 5) hx hb dX0_compress_280 (by decide) ?_
        refine lv_dup2_11 hx hb dX0_compress_281 rfl rfl ?_
        refine hp_ialdN E hm e_sa 5 rfl (by decide) (by decide) dX0_compress_282 ?_
        refine lv_iload hx hb dX0_compress_283 (lv_at hl 6 rfl) ?_
        refine lv_iadd hx hb dX0_compress_285 ?_
        refine hp_iastN E hm hS e_sa 5 rfl (by decide) (by decide) dX0_compress_286 (fun H locs hm hS => ?_)
        obtain ⟨Mx8, hMx8⟩ : ∃ Mz, Mz = hm_up Mx7 sa (aI g 8 (upd (upd (upd (upd (upd (upd fa 0 ((fa 0) + x2)) 1 (((upd fa 0 ((fa 0) + x2)) 1) + x3)) 2 (((upd (upd fa 0 ((fa 0) + x2)) 1 (((upd fa 0 ((fa 0) + x2)) 1) + x3)) 2) + x4)) 3 (((upd (upd (upd fa 0 ((fa 0) + x2)) 1 (((upd fa 0 ((fa 0) + x2)) 1) + x3)) 2 (((upd (upd fa 0 ((fa 0) + x2)) 1 (((upd fa 0 ((fa 0) + x2)) 1) + x3)) 2) + x4)) 3) + x5)) 4 (((upd (upd (upd (upd fa 0 ((fa 0) + x2)) 1 (((upd fa 0 ((fa 0) + x2)) 1) + x3)) 2 (((upd (upd fa 0 ((fa 0) + x2)) 1 (((upd fa 0 ((fa 0) + x2)) 1) + x3)) 2) + x4)) 3 (((upd (upd (upd fa 0 ((fa 0) + x2)) 1 (((upd fa 0 ((fa 0) + x2)) 1) + x3)) 2 (((upd (upd fa 0 ((fa 0) + x2)) 1 (((upd fa 0 ((fa 0) + x2)) 1) + x3)) 2) + x4)) 3) + x5)) 4) + x6)) 5 (((upd (upd (upd (upd (upd fa 0 ((fa 0) + x2)) 1 (((upd fa 0 ((fa 0) + x2)) 1) + x3)) 2 (((upd (upd fa 0 ((fa 0) + x2)) 1 (((upd fa 0 ((fa 0) + x2)) 1) + x3)) 2) + x4)) 3 (((upd (upd (upd fa 0 ((fa 0) + x2)) 1 (((upd fa 0 ((fa 0) + x2)) 1) + x3)) 2 (((upd (upd fa 0 ((fa 0) + x2)) 1 (((upd fa 0 ((fa 0) + x2)) 1) + x3)) 2) + x4)) 3) + x5)) 4 (((upd (upd (upd (upd fa 0 ((fa 0) + x2)) 1 (((upd fa 0 ((fa 0) + x2)) 1) + x3)) 2 (((upd (upd fa 0 ((fa 0) + x2)) 1 (((upd fa 0 ((fa 0) + x2)) 1) + x3)) 2) + x4)) 3 (((upd (upd (upd fa 0 ((fa 0) + x2)) 1 (((upd fa 0 ((fa 0) + x2)) 1) + x3)) 2 (((upd (upd fa 0 ((fa 0) + x2)) 1 (((upd fa 0 ((fa 0) + x2)) 1) + x3)) 2) + x4)) 3) + x5)) 4) + x6)) 5) + x7))) := ⟨_, rfl⟩
        have hm : hp g Mx8 H := by rw [hMx8]; exact hm
        have e_h : Mx8 h = some (.inr (0, [.ref nm, .ref ms, .ref sc, .ref sa])) := by rw [hMx8]; exact up_at (ne_lk e_h e_sa (by simp)) e_h
        have e_sc : Mx8 sc = some (aI g 64 f9) := by rw [hMx8]; exact up_at n_3 e_sc
        have e_sa : Mx8 sa = some (aI g 8 (upd (upd (upd (upd (upd (upd fa 0 ((fa 0) + x2)) 1 (((upd fa 0 ((fa 0) + x2)) 1) + x3)) 2 (((upd (upd fa 0 ((fa 0) + x2)) 1 (((upd fa 0 ((fa 0) + x2)) 1) + x3)) 2) + x4)) 3 (((upd (upd (upd fa 0 ((fa 0) + x2)) 1 (((upd fa 0 ((fa 0) + x2)) 1) + x3)) 2 (((upd (upd fa 0 ((fa 0) + x2)) 1 (((upd fa 0 ((fa 0) + x2)) 1) + x3)) 2) + x4)) 3) + x5)) 4 (((upd (upd (upd (upd fa 0 ((fa 0) + x2)) 1 (((upd fa 0 ((fa 0) + x2)) 1) + x3)) 2 (((upd (upd fa 0 ((fa 0) + x2)) 1 (((upd fa 0 ((fa 0) + x2)) 1) + x3)) 2) + x4)) 3 (((upd (upd (upd fa 0 ((fa 0) + x2)) 1 (((upd fa 0 ((fa 0) + x2)) 1) + x3)) 2 (((upd (upd fa 0 ((fa 0) + x2)) 1 (((upd fa 0 ((fa 0) + x2)) 1) + x3)) 2) + x4)) 3) + x5)) 4) + x6)) 5 (((upd (upd (upd (upd (upd fa 0 ((fa 0) + x2)) 1 (((upd fa 0 ((fa 0) + x2)) 1) + x3)) 2 (((upd (upd fa 0 ((fa 0) + x2)) 1 (((upd fa 0 ((fa 0) + x2)) 1) + x3)) 2) + x4)) 3 (((upd (upd (upd fa 0 ((fa 0) + x2)) 1 (((upd fa 0 ((fa 0) + x2)) 1) + x3)) 2 (((upd (upd fa 0 ((fa 0) + x2)) 1 (((upd fa 0 ((fa 0) + x2)) 1) + x3)) 2) + x4)) 3) + x5)) 4 (((upd (upd (upd (upd fa 0 ((fa 0) + x2)) 1 (((upd fa 0 ((fa 0) + x2)) 1) + x3)) 2 (((upd (upd fa 0 ((fa 0) + x2)) 1 (((upd fa 0 ((fa 0) + x2)) 1) + x3)) 2) + x4)) 3 (((upd (upd (upd fa 0 ((fa 0) + x2)) 1 (((upd fa 0 ((fa 0) + x2)) 1) + x3)) 2 (((upd (upd fa 0 ((fa 0) + x2)) 1 (((upd fa 0 ((fa 0) + x2)) 1) + x3)) 2) + x4)) 3) + x5)) 4) + x6)) 5) + x7))) := by rw [hMx8]; exact up_eq
        refine lv_aload_n hx hb dX0_compress_287 rfl (lv_at hl 9 rfl) ?_
        refine hp_get (C := RX0) (T := TX0) (N := 4) (v := .ref sa) E hm e_h inh0 rfl 3 (by decide) wf_X0_21 rfl dX0_compress_288 ?_
        refine lv_bipush (v := 6) hx hb dX0_compress_291 (by decide) ?_
        refine lv_dup2_11 hx hb dX0_compress_293 rfl rfl ?_
        refine hp_ialdN E hm e_sa 6 rfl (by decide) (by decide) dX0_compress_294 ?_
        refine lv_iload hx hb dX0_compress_295 (lv_at hl 7 rfl) ?_
        refine lv_iadd hx hb dX0_compress_297 ?_
        refine hp_iastN E hm hS e_sa 6 rfl (by decide) (by decide) dX0_compress_298 (fun H locs hm hS => ?_)
        obtain ⟨Mx9, hMx9⟩ : ∃ Mz, Mz = hm_up Mx8 sa (aI g 8 (upd (upd (upd (upd (upd (upd (upd fa 0 ((fa 0) + x2)) 1 (((upd fa 0 ((fa 0) + x2)) 1) + x3)) 2 (((upd (upd fa 0 ((fa 0) + x2)) 1 (((upd fa 0 ((fa 0) + x2)) 1) + x3)) 2) + x4)) 3 (((upd (upd (upd fa 0 ((fa 0) + x2)) 1 (((upd fa 0 ((fa 0) + x2)) 1) + x3)) 2 (((upd (upd fa 0 ((fa 0) + x2)) 1 (((upd fa 0 ((fa 0) + x2)) 1) + x3)) 2) + x4)) 3) + x5)) 4 (((upd (upd (upd (upd fa 0 ((fa 0) + x2)) 1 (((upd fa 0 ((fa 0) + x2)) 1) + x3)) 2 (((upd (upd fa 0 ((fa 0) + x2)) 1 (((upd fa 0 ((fa 0) + x2)) 1) + x3)) 2) + x4)) 3 (((upd (upd (upd fa 0 ((fa 0) + x2)) 1 (((upd fa 0 ((fa 0) + x2)) 1) + x3)) 2 (((upd (upd fa 0 ((fa 0) + x2)) 1 (((upd fa 0 ((fa 0) + x2)) 1) + x3)) 2) + x4)) 3) + x5)) 4) + x6)) 5 (((upd (upd (upd (upd (upd fa 0 ((fa 0) + x2)) 1 (((upd fa 0 ((fa 0) + x2)) 1) + x3)) 2 (((upd (upd fa 0 ((fa 0) + x2)) 1 (((upd fa 0 ((fa 0) + x2)) 1) + x3)) 2) + x4)) 3 (((upd (upd (upd fa 0 ((fa 0) + x2)) 1 (((upd fa 0 ((fa 0) + x2)) 1) + x3)) 2 (((upd (upd fa 0 ((fa 0) + x2)) 1 (((upd fa 0 ((fa 0) + x2)) 1) + x3)) 2) + x4)) 3) + x5)) 4 (((upd (upd (upd (upd fa 0 ((fa 0) + x2)) 1 (((upd fa 0 ((fa 0) + x2)) 1) + x3)) 2 (((upd (upd fa 0 ((fa 0) + x2)) 1 (((upd fa 0 ((fa 0) + x2)) 1) + x3)) 2) + x4)) 3 (((upd (upd (upd fa 0 ((fa 0) + x2)) 1 (((upd fa 0 ((fa 0) + x2)) 1) + x3)) 2 (((upd (upd fa 0 ((fa 0) + x2)) 1 (((upd fa 0 ((fa 0) + x2)) 1) + x3)) 2) + x4)) 3) + x5)) 4) + x6)) 5) + x7)) 6 (((upd (upd (upd (upd (upd (upd fa 0 ((fa 0) + x2)) 1 (((upd fa 0 ((fa 0) + x2)) 1) + x3)) 2 (((upd (upd fa 0 ((fa 0) + x2)) 1 (((upd fa 0 ((fa 0) + x2)) 1) + x3)) 2) + x4)) 3 (((upd (upd (upd fa 0 ((fa 0) + x2)) 1 (((upd fa 0 ((fa 0) + x2)) 1) + x3)) 2 (((upd (upd fa 0 ((fa 0) + x2)) 1 (((upd fa 0 ((fa 0) + x2)) 1) + x3)) 2) + x4)) 3) + x5)) 4 (((upd (upd (upd (upd fa 0 ((fa 0) + x2)) 1 (((upd fa 0 ((fa 0) + x2)) 1) + x3)) 2 (((upd (upd fa 0 ((fa 0) + x2)) 1 (((upd fa 0 ((fa 0) + x2)) 1) + x3)) 2) + x4)) 3 (((upd (upd (upd fa 0 ((fa 0) + x2)) 1 (((upd fa 0 ((fa 0) + x2)) 1) + x3)) 2 (((upd (upd fa 0 ((fa 0) + x2)) 1 (((upd fa 0 ((fa 0) + x2)) 1) + x3)) 2) + x4)) 3) + x5)) 4) + x6)) 5 (((upd (upd (upd (upd (upd fa 0 ((fa 0) + x2)) 1 (((upd fa 0 ((fa 0) + x2)) 1) + x3)) 2 (((upd (upd fa 0 ((fa 0) + x2)) 1 (((upd fa 0 ((fa 0) + x2)) 1) + x3)) 2) + x4)) 3 (((upd (upd (upd fa 0 ((fa 0) + x2)) 1 (((upd fa 0 ((fa 0) + x2)) 1) + x3)) 2 (((upd (upd fa 0 ((fa 0) + x2)) 1 (((upd fa 0 ((fa 0) + x2)) 1) + x3)) 2) + x4)) 3) + x5)) 4 (((upd (upd (upd (upd fa 0 ((fa 0) + x2)) 1 (((upd fa 0 ((fa 0) + x2)) 1) + x3)) 2 (((upd (upd fa 0 ((fa 0) + x2)) 1 (((upd fa 0 ((fa 0) + x2)) 1) + x3)) 2) + x4)) 3 (((upd (upd (upd fa 0 ((fa 0) + x2)) 1 (((upd fa 0 ((fa 0) + x2)) 1) + x3)) 2 (((upd (upd fa 0 ((fa 0) + x2)) 1 (((upd fa 0 ((fa 0) + x2)) 1) + x3)) 2) + x4)) 3) + x5)) 4) + x6)) 5) + x7)) 6) + x8))) := ⟨_, rfl⟩
        have hm : hp g Mx9 H := by rw [hMx9]; exact hm
        have e_h : Mx9 h = some (.inr (0, [.ref nm, .ref ms, .ref sc, .ref sa])) := by rw [hMx9]; exact up_at (ne_lk e_h e_sa (by simp)) e_h
        have e_sc : Mx9 sc = some (aI g 64 f9) := by rw [hMx9]; exact up_at n_3 e_sc
        have e_sa : Mx9 sa = some (aI g 8 (upd (upd (upd (upd (upd (upd (upd fa 0 ((fa 0) + x2)) 1 (((upd fa 0 ((fa 0) + x2)) 1) + x3)) 2 (((upd (upd fa 0 ((fa 0) + x2)) 1 (((upd fa 0 ((fa 0) + x2)) 1) + x3)) 2) + x4)) 3 (((upd (upd (upd fa 0 ((fa 0) + x2)) 1 (((upd fa 0 ((fa 0) + x2)) 1) + x3)) 2 (((upd (upd fa 0 ((fa 0) + x2)) 1 (((upd fa 0 ((fa 0) + x2)) 1) + x3)) 2) + x4)) 3) + x5)) 4 (((upd (upd (upd (upd fa 0 ((fa 0) + x2)) 1 (((upd fa 0 ((fa 0) + x2)) 1) + x3)) 2 (((upd (upd fa 0 ((fa 0) + x2)) 1 (((upd fa 0 ((fa 0) + x2)) 1) + x3)) 2) + x4)) 3 (((upd (upd (upd fa 0 ((fa 0) + x2)) 1 (((upd fa 0 ((fa 0) + x2)) 1) + x3)) 2 (((upd (upd fa 0 ((fa 0) + x2)) 1 (((upd fa 0 ((fa 0) + x2)) 1) + x3)) 2) + x4)) 3) + x5)) 4) + x6)) 5 (((upd (upd (upd (upd (upd fa 0 ((fa 0) + x2)) 1 (((upd fa 0 ((fa 0) + x2)) 1) + x3)) 2 (((upd (upd fa 0 ((fa 0) + x2)) 1 (((upd fa 0 ((fa 0) + x2)) 1) + x3)) 2) + x4)) 3 (((upd (upd (upd fa 0 ((fa 0) + x2)) 1 (((upd fa 0 ((fa 0) + x2)) 1) + x3)) 2 (((upd (upd fa 0 ((fa 0) + x2)) 1 (((upd fa 0 ((fa 0) + x2)) 1) + x3)) 2) + x4)) 3) + x5)) 4 (((upd (upd (upd (upd fa 0 ((fa 0) + x2)) 1 (((upd fa 0 ((fa 0) + x2)) 1) + x3)) 2 (((upd (upd fa 0 ((fa 0) + x2)) 1 (((upd fa 0 ((fa 0) + x2)) 1) + x3)) 2) + x4)) 3 (((upd (upd (upd fa 0 ((fa 0) + x2)) 1 (((upd fa 0 ((fa 0) + x2)) 1) + x3)) 2 (((upd (upd fa 0 ((fa 0) + x2)) 1 (((upd fa 0 ((fa 0) + x2)) 1) + x3)) 2) + x4)) 3) + x5)) 4) + x6)) 5) + x7)) 6 (((upd (upd (upd (upd (upd (upd fa 0 ((fa 0) + x2)) 1 (((upd fa 0 ((fa 0) + x2)) 1) + x3)) 2 (((upd (upd fa 0 ((fa 0) + x2)) 1 (((upd fa 0 ((fa 0) + x2)) 1) + x3)) 2) + x4)) 3 (((upd (upd (upd fa 0 ((fa 0) + x2)) 1 (((upd fa 0 ((fa 0) + x2)) 1) + x3)) 2 (((upd (upd fa 0 ((fa 0) + x2)) 1 (((upd fa 0 ((fa 0) + x2)) 1) + x3)) 2) + x4)) 3) + x5)) 4 (((upd (upd (upd (upd fa 0 ((fa 0) + x2)) 1 (((upd fa 0 ((fa 0) + x2)) 1) + x3)) 2 (((upd (upd fa 0 ((fa 0) + x2)) 1 (((upd fa 0 ((fa 0) + x2)) 1) + x3)) 2) + x4)) 3 (((upd (upd (upd fa 0 ((fa 0) + x2)) 1 (((upd fa 0 ((fa 0) + x2)) 1) + x3)) 2 (((upd (upd fa 0 ((fa 0) + x2)) 1 (((upd fa 0 ((fa 0) + x2)) 1) + x3)) 2) + x4)) 3) + x5)) 4) + x6)) 5 (((upd (upd (upd (upd (upd fa 0 ((fa 0) + x2)) 1 (((upd fa 0 ((fa 0) + x2)) 1) + x3)) 2 (((upd (upd fa 0 ((fa 0) + x2)) 1 (((upd fa 0 ((fa 0) + x2)) 1) + x3)) 2) + x4)) 3 (((upd (upd (upd fa 0 ((fa 0) + x2)) 1 (((upd fa 0 ((fa 0) + x2)) 1) + x3)) 2 (((upd (upd fa 0 ((fa 0) + x2)) 1 (((upd fa 0 ((fa 0) + x2)) 1) + x3)) 2) + x4)) 3) + x5)) 4 (((upd (upd (upd (upd fa 0 ((fa 0) + x2)) 1 (((upd fa 0 ((fa 0) + x2)) 1) + x3)) 2 (((upd (upd fa 0 ((fa 0) + x2)) 1 (((upd fa 0 ((fa 0) + x2)) 1) + x3)) 2) + x4)) 3 (((upd (upd (upd fa 0 ((fa 0) + x2)) 1 (((upd fa 0 ((fa 0) + x2)) 1) + x3)) 2 (((upd (upd fa 0 ((fa 0) + x2)) 1 (((upd fa 0 ((fa 0) + x2)) 1) + x3)) 2) + x4)) 3) + x5)) 4) + x6)) 5) + x7)) 6) + x8))) := by rw [hMx9]; exact up_eq
        refine lv_aload_n hx hb dX0_compress_299 rfl (lv_at hl 9 rfl) ?_
        refine hp_get (C := RX0) (T := TX0) (N := 4) (v := .ref sa) E hm e_h inh0 rfl 3 (by decide) wf_X0_21 rfl dX0_compress_300 ?_
        refine lv_bipush (v := 7) hx hb dX0_compress_303 (by decide) ?_
        refine lv_dup2_11 hx hb dX0_compress_305 rfl rfl ?_
        refine hp_ialdN E hm e_sa 7 rfl (by decide) (by decide) dX0_compress_306 ?_
        refine lv_iload hx hb dX0_compress_307 (lv_at hl 8 rfl) ?_
        refine lv_iadd hx hb dX0_compress_309 ?_
        refine hp_iastN E hm hS e_sa 7 rfl (by decide) (by decide) dX0_compress_310 (fun H locs hm hS => ?_)
        obtain ⟨Mx10, hMx10⟩ : ∃ Mz, Mz = hm_up Mx9 sa (aI g 8 (upd (upd (upd (upd (upd (upd (upd (upd fa 0 ((fa 0) + x2)) 1 (((upd fa 0 ((fa 0) + x2)) 1) + x3)) 2 (((upd (upd fa 0 ((fa 0) + x2)) 1 (((upd fa 0 ((fa 0) + x2)) 1) + x3)) 2) + x4)) 3 (((upd (upd (upd fa 0 ((fa 0) + x2)) 1 (((upd fa 0 ((fa 0) + x2)) 1) + x3)) 2 (((upd (upd fa 0 ((fa 0) + x2)) 1 (((upd fa 0 ((fa 0) + x2)) 1) + x3)) 2) + x4)) 3) + x5)) 4 (((upd (upd (upd (upd fa 0 ((fa 0) + x2)) 1 (((upd fa 0 ((fa 0) + x2)) 1) + x3)) 2 (((upd (upd fa 0 ((fa 0) + x2)) 1 (((upd fa 0 ((fa 0) + x2)) 1) + x3)) 2) + x4)) 3 (((upd (upd (upd fa 0 ((fa 0) + x2)) 1 (((upd fa 0 ((fa 0) + x2)) 1) + x3)) 2 (((upd (upd fa 0 ((fa 0) + x2)) 1 (((upd fa 0 ((fa 0) + x2)) 1) + x3)) 2) + x4)) 3) + x5)) 4) + x6)) 5 (((upd (upd (upd (upd (upd fa 0 ((fa 0) + x2)) 1 (((upd fa 0 ((fa 0) + x2)) 1) + x3)) 2 (((upd (upd fa 0 ((fa 0) + x2)) 1 (((upd fa 0 ((fa 0) + x2)) 1) + x3)) 2) + x4)) 3 (((upd (upd (upd fa 0 ((fa 0) + x2)) 1 (((upd fa 0 ((fa 0) + x2)) 1) + x3)) 2 (((upd (upd fa 0 ((fa 0) + x2)) 1 (((upd fa 0 ((fa 0) + x2)) 1) + x3)) 2) + x4)) 3) + x5)) 4 (((upd (upd (upd (upd fa 0 ((fa 0) + x2)) 1 (((upd fa 0 ((fa 0) + x2)) 1) + x3)) 2 (((upd (upd fa 0 ((fa 0) + x2)) 1 (((upd fa 0 ((fa 0) + x2)) 1) + x3)) 2) + x4)) 3 (((upd (upd (upd fa 0 ((fa 0) + x2)) 1 (((upd fa 0 ((fa 0) + x2)) 1) + x3)) 2 (((upd (upd fa 0 ((fa 0) + x2)) 1 (((upd fa 0 ((fa 0) + x2)) 1) + x3)) 2) + x4)) 3) + x5)) 4) + x6)) 5) + x7)) 6 (((upd (upd (upd (upd (upd (upd fa 0 ((fa 0) + x2)) 1 (((upd fa 0 ((fa 0) + x2)) 1) + x3)) 2 (((upd (upd fa 0 ((fa 0) + x2)) 1 (((upd fa 0 ((fa 0) + x2)) 1) + x3)) 2) + x4)) 3 (((upd (upd (upd fa 0 ((fa 0) + x2)) 1 (((upd fa 0 ((fa 0) + x2)) 1) + x3)) 2 (((upd (upd fa 0 ((fa 0) + x2)) 1 (((upd fa 0 ((fa 0) + x2)) 1) + x3)) 2) + x4)) 3) + x5)) 4 (((upd (upd (upd (upd fa 0 ((fa 0) + x2)) 1 (((upd fa 0 ((fa 0) + x2)) 1) + x3)) 2 (((upd (upd fa 0 ((fa 0) + x2)) 1 (((upd fa 0 ((fa 0) + x2)) 1) + x3)) 2) + x4)) 3 (((upd (upd (upd fa 0 ((fa 0) + x2)) 1 (((upd fa 0 ((fa 0) + x2)) 1) + x3)) 2 (((upd (upd fa 0 ((fa 0) + x2)) 1 (((upd fa 0 ((fa 0) + x2)) 1) + x3)) 2) + x4)) 3) + x5)) 4) + x6)) 5 (((upd (upd (upd (upd (upd fa 0 ((fa 0) + x2)) 1 (((upd fa 0 ((fa 0) + x2)) 1) + x3)) 2 (((upd (upd fa 0 ((fa 0) + x2)) 1 (((upd fa 0 ((fa 0) + x2)) 1) + x3)) 2) + x4)) 3 (((upd (upd (upd fa 0 ((fa 0) + x2)) 1 (((upd fa 0 ((fa 0) + x2)) 1) + x3)) 2 (((upd (upd fa 0 ((fa 0) + x2)) 1 (((upd fa 0 ((fa 0) + x2)) 1) + x3)) 2) + x4)) 3) + x5)) 4 (((upd (upd (upd (upd fa 0 ((fa 0) + x2)) 1 (((upd fa 0 ((fa 0) + x2)) 1) + x3)) 2 (((upd (upd fa 0 ((fa 0) + x2)) 1 (((upd fa 0 ((fa 0) + x2)) 1) + x3)) 2) + x4)) 3 (((upd (upd (upd fa 0 ((fa 0) + x2)) 1 (((upd fa 0 ((fa 0) + x2)) 1) + x3)) 2 (((upd (upd fa 0 ((fa 0) + x2)) 1 (((upd fa 0 ((fa 0) + x2)) 1) + x3)) 2) + x4)) 3) + x5)) 4) + x6)) 5) + x7)) 6) + x8)) 7 (((upd (upd (upd (upd (upd (upd (upd fa 0 ((fa 0) + x2)) 1 (((upd fa 0 ((fa 0) + x2)) 1) + x3)) 2 (((upd (upd fa 0 ((fa 0) + x2)) 1 (((upd fa 0 ((fa 0) + x2)) 1) + x3)) 2) + x4)) 3 (((upd (upd (upd fa 0 ((fa 0) + x2)) 1 (((upd fa 0 ((fa 0) + x2)) 1) + x3)) 2 (((upd (upd fa 0 ((fa 0) + x2)) 1 (((upd fa 0 ((fa 0) + x2)) 1) + x3)) 2) + x4)) 3) + x5)) 4 (((upd (upd (upd (upd fa 0 ((fa 0) + x2)) 1 (((upd fa 0 ((fa 0) + x2)) 1) + x3)) 2 (((upd (upd fa 0 ((fa 0) + x2)) 1 (((upd fa 0 ((fa 0) + x2)) 1) + x3)) 2) + x4)) 3 (((upd (upd (upd fa 0 ((fa 0) + x2)) 1 (((upd fa 0 ((fa 0) + x2)) 1) + x3)) 2 (((upd (upd fa 0 ((fa 0) + x2)) 1 (((upd fa 0 ((fa 0) + x2)) 1) + x3)) 2) + x4)) 3) + x5)) 4) + x6)) 5 (((upd (upd (upd (upd (upd fa 0 ((fa 0) + x2)) 1 (((upd fa 0 ((fa 0) + x2)) 1) + x3)) 2 (((upd (upd fa 0 ((fa 0) + x2)) 1 (((upd fa 0 ((fa 0) + x2)) 1) + x3)) 2) + x4)) 3 (((upd (upd (upd fa 0 ((fa 0) + x2)) 1 (((upd fa 0 ((fa 0) + x2)) 1) + x3)) 2 (((upd (upd fa 0 ((fa 0) + x2)) 1 (((upd fa 0 ((fa 0) + x2)) 1) + x3)) 2) + x4)) 3) + x5)) 4 (((upd (upd (upd (upd fa 0 ((fa 0) + x2)) 1 (((upd fa 0 ((fa 0) + x2)) 1) + x3)) 2 (((upd (upd fa 0 ((fa 0) + x2)) 1 (((upd fa 0 ((fa 0) + x2)) 1) + x3)) 2) + x4)) 3 (((upd (upd (upd fa 0 ((fa 0) + x2)) 1 (((upd fa 0 ((fa 0) + x2)) 1) + x3)) 2 (((upd (upd fa 0 ((fa 0) + x2)) 1 (((upd fa 0 ((fa 0) + x2)) 1) + x3)) 2) + x4)) 3) + x5)) 4) + x6)) 5) + x7)) 6 (((upd (upd (upd (upd (upd (upd fa 0 ((fa 0) + x2)) 1 (((upd fa 0 ((fa 0) + x2)) 1) + x3)) 2 (((upd (upd fa 0 ((fa 0) + x2)) 1 (((upd fa 0 ((fa 0) + x2)) 1) + x3)) 2) + x4)) 3 (((upd (upd (upd fa 0 ((fa 0) + x2)) 1 (((upd fa 0 ((fa 0) + x2)) 1) + x3)) 2 (((upd (upd fa 0 ((fa 0) + x2)) 1 (((upd fa 0 ((fa 0) + x2)) 1) + x3)) 2) + x4)) 3) + x5)) 4 (((upd (upd (upd (upd fa 0 ((fa 0) + x2)) 1 (((upd fa 0 ((fa 0) + x2)) 1) + x3)) 2 (((upd (upd fa 0 ((fa 0) + x2)) 1 (((upd fa 0 ((fa 0) + x2)) 1) + x3)) 2) + x4)) 3 (((upd (upd (upd fa 0 ((fa 0) + x2)) 1 (((upd fa 0 ((fa 0) + x2)) 1) + x3)) 2 (((upd (upd fa 0 ((fa 0) + x2)) 1 (((upd fa 0 ((fa 0) + x2)) 1) + x3)) 2) + x4)) 3) + x5)) 4) + x6)) 5 (((upd (upd (upd (upd (upd fa 0 ((fa 0) + x2)) 1 (((upd fa 0 ((fa 0) + x2)) 1) + x3)) 2 (((upd (upd fa 0 ((fa 0) + x2)) 1 (((upd fa 0 ((fa 0) + x2)) 1) + x3)) 2) + x4)) 3 (((upd (upd (upd fa 0 ((fa 0) + x2)) 1 (((upd fa 0 ((fa 0) + x2)) 1) + x3)) 2 (((upd (upd fa 0 ((fa 0) + x2)) 1 (((upd fa 0 ((fa 0) + x2)) 1) + x3)) 2) + x4)) 3) + x5)) 4 (((upd (upd (upd (upd fa 0 ((fa 0) + x2)) 1 (((upd fa 0 ((fa 0) + x2)) 1) + x3)) 2 (((upd (upd fa 0 ((fa 0) + x2)) 1 (((upd fa 0 ((fa 0) + x2)) 1) + x3)) 2) + x4)) 3 (((upd (upd (upd fa 0 ((fa 0) + x2)) 1 (((upd fa 0 ((fa 0) + x2)) 1) + x3)) 2 (((upd (upd fa 0 ((fa 0) + x2)) 1 (((upd fa 0 ((fa 0) + x2)) 1) + x3)) 2) + x4)) 3) + x5)) 4) + x6)) 5) + x7)) 6) + x8)) 7) + x9))) := ⟨_, rfl⟩
        have hm : hp g Mx10 H := by rw [hMx10]; exact hm
        have e_h : Mx10 h = some (.inr (0, [.ref nm, .ref ms, .ref sc, .ref sa])) := by rw [hMx10]; exact up_at (ne_lk e_h e_sa (by simp)) e_h
        have e_sc : Mx10 sc = some (aI g 64 f9) := by rw [hMx10]; exact up_at n_3 e_sc
        have e_sa : Mx10 sa = some (aI g 8 (upd (upd (upd (upd (upd (upd (upd (upd fa 0 ((fa 0) + x2)) 1 (((upd fa 0 ((fa 0) + x2)) 1) + x3)) 2 (((upd (upd fa 0 ((fa 0) + x2)) 1 (((upd fa 0 ((fa 0) + x2)) 1) + x3)) 2) + x4)) 3 (((upd (upd (upd fa 0 ((fa 0) + x2)) 1 (((upd fa 0 ((fa 0) + x2)) 1) + x3)) 2 (((upd (upd fa 0 ((fa 0) + x2)) 1 (((upd fa 0 ((fa 0) + x2)) 1) + x3)) 2) + x4)) 3) + x5)) 4 (((upd (upd (upd (upd fa 0 ((fa 0) + x2)) 1 (((upd fa 0 ((fa 0) + x2)) 1) + x3)) 2 (((upd (upd fa 0 ((fa 0) + x2)) 1 (((upd fa 0 ((fa 0) + x2)) 1) + x3)) 2) + x4)) 3 (((upd (upd (upd fa 0 ((fa 0) + x2)) 1 (((upd fa 0 ((fa 0) + x2)) 1) + x3)) 2 (((upd (upd fa 0 ((fa 0) + x2)) 1 (((upd fa 0 ((fa 0) + x2)) 1) + x3)) 2) + x4)) 3) + x5)) 4) + x6)) 5 (((upd (upd (upd (upd (upd fa 0 ((fa 0) + x2)) 1 (((upd fa 0 ((fa 0) + x2)) 1) + x3)) 2 (((upd (upd fa 0 ((fa 0) + x2)) 1 (((upd fa 0 ((fa 0) + x2)) 1) + x3)) 2) + x4)) 3 (((upd (upd (upd fa 0 ((fa 0) + x2)) 1 (((upd fa 0 ((fa 0) + x2)) 1) + x3)) 2 (((upd (upd fa 0 ((fa 0) + x2)) 1 (((upd fa 0 ((fa 0) + x2)) 1) + x3)) 2) + x4)) 3) + x5)) 4 (((upd (upd (upd (upd fa 0 ((fa 0) + x2)) 1 (((upd fa 0 ((fa 0) + x2)) 1) + x3)) 2 (((upd (upd fa 0 ((fa 0) + x2)) 1 (((upd fa 0 ((fa 0) + x2)) 1) + x3)) 2) + x4)) 3 (((upd (upd (upd fa 0 ((fa 0) + x2)) 1 (((upd fa 0 ((fa 0) + x2)) 1) + x3)) 2 (((upd (upd fa 0 ((fa 0) + x2)) 1 (((upd fa 0 ((fa 0) + x2)) 1) + x3)) 2) + x4)) 3) + x5)) 4) + x6)) 5) + x7)) 6 (((upd (upd (upd (upd (upd (upd fa 0 ((fa 0) + x2)) 1 (((upd fa 0 ((fa 0) + x2)) 1) + x3)) 2 (((upd (upd fa 0 ((fa 0) + x2)) 1 (((upd fa 0 ((fa 0) + x2)) 1) + x3)) 2) + x4)) 3 (((upd (upd (upd fa 0 ((fa 0) + x2)) 1 (((upd fa 0 ((fa 0) + x2)) 1) + x3)) 2 (((upd (upd fa 0 ((fa 0) + x2)) 1 (((upd fa 0 ((fa 0) + x2)) 1) + x3)) 2) + x4)) 3) + x5)) 4 (((upd (upd (upd (upd fa 0 ((fa 0) + x2)) 1 (((upd fa 0 ((fa 0) + x2)) 1) + x3)) 2 (((upd (upd fa 0 ((fa 0) + x2)) 1 (((upd fa 0 ((fa 0) + x2)) 1) + x3)) 2) + x4)) 3 (((upd (upd (upd fa 0 ((fa 0) + x2)) 1 (((upd fa 0 ((fa 0) + x2)) 1) + x3)) 2 (((upd (upd fa 0 ((fa 0) + x2)) 1 (((upd fa 0 ((fa 0) + x2)) 1) + x3)) 2) + x4)) 3) + x5)) 4) + x6)) 5 (((upd (upd (upd (upd (upd fa 0 ((fa 0) + x2)) 1 (((upd fa 0 ((fa 0) + x2)) 1) + x3)) 2 (((upd (upd fa 0 ((fa 0) + x2)) 1 (((upd fa 0 ((fa 0) + x2)) 1) + x3)) 2) + x4)) 3 (((upd (upd (upd fa 0 ((fa 0) + x2)) 1 (((upd fa 0 ((fa 0) + x2)) 1) + x3)) 2 (((upd (upd fa 0 ((fa 0) + x2)) 1 (((upd fa 0 ((fa 0) + x2)) 1) + x3)) 2) + x4)) 3) + x5)) 4 (((upd (upd (upd (upd fa 0 ((fa 0) + x2)) 1 (((upd fa 0 ((fa 0) + x2)) 1) + x3)) 2 (((upd (upd fa 0 ((fa 0) + x2)) 1 (((upd fa 0 ((fa 0) + x2)) 1) + x3)) 2) + x4)) 3 (((upd (upd (upd fa 0 ((fa 0) + x2)) 1 (((upd fa 0 ((fa 0) + x2)) 1) + x3)) 2 (((upd (upd fa 0 ((fa 0) + x2)) 1 (((upd fa 0 ((fa 0) + x2)) 1) + x3)) 2) + x4)) 3) + x5)) 4) + x6)) 5) + x7)) 6) + x8)) 7 (((upd (upd (upd (upd (upd (upd (upd fa 0 ((fa 0) + x2)) 1 (((upd fa 0 ((fa 0) + x2)) 1) + x3)) 2 (((upd (upd fa 0 ((fa 0) + x2)) 1 (((upd fa 0 ((fa 0) + x2)) 1) + x3)) 2) + x4)) 3 (((upd (upd (upd fa 0 ((fa 0) + x2)) 1 (((upd fa 0 ((fa 0) + x2)) 1) + x3)) 2 (((upd (upd fa 0 ((fa 0) + x2)) 1 (((upd fa 0 ((fa 0) + x2)) 1) + x3)) 2) + x4)) 3) + x5)) 4 (((upd (upd (upd (upd fa 0 ((fa 0) + x2)) 1 (((upd fa 0 ((fa 0) + x2)) 1) + x3)) 2 (((upd (upd fa 0 ((fa 0) + x2)) 1 (((upd fa 0 ((fa 0) + x2)) 1) + x3)) 2) + x4)) 3 (((upd (upd (upd fa 0 ((fa 0) + x2)) 1 (((upd fa 0 ((fa 0) + x2)) 1) + x3)) 2 (((upd (upd fa 0 ((fa 0) + x2)) 1 (((upd fa 0 ((fa 0) + x2)) 1) + x3)) 2) + x4)) 3) + x5)) 4) + x6)) 5 (((upd (upd (upd (upd (upd fa 0 ((fa 0) + x2)) 1 (((upd fa 0 ((fa 0) + x2)) 1) + x3)) 2 (((upd (upd fa 0 ((fa 0) + x2)) 1 (((upd fa 0 ((fa 0) + x2)) 1) + x3)) 2) + x4)) 3 (((upd (upd (upd fa 0 ((fa 0) + x2)) 1 (((upd fa 0 ((fa 0) + x2)) 1) + x3)) 2 (((upd (upd fa 0 ((fa 0) + x2)) 1 (((upd fa 0 ((fa 0) + x2)) 1) + x3)) 2) + x4)) 3) + x5)) 4 (((upd (upd (upd (upd fa 0 ((fa 0) + x2)) 1 (((upd fa 0 ((fa 0) + x2)) 1) + x3)) 2 (((upd (upd fa 0 ((fa 0) + x2)) 1 (((upd fa 0 ((fa 0) + x2)) 1) + x3)) 2) + x4)) 3 (((upd (upd (upd fa 0 ((fa 0) + x2)) 1 (((upd fa 0 ((fa 0) + x2)) 1) + x3)) 2 (((upd (upd fa 0 ((fa 0) + x2)) 1 (((upd fa 0 ((fa 0) + x2)) 1) + x3)) 2) + x4)) 3) + x5)) 4) + x6)) 5) + x7)) 6 (((upd (upd (upd (upd (upd (upd fa 0 ((fa 0) + x2)) 1 (((upd fa 0 ((fa 0) + x2)) 1) + x3)) 2 (((upd (upd fa 0 ((fa 0) + x2)) 1 (((upd fa 0 ((fa 0) + x2)) 1) + x3)) 2) + x4)) 3 (((upd (upd (upd fa 0 ((fa 0) + x2)) 1 (((upd fa 0 ((fa 0) + x2)) 1) + x3)) 2 (((upd (upd fa 0 ((fa 0) + x2)) 1 (((upd fa 0 ((fa 0) + x2)) 1) + x3)) 2) + x4)) 3) + x5)) 4 (((upd (upd (upd (upd fa 0 ((fa 0) + x2)) 1 (((upd fa 0 ((fa 0) + x2)) 1) + x3)) 2 (((upd (upd fa 0 ((fa 0) + x2)) 1 (((upd fa 0 ((fa 0) + x2)) 1) + x3)) 2) + x4)) 3 (((upd (upd (upd fa 0 ((fa 0) + x2)) 1 (((upd fa 0 ((fa 0) + x2)) 1) + x3)) 2 (((upd (upd fa 0 ((fa 0) + x2)) 1 (((upd fa 0 ((fa 0) + x2)) 1) + x3)) 2) + x4)) 3) + x5)) 4) + x6)) 5 (((upd (upd (upd (upd (upd fa 0 ((fa 0) + x2)) 1 (((upd fa 0 ((fa 0) + x2)) 1) + x3)) 2 (((upd (upd fa 0 ((fa 0) + x2)) 1 (((upd fa 0 ((fa 0) + x2)) 1) + x3)) 2) + x4)) 3 (((upd (upd (upd fa 0 ((fa 0) + x2)) 1 (((upd fa 0 ((fa 0) + x2)) 1) + x3)) 2 (((upd (upd fa 0 ((fa 0) + x2)) 1 (((upd fa 0 ((fa 0) + x2)) 1) + x3)) 2) + x4)) 3) + x5)) 4 (((upd (upd (upd (upd fa 0 ((fa 0) + x2)) 1 (((upd fa 0 ((fa 0) + x2)) 1) + x3)) 2 (((upd (upd fa 0 ((fa 0) + x2)) 1 (((upd fa 0 ((fa 0) + x2)) 1) + x3)) 2) + x4)) 3 (((upd (upd (upd fa 0 ((fa 0) + x2)) 1 (((upd fa 0 ((fa 0) + x2)) 1) + x3)) 2 (((upd (upd fa 0 ((fa 0) + x2)) 1 (((upd fa 0 ((fa 0) + x2)) 1) + x3)) 2) + x4)) 3) + x5)) 4) + x6)) 5) + x7)) 6) + x8)) 7) + x9))) := by rw [hMx10]; exact up_eq
        have hfin : (x2, x3, x4, x5, x6, x7, x8, x9) = rdF (schF (fun t => fm (fr + t)) 48) (of8 fa) 64 := by rw [hr, show i = 64 by omega]; exact rdF_w _ 64 hsc
        exact ret dX0_compress_311 hm hS (Nat.le_of_ble_eq_true rfl) (Nat.le_of_ble_eq_true rfl) (⟨f9, _, (by rw [hMx10, up_ne n_3, hMx9, up_ne n_3, hMx8, up_ne n_3, hMx7, up_ne n_3, hMx6, up_ne n_3, hMx5, up_ne n_3, hMx4, up_ne n_3, hMx3, up_ne n_3]; exact e_sc0), e_sa, (fun q h1 h2 => by rw [hMx10, up_ne h2, hMx9, up_ne h2, hMx8, up_ne h2, hMx7, up_ne h2, hMx6, up_ne h2, hMx5, up_ne h2, hMx4, up_ne h2, hMx3, up_ne h2]; exact hfr q h1), fun j hj => by
      show _ = fa j + at8 (rdF _ (of8 fa) 64) j
      rw [← hfin]
      rcases lt8 hj with q | q | q | q | q | q | q | q <;> subst q <;> simp [upd, at8]⟩)
      · have c_76 : ¬ 64 ≤ i := fun h9 => c_76 ((nI_leI (a := 64) (b := i) (by decide) (by omega)).mpr h9)
        refine lv_iload hx hb dX0_compress_79 (lv_at hl 5 rfl) ?_
        refine lv_bipush (v := 6) hx hb dX0_compress_81 (by decide) ?_
        refine hp_ci (hp_runS (np := 2) (k := 1) (mc := 0) (ms := 0) (As := [.int x6, .int 6]) (rest := []) E hm hS (c_X0_turned l g Mx1 x6 6) ms_X0_turned wt_X0_turned wl_X0_45 rfl hl.1 rfl (Nat.le_of_ble_eq_true rfl) dX0_compress_83 ⟨Nat.le_of_ble_eq_true rfl, Nat.le_of_ble_eq_true rfl⟩ ⟨(Nat.le_of_ble_eq_true rfl), (Nat.le_of_ble_eq_true rfl)⟩) hS (fun r11 Mx12 H locs hq13 hm hS => ?_)
        obtain ⟨rfl, h9⟩ := hq13
        rw [h9] at hm
        refine lv_iload hx hb dX0_compress_86 (lv_at hl 5 rfl) ?_
        refine lv_bipush (v := 11) hx hb dX0_compress_88 (by decide) ?_
        refine hp_ci (hp_runS (np := 2) (k := 1) (mc := 0) (ms := 0) (As := [.int x6, .int 11]) (rest := [.int (tur x6 6)]) E hm hS (c_X0_turned l g Mx1 x6 11) ms_X0_turned wt_X0_turned wl_X0_45 rfl hl.1 rfl (Nat.le_of_ble_eq_true rfl) dX0_compress_90 ⟨Nat.le_of_ble_eq_true rfl, Nat.le_of_ble_eq_true rfl⟩ ⟨(Nat.le_of_ble_eq_true rfl), (Nat.le_of_ble_eq_true rfl)⟩) hS (fun r14 Mx15 H locs hq16 hm hS => ?_)
        obtain ⟨rfl, h9⟩ := hq16
        rw [h9] at hm
        refine lv_ixor hx hb dX0_compress_93 ?_
        refine lv_iload hx hb dX0_compress_94 (lv_at hl 5 rfl) ?_
        refine lv_bipush (v := 25) hx hb dX0_compress_96 (by decide) ?_
        refine hp_ci (hp_runS (np := 2) (k := 1) (mc := 0) (ms := 0) (As := [.int x6, .int 25]) (rest := [.int ((tur x6 6) ^^^ (tur x6 11))]) E hm hS (c_X0_turned l g Mx1 x6 25) ms_X0_turned wt_X0_turned wl_X0_45 rfl hl.1 rfl (Nat.le_of_ble_eq_true rfl) dX0_compress_98 ⟨Nat.le_of_ble_eq_true rfl, Nat.le_of_ble_eq_true rfl⟩ ⟨(Nat.le_of_ble_eq_true rfl), (Nat.le_of_ble_eq_true rfl)⟩) hS (fun r17 Mx18 H locs hq19 hm hS => ?_)
        obtain ⟨rfl, h9⟩ := hq19
        rw [h9] at hm
        refine lv_ixor hx hb dX0_compress_101 ?_
        refine lv_istore (lv' := [(11, .int (((tur x6 6) ^^^ (tur x6 11)) ^^^ (tur x6 25))), (10, .int (nI i)), (2, .int x2), (3, .int x3), (4, .int x4), (5, .int x5), (6, .int x6), (7, .int x7), (8, .int x8), (9, .int x9), (0, .ref h), (1, .int (nI fr))]) hx hb dX0_compress_102 hl (by decide) rfl (fun ls hl => ?_)
        refine lv_iload hx hb dX0_compress_104 (lv_at hl 6 rfl) ?_
        refine lv_iload hx hb dX0_compress_106 (lv_at hl 7 rfl) ?_
        refine lv_iand hx hb dX0_compress_108 ?_
        refine lv_iload hx hb dX0_compress_109 (lv_at hl 6 rfl) ?_
        refine lv_iconst (v := (-1)) hx hb dX0_compress_111 (by decide) ?_
        refine lv_ixor hx hb dX0_compress_112 ?_
        refine lv_iload hx hb dX0_compress_113 (lv_at hl 8 rfl) ?_
        refine lv_iand hx hb dX0_compress_115 ?_
        refine lv_ixor hx hb dX0_compress_116 ?_
        refine lv_istore (lv' := [(12, .int ((x6 &&& x7) ^^^ ((x6 ^^^ ((-1))) &&& x8))), (11, .int (((tur x6 6) ^^^ (tur x6 11)) ^^^ (tur x6 25))), (10, .int (nI i)), (2, .int x2), (3, .int x3), (4, .int x4), (5, .int x5), (6, .int x6), (7, .int x7), (8, .int x8), (9, .int x9), (0, .ref h), (1, .int (nI fr))]) hx hb dX0_compress_117 hl (by decide) rfl (fun ls hl => ?_)
        refine lv_iload hx hb dX0_compress_119 (lv_at hl 10 rfl) ?_
        refine lv_iload hx hb dX0_compress_121 (lv_at hl 1 rfl) ?_
        refine lv_iadd hx hb dX0_compress_123 ?_
        refine lv_iload hx hb dX0_compress_124 (lv_at hl 0 rfl) ?_
        refine lv_iadd hx hb dX0_compress_126 ?_
        refine va_gets hx hb E.2.2.2.2.2.2.2.2.1 hS hown (hts _ wf_X0_49) (fun _ h => h) dX0_compress_127 ?_
        refine lv_iload hx hb dX0_compress_130 (lv_at hl 2 rfl) ?_
        refine hp_ialdKN E hS i rfl (by omega) dX0_compress_132 ?_
        refine lv_iadd hx hb dX0_compress_133 ?_
        refine lv_aload_n hx hb dX0_compress_134 rfl (lv_at hl 11 rfl) ?_
        refine hp_get (C := RX0) (T := TX0) (N := 4) (v := .ref sc) E hm e_h inh0 rfl 2 (by decide) wf_X0_18 rfl dX0_compress_135 ?_
        refine lv_iload hx hb dX0_compress_138 (lv_at hl 2 rfl) ?_
        refine hp_ialdN E hm e_sc i rfl (by omega) (by decide) dX0_compress_140 ?_
        refine lv_iadd hx hb dX0_compress_141 ?_
        refine lv_istore (lv' := [(13, .int ((((x9 + (((tur x6 6) ^^^ (tur x6 11)) ^^^ (tur x6 25))) + ((x6 &&& x7) ^^^ ((x6 ^^^ ((-1))) &&& x8))) + (kRound i)) + (f9 i))), (12, .int ((x6 &&& x7) ^^^ ((x6 ^^^ ((-1))) &&& x8))), (11, .int (((tur x6 6) ^^^ (tur x6 11)) ^^^ (tur x6 25))), (10, .int (nI i)), (2, .int x2), (3, .int x3), (4, .int x4), (5, .int x5), (6, .int x6), (7, .int x7), (8, .int x8), (9, .int x9), (0, .ref h), (1, .int (nI fr))]) hx hb dX0_compress_142 hl (by decide) rfl (fun ls hl => ?_)
        refine lv_iload_n hx hb dX0_compress_144 rfl (lv_at hl 4 rfl) ?_
        refine lv_iconst (v := 2) hx hb dX0_compress_145 (by decide) ?_
        refine hp_ci (hp_runS (np := 2) (k := 1) (mc := 0) (ms := 0) (As := [.int x2, .int 2]) (rest := []) E hm hS (c_X0_turned l g Mx1 x2 2) ms_X0_turned wt_X0_turned wl_X0_45 rfl hl.1 rfl (Nat.le_of_ble_eq_true rfl) dX0_compress_146 ⟨Nat.le_of_ble_eq_true rfl, Nat.le_of_ble_eq_true rfl⟩ ⟨(Nat.le_of_ble_eq_true rfl), (Nat.le_of_ble_eq_true rfl)⟩) hS (fun r20 Mx21 H locs hq22 hm hS => ?_)
        obtain ⟨rfl, h9⟩ := hq22
        rw [h9] at hm
        refine lv_iload_n hx hb dX0_compress_149 rfl (lv_at hl 4 rfl) ?_
        refine lv_bipush (v := 13) hx hb dX0_compress_150 (by decide) ?_
        refine hp_ci (hp_runS (np := 2) (k := 1) (mc := 0) (ms := 0) (As := [.int x2, .int 13]) (rest := [.int (tur x2 2)]) E hm hS (c_X0_turned l g Mx1 x2 13) ms_X0_turned wt_X0_turned wl_X0_45 rfl hl.1 rfl (Nat.le_of_ble_eq_true rfl) dX0_compress_152 ⟨Nat.le_of_ble_eq_true rfl, Nat.le_of_ble_eq_true rfl⟩ ⟨(Nat.le_of_ble_eq_true rfl), (Nat.le_of_ble_eq_true rfl)⟩) hS (fun r23 Mx24 H locs hq25 hm hS => ?_)
        obtain ⟨rfl, h9⟩ := hq25
        rw [h9] at hm
        refine lv_ixor hx hb dX0_compress_155 ?_
        refine lv_iload_n hx hb dX0_compress_156 rfl (lv_at hl 4 rfl) ?_
        refine lv_bipush (v := 22) hx hb dX0_compress_157 (by decide) ?_
        refine hp_ci (hp_runS (np := 2) (k := 1) (mc := 0) (ms := 0) (As := [.int x2, .int 22]) (rest := [.int ((tur x2 2) ^^^ (tur x2 13))]) E hm hS (c_X0_turned l g Mx1 x2 22) ms_X0_turned wt_X0_turned wl_X0_45 rfl hl.1 rfl (Nat.le_of_ble_eq_true rfl) dX0_compress_159 ⟨Nat.le_of_ble_eq_true rfl, Nat.le_of_ble_eq_true rfl⟩ ⟨(Nat.le_of_ble_eq_true rfl), (Nat.le_of_ble_eq_true rfl)⟩) hS (fun r26 Mx27 H locs hq28 hm hS => ?_)
        obtain ⟨rfl, h9⟩ := hq28
        rw [h9] at hm
        refine lv_ixor hx hb dX0_compress_162 ?_
        refine lv_istore (lv' := [(14, .int (((tur x2 2) ^^^ (tur x2 13)) ^^^ (tur x2 22))), (13, .int ((((x9 + (((tur x6 6) ^^^ (tur x6 11)) ^^^ (tur x6 25))) + ((x6 &&& x7) ^^^ ((x6 ^^^ ((-1))) &&& x8))) + (kRound i)) + (f9 i))), (12, .int ((x6 &&& x7) ^^^ ((x6 ^^^ ((-1))) &&& x8))), (11, .int (((tur x6 6) ^^^ (tur x6 11)) ^^^ (tur x6 25))), (10, .int (nI i)), (2, .int x2), (3, .int x3), (4, .int x4), (5, .int x5), (6, .int x6), (7, .int x7), (8, .int x8), (9, .int x9), (0, .ref h), (1, .int (nI fr))]) hx hb dX0_compress_163 hl (by decide) rfl (fun ls hl => ?_)
        refine lv_iload_n hx hb dX0_compress_165 rfl (lv_at hl 5 rfl) ?_
        refine lv_iload_n hx hb dX0_compress_166 rfl (lv_at hl 6 rfl) ?_
        refine lv_iand hx hb dX0_compress_167 ?_
        refine lv_iload_n hx hb dX0_compress_168 rfl (lv_at hl 5 rfl) ?_
        refine lv_iload hx hb dX0_compress_169 (lv_at hl 7 rfl) ?_
        refine lv_iand hx hb dX0_compress_171 ?_
        refine lv_ixor hx hb dX0_compress_172 ?_
        refine lv_iload_n hx hb dX0_compress_173 rfl (lv_at hl 6 rfl) ?_
        refine lv_iload hx hb dX0_compress_174 (lv_at hl 7 rfl) ?_
        refine lv_iand hx hb dX0_compress_176 ?_
        refine lv_ixor hx hb dX0_compress_177 ?_
        refine lv_istore (lv' := [(15, .int (((x2 &&& x3) ^^^ (x2 &&& x4)) ^^^ (x3 &&& x4))), (14, .int (((tur x2 2) ^^^ (tur x2 13)) ^^^ (tur x2 22))), (13, .int ((((x9 + (((tur x6 6) ^^^ (tur x6 11)) ^^^ (tur x6 25))) + ((x6 &&& x7) ^^^ ((x6 ^^^ ((-1))) &&& x8))) + (kRound i)) + (f9 i))), (12, .int ((x6 &&& x7) ^^^ ((x6 ^^^ ((-1))) &&& x8))), (11, .int (((tur x6 6) ^^^ (tur x6 11)) ^^^ (tur x6 25))), (10, .int (nI i)), (2, .int x2), (3, .int x3), (4, .int x4), (5, .int x5), (6, .int x6), (7, .int x7), (8, .int x8), (9, .int x9), (0, .ref h), (1, .int (nI fr))]) hx hb dX0_compress_178 hl (by decide) rfl (fun ls hl => ?_)
        refine lv_iload hx hb dX0_compress_180 (lv_at hl 12 rfl) ?_
        refine lv_istore (lv' := [(9, .int x8), (15, .int (((x2 &&& x3) ^^^ (x2 &&& x4)) ^^^ (x3 &&& x4))), (14, .int (((tur x2 2) ^^^ (tur x2 13)) ^^^ (tur x2 22))), (13, .int ((((x9 + (((tur x6 6) ^^^ (tur x6 11)) ^^^ (tur x6 25))) + ((x6 &&& x7) ^^^ ((x6 ^^^ ((-1))) &&& x8))) + (kRound i)) + (f9 i))), (12, .int ((x6 &&& x7) ^^^ ((x6 ^^^ ((-1))) &&& x8))), (11, .int (((tur x6 6) ^^^ (tur x6 11)) ^^^ (tur x6 25))), (10, .int (nI i)), (2, .int x2), (3, .int x3), (4, .int x4), (5, .int x5), (6, .int x6), (7, .int x7), (8, .int x8), (0, .ref h), (1, .int (nI fr))]) hx hb dX0_compress_182 hl (by decide) rfl (fun ls hl => ?_)
        refine lv_iload hx hb dX0_compress_184 (lv_at hl 12 rfl) ?_
        refine lv_istore (lv' := [(8, .int x7), (9, .int x8), (15, .int (((x2 &&& x3) ^^^ (x2 &&& x4)) ^^^ (x3 &&& x4))), (14, .int (((tur x2 2) ^^^ (tur x2 13)) ^^^ (tur x2 22))), (13, .int ((((x9 + (((tur x6 6) ^^^ (tur x6 11)) ^^^ (tur x6 25))) + ((x6 &&& x7) ^^^ ((x6 ^^^ ((-1))) &&& x8))) + (kRound i)) + (f9 i))), (12, .int ((x6 &&& x7) ^^^ ((x6 ^^^ ((-1))) &&& x8))), (11, .int (((tur x6 6) ^^^ (tur x6 11)) ^^^ (tur x6 25))), (10, .int (nI i)), (2, .int x2), (3, .int x3), (4, .int x4), (5, .int x5), (6, .int x6), (7, .int x7), (0, .ref h), (1, .int (nI fr))]) hx hb dX0_compress_186 hl (by decide) rfl (fun ls hl => ?_)
        refine lv_iload hx hb dX0_compress_188 (lv_at hl 12 rfl) ?_
        refine lv_istore (lv' := [(7, .int x6), (8, .int x7), (9, .int x8), (15, .int (((x2 &&& x3) ^^^ (x2 &&& x4)) ^^^ (x3 &&& x4))), (14, .int (((tur x2 2) ^^^ (tur x2 13)) ^^^ (tur x2 22))), (13, .int ((((x9 + (((tur x6 6) ^^^ (tur x6 11)) ^^^ (tur x6 25))) + ((x6 &&& x7) ^^^ ((x6 ^^^ ((-1))) &&& x8))) + (kRound i)) + (f9 i))), (12, .int ((x6 &&& x7) ^^^ ((x6 ^^^ ((-1))) &&& x8))), (11, .int (((tur x6 6) ^^^ (tur x6 11)) ^^^ (tur x6 25))), (10, .int (nI i)), (2, .int x2), (3, .int x3), (4, .int x4), (5, .int x5), (6, .int x6), (0, .ref h), (1, .int (nI fr))]) hx hb dX0_compress_190 hl (by decide) rfl (fun ls hl => ?_)
        refine lv_iload hx hb dX0_compress_192 (lv_at hl 12 rfl) ?_
        refine lv_iload hx hb dX0_compress_194 (lv_at hl 5 rfl) ?_
        refine lv_iadd hx hb dX0_compress_196 ?_
        refine lv_istore (lv' := [(6, .int (x5 + ((((x9 + (((tur x6 6) ^^^ (tur x6 11)) ^^^ (tur x6 25))) + ((x6 &&& x7) ^^^ ((x6 ^^^ ((-1))) &&& x8))) + (kRound i)) + (f9 i)))), (7, .int x6), (8, .int x7), (9, .int x8), (15, .int (((x2 &&& x3) ^^^ (x2 &&& x4)) ^^^ (x3 &&& x4))), (14, .int (((tur x2 2) ^^^ (tur x2 13)) ^^^ (tur x2 22))), (13, .int ((((x9 + (((tur x6 6) ^^^ (tur x6 11)) ^^^ (tur x6 25))) + ((x6 &&& x7) ^^^ ((x6 ^^^ ((-1))) &&& x8))) + (kRound i)) + (f9 i))), (12, .int ((x6 &&& x7) ^^^ ((x6 ^^^ ((-1))) &&& x8))), (11, .int (((tur x6 6) ^^^ (tur x6 11)) ^^^ (tur x6 25))), (10, .int (nI i)), (2, .int x2), (3, .int x3), (4, .int x4), (5, .int x5), (0, .ref h), (1, .int (nI fr))]) hx hb dX0_compress_197 hl (by decide) rfl (fun ls hl => ?_)
        refine lv_iload hx hb dX0_compress_199 (lv_at hl 12 rfl) ?_
        refine lv_istore (lv' := [(5, .int x4), (6, .int (x5 + ((((x9 + (((tur x6 6) ^^^ (tur x6 11)) ^^^ (tur x6 25))) + ((x6 &&& x7) ^^^ ((x6 ^^^ ((-1))) &&& x8))) + (kRound i)) + (f9 i)))), (7, .int x6), (8, .int x7), (9, .int x8), (15, .int (((x2 &&& x3) ^^^ (x2 &&& x4)) ^^^ (x3 &&& x4))), (14, .int (((tur x2 2) ^^^ (tur x2 13)) ^^^ (tur x2 22))), (13, .int ((((x9 + (((tur x6 6) ^^^ (tur x6 11)) ^^^ (tur x6 25))) + ((x6 &&& x7) ^^^ ((x6 ^^^ ((-1))) &&& x8))) + (kRound i)) + (f9 i))), (12, .int ((x6 &&& x7) ^^^ ((x6 ^^^ ((-1))) &&& x8))), (11, .int (((tur x6 6) ^^^ (tur x6 11)) ^^^ (tur x6 25))), (10, .int (nI i)), (2, .int x2), (3, .int x3), (4, .int x4), (0, .ref h), (1, .int (nI fr))]) hx hb dX0_compress_201 hl (by decide) rfl (fun ls hl => ?_)
        refine lv_iload_n hx hb dX0_compress_203 rfl (lv_at hl 12 rfl) ?_
        refine lv_istore (lv' := [(4, .int x3), (5, .int x4), (6, .int (x5 + ((((x9 + (((tur x6 6) ^^^ (tur x6 11)) ^^^ (tur x6 25))) + ((x6 &&& x7) ^^^ ((x6 ^^^ ((-1))) &&& x8))) + (kRound i)) + (f9 i)))), (7, .int x6), (8, .int x7), (9, .int x8), (15, .int (((x2 &&& x3) ^^^ (x2 &&& x4)) ^^^ (x3 &&& x4))), (14, .int (((tur x2 2) ^^^ (tur x2 13)) ^^^ (tur x2 22))), (13, .int ((((x9 + (((tur x6 6) ^^^ (tur x6 11)) ^^^ (tur x6 25))) + ((x6 &&& x7) ^^^ ((x6 ^^^ ((-1))) &&& x8))) + (kRound i)) + (f9 i))), (12, .int ((x6 &&& x7) ^^^ ((x6 ^^^ ((-1))) &&& x8))), (11, .int (((tur x6 6) ^^^ (tur x6 11)) ^^^ (tur x6 25))), (10, .int (nI i)), (2, .int x2), (3, .int x3), (0, .ref h), (1, .int (nI fr))]) hx hb dX0_compress_204 hl (by decide) rfl (fun ls hl => ?_)
        refine lv_iload_n hx hb dX0_compress_206 rfl (lv_at hl 12 rfl) ?_
        refine lv_istore_n (lv' := [(3, .int x2), (4, .int x3), (5, .int x4), (6, .int (x5 + ((((x9 + (((tur x6 6) ^^^ (tur x6 11)) ^^^ (tur x6 25))) + ((x6 &&& x7) ^^^ ((x6 ^^^ ((-1))) &&& x8))) + (kRound i)) + (f9 i)))), (7, .int x6), (8, .int x7), (9, .int x8), (15, .int (((x2 &&& x3) ^^^ (x2 &&& x4)) ^^^ (x3 &&& x4))), (14, .int (((tur x2 2) ^^^ (tur x2 13)) ^^^ (tur x2 22))), (13, .int ((((x9 + (((tur x6 6) ^^^ (tur x6 11)) ^^^ (tur x6 25))) + ((x6 &&& x7) ^^^ ((x6 ^^^ ((-1))) &&& x8))) + (kRound i)) + (f9 i))), (12, .int ((x6 &&& x7) ^^^ ((x6 ^^^ ((-1))) &&& x8))), (11, .int (((tur x6 6) ^^^ (tur x6 11)) ^^^ (tur x6 25))), (10, .int (nI i)), (2, .int x2), (0, .ref h), (1, .int (nI fr))]) hx hb dX0_compress_207 rfl hl (by decide) rfl (fun ls hl => ?_)
        refine lv_iload hx hb dX0_compress_208 (lv_at hl 9 rfl) ?_
        refine lv_iload hx hb dX0_compress_210 (lv_at hl 8 rfl) ?_
        refine lv_iadd hx hb dX0_compress_212 ?_
        refine lv_iload hx hb dX0_compress_213 (lv_at hl 7 rfl) ?_
        refine lv_iadd hx hb dX0_compress_215 ?_
        refine lv_istore_n (lv' := [(2, .int ((((((x9 + (((tur x6 6) ^^^ (tur x6 11)) ^^^ (tur x6 25))) + ((x6 &&& x7) ^^^ ((x6 ^^^ ((-1))) &&& x8))) + (kRound i)) + (f9 i)) + (((tur x2 2) ^^^ (tur x2 13)) ^^^ (tur x2 22))) + (((x2 &&& x3) ^^^ (x2 &&& x4)) ^^^ (x3 &&& x4)))), (3, .int x2), (4, .int x3), (5, .int x4), (6, .int (x5 + ((((x9 + (((tur x6 6) ^^^ (tur x6 11)) ^^^ (tur x6 25))) + ((x6 &&& x7) ^^^ ((x6 ^^^ ((-1))) &&& x8))) + (kRound i)) + (f9 i)))), (7, .int x6), (8, .int x7), (9, .int x8), (15, .int (((x2 &&& x3) ^^^ (x2 &&& x4)) ^^^ (x3 &&& x4))), (14, .int (((tur x2 2) ^^^ (tur x2 13)) ^^^ (tur x2 22))), (13, .int ((((x9 + (((tur x6 6) ^^^ (tur x6 11)) ^^^ (tur x6 25))) + ((x6 &&& x7) ^^^ ((x6 ^^^ ((-1))) &&& x8))) + (kRound i)) + (f9 i))), (12, .int ((x6 &&& x7) ^^^ ((x6 ^^^ ((-1))) &&& x8))), (11, .int (((tur x6 6) ^^^ (tur x6 11)) ^^^ (tur x6 25))), (10, .int (nI i)), (0, .ref h), (1, .int (nI fr))]) hx hb dX0_compress_216 rfl hl (by decide) rfl (fun ls hl => ?_)
        refine lv_iinc (v := nI (i + 1)) (lv' := [(10, .int (nI (i + 1))), (2, .int ((((((x9 + (((tur x6 6) ^^^ (tur x6 11)) ^^^ (tur x6 25))) + ((x6 &&& x7) ^^^ ((x6 ^^^ ((-1))) &&& x8))) + (kRound i)) + (f9 i)) + (((tur x2 2) ^^^ (tur x2 13)) ^^^ (tur x2 22))) + (((x2 &&& x3) ^^^ (x2 &&& x4)) ^^^ (x3 &&& x4)))), (3, .int x2), (4, .int x3), (5, .int x4), (6, .int (x5 + ((((x9 + (((tur x6 6) ^^^ (tur x6 11)) ^^^ (tur x6 25))) + ((x6 &&& x7) ^^^ ((x6 ^^^ ((-1))) &&& x8))) + (kRound i)) + (f9 i)))), (7, .int x6), (8, .int x7), (9, .int x8), (15, .int (((x2 &&& x3) ^^^ (x2 &&& x4)) ^^^ (x3 &&& x4))), (14, .int (((tur x2 2) ^^^ (tur x2 13)) ^^^ (tur x2 22))), (13, .int ((((x9 + (((tur x6 6) ^^^ (tur x6 11)) ^^^ (tur x6 25))) + ((x6 &&& x7) ^^^ ((x6 ^^^ ((-1))) &&& x8))) + (kRound i)) + (f9 i))), (12, .int ((x6 &&& x7) ^^^ ((x6 ^^^ ((-1))) &&& x8))), (11, .int (((tur x6 6) ^^^ (tur x6 11)) ^^^ (tur x6 25))), (0, .ref h), (1, .int (nI fr))]) hx hb dX0_compress_217 hl (k := 13) rfl (nI_1 _) (by decide) rfl (fun ls hl => ?_)
        refine lv_goto (tgt := 72) hx hb dX0_compress_220 (by decide) ?_
        refine ih (i + 1) _ _ _ _ _ _ _ _ H locs ls (by omega) (by omega) ?_ hm hS (lv_sub hl [0, 1, 2, 3, 4, 5, 6, 7, 8, 14, 15] rfl)
        show _ = rdS (rdF f9 (of8 fa) i) (kRound i) (f9 i)
        rw [← hr]
        rfl
  exact lp 65 0 _ _ _ _ _ _ _ _ H locs ls (by omega) (by omega) rfl hm hS (lv_sub hl [0, 8, 7, 6, 5, 4, 3, 2, 1, 9, 10] rfl)
end
section
/-- the words of an entry's message, of a pair's -/
def wLeaf (k v : Int32) : Nat → Int32 := fun j => if j = 0 then (k <<< ((8 : Int32) &&& 31)) ||| ush v 24 else if j = 1 then (v <<< ((8 : Int32) &&& 31)) ||| 128 else if j = 15 then 56 else 0
def hLeaf (k v : Int32) : Nat → Int32 := shaB kStart (wLeaf k v)
def pv1 (z : Nat → Int32) : Nat → Int32
  | 0 => 1
  | k + 1 => z k
def pv2 (z o : Nat → Int32) : Nat → Int32
  | 0 => z 7
  | k + 1 => o k
def mp (z o : Nat → Int32) : Nat → Int32 := fun j => if j < 8 then (pv1 z j <<< ((24 : Int32) &&& 31)) ||| ush (z j) 8 else if j < 16 then (pv2 z o (j - 8) <<< ((24 : Int32) &&& 31)) ||| ush (o (j - 8)) 8 else if j = 16 then (o 7 <<< ((24 : Int32) &&& 31)) ||| 8388608 else if j = 31 then 520 else 0
def hPair (z o : Nat → Int32) : Nat → Int32 := shaB (shaB kStart (mp z o)) (fun t => mp z o (16 + t))
set_option maxHeartbeats 4000000 in
set_option maxRecDepth 100000 in
theorem c_X0_hashEntry (l : Launch) (g : hG) (M : hM) (h nm ms sc sa : Nat) (fm fs fa : Nat → Int32) (hH : HS g M h nm ms sc sa fm fs fa) (t : Nat) (ft : Nat → Int32) (e_t : M t = some (aI g 8 ft)) (t_1 : t ≠ ms) (t_2 : t ≠ sc) (t_3 : t ≠ sa) (t_4 : t ≠ nm) (k0 v0 : Int32) : Cv l g yX0_hashEntry cX0_hashEntry 4 4 0 0 [.ref h, .int k0, .int v0, .ref t] M (fun M9 => ∃ fm9 fs9 fa9 f9, HS g M9 h nm ms sc sa fm9 fs9 fa9 ∧ M9 t = some (aI g 8 f9) ∧ (∀ q, q ≠ ms → q ≠ sc → q ≠ sa → q ≠ t → M9 q = M q) ∧ ∀ j, j < 8 → f9 j = hLeaf k0 v0 j) := by
  obtain ⟨e_h, e_ms, e_sc, e_sa, ⟨fn, e_nm, hz⟩, n_1, n_2, n_3, n_4, n_5, n_6⟩ := hH
  have nh1 : h ≠ ms := ne_lk e_h e_ms (by simp)
  have nh2 : h ≠ sc := ne_lk e_h e_sc (by simp)
  have nh3 : h ≠ sa := ne_lk e_h e_sa (by simp)
  refine hp_startV (by decide) (by exact Nat.le_of_ble_eq_true rfl) ?_
  intro p e s m below meth c Q H locs ls E hnm ret hm hS hl
  have hx := E.1
  have hb := E.2.1
  have hown := E.2.2.2.1
  have hts := E.2.2.2.2.1
  have hl : lv_has ls 4 [(0, .ref h), (1, .int k0), (2, .int v0), (3, .ref t)] := hl
  have hgF : ∀ q, q ≠ ms → q ≠ sc → q ≠ sa → q ≠ t → M q = M q := fun _ _ _ _ _ => rfl
  refine lv_aload_n hx hb dX0_hashEntry_0 rfl (lv_at hl 0 rfl) ?_
  refine hp_cv (hp_runV (C := RX0) (T := TX0) (N := 4) (np := 0) (k := 1) (mc := 0) (ms := 0) (As := ([] : List Value)) (rest := []) E hm hS (c_X0_clearMessage l g M h nm ms sc sa fm fs fa ⟨e_h, e_ms, e_sc, e_sa, ⟨fn, e_nm, hz⟩, n_1, n_2, n_3, n_4, n_5, n_6⟩) ms_X0_clearMessage wi_X0_clearMessage ws_X0_clearMessage wl_X0_24 e_h rfl rfl hl.1 rfl (Nat.le_of_ble_eq_true rfl) dX0_hashEntry_1 ⟨Nat.le_of_ble_eq_true rfl, Nat.le_of_ble_eq_true rfl⟩ ⟨(Nat.le_of_ble_eq_true rfl), (Nat.le_of_ble_eq_true rfl)⟩) hS (fun Mx1 H locs hq2 hm hS => ?_)
  obtain ⟨fz0, e_x, hfrx, hzx⟩ := hq2
  have e_ms0 := e_ms
  have e_h_ : Mx1 h = some (.inr (0, [.ref nm, .ref ms, .ref sc, .ref sa])) := (hfrx h nh1).trans e_h
  have e_sc_ : Mx1 sc = some (aI g 64 fs) := (hfrx sc (Ne.symm n_1)).trans e_sc
  have e_sa_ : Mx1 sa = some (aI g 8 fa) := (hfrx sa (Ne.symm n_2)).trans e_sa
  have e_nm_ : Mx1 nm = some (aI g 8 fn) := (hfrx nm n_4).trans e_nm
  have e_t_ : Mx1 t = some (aI g 8 ft) := (hfrx t t_1).trans e_t
  have e_h := e_h_
  have e_sc := e_sc_
  have e_sa := e_sa_
  have e_nm := e_nm_
  have e_t := e_t_
  have e_ms := e_x
  have hgF : ∀ q, q ≠ ms → q ≠ sc → q ≠ sa → q ≠ t → Mx1 q = M q := fun q a1 a2 a3 a4 => (hfrx q a1).trans (hgF q a1 a2 a3 a4)
  refine lv_aload_n hx hb dX0_hashEntry_4 rfl (lv_at hl 0 rfl) ?_
  refine hp_get (C := RX0) (T := TX0) (N := 4) (v := .ref ms) E hm e_h inh0 rfl 1 (by decide) wf_X0_15 rfl dX0_hashEntry_5 ?_
  refine lv_iconst (v := 0) hx hb dX0_hashEntry_8 (by decide) ?_
  refine lv_iload_n hx hb dX0_hashEntry_9 rfl (lv_at hl 1 rfl) ?_
  refine lv_bipush (v := 8) hx hb dX0_hashEntry_10 (by decide) ?_
  refine lv_ishl hx hb dX0_hashEntry_12 ?_
  refine lv_iload_n hx hb dX0_hashEntry_13 rfl (lv_at hl 2 rfl) ?_
  refine lv_bipush (v := 24) hx hb dX0_hashEntry_14 (by decide) ?_
  refine lv_iushr (v := ush v0 24) hx hb dX0_hashEntry_16 rfl ?_
  refine lv_ior hx hb dX0_hashEntry_17 ?_
  refine hp_iastN E hm hS e_ms 0 rfl (by decide) (by decide) dX0_hashEntry_18 (fun H locs hm hS => ?_)
  obtain ⟨Mx3, hMx3⟩ : ∃ Mz, Mz = hm_up Mx1 ms (aI g 32 (upd fz0 0 ((k0 <<< (8 &&& 31)) ||| (ush v0 24)))) := ⟨_, rfl⟩
  have hm : hp g Mx3 H := by rw [hMx3]; exact hm
  have e_h : Mx3 h = some (.inr (0, [.ref nm, .ref ms, .ref sc, .ref sa])) := by rw [hMx3]; exact up_at nh1 e_h
  have e_sc : Mx3 sc = some (aI g 64 fs) := by rw [hMx3]; exact up_at (Ne.symm n_1) e_sc
  have e_sa : Mx3 sa = some (aI g 8 fa) := by rw [hMx3]; exact up_at (Ne.symm n_2) e_sa
  have e_nm : Mx3 nm = some (aI g 8 fn) := by rw [hMx3]; exact up_at n_4 e_nm
  have e_t : Mx3 t = some (aI g 8 ft) := by rw [hMx3]; exact up_at t_1 e_t
  have e_ms : Mx3 ms = some (aI g 32 (upd fz0 0 ((k0 <<< (8 &&& 31)) ||| (ush v0 24)))) := by rw [hMx3]; exact up_eq
  refine lv_aload_n hx hb dX0_hashEntry_19 rfl (lv_at hl 0 rfl) ?_
  refine hp_get (C := RX0) (T := TX0) (N := 4) (v := .ref ms) E hm e_h inh0 rfl 1 (by decide) wf_X0_15 rfl dX0_hashEntry_20 ?_
  refine lv_iconst (v := 1) hx hb dX0_hashEntry_23 (by decide) ?_
  refine lv_iload_n hx hb dX0_hashEntry_24 rfl (lv_at hl 2 rfl) ?_
  refine lv_bipush (v := 8) hx hb dX0_hashEntry_25 (by decide) ?_
  refine lv_ishl hx hb dX0_hashEntry_27 ?_
  refine lv_sipush (v := 128) hx hb dX0_hashEntry_28 (by decide) ?_
  refine lv_ior hx hb dX0_hashEntry_31 ?_
  refine hp_iastN E hm hS e_ms 1 rfl (by decide) (by decide) dX0_hashEntry_32 (fun H locs hm hS => ?_)
  obtain ⟨Mx4, hMx4⟩ : ∃ Mz, Mz = hm_up Mx3 ms (aI g 32 (upd (upd fz0 0 ((k0 <<< (8 &&& 31)) ||| (ush v0 24))) 1 ((v0 <<< (8 &&& 31)) ||| 128))) := ⟨_, rfl⟩
  have hm : hp g Mx4 H := by rw [hMx4]; exact hm
  have e_h : Mx4 h = some (.inr (0, [.ref nm, .ref ms, .ref sc, .ref sa])) := by rw [hMx4]; exact up_at nh1 e_h
  have e_sc : Mx4 sc = some (aI g 64 fs) := by rw [hMx4]; exact up_at (Ne.symm n_1) e_sc
  have e_sa : Mx4 sa = some (aI g 8 fa) := by rw [hMx4]; exact up_at (Ne.symm n_2) e_sa
  have e_nm : Mx4 nm = some (aI g 8 fn) := by rw [hMx4]; exact up_at n_4 e_nm
  have e_t : Mx4 t = some (aI g 8 ft) := by rw [hMx4]; exact up_at t_1 e_t
  have e_ms : Mx4 ms = some (aI g 32 (upd (upd fz0 0 ((k0 <<< (8 &&& 31)) ||| (ush v0 24))) 1 ((v0 <<< (8 &&& 31)) ||| 128))) := by rw [hMx4]; exact up_eq
  refine lv_aload_n hx hb dX0_hashEntry_33 rfl (lv_at hl 0 rfl) ?_
  refine hp_get (C := RX0) (T := TX0) (N := 4) (v := .ref ms) E hm e_h inh0 rfl 1 (by decide) wf_X0_15 rfl dX0_hashEntry_34 ?_
  refine lv_bipush (v := 15) hx hb dX0_hashEntry_37 (by decide) ?_
  refine lv_bipush (v := 56) hx hb dX0_hashEntry_39 (by decide) ?_
  refine hp_iastN E hm hS e_ms 15 rfl (by decide) (by decide) dX0_hashEntry_41 (fun H locs hm hS => ?_)
  obtain ⟨Mx5, hMx5⟩ : ∃ Mz, Mz = hm_up Mx4 ms (aI g 32 (upd (upd (upd fz0 0 ((k0 <<< (8 &&& 31)) ||| (ush v0 24))) 1 ((v0 <<< (8 &&& 31)) ||| 128)) 15 56)) := ⟨_, rfl⟩
  have hm : hp g Mx5 H := by rw [hMx5]; exact hm
  have e_h : Mx5 h = some (.inr (0, [.ref nm, .ref ms, .ref sc, .ref sa])) := by rw [hMx5]; exact up_at nh1 e_h
  have e_sc : Mx5 sc = some (aI g 64 fs) := by rw [hMx5]; exact up_at (Ne.symm n_1) e_sc
  have e_sa : Mx5 sa = some (aI g 8 fa) := by rw [hMx5]; exact up_at (Ne.symm n_2) e_sa
  have e_nm : Mx5 nm = some (aI g 8 fn) := by rw [hMx5]; exact up_at n_4 e_nm
  have e_t : Mx5 t = some (aI g 8 ft) := by rw [hMx5]; exact up_at t_1 e_t
  have e_ms : Mx5 ms = some (aI g 32 (upd (upd (upd fz0 0 ((k0 <<< (8 &&& 31)) ||| (ush v0 24))) 1 ((v0 <<< (8 &&& 31)) ||| 128)) 15 56)) := by rw [hMx5]; exact up_eq
  have hgF : ∀ q, q ≠ ms → q ≠ sc → q ≠ sa → q ≠ t → Mx5 q = M q := fun q a1 a2 a3 a4 => by rw [hMx5, up_ne a1, hMx4, up_ne a1, hMx3, up_ne a1]; exact hgF q a1 a2 a3 a4
  obtain ⟨fmm, hfmm⟩ : ∃ z, z = upd (upd (upd fz0 0 ((k0 <<< (8 &&& 31)) ||| (ush v0 24))) 1 ((v0 <<< (8 &&& 31)) ||| 128)) 15 56 := ⟨_, rfl⟩
  rw [← hfmm] at e_ms
  refine lv_aload_n hx hb dX0_hashEntry_42 rfl (lv_at hl 0 rfl) ?_
  refine hp_cv (hp_runV (C := RX0) (T := TX0) (N := 4) (np := 0) (k := 2) (mc := 0) (ms := 0) (As := ([] : List Value)) (rest := []) E hm hS (c_X0_start l g Mx5 h nm ms sc sa fmm fs fa ⟨e_h, e_ms, e_sc, e_sa, ⟨fn, e_nm, hz⟩, n_1, n_2, n_3, n_4, n_5, n_6⟩) ms_X0_start wi_X0_start ws_X0_start wl_X0_27 e_h rfl rfl hl.1 rfl (Nat.le_of_ble_eq_true rfl) dX0_hashEntry_43 ⟨Nat.le_of_ble_eq_true rfl, Nat.le_of_ble_eq_true rfl⟩ ⟨(Nat.le_of_ble_eq_true rfl), (Nat.le_of_ble_eq_true rfl)⟩) hS (fun Mx6 H locs hq7 hm hS => ?_)
  obtain ⟨fa0, e_x, hfry, hsy⟩ := hq7
  have e_h_ : Mx6 h = some (.inr (0, [.ref nm, .ref ms, .ref sc, .ref sa])) := (hfry h nh3).trans e_h
  have e_sc_ : Mx6 sc = some (aI g 64 fs) := (hfry sc n_3).trans e_sc
  have e_nm_ : Mx6 nm = some (aI g 8 fn) := (hfry nm n_6).trans e_nm
  have e_t_ : Mx6 t = some (aI g 8 ft) := (hfry t t_3).trans e_t
  have e_ms_ : Mx6 ms = some (aI g 32 fmm) := (hfry ms n_2).trans e_ms
  have e_h := e_h_
  have e_sc := e_sc_
  have e_nm := e_nm_
  have e_t := e_t_
  have e_ms := e_ms_
  have e_sa := e_x
  have hgF : ∀ q, q ≠ ms → q ≠ sc → q ≠ sa → q ≠ t → Mx6 q = M q := fun q a1 a2 a3 a4 => (hfry q a3).trans (hgF q a1 a2 a3 a4)
  refine lv_aload_n hx hb dX0_hashEntry_46 rfl (lv_at hl 0 rfl) ?_
  refine lv_iconst (v := 0) hx hb dX0_hashEntry_47 (by decide) ?_
  refine hp_cv (hp_runV (C := RX0) (T := TX0) (N := 4) (np := 1) (k := 3) (mc := 0) (ms := 0) (As := [.int 0]) (rest := []) E hm hS (c_X0_compress l g Mx6 h nm ms sc sa fmm fs fa0 ⟨e_h, e_ms, e_sc, e_sa, ⟨fn, e_nm, hz⟩, n_1, n_2, n_3, n_4, n_5, n_6⟩ 0 (by omega)) ms_X0_compress wi_X0_compress ws_X0_compress wl_X0_30 e_h rfl rfl hl.1 rfl (Nat.le_of_ble_eq_true rfl) dX0_hashEntry_48 ⟨Nat.le_of_ble_eq_true rfl, Nat.le_of_ble_eq_true rfl⟩ ⟨(Nat.le_of_ble_eq_true rfl), (Nat.le_of_ble_eq_true rfl)⟩) hS (fun Mx8 H locs hq9 hm hS => ?_)
  obtain ⟨fs1, fa1, e_x, e_y, hc1_f, hc1⟩ := hq9
  have e_h_ : Mx8 h = some (.inr (0, [.ref nm, .ref ms, .ref sc, .ref sa])) := (hc1_f h nh2 nh3).trans e_h
  have e_nm_ : Mx8 nm = some (aI g 8 fn) := (hc1_f nm n_5 n_6).trans e_nm
  have e_t_ : Mx8 t = some (aI g 8 ft) := (hc1_f t t_2 t_3).trans e_t
  have e_ms_ : Mx8 ms = some (aI g 32 fmm) := (hc1_f ms n_1 n_2).trans e_ms
  have e_h := e_h_
  have e_nm := e_nm_
  have e_t := e_t_
  have e_ms := e_ms_
  have e_sc := e_x
  have e_sa := e_y
  have hgF : ∀ q, q ≠ ms → q ≠ sc → q ≠ sa → q ≠ t → Mx8 q = M q := fun q a1 a2 a3 a4 => (hc1_f q a2 a3).trans (hgF q a1 a2 a3 a4)
  refine lv_aload_n hx hb dX0_hashEntry_51 rfl (lv_at hl 0 rfl) ?_
  refine hp_get (C := RX0) (T := TX0) (N := 4) (v := .ref sa) E hm e_h inh0 rfl 3 (by decide) wf_X0_21 rfl dX0_hashEntry_52 ?_
  refine lv_aload_n hx hb dX0_hashEntry_55 rfl (lv_at hl 3 rfl) ?_
  refine hp_cv (hp_runN (np := 2) (k := 1) (mc := 0) (ms := 0) (As := [.ref sa, .ref t]) (rest := []) E hm hS (c_X3_copyWords l g Mx8 sa t fa1 ft e_sa e_t (Ne.symm t_3)) ms_X3_copyWords wt_X3_copyWords E.2.2.2.2.2.2.2.2.2.2.2.2.2.2.1 rfl hl.1 rfl (Nat.le_of_ble_eq_true rfl) dX0_hashEntry_56 ⟨Nat.le_of_ble_eq_true rfl, Nat.le_of_ble_eq_true rfl⟩ ⟨(Nat.le_of_ble_eq_true rfl), (Nat.le_of_ble_eq_true rfl)⟩) hS (fun Mx10 H locs hq11 hm hS => ?_)
  obtain ⟨f7, e_x, hfrz, hcp⟩ := hq11
  have e_h_ : Mx10 h = some (.inr (0, [.ref nm, .ref ms, .ref sc, .ref sa])) := (hfrz h (ne_lk e_h e_t (by simp))).trans e_h
  have e_nm_ : Mx10 nm = some (aI g 8 fn) := (hfrz nm (Ne.symm t_4)).trans e_nm
  have e_ms_ : Mx10 ms = some (aI g 32 fmm) := (hfrz ms (Ne.symm t_1)).trans e_ms
  have e_sc_ : Mx10 sc = some (aI g 64 fs1) := (hfrz sc (Ne.symm t_2)).trans e_sc
  have e_sa_ : Mx10 sa = some (aI g 8 fa1) := (hfrz sa (Ne.symm t_3)).trans e_sa
  have e_h := e_h_
  have e_nm := e_nm_
  have e_ms := e_ms_
  have e_sc := e_sc_
  have e_sa := e_sa_
  have e_t := e_x
  have hgF : ∀ q, q ≠ ms → q ≠ sc → q ≠ sa → q ≠ t → Mx10 q = M q := fun q a1 a2 a3 a4 => (hfrz q a4).trans (hgF q a1 a2 a3 a4)
  have hw : ∀ j, j < 16 → fmm (0 + j) = wLeaf k0 v0 j := by
    intro j hj
    rw [Nat.zero_add, hfmm]
    unfold wLeaf
    by_cases h15 : j = 15
    · subst h15; simp [upd]
    · rw [pk_un h15]
      by_cases h1 : j = 1
      · subst h1; simp [upd]
      · rw [pk_un h1]
        by_cases h0 : j = 0
        · subst h0; simp [upd]
        · rw [pk_un h0, hzx j (by omega), if_neg h0, if_neg h1, if_neg h15]
  exact ret dX0_hashEntry_59 hm hS (Nat.le_of_ble_eq_true rfl) (Nat.le_of_ble_eq_true rfl) (⟨_, _, _, _, ⟨e_h, e_ms, e_sc, e_sa, ⟨fn, e_nm, hz⟩, n_1, n_2, n_3, n_4, n_5, n_6⟩, e_t, hgF, fun j hj => by rw [hcp j hj, hc1 j hj]; exact shaB_w (fun i hi => hsy i hi) hw hj⟩)
set_option maxHeartbeats 4000000 in
set_option maxRecDepth 100000 in
theorem c_X0_hashPair (l : Launch) (g : hG) (M : hM) (h nm ms sc sa : Nat) (fm fs fa : Nat → Int32) (hH : HS g M h nm ms sc sa fm fs fa) (t : Nat) (ft : Nat → Int32) (e_t : M t = some (aI g 8 ft)) (t_1 : t ≠ ms) (t_2 : t ≠ sc) (t_3 : t ≠ sa) (t_4 : t ≠ nm) (z o : Nat) (fz fo : Nat → Int32) (e_z : M z = some (aI g 8 fz)) (e_o : M o = some (aI g 8 fo)) (z_1 : z ≠ ms) (o_1 : o ≠ ms) : Cv l g yX0_hashPair cX0_hashPair 6 4 0 0 [.ref h, .ref z, .ref o, .ref t] M (fun M9 => ∃ fm9 fs9 fa9 f9, HS g M9 h nm ms sc sa fm9 fs9 fa9 ∧ M9 t = some (aI g 8 f9) ∧ (∀ q, q ≠ ms → q ≠ sc → q ≠ sa → q ≠ t → M9 q = M q) ∧ ∀ j, j < 8 → f9 j = hPair fz fo j) := by
  obtain ⟨e_h, e_ms, e_sc, e_sa, ⟨fn, e_nm, hz⟩, n_1, n_2, n_3, n_4, n_5, n_6⟩ := hH
  have nh1 : h ≠ ms := ne_lk e_h e_ms (by simp)
  have nh2 : h ≠ sc := ne_lk e_h e_sc (by simp)
  have nh3 : h ≠ sa := ne_lk e_h e_sa (by simp)
  refine hp_startV (by decide) (by exact Nat.le_of_ble_eq_true rfl) ?_
  intro p e s m below meth c Q H locs ls E hnm ret hm hS hl
  have hx := E.1
  have hb := E.2.1
  have hown := E.2.2.2.1
  have hts := E.2.2.2.2.1
  have hl : lv_has ls 6 [(0, .ref h), (1, .ref z), (2, .ref o), (3, .ref t)] := hl
  have hgF : ∀ q, q ≠ ms → q ≠ sc → q ≠ sa → q ≠ t → M q = M q := fun _ _ _ _ _ => rfl
  refine lv_aload_n hx hb dX0_hashPair_0 rfl (lv_at hl 0 rfl) ?_
  refine hp_cv (hp_runV (C := RX0) (T := TX0) (N := 4) (np := 0) (k := 1) (mc := 0) (ms := 0) (As := ([] : List Value)) (rest := []) E hm hS (c_X0_clearMessage l g M h nm ms sc sa fm fs fa ⟨e_h, e_ms, e_sc, e_sa, ⟨fn, e_nm, hz⟩, n_1, n_2, n_3, n_4, n_5, n_6⟩) ms_X0_clearMessage wi_X0_clearMessage ws_X0_clearMessage wl_X0_24 e_h rfl rfl hl.1 rfl (Nat.le_of_ble_eq_true rfl) dX0_hashPair_1 ⟨Nat.le_of_ble_eq_true rfl, Nat.le_of_ble_eq_true rfl⟩ ⟨(Nat.le_of_ble_eq_true rfl), (Nat.le_of_ble_eq_true rfl)⟩) hS (fun Mx1 H locs hq2 hm hS => ?_)
  obtain ⟨fz0, e_x, hfrx, hzx⟩ := hq2
  have e_ms0 := e_ms
  have e_h_ : Mx1 h = some (.inr (0, [.ref nm, .ref ms, .ref sc, .ref sa])) := (hfrx h nh1).trans e_h
  have e_sc_ : Mx1 sc = some (aI g 64 fs) := (hfrx sc (Ne.symm n_1)).trans e_sc
  have e_sa_ : Mx1 sa = some (aI g 8 fa) := (hfrx sa (Ne.symm n_2)).trans e_sa
  have e_nm_ : Mx1 nm = some (aI g 8 fn) := (hfrx nm n_4).trans e_nm
  have e_t_ : Mx1 t = some (aI g 8 ft) := (hfrx t t_1).trans e_t
  have e_z_ : Mx1 z = some (aI g 8 fz) := (hfrx z z_1).trans e_z
  have e_o_ : Mx1 o = some (aI g 8 fo) := (hfrx o o_1).trans e_o
  have e_h := e_h_
  have e_sc := e_sc_
  have e_sa := e_sa_
  have e_nm := e_nm_
  have e_t := e_t_
  have e_z := e_z_
  have e_o := e_o_
  have e_ms := e_x
  have hgF : ∀ q, q ≠ ms → q ≠ sc → q ≠ sa → q ≠ t → Mx1 q = M q := fun q a1 a2 a3 a4 => (hfrx q a1).trans (hgF q a1 a2 a3 a4)
  refine lv_iconst (v := 1) hx hb dX0_hashPair_4 (by decide) ?_
  refine lv_istore (lv' := [(4, .int 1), (0, .ref h), (1, .ref z), (2, .ref o), (3, .ref t)]) hx hb dX0_hashPair_5 hl (by decide) rfl (fun ls hl => ?_)
  refine lv_iconst (v := 0) hx hb dX0_hashPair_7 (by decide) ?_
  refine lv_istore (lv' := [(5, .int 0), (4, .int 1), (0, .ref h), (1, .ref z), (2, .ref o), (3, .ref t)]) hx hb dX0_hashPair_8 hl (by decide) rfl (fun ls hl => ?_)
  have hgF0 := hgF
  have lp10 : ∀ (n i : Nat) (M1 : hM) (f1 : Nat → Int32) (H : Heap) (locs : List Loc) (ls : Array Slot), 9 ≤ i + n → i ≤ 8 → M1 ms = some (aI g 32 f1) → (∀ q, q ≠ ms → M1 q = Mx1 q) → (∀ j, j < 32 → f1 j = if j < i then mp fz fo j else 0) → hp g M1 H → va_S (hA g) s.heap H locs → lv_has ls 6 [(5, .int (nI i)), (4, .int (pv1 fz i)), (0, .ref h), (1, .ref z), (2, .ref o), (3, .ref t)] → W p l e (hR 4 0 0) s m [.ref h, .ref z, .ref o, .ref t].toArray below meth c H locs 0 0 Q (F0 m 10 ls []) := by
    intro n
    induction n with
    | zero => intro i M1 f1 H locs ls hn hi e_ms hfr hf; exact absurd hn (by omega)
    | succ n ih =>
      intro i M1 f1 H locs ls hn hi e_ms hfr hf hm hS hl
      have hfr9 : ∀ q, q ≠ ms → M1 q = Mx1 q := hfr
      have e_h_ : M1 h = some (.inr (0, [.ref nm, .ref ms, .ref sc, .ref sa])) := (hfr h nh1).trans e_h
      have e_sc_ : M1 sc = some (aI g 64 fs) := (hfr sc (Ne.symm n_1)).trans e_sc
      have e_sa_ : M1 sa = some (aI g 8 fa) := (hfr sa (Ne.symm n_2)).trans e_sa
      have e_nm_ : M1 nm = some (aI g 8 fn) := (hfr nm n_4).trans e_nm
      have e_t_ : M1 t = some (aI g 8 ft) := (hfr t t_1).trans e_t
      have e_z_ : M1 z = some (aI g 8 fz) := (hfr z z_1).trans e_z
      have e_o_ : M1 o = some (aI g 8 fo) := (hfr o o_1).trans e_o
      have e_h := e_h_
      have e_sc := e_sc_
      have e_sa := e_sa_
      have e_nm := e_nm_
      have e_t := e_t_
      have e_z := e_z_
      have e_o := e_o_
      have hgF : ∀ q, q ≠ ms → q ≠ sc → q ≠ sa → q ≠ t → M1 q = M q := fun q a1 a2 a3 a4 => (hfr q a1).trans (hgF q a1 a2 a3 a4)
      refine lv_iload hx hb dX0_hashPair_10 (lv_at hl 0 rfl) ?_
      refine lv_bipush (v := 8) hx hb dX0_hashPair_12 (by decide) ?_
      refine lv_icmp_ge (tgt := 49) hx hb dX0_hashPair_14 (by decide) (fun c_14 => ?_) (fun c_14 => ?_)
      · have c_14 : 8 ≤ i := (nI_leI (a := 8) (b := i) (by decide) (by omega)).mp c_14
        have hi8 : i = 8 := by omega
        have hl : lv_has ls 6 [(5, .int (nI 8)), (4, .int (pv2 fz fo 0)), (0, .ref h), (1, .ref z), (2, .ref o), (3, .ref t)] := by rw [hi8] at hl; exact hl
        refine lv_iconst (v := 0) hx hb dX0_hashPair_49 (by decide) ?_
        refine lv_istore (lv' := [(5, .int 0), (4, .int (pv2 fz fo 0)), (0, .ref h), (1, .ref z), (2, .ref o), (3, .ref t)]) hx hb dX0_hashPair_50 hl (by decide) rfl (fun ls hl => ?_)
        have hgF0 := hgF
        have lp52 : ∀ (n u : Nat) (M2 : hM) (f2 : Nat → Int32) (H : Heap) (locs : List Loc) (ls : Array Slot), 9 ≤ u + n → u ≤ 8 → M2 ms = some (aI g 32 f2) → (∀ q, q ≠ ms → M2 q = M1 q) → (∀ j, j < 32 → f2 j = if j < 8 + u then mp fz fo j else 0) → hp g M2 H → va_S (hA g) s.heap H locs → lv_has ls 6 [(5, .int (nI u)), (4, .int (pv2 fz fo u)), (0, .ref h), (1, .ref z), (2, .ref o), (3, .ref t)] → W p l e (hR 4 0 0) s m [.ref h, .ref z, .ref o, .ref t].toArray below meth c H locs 0 0 Q (F0 m 52 ls []) := by
          intro n
          induction n with
          | zero => intro u M2 f2 H locs ls hn hi e_ms hfr hf; exact absurd hn (by omega)
          | succ n ih =>
            intro u M2 f2 H locs ls hn hi e_ms hfr hf hm hS hl
            have hfr9 : ∀ q, q ≠ ms → M2 q = M1 q := hfr
            have e_h_ : M2 h = some (.inr (0, [.ref nm, .ref ms, .ref sc, .ref sa])) := (hfr h nh1).trans e_h
            have e_sc_ : M2 sc = some (aI g 64 fs) := (hfr sc (Ne.symm n_1)).trans e_sc
            have e_sa_ : M2 sa = some (aI g 8 fa) := (hfr sa (Ne.symm n_2)).trans e_sa
            have e_nm_ : M2 nm = some (aI g 8 fn) := (hfr nm n_4).trans e_nm
            have e_t_ : M2 t = some (aI g 8 ft) := (hfr t t_1).trans e_t
            have e_z_ : M2 z = some (aI g 8 fz) := (hfr z z_1).trans e_z
            have e_o_ : M2 o = some (aI g 8 fo) := (hfr o o_1).trans e_o
            have e_h := e_h_
            have e_sc := e_sc_
            have e_sa := e_sa_
            have e_nm := e_nm_
            have e_t := e_t_
            have e_z := e_z_
            have e_o := e_o_
            have hgF : ∀ q, q ≠ ms → q ≠ sc → q ≠ sa → q ≠ t → M2 q = M q := fun q a1 a2 a3 a4 => (hfr q a1).trans (hgF q a1 a2 a3 a4)
            refine lv_iload hx hb dX0_hashPair_52 (lv_at hl 0 rfl) ?_
            refine lv_bipush (v := 8) hx hb dX0_hashPair_54 (by decide) ?_
            refine lv_icmp_ge (tgt := 94) hx hb dX0_hashPair_56 (by decide) (fun c_56 => ?_) (fun c_56 => ?_)
            · have c_56 : 8 ≤ u := (nI_leI (a := 8) (b := u) (by decide) (by omega)).mp c_56
              have hu8 : u = 8 := by omega
              have hl : lv_has ls 6 [(5, .int (nI 8)), (4, .int (fo 7)), (0, .ref h), (1, .ref z), (2, .ref o), (3, .ref t)] := by rw [hu8] at hl; exact hl
              refine lv_aload_n hx hb dX0_hashPair_94 rfl (lv_at hl 2 rfl) ?_
              refine hp_get (C := RX0) (T := TX0) (N := 4) (v := .ref ms) E hm e_h inh0 rfl 1 (by decide) wf_X0_15 rfl dX0_hashPair_95 ?_
              refine lv_bipush (v := 16) hx hb dX0_hashPair_98 (by decide) ?_
              refine lv_iload hx hb dX0_hashPair_100 (lv_at hl 1 rfl) ?_
              refine lv_bipush (v := 24) hx hb dX0_hashPair_102 (by decide) ?_
              refine lv_ishl hx hb dX0_hashPair_104 ?_
              refine lv_ldc (v := 8388608) hx hb hown (hts _ wk_X0_38) dX0_hashPair_105 ?_
              refine lv_ior hx hb dX0_hashPair_107 ?_
              refine hp_iastN E hm hS e_ms 16 rfl (by decide) (by decide) dX0_hashPair_108 (fun H locs hm hS => ?_)
              obtain ⟨Mx3, hMx3⟩ : ∃ Mz, Mz = hm_up M2 ms (aI g 32 (upd f2 16 (((fo 7) <<< (24 &&& 31)) ||| 8388608))) := ⟨_, rfl⟩
              have hm : hp g Mx3 H := by rw [hMx3]; exact hm
              have e_h : Mx3 h = some (.inr (0, [.ref nm, .ref ms, .ref sc, .ref sa])) := by rw [hMx3]; exact up_at nh1 e_h
              have e_sc : Mx3 sc = some (aI g 64 fs) := by rw [hMx3]; exact up_at (Ne.symm n_1) e_sc
              have e_sa : Mx3 sa = some (aI g 8 fa) := by rw [hMx3]; exact up_at (Ne.symm n_2) e_sa
              have e_nm : Mx3 nm = some (aI g 8 fn) := by rw [hMx3]; exact up_at n_4 e_nm
              have e_t : Mx3 t = some (aI g 8 ft) := by rw [hMx3]; exact up_at t_1 e_t
              have e_z : Mx3 z = some (aI g 8 fz) := by rw [hMx3]; exact up_at z_1 e_z
              have e_o : Mx3 o = some (aI g 8 fo) := by rw [hMx3]; exact up_at o_1 e_o
              have e_ms : Mx3 ms = some (aI g 32 (upd f2 16 (((fo 7) <<< (24 &&& 31)) ||| 8388608))) := by rw [hMx3]; exact up_eq
              refine lv_aload_n hx hb dX0_hashPair_109 rfl (lv_at hl 2 rfl) ?_
              refine hp_get (C := RX0) (T := TX0) (N := 4) (v := .ref ms) E hm e_h inh0 rfl 1 (by decide) wf_X0_15 rfl dX0_hashPair_110 ?_
              refine lv_bipush (v := 31) hx hb dX0_hashPair_113 (by decide) ?_
              refine lv_sipush (v := 520) hx hb dX0_hashPair_115 (by decide) ?_
              refine hp_iastN E hm hS e_ms 31 rfl (by decide) (by decide) dX0_hashPair_118 (fun H locs hm hS => ?_)
              obtain ⟨Mx4, hMx4⟩ : ∃ Mz, Mz = hm_up Mx3 ms (aI g 32 (upd (upd f2 16 (((fo 7) <<< (24 &&& 31)) ||| 8388608)) 31 520)) := ⟨_, rfl⟩
              have hm : hp g Mx4 H := by rw [hMx4]; exact hm
              have e_h : Mx4 h = some (.inr (0, [.ref nm, .ref ms, .ref sc, .ref sa])) := by rw [hMx4]; exact up_at nh1 e_h
              have e_sc : Mx4 sc = some (aI g 64 fs) := by rw [hMx4]; exact up_at (Ne.symm n_1) e_sc
              have e_sa : Mx4 sa = some (aI g 8 fa) := by rw [hMx4]; exact up_at (Ne.symm n_2) e_sa
              have e_nm : Mx4 nm = some (aI g 8 fn) := by rw [hMx4]; exact up_at n_4 e_nm
              have e_t : Mx4 t = some (aI g 8 ft) := by rw [hMx4]; exact up_at t_1 e_t
              have e_z : Mx4 z = some (aI g 8 fz) := by rw [hMx4]; exact up_at z_1 e_z
              have e_o : Mx4 o = some (aI g 8 fo) := by rw [hMx4]; exact up_at o_1 e_o
              have e_ms : Mx4 ms = some (aI g 32 (upd (upd f2 16 (((fo 7) <<< (24 &&& 31)) ||| 8388608)) 31 520)) := by rw [hMx4]; exact up_eq
              have hgF : ∀ q, q ≠ ms → q ≠ sc → q ≠ sa → q ≠ t → Mx4 q = M q := fun q a1 a2 a3 a4 => by rw [hMx4, up_ne a1, hMx3, up_ne a1]; exact hgF q a1 a2 a3 a4
              obtain ⟨fmm, hfmm⟩ : ∃ z, z = upd (upd f2 16 (((fo 7) <<< (24 &&& 31)) ||| 8388608)) 31 520 := ⟨_, rfl⟩
              rw [← hfmm] at e_ms
              have hw : ∀ j, j < 32 → fmm j = mp fz fo j := by
                intro j hj
                rw [hfmm]
                by_cases h31 : j = 31
                · subst h31; rw [pk_us]; rfl
                · rw [pk_un h31]
                  by_cases h16 : j = 16
                  · subst h16; rw [pk_us]; rfl
                  · rw [pk_un h16, hf j hj]
                    by_cases q : j < 8 + 8
                    · rw [hu8, if_pos q]
                    · unfold mp; rw [hu8, if_neg q, if_neg (by omega), if_neg (by omega), if_neg h16, if_neg h31]
              refine lv_aload_n hx hb dX0_hashPair_119 rfl (lv_at hl 2 rfl) ?_
              refine hp_cv (hp_runV (C := RX0) (T := TX0) (N := 4) (np := 0) (k := 2) (mc := 0) (ms := 0) (As := ([] : List Value)) (rest := []) E hm hS (c_X0_start l g Mx4 h nm ms sc sa fmm fs fa ⟨e_h, e_ms, e_sc, e_sa, ⟨fn, e_nm, hz⟩, n_1, n_2, n_3, n_4, n_5, n_6⟩) ms_X0_start wi_X0_start ws_X0_start wl_X0_27 e_h rfl rfl hl.1 rfl (Nat.le_of_ble_eq_true rfl) dX0_hashPair_120 ⟨Nat.le_of_ble_eq_true rfl, Nat.le_of_ble_eq_true rfl⟩ ⟨(Nat.le_of_ble_eq_true rfl), (Nat.le_of_ble_eq_true rfl)⟩) hS (fun Mx5 H locs hq6 hm hS => ?_)
              obtain ⟨fa0, e_x, hfry, hsy⟩ := hq6
              have e_h_ : Mx5 h = some (.inr (0, [.ref nm, .ref ms, .ref sc, .ref sa])) := (hfry h nh3).trans e_h
              have e_sc_ : Mx5 sc = some (aI g 64 fs) := (hfry sc n_3).trans e_sc
              have e_nm_ : Mx5 nm = some (aI g 8 fn) := (hfry nm n_6).trans e_nm
              have e_t_ : Mx5 t = some (aI g 8 ft) := (hfry t t_3).trans e_t
              have e_ms_ : Mx5 ms = some (aI g 32 fmm) := (hfry ms n_2).trans e_ms
              have e_h := e_h_
              have e_sc := e_sc_
              have e_nm := e_nm_
              have e_t := e_t_
              have e_ms := e_ms_
              have e_sa := e_x
              have hgF : ∀ q, q ≠ ms → q ≠ sc → q ≠ sa → q ≠ t → Mx5 q = M q := fun q a1 a2 a3 a4 => (hfry q a3).trans (hgF q a1 a2 a3 a4)
              refine lv_aload_n hx hb dX0_hashPair_123 rfl (lv_at hl 2 rfl) ?_
              refine lv_iconst (v := 0) hx hb dX0_hashPair_124 (by decide) ?_
              refine hp_cv (hp_runV (C := RX0) (T := TX0) (N := 4) (np := 1) (k := 3) (mc := 0) (ms := 0) (As := [.int 0]) (rest := []) E hm hS (c_X0_compress l g Mx5 h nm ms sc sa fmm fs fa0 ⟨e_h, e_ms, e_sc, e_sa, ⟨fn, e_nm, hz⟩, n_1, n_2, n_3, n_4, n_5, n_6⟩ 0 (by omega)) ms_X0_compress wi_X0_compress ws_X0_compress wl_X0_30 e_h rfl rfl hl.1 rfl (Nat.le_of_ble_eq_true rfl) dX0_hashPair_125 ⟨Nat.le_of_ble_eq_true rfl, Nat.le_of_ble_eq_true rfl⟩ ⟨(Nat.le_of_ble_eq_true rfl), (Nat.le_of_ble_eq_true rfl)⟩) hS (fun Mx7 H locs hq8 hm hS => ?_)
              obtain ⟨fs1, fa1, e_x, e_y, hc1_f, hc1⟩ := hq8
              have e_h_ : Mx7 h = some (.inr (0, [.ref nm, .ref ms, .ref sc, .ref sa])) := (hc1_f h nh2 nh3).trans e_h
              have e_nm_ : Mx7 nm = some (aI g 8 fn) := (hc1_f nm n_5 n_6).trans e_nm
              have e_t_ : Mx7 t = some (aI g 8 ft) := (hc1_f t t_2 t_3).trans e_t
              have e_ms_ : Mx7 ms = some (aI g 32 fmm) := (hc1_f ms n_1 n_2).trans e_ms
              have e_h := e_h_
              have e_nm := e_nm_
              have e_t := e_t_
              have e_ms := e_ms_
              have e_sc := e_x
              have e_sa := e_y
              have hgF : ∀ q, q ≠ ms → q ≠ sc → q ≠ sa → q ≠ t → Mx7 q = M q := fun q a1 a2 a3 a4 => (hc1_f q a2 a3).trans (hgF q a1 a2 a3 a4)
              refine lv_aload_n hx hb dX0_hashPair_128 rfl (lv_at hl 2 rfl) ?_
              refine lv_bipush (v := 16) hx hb dX0_hashPair_129 (by decide) ?_
              refine hp_cv (hp_runV (C := RX0) (T := TX0) (N := 4) (np := 1) (k := 3) (mc := 0) (ms := 0) (As := [.int 16]) (rest := []) E hm hS (c_X0_compress l g Mx7 h nm ms sc sa fmm fs1 fa1 ⟨e_h, e_ms, e_sc, e_sa, ⟨fn, e_nm, hz⟩, n_1, n_2, n_3, n_4, n_5, n_6⟩ 16 (by omega)) ms_X0_compress wi_X0_compress ws_X0_compress wl_X0_30 e_h rfl rfl hl.1 rfl (Nat.le_of_ble_eq_true rfl) dX0_hashPair_131 ⟨Nat.le_of_ble_eq_true rfl, Nat.le_of_ble_eq_true rfl⟩ ⟨(Nat.le_of_ble_eq_true rfl), (Nat.le_of_ble_eq_true rfl)⟩) hS (fun Mx9 H locs hq10 hm hS => ?_)
              obtain ⟨fs2, fa2, e_x, e_y, hc2_f, hc2⟩ := hq10
              have e_h_ : Mx9 h = some (.inr (0, [.ref nm, .ref ms, .ref sc, .ref sa])) := (hc2_f h nh2 nh3).trans e_h
              have e_nm_ : Mx9 nm = some (aI g 8 fn) := (hc2_f nm n_5 n_6).trans e_nm
              have e_t_ : Mx9 t = some (aI g 8 ft) := (hc2_f t t_2 t_3).trans e_t
              have e_ms_ : Mx9 ms = some (aI g 32 fmm) := (hc2_f ms n_1 n_2).trans e_ms
              have e_h := e_h_
              have e_nm := e_nm_
              have e_t := e_t_
              have e_ms := e_ms_
              have e_sc := e_x
              have e_sa := e_y
              have hgF : ∀ q, q ≠ ms → q ≠ sc → q ≠ sa → q ≠ t → Mx9 q = M q := fun q a1 a2 a3 a4 => (hc2_f q a2 a3).trans (hgF q a1 a2 a3 a4)
              refine lv_aload_n hx hb dX0_hashPair_134 rfl (lv_at hl 2 rfl) ?_
              refine hp_get (C := RX0) (T := TX0) (N := 4) (v := .ref sa) E hm e_h inh0 rfl 3 (by decide) wf_X0_21 rfl dX0_hashPair_135 ?_
              refine lv_aload_n hx hb dX0_hashPair_138 rfl (lv_at hl 5 rfl) ?_
              refine hp_cv (hp_runN (np := 2) (k := 1) (mc := 0) (ms := 0) (As := [.ref sa, .ref t]) (rest := []) E hm hS (c_X3_copyWords l g Mx9 sa t fa2 ft e_sa e_t (Ne.symm t_3)) ms_X3_copyWords wt_X3_copyWords E.2.2.2.2.2.2.2.2.2.2.2.2.2.2.1 rfl hl.1 rfl (Nat.le_of_ble_eq_true rfl) dX0_hashPair_139 ⟨Nat.le_of_ble_eq_true rfl, Nat.le_of_ble_eq_true rfl⟩ ⟨(Nat.le_of_ble_eq_true rfl), (Nat.le_of_ble_eq_true rfl)⟩) hS (fun Mx11 H locs hq12 hm hS => ?_)
              obtain ⟨f7, e_x, hfrz, hcp⟩ := hq12
              have e_h_ : Mx11 h = some (.inr (0, [.ref nm, .ref ms, .ref sc, .ref sa])) := (hfrz h (ne_lk e_h e_t (by simp))).trans e_h
              have e_nm_ : Mx11 nm = some (aI g 8 fn) := (hfrz nm (Ne.symm t_4)).trans e_nm
              have e_ms_ : Mx11 ms = some (aI g 32 fmm) := (hfrz ms (Ne.symm t_1)).trans e_ms
              have e_sc_ : Mx11 sc = some (aI g 64 fs2) := (hfrz sc (Ne.symm t_2)).trans e_sc
              have e_sa_ : Mx11 sa = some (aI g 8 fa2) := (hfrz sa (Ne.symm t_3)).trans e_sa
              have e_h := e_h_
              have e_nm := e_nm_
              have e_ms := e_ms_
              have e_sc := e_sc_
              have e_sa := e_sa_
              have e_t := e_x
              have hgF : ∀ q, q ≠ ms → q ≠ sc → q ≠ sa → q ≠ t → Mx11 q = M q := fun q a1 a2 a3 a4 => (hfrz q a4).trans (hgF q a1 a2 a3 a4)
              exact ret dX0_hashPair_142 hm hS (Nat.le_of_ble_eq_true rfl) (Nat.le_of_ble_eq_true rfl) (⟨_, _, _, _, ⟨e_h, e_ms, e_sc, e_sa, ⟨fn, e_nm, hz⟩, n_1, n_2, n_3, n_4, n_5, n_6⟩, e_t, hgF, fun j hj => by rw [hcp j hj, hc2 j hj]; exact shaB_w (fun i hi => by rw [hc1 i hi]; exact shaB_w (fun b hb => hsy b hb) (fun b hb => by rw [Nat.zero_add]; exact hw b (by omega)) hi) (fun i hi => hw (16 + i) (by omega)) hj⟩)
            · have c_56 : ¬ 8 ≤ u := fun h9 => c_56 ((nI_leI (a := 8) (b := u) (by decide) (by omega)).mpr h9)
              refine lv_aload_n hx hb dX0_hashPair_59 rfl (lv_at hl 2 rfl) ?_
              refine hp_get (C := RX0) (T := TX0) (N := 4) (v := .ref ms) E hm e_h inh0 rfl 1 (by decide) wf_X0_15 rfl dX0_hashPair_60 ?_
              refine lv_bipush (v := 8) hx hb dX0_hashPair_63 (by decide) ?_
              refine lv_iload hx hb dX0_hashPair_65 (lv_at hl 0 rfl) ?_
              refine lv_iadd hx hb dX0_hashPair_67 ?_
              refine lv_iload hx hb dX0_hashPair_68 (lv_at hl 1 rfl) ?_
              refine lv_bipush (v := 24) hx hb dX0_hashPair_70 (by decide) ?_
              refine lv_ishl hx hb dX0_hashPair_72 ?_
              refine lv_aload_n hx hb dX0_hashPair_73 rfl (lv_at hl 4 rfl) ?_
              refine lv_iload hx hb dX0_hashPair_74 (lv_at hl 0 rfl) ?_
              refine hp_ialdN E hm e_o u rfl (by omega) (by decide) dX0_hashPair_76 ?_
              refine lv_bipush (v := 8) hx hb dX0_hashPair_77 (by decide) ?_
              refine lv_iushr (v := ush (fo u) 8) hx hb dX0_hashPair_79 rfl ?_
              refine lv_ior hx hb dX0_hashPair_80 ?_
              refine hp_iastN E hm hS e_ms (8 + u) (nI_add 8 u) (by omega) (by decide) dX0_hashPair_81 (fun H locs hm hS => ?_)
              obtain ⟨Mx13, hMx13⟩ : ∃ Mz, Mz = hm_up M2 ms (aI g 32 (upd f2 (8 + u) (((pv2 fz fo u) <<< (24 &&& 31)) ||| (ush (fo u) 8)))) := ⟨_, rfl⟩
              have hm : hp g Mx13 H := by rw [hMx13]; exact hm
              have e_h : Mx13 h = some (.inr (0, [.ref nm, .ref ms, .ref sc, .ref sa])) := by rw [hMx13]; exact up_at nh1 e_h
              have e_sc : Mx13 sc = some (aI g 64 fs) := by rw [hMx13]; exact up_at (Ne.symm n_1) e_sc
              have e_sa : Mx13 sa = some (aI g 8 fa) := by rw [hMx13]; exact up_at (Ne.symm n_2) e_sa
              have e_nm : Mx13 nm = some (aI g 8 fn) := by rw [hMx13]; exact up_at n_4 e_nm
              have e_t : Mx13 t = some (aI g 8 ft) := by rw [hMx13]; exact up_at t_1 e_t
              have e_z : Mx13 z = some (aI g 8 fz) := by rw [hMx13]; exact up_at z_1 e_z
              have e_o : Mx13 o = some (aI g 8 fo) := by rw [hMx13]; exact up_at o_1 e_o
              have e_ms : Mx13 ms = some (aI g 32 (upd f2 (8 + u) (((pv2 fz fo u) <<< (24 &&& 31)) ||| (ush (fo u) 8)))) := by rw [hMx13]; exact up_eq
              refine lv_aload_n hx hb dX0_hashPair_82 rfl (lv_at hl 4 rfl) ?_
              refine lv_iload hx hb dX0_hashPair_83 (lv_at hl 0 rfl) ?_
              refine hp_ialdN E hm e_o u rfl (by omega) (by decide) dX0_hashPair_85 ?_
              refine lv_istore (lv' := [(4, .int (fo u)), (5, .int (nI u)), (0, .ref h), (1, .ref z), (2, .ref o), (3, .ref t)]) hx hb dX0_hashPair_86 hl (by decide) rfl (fun ls hl => ?_)
              refine lv_iinc (v := nI (u + 1)) (lv' := [(5, .int (nI (u + 1))), (4, .int (fo u)), (0, .ref h), (1, .ref z), (2, .ref o), (3, .ref t)]) hx hb dX0_hashPair_88 hl (k := 1) rfl (nI_1 _) (by decide) rfl (fun ls hl => ?_)
              refine lv_goto (tgt := 52) hx hb dX0_hashPair_91 (by decide) ?_
              refine ih (u + 1) Mx13 _ H locs ls (by omega) (by omega) e_ms (fun q hq => by rw [hMx13, up_ne hq]; exact hfr q hq) (fun j hj => ?_) hm hS (lv_sub hl [0, 1, 2, 3, 4, 5] rfl)
              by_cases q : j = 8 + u
              · rw [q, pk_us, if_pos (by omega)]; unfold mp; rw [if_neg (by omega), if_pos (by omega), Nat.add_sub_cancel_left]
              · rw [pk_un q, hf j hj]
                by_cases q2 : j < 8 + u
                · rw [if_pos q2, if_pos (by omega)]
                · rw [if_neg q2, if_neg (by omega)]
        exact lp52 9 0 M1 f1 H locs ls (by omega) (by omega) e_ms (fun _ _ => rfl) (fun j hj => by rw [hf j hj, show i = 8 by omega]) hm hS (lv_sub hl [0, 1, 2, 3, 4, 5] rfl)
      · have c_14 : ¬ 8 ≤ i := fun h9 => c_14 ((nI_leI (a := 8) (b := i) (by decide) (by omega)).mpr h9)
        refine lv_aload_n hx hb dX0_hashPair_17 rfl (lv_at hl 2 rfl) ?_
        refine hp_get (C := RX0) (T := TX0) (N := 4) (v := .ref ms) E hm e_h inh0 rfl 1 (by decide) wf_X0_15 rfl dX0_hashPair_18 ?_
        refine lv_iload hx hb dX0_hashPair_21 (lv_at hl 0 rfl) ?_
        refine lv_iload hx hb dX0_hashPair_23 (lv_at hl 1 rfl) ?_
        refine lv_bipush (v := 24) hx hb dX0_hashPair_25 (by decide) ?_
        refine lv_ishl hx hb dX0_hashPair_27 ?_
        refine lv_aload_n hx hb dX0_hashPair_28 rfl (lv_at hl 3 rfl) ?_
        refine lv_iload hx hb dX0_hashPair_29 (lv_at hl 0 rfl) ?_
        refine hp_ialdN E hm e_z i rfl (by omega) (by decide) dX0_hashPair_31 ?_
        refine lv_bipush (v := 8) hx hb dX0_hashPair_32 (by decide) ?_
        refine lv_iushr (v := ush (fz i) 8) hx hb dX0_hashPair_34 rfl ?_
        refine lv_ior hx hb dX0_hashPair_35 ?_
        refine hp_iastN E hm hS e_ms i rfl (by omega) (by decide) dX0_hashPair_36 (fun H locs hm hS => ?_)
        obtain ⟨Mx14, hMx14⟩ : ∃ Mz, Mz = hm_up M1 ms (aI g 32 (upd f1 i (((pv1 fz i) <<< (24 &&& 31)) ||| (ush (fz i) 8)))) := ⟨_, rfl⟩
        have hm : hp g Mx14 H := by rw [hMx14]; exact hm
        have e_h : Mx14 h = some (.inr (0, [.ref nm, .ref ms, .ref sc, .ref sa])) := by rw [hMx14]; exact up_at nh1 e_h
        have e_sc : Mx14 sc = some (aI g 64 fs) := by rw [hMx14]; exact up_at (Ne.symm n_1) e_sc
        have e_sa : Mx14 sa = some (aI g 8 fa) := by rw [hMx14]; exact up_at (Ne.symm n_2) e_sa
        have e_nm : Mx14 nm = some (aI g 8 fn) := by rw [hMx14]; exact up_at n_4 e_nm
        have e_t : Mx14 t = some (aI g 8 ft) := by rw [hMx14]; exact up_at t_1 e_t
        have e_z : Mx14 z = some (aI g 8 fz) := by rw [hMx14]; exact up_at z_1 e_z
        have e_o : Mx14 o = some (aI g 8 fo) := by rw [hMx14]; exact up_at o_1 e_o
        have e_ms : Mx14 ms = some (aI g 32 (upd f1 i (((pv1 fz i) <<< (24 &&& 31)) ||| (ush (fz i) 8)))) := by rw [hMx14]; exact up_eq
        refine lv_aload_n hx hb dX0_hashPair_37 rfl (lv_at hl 3 rfl) ?_
        refine lv_iload hx hb dX0_hashPair_38 (lv_at hl 0 rfl) ?_
        refine hp_ialdN E hm e_z i rfl (by omega) (by decide) dX0_hashPair_40 ?_
        refine lv_istore (lv' := [(4, .int (fz i)), (5, .int (nI i)), (0, .ref h), (1, .ref z), (2, .ref o), (3, .ref t)]) hx hb dX0_hashPair_41 hl (by decide) rfl (fun ls hl => ?_)
        refine lv_iinc (v := nI (i + 1)) (lv' := [(5, .int (nI (i + 1))), (4, .int (fz i)), (0, .ref h), (1, .ref z), (2, .ref o), (3, .ref t)]) hx hb dX0_hashPair_43 hl (k := 1) rfl (nI_1 _) (by decide) rfl (fun ls hl => ?_)
        refine lv_goto (tgt := 10) hx hb dX0_hashPair_46 (by decide) ?_
        refine ih (i + 1) Mx14 _ H locs ls (by omega) (by omega) e_ms (fun q hq => by rw [hMx14, up_ne hq]; exact hfr q hq) (fun j hj => ?_) hm hS (lv_sub hl [0, 1, 2, 3, 4, 5] rfl)
        by_cases q : j = i
        · rw [q, pk_us, if_pos (by omega)]; unfold mp; rw [if_pos (by omega)]
        · rw [pk_un q, hf j hj]
          by_cases q2 : j < i
          · rw [if_pos q2, if_pos (by omega)]
          · rw [if_neg q2, if_neg (by omega)]
  exact lp10 9 0 Mx1 fz0 H locs ls (by omega) (by omega) e_ms (fun _ _ => rfl) (fun j hj => by rw [hzx j hj, if_neg (by omega)]) hm hS (lv_sub hl [0, 1, 2, 3, 4, 5] rfl)
end
section
/-! the map as a row of entries by rising keys; its halves by a bit; its digest -/
abbrev En : Type := List (Nat × Int32)
def spl (n : Nat) (b : Bool) (E : En) : En := E.filter (fun x => x.1.testBit n == b)
def dgF : Nat → En → Nat → Int32
  | 0, E => match E with
    | [(k, v)] => hLeaf (nI k) v
    | _ => fun _ => 0
  | n + 1, E => match E with
    | [] => fun _ => 0
    | [(k, v)] => hLeaf (nI k) v
    | _ => hPair (dgF n (spl n false E)) (dgF n (spl n true E))
theorem dgF_nil (n : Nat) : dgF n [] = fun _ => 0 := by cases n <;> rfl
theorem dgF_one (n k : Nat) (v : Int32) : dgF n [(k, v)] = hLeaf (nI k) v := by cases n <;> rfl
theorem dgF_two {n : Nat} {E : En} (h : 2 ≤ E.length) : dgF (n + 1) E = hPair (dgF n (spl n false E)) (dgF n (spl n true E)) := by
  match E, h with
  | [], h => simp at h
  | [x], h => simp at h
  | x :: y :: t, h => rfl
theorem mp_w {z z' o o' : Nat → Int32} (hz : ∀ j, j < 8 → z j = z' j) (ho : ∀ j, j < 8 → o j = o' j) (j : Nat) : mp z o j = mp z' o' j := by
  unfold mp
  by_cases h8 : j < 8
  · rw [if_pos h8, if_pos h8, hz j h8]
    cases j with
    | zero => rfl
    | succ k => show (z k <<< _ ||| _) = (z' k <<< _ ||| _); rw [hz k (by omega)]
  · rw [if_neg h8, if_neg h8]
    by_cases h16 : j < 16
    · rw [if_pos h16, if_pos h16, ho (j - 8) (by omega)]
      obtain ⟨i, hi⟩ : ∃ i, j - 8 = i := ⟨_, rfl⟩
      rw [hi]
      cases i with
      | zero => show (z 7 <<< _ ||| _) = (z' 7 <<< _ ||| _); rw [hz 7 (by omega)]
      | succ k => show (o k <<< _ ||| _) = (o' k <<< _ ||| _); rw [ho k (by omega)]
    · rw [if_neg h16, if_neg h16, ho 7 (by omega)]
theorem hPair_w {z z' o o' : Nat → Int32} (hz : ∀ j, j < 8 → z j = z' j) (ho : ∀ j, j < 8 → o j = o' j) {j : Nat} (hj : j < 8) : hPair z o j = hPair z' o' j :=
  shaB_w (fun i hi => shaB_w (fun _ _ => rfl) (fun b _ => mp_w hz ho b) hi) (fun i _ => mp_w hz ho (16 + i)) hj
/-- entries by rising keys -/
def srt (E : En) : Prop := E.Pairwise (fun a b => a.1 < b.1)
theorem srt_spl {E : En} (h : srt E) (n : Nat) (b : Bool) : srt (spl n b E) := List.Pairwise.filter _ h
def putL (k : Nat) (v : Int32) : En → En
  | [] => [(k, v)]
  | x :: t => if k < x.1 then (k, v) :: x :: t else if k = x.1 then (k, v) :: t else x :: putL k v t
def remL (k : Nat) (E : En) : En := E.filter (fun x => x.1 != k)
theorem putL_cons (k : Nat) (v : Int32) (x : Nat × Int32) (t : En) : putL k v (x :: t) = if k < x.1 then (k, v) :: x :: t else if k = x.1 then (k, v) :: t else x :: putL k v t := rfl
theorem spl_in {n : Nat} {b : Bool} {x : Nat × Int32} {t : En} (h : x.1.testBit n = b) : spl n b (x :: t) = x :: spl n b t := by
  unfold spl
  rw [List.filter_cons, if_pos (by simp [h])]
theorem spl_out {n : Nat} {b : Bool} {x : Nat × Int32} {t : En} (h : ¬ x.1.testBit n = b) : spl n b (x :: t) = spl n b t := by
  unfold spl
  rw [List.filter_cons, if_neg (by simp [h])]
theorem spl_len (n : Nat) (E : En) : (spl n false E).length + (spl n true E).length = E.length := by
  induction E with
  | nil => rfl
  | cons x t ih =>
    cases hb : x.1.testBit n with
    | false => rw [spl_in hb, spl_out (by rw [hb]; decide), List.length_cons, List.length_cons]; omega
    | true => rw [spl_in hb, spl_out (by rw [hb]; decide), List.length_cons, List.length_cons]; omega
theorem spl_mem {n : Nat} {b : Bool} {E : En} {x : Nat × Int32} : x ∈ spl n b E ↔ x ∈ E ∧ x.1.testBit n = b := by
  unfold spl
  rw [List.mem_filter]
  simp
theorem putL_mem {k : Nat} {v : Int32} : ∀ {E : En} {x : Nat × Int32}, x ∈ putL k v E → x = (k, v) ∨ x ∈ E
  | [], x, h => by simp [putL] at h; exact Or.inl h
  | y :: t, x, h => by
    rw [putL_cons] at h
    by_cases h1 : k < y.1
    · rw [if_pos h1] at h
      rcases List.mem_cons.mp h with q | q
      · exact Or.inl q
      · exact Or.inr q
    · rw [if_neg h1] at h
      by_cases h2 : k = y.1
      · rw [if_pos h2] at h
        rcases List.mem_cons.mp h with q | q
        · exact Or.inl q
        · exact Or.inr (List.mem_cons_of_mem _ q)
      · rw [if_neg h2] at h
        rcases List.mem_cons.mp h with q | q
        · exact Or.inr (by rw [q]; exact List.mem_cons_self)
        · rcases putL_mem q with z | z
          · exact Or.inl z
          · exact Or.inr (List.mem_cons_of_mem _ z)
theorem putL_srt {k : Nat} {v : Int32} : ∀ {E : En}, srt E → srt (putL k v E)
  | [], _ => by simp [putL, srt]
  | y :: t, h => by
    obtain ⟨h1, h2⟩ := List.pairwise_cons.mp h
    rw [putL_cons]
    by_cases q1 : k < y.1
    · rw [if_pos q1]
      refine List.pairwise_cons.mpr ⟨fun x hx => ?_, h⟩
      rcases List.mem_cons.mp hx with q | q
      · rw [q]; exact q1
      · exact Nat.lt_trans q1 (h1 x q)
    · rw [if_neg q1]
      by_cases q2 : k = y.1
      · rw [if_pos q2]
        exact List.pairwise_cons.mpr ⟨fun x hx => by show k < x.1; rw [q2]; exact h1 x hx, h2⟩
      · rw [if_neg q2]
        refine List.pairwise_cons.mpr ⟨fun x hx => ?_, putL_srt h2⟩
        rcases putL_mem hx with q | q
        · rw [q]; show y.1 < k; omega
        · exact h1 x q
theorem putL_front {k : Nat} {v : Int32} {E : En} (h : ∀ x ∈ E, k < x.1) : putL k v E = (k, v) :: E := by
  cases E with
  | nil => rfl
  | cons y t => unfold putL; rw [if_pos (h y List.mem_cons_self)]
theorem spl_putL {n k : Nat} {v : Int32} {b : Bool} : ∀ {E : En}, srt E → spl n b (putL k v E) = if k.testBit n = b then putL k v (spl n b E) else spl n b E
  | [], _ => by
    show spl n b [(k, v)] = _
    by_cases h : k.testBit n = b
    · rw [if_pos h, spl_in h]; rfl
    · rw [if_neg h, spl_out h]
  | y :: t, hs => by
    obtain ⟨h1, h2⟩ := List.pairwise_cons.mp hs
    have ih := spl_putL (n := n) (k := k) (v := v) (b := b) h2
    rw [putL_cons]
    by_cases q1 : k < y.1
    · rw [if_pos q1]
      have hf : ∀ x ∈ spl n b (y :: t), k < x.1 := fun x hx => by
        rcases List.mem_cons.mp (spl_mem.mp hx).1 with q | q
        · rw [q]; exact q1
        · exact Nat.lt_trans q1 (h1 x q)
      by_cases h : k.testBit n = b
      · rw [if_pos h, putL_front hf, spl_in h]
      · rw [if_neg h, spl_out h]
    · rw [if_neg q1]
      by_cases q2 : k = y.1
      · rw [if_pos q2]
        by_cases h : k.testBit n = b
        · rw [if_pos h, spl_in h, spl_in (by rw [← q2]; exact h), putL_cons, if_neg q1, if_pos q2]
        · rw [if_neg h, spl_out h, spl_out (by rw [← q2]; exact h)]
      · rw [if_neg q2]
        by_cases hy : y.1.testBit n = b
        · rw [spl_in hy, spl_in hy, ih]
          by_cases h : k.testBit n = b
          · rw [if_pos h, if_pos h, putL_cons, if_neg q1, if_neg q2]
          · rw [if_neg h, if_neg h]
        · rw [spl_out hy, spl_out hy, ih]
theorem spl_remL {n k : Nat} {b : Bool} (E : En) : spl n b (remL k E) = remL k (spl n b E) := by
  unfold spl remL
  rw [List.filter_filter, List.filter_filter]
  congr 1
  funext x
  exact Bool.and_comm _ _
theorem remL_out {k : Nat} {E : En} (h : ∀ x ∈ E, x.1 ≠ k) : remL k E = E := by
  unfold remL
  exact List.filter_eq_self.mpr (fun x hx => by simp [h x hx])
/-- all keys of E begin as k does, but for the last n bits -/
def pre (n k : Nat) (E : En) : Prop := ∀ x ∈ E, x.1 >>> n = k >>> n
theorem shr_bit {a b n : Nat} (h : a >>> (n + 1) = b >>> (n + 1)) (hb : a.testBit n = b.testBit n) : a >>> n = b >>> n := by
  apply Nat.eq_of_testBit_eq
  intro i
  rw [Nat.testBit_shiftRight, Nat.testBit_shiftRight]
  cases i with
  | zero => exact hb
  | succ i =>
    have := congrArg (fun z => z.testBit i) h
    simp only [Nat.testBit_shiftRight] at this
    rw [show n + (i + 1) = n + 1 + i by omega]
    exact this
theorem pre_spl {n k : Nat} {E : En} (h : pre (n + 1) k E) : pre n k (spl n (k.testBit n) E) := fun x hx => shr_bit (h x (spl_mem.mp hx).1) (spl_mem.mp hx).2
theorem pre_0 {k : Nat} {E : En} (h : pre 0 k E) (hs : srt E) : E = [] ∨ ∃ v, E = [(k, v)] := by
  match E, h, hs with
  | [], _, _ => exact Or.inl rfl
  | [x], h, _ => exact Or.inr ⟨x.2, by have := h x List.mem_cons_self; simp at this; rw [← this]⟩
  | x :: y :: t, h, hs =>
    have h1 := h x List.mem_cons_self
    have h2 := h y (List.mem_cons_of_mem _ List.mem_cons_self)
    have h3 := (List.pairwise_cons.mp hs).1 y List.mem_cons_self
    simp at h1 h2
    omega
end
section
theorem su32 : ∀ n, n < 32 → (((nI n).toUInt32 &&& Int32.toUInt32 31).toBitVec % 32).toNat = n := by decide +kernel
theorem ush_n {k n : Nat} (hk : k < 2 ^ 32) (hn : n < 32) : ush (nI k) (nI n) = nI (k / 2 ^ n) := pk_ushrN hk (nI n) n (su32 n hn)
theorem bit_n (k n : Nat) : nI (k / 2 ^ n % 2 ^ 1) = bI (k.testBit n) := by
  rw [Nat.testBit_eq_decide_div_mod_eq]
  rcases Nat.mod_two_eq_zero_or_one (k / 2 ^ n) with h | h
  · rw [show (2 : Nat) ^ 1 = 2 from rfl, h]; rfl
  · rw [show (2 : Nat) ^ 1 = 2 from rfl, h]; rfl
theorem bitA_n {k d n : Nat} (hk : k < 65536) (hd : d + n = 15) : bitA (nI k) (nI d) = bI (k.testBit n) := by
  unfold bitA
  rw [show (15 : Int32) - nI d = nI n from ix_sub (a := 15) (by omega), ush_n (by omega) (by omega), pk_andN (m := 1) (by have : k / 2 ^ n ≤ k := Nat.div_le_self _ _; omega) 1 (by decide), bit_n]
theorem bI_not (b : Bool) : (1 : Int32) - bI b = bI (!b) := by cases b <;> decide
theorem bI_inj {a b : Bool} (h : bI a = bI b) : a = b := by
  cases a <;> cases b <;> first | rfl | (exact absurd h (by decide))
/-! nodes: N tells what entries a node stands for, and for how many bits; Z the same of a digest's row -/
abbrev gT : Type := Nat → Option (Nat × En)
def rt (N : gT) (r : Option Nat) (n : Nat) (E : En) : Prop := match r with
  | none => E = []
  | some a => ∃ n', N a = some (n', E) ∧ E ≠ [] ∧ (2 ≤ E.length → n' = n)
def nd (M : hM) (N Z : gT) (a n : Nat) (E : En) : Prop := ∃ (ky vl : Int32) (z o dg : Option Nat), M a = some (.inr (1, [.int (nI E.length), .int ky, .int vl, va_rf z, va_rf o, va_rf dg])) ∧ (∀ b, dg = some b → Z b = some (n, E)) ∧ E.length < 2 ^ 30 ∧ ((∃ k, E = [(k, vl)] ∧ ky = nI k ∧ k < 65536 ∧ z = none ∧ o = none) ∨ (∃ n', n = n' + 1 ∧ n' < 16 ∧ 2 ≤ E.length ∧ rt N z n' (spl n' false E) ∧ rt N o n' (spl n' true E)))
def WF (g : hG) (M : hM) (N Z : gT) : Prop := (∀ a n E, N a = some (n, E) → nd M N Z a n E) ∧ ∀ b n E, Z b = some (n, E) → ∃ f, M b = some (aI g 8 f) ∧ ∀ j, j < 8 → f j = dgF n E j
theorem rt_len {g : hG} {M : hM} {N Z : gT} (hW : WF g M N Z) {r : Option Nat} {n : Nat} {E : En} (h : rt N r n E) : E.length < 2 ^ 30 := by
  cases r with
  | none => rw [show E = [] from h]; decide
  | some a =>
    obtain ⟨n', h1, h2, h3⟩ := h
    obtain ⟨ky, vl, z, o, dg, -, -, q, -⟩ := hW.1 a n' E h1
    exact q
def isEn (E : En) (k : Nat) : Bool := match E with
  | [(k', _)] => k' == k
  | _ => false
theorem rt_up {N : gT} {r : Option Nat} {n n' : Nat} {E : En} (h : rt N r n E) (hl : E.length ≤ 1) : rt N r n' E := by
  cases r with
  | none => exact h
  | some a =>
    obtain ⟨m, h1, h2, h3⟩ := h
    exact ⟨m, h1, h2, fun q => by omega⟩
set_option maxHeartbeats 4000000 in
set_option maxRecDepth 100000 in
theorem c_X3_countOf (l : Launch) (g : hG) (M : hM) (N Z : gT) (hW : WF g M N Z) (r : Option Nat) (n : Nat) (E : En) (hr : rt N r n E) : Ci l g yX3_countOf cX3_countOf 1 .int 1 0 0 [va_rf r] M (fun r M9 => r = nI E.length ∧ M9 = M) := by
  cases r with
  | none =>
    have hE : E = [] := hr
    show Ci l g yX3_countOf cX3_countOf 1 .int 1 0 0 [.null] M (fun r M9 => r = nI E.length ∧ M9 = M)
    refine hp_startI (by decide) (by exact Nat.le_of_ble_eq_true rfl) ?_
    intro p e s m below meth c Q H locs ls EE hnm ret hm hS hl
    have hx := EE.1
    have hb := EE.2.1
    have hown := EE.2.2.2.1
    have hts := EE.2.2.2.2.1
    have hl : lv_has ls 1 [(0, .null)] := hl
    refine lv_aload_nN hx hb dX3_countOf_0 rfl (lv_at hl 0 rfl) ?_
    refine lv_ifnonnullN hx hb dX3_countOf_1 ?_
    refine lv_iconst (v := 0) hx hb dX3_countOf_4 (by decide) ?_
    refine lv_goto (tgt := 12) hx hb dX3_countOf_5 (by decide) ?_
    exact ret dX3_countOf_12 na_i hm hS (Nat.le_of_ble_eq_true rfl) (Nat.le_of_ble_eq_true rfl) (⟨by rw [hE]; rfl, rfl⟩)
  | some a =>
    obtain ⟨n0, hN, hne, hn2⟩ := hr
    obtain ⟨ky, vl, z, o, dg, e_a, hdg, hlen, hcase⟩ := hW.1 a n0 E hN
    show Ci l g yX3_countOf cX3_countOf 1 .int 1 0 0 [.ref a] M (fun r M9 => r = nI E.length ∧ M9 = M)
    refine hp_startI (by decide) (by exact Nat.le_of_ble_eq_true rfl) ?_
    intro p e s m below meth c Q H locs ls EE hnm ret hm hS hl
    have hx := EE.1
    have hb := EE.2.1
    have hown := EE.2.2.2.1
    have hts := EE.2.2.2.2.1
    have hl : lv_has ls 1 [(0, .ref a)] := hl
    refine lv_aload_n hx hb dX3_countOf_0 rfl (lv_at hl 0 rfl) ?_
    refine lv_ifnonnull (tgt := 8) hx hb dX3_countOf_1 (by decide) ?_
    refine lv_aload_n hx hb dX3_countOf_8 rfl (lv_at hl 0 rfl) ?_
    refine hp_get (C := RX1) (T := TX1) (N := 6) (v := .int (nI E.length)) EE hm e_a inh1 rfl 0 (by decide) wf_X3_132 rfl dX3_countOf_9 ?_
    exact ret dX3_countOf_12 na_i hm hS (Nat.le_of_ble_eq_true rfl) (Nat.le_of_ble_eq_true rfl) (⟨rfl, rfl⟩)
set_option maxHeartbeats 4000000 in
set_option maxRecDepth 100000 in
theorem c_X3_isEntry (l : Launch) (g : hG) (M : hM) (N Z : gT) (hW : WF g M N Z) (r : Option Nat) (n : Nat) (E : En) (hr : rt N r n E) (k : Nat) (hk : k < 65536) : Ci l g yX3_isEntry cX3_isEntry 2 .boolean 1 0 0 [va_rf r, .int (nI k)] M (fun r M9 => r = bI (isEn E k) ∧ M9 = M) := by
  cases r with
  | none =>
    have hE : E = [] := hr
    show Ci l g yX3_isEntry cX3_isEntry 2 .boolean 1 0 0 [.null, .int (nI k)] M (fun r M9 => r = bI (isEn E k) ∧ M9 = M)
    refine hp_startI (by decide) (by exact Nat.le_of_ble_eq_true rfl) ?_
    intro p e s m below meth c Q H locs ls EE hnm ret hm hS hl
    have hx := EE.1
    have hb := EE.2.1
    have hown := EE.2.2.2.1
    have hts := EE.2.2.2.2.1
    have hl : lv_has ls 2 [(0, .null), (1, .int (nI k))] := hl
    refine lv_aload_nN hx hb dX3_isEntry_0 rfl (lv_at hl 0 rfl) ?_
    refine lv_ifnullN (tgt := 24) hx hb dX3_isEntry_1 (by decide) ?_
    refine lv_iconst (v := 0) hx hb dX3_isEntry_24 (by decide) ?_
    exact ret dX3_isEntry_25 na_0 hm hS (Nat.le_of_ble_eq_true rfl) (Nat.le_of_ble_eq_true rfl) (⟨by rw [hE]; rfl, rfl⟩)
  | some a =>
    obtain ⟨n0, hN, hne, hn2⟩ := hr
    obtain ⟨ky, vl, z, o, dg, e_a, hdg, hlen, hcase⟩ := hW.1 a n0 E hN
    show Ci l g yX3_isEntry cX3_isEntry 2 .boolean 1 0 0 [.ref a, .int (nI k)] M (fun r M9 => r = bI (isEn E k) ∧ M9 = M)
    refine hp_startI (by decide) (by exact Nat.le_of_ble_eq_true rfl) ?_
    intro p e s m below meth c Q H locs ls EE hnm ret hm hS hl
    have hx := EE.1
    have hb := EE.2.1
    have hown := EE.2.2.2.1
    have hts := EE.2.2.2.2.1
    have hl : lv_has ls 2 [(0, .ref a), (1, .int (nI k))] := hl
    refine lv_aload_n hx hb dX3_isEntry_0 rfl (lv_at hl 0 rfl) ?_
    refine lv_ifnull hx hb dX3_isEntry_1 ?_
    refine lv_aload_n hx hb dX3_isEntry_4 rfl (lv_at hl 0 rfl) ?_
    refine hp_get (C := RX1) (T := TX1) (N := 6) (v := .int (nI E.length)) EE hm e_a inh1 rfl 0 (by decide) wf_X3_132 rfl dX3_isEntry_5 ?_
    refine lv_iconst (v := 1) hx hb dX3_isEntry_8 (by decide) ?_
    refine lv_icmp_ne (tgt := 24) hx hb dX3_isEntry_9 (by decide) (fun c_9 => ?_) (fun c_9 => ?_)
    · have c_9 : ¬ E.length = 1 := fun h9 => c_9 ((nI_eq (a := E.length) (b := 1) (by omega) (by decide)).mpr h9)
      have hq : isEn E k = false := by
          rcases hcase with ⟨k9, h1, -⟩ | ⟨n9, -, -, h2, -⟩
          · rw [h1] at c_9; exact absurd rfl c_9
          · match E, h2 with
            | x :: y :: t, _ => rfl
      refine lv_iconst (v := 0) hx hb dX3_isEntry_24 (by decide) ?_
      exact ret dX3_isEntry_25 na_0 hm hS (Nat.le_of_ble_eq_true rfl) (Nat.le_of_ble_eq_true rfl) (⟨by first | (rw [hq]; rfl) | (rw [hE]; show _ = bI (k9 == k); rw [hky] at c_17; first | (rw [(nI_eq (by omega) (by omega)).mp c_17]; simp [bI]) | (rw [show (k9 == k) = false from by simp; intro q; exact c_17 (by rw [q])]; rfl)), rfl⟩)
    · have c_9 : E.length = 1 := (nI_eq (a := E.length) (b := 1) (by omega) (by decide)).mp c_9
      obtain ⟨k9, hE, hky, hk9, -, -⟩ : ∃ k9, E = [(k9, vl)] ∧ ky = nI k9 ∧ k9 < 65536 ∧ z = none ∧ o = none := by
          rcases hcase with h | ⟨n9, -, -, h2, -⟩
          · exact h
          · omega
      refine lv_aload_n hx hb dX3_isEntry_12 rfl (lv_at hl 0 rfl) ?_
      refine hp_get (C := RX1) (T := TX1) (N := 6) (v := .int ky) EE hm e_a inh1 rfl 1 (by decide) wf_X3_105 rfl dX3_isEntry_13 ?_
      refine lv_iload_n hx hb dX3_isEntry_16 rfl (lv_at hl 1 rfl) ?_
      refine lv_icmp_ne (tgt := 24) hx hb dX3_isEntry_17 (by decide) (fun c_17 => ?_) (fun c_17 => ?_)
      · refine lv_iconst (v := 0) hx hb dX3_isEntry_24 (by decide) ?_
        exact ret dX3_isEntry_25 na_0 hm hS (Nat.le_of_ble_eq_true rfl) (Nat.le_of_ble_eq_true rfl) (⟨by first | (rw [hq]; rfl) | (rw [hE]; show _ = bI (k9 == k); rw [hky] at c_17; first | (rw [(nI_eq (by omega) (by omega)).mp c_17]; simp [bI]) | (rw [show (k9 == k) = false from by simp; intro q; exact c_17 (by rw [q])]; rfl)), rfl⟩)
      · refine lv_iconst (v := 1) hx hb dX3_isEntry_20 (by decide) ?_
        refine lv_goto (tgt := 25) hx hb dX3_isEntry_21 (by decide) ?_
        exact ret dX3_isEntry_25 na_1 hm hS (Nat.le_of_ble_eq_true rfl) (Nat.le_of_ble_eq_true rfl) (⟨by first | (rw [hq]; rfl) | (rw [hE]; show _ = bI (k9 == k); rw [hky] at c_17; first | (rw [(nI_eq (by omega) (by omega)).mp c_17]; simp [bI]) | (rw [show (k9 == k) = false from by simp; intro q; exact c_17 (by rw [q])]; rfl)), rfl⟩)
set_option maxHeartbeats 4000000 in
set_option maxRecDepth 100000 in
theorem c_X3_half (l : Launch) (g : hG) (M : hM) (N Z : gT) (hW : WF g M N Z) (r : Option Nat) (n d : Nat) (hd : d + n = 15) (b : Bool) (E : En) (hr : rt N r (n + 1) E) : Cq l g yX3_half cX3_half 3 ((.object "ProofMap$Node")) 2 0 0 [va_rf r, .int (nI d), .int (bI b)] M (fun r M9 => rt N r n (spl n b E) ∧ M9 = M) := by
  cases r with
  | none =>
    have hE : E = [] := hr
    show Cq l g yX3_half cX3_half 3 ((.object "ProofMap$Node")) 2 0 0 [.null, .int (nI d), .int (bI b)] M (fun r M9 => rt N r n (spl n b E) ∧ M9 = M)
    refine hp_startQ (by decide) (by exact Nat.le_of_ble_eq_true rfl) (by first | exact Or.inl ⟨_, rfl⟩ | exact Or.inr ⟨_, rfl⟩) ?_
    intro p e s m below meth c Q H locs ls EE hnm ret hm hS hl
    have hx := EE.1
    have hb := EE.2.1
    have hown := EE.2.2.2.1
    have hts := EE.2.2.2.2.1
    have hl : lv_has ls 3 [(0, .null), (1, .int (nI d)), (2, .int (bI b))] := hl
    refine lv_aload_nN hx hb dX3_half_0 rfl (lv_at hl 0 rfl) ?_
    refine lv_ifnonnullN hx hb dX3_half_1 ?_
    refine lv_null hx hb dX3_half_4 ?_
    exact ret (v := none) dX3_half_5 hm hS (Nat.le_of_ble_eq_true rfl) (Nat.le_of_ble_eq_true rfl) (⟨by rw [hE]; rfl, rfl⟩)
  | some a =>
    obtain ⟨n0, hN, hne, hn2⟩ := hr
    obtain ⟨ky, vl, z, o, dg, e_a, hdg, hlen, hcase⟩ := hW.1 a n0 E hN
    show Cq l g yX3_half cX3_half 3 ((.object "ProofMap$Node")) 2 0 0 [.ref a, .int (nI d), .int (bI b)] M (fun r M9 => rt N r n (spl n b E) ∧ M9 = M)
    refine hp_startQ (by decide) (by exact Nat.le_of_ble_eq_true rfl) (by first | exact Or.inl ⟨_, rfl⟩ | exact Or.inr ⟨_, rfl⟩) ?_
    intro p e s m below meth c Q H locs ls EE hnm ret hm hS hl
    have hx := EE.1
    have hb := EE.2.1
    have hown := EE.2.2.2.1
    have hts := EE.2.2.2.2.1
    have hl : lv_has ls 3 [(0, .ref a), (1, .int (nI d)), (2, .int (bI b))] := hl
    refine lv_aload_n hx hb dX3_half_0 rfl (lv_at hl 0 rfl) ?_
    refine lv_ifnonnull (tgt := 6) hx hb dX3_half_1 (by decide) ?_
    refine lv_aload_n hx hb dX3_half_6 rfl (lv_at hl 0 rfl) ?_
    refine hp_get (C := RX1) (T := TX1) (N := 6) (v := .int (nI E.length)) EE hm e_a inh1 rfl 0 (by decide) wf_X3_132 rfl dX3_half_7 ?_
    refine lv_iconst (v := 1) hx hb dX3_half_10 (by decide) ?_
    refine lv_icmp_ne (tgt := 32) hx hb dX3_half_11 (by decide) (fun c_11 => ?_) (fun c_11 => ?_)
    · have c_11 : ¬ E.length = 1 := fun h9 => c_11 ((nI_eq (a := E.length) (b := 1) (by omega) (by decide)).mpr h9)
      obtain ⟨n9, hn9, hn16, h2, hz, ho⟩ : ∃ n9, n0 = n9 + 1 ∧ n9 < 16 ∧ 2 ≤ E.length ∧ rt N z n9 (spl n9 false E) ∧ rt N o n9 (spl n9 true E) := by
          rcases hcase with ⟨k9, h1, -⟩ | h
          · rw [h1] at c_11; exact absurd rfl c_11
          · exact h
      have hnn : n9 = n := by have := hn2 h2; omega
      rw [hnn] at hz ho
      refine lv_iload_n hx hb dX3_half_32 rfl (lv_at hl 2 rfl) ?_
      refine lv_if_ne (tgt := 43) hx hb dX3_half_33 (by decide) (fun c_33 => ?_) (fun c_33 => ?_)
      · refine lv_aload_n hx hb dX3_half_43 rfl (lv_at hl 0 rfl) ?_
        refine hp_get (C := RX1) (T := TX1) (N := 6) (v := va_rf o) EE hm e_a inh1 rfl 4 (by decide) wf_X3_138 rfl dX3_half_44 ?_
        exact ret (v := o) dX3_half_47 hm hS (Nat.le_of_ble_eq_true rfl) (Nat.le_of_ble_eq_true rfl) (⟨by cases b with
            | false => exact absurd rfl c_33
            | true => exact ho, rfl⟩)
      · refine lv_aload_n hx hb dX3_half_36 rfl (lv_at hl 0 rfl) ?_
        refine hp_get (C := RX1) (T := TX1) (N := 6) (v := va_rf z) EE hm e_a inh1 rfl 3 (by decide) wf_X3_135 rfl dX3_half_37 ?_
        refine lv_goto (tgt := 47) hx hb dX3_half_40 (by decide) ?_
        exact ret (v := z) dX3_half_47 hm hS (Nat.le_of_ble_eq_true rfl) (Nat.le_of_ble_eq_true rfl) (⟨by cases b with
            | false => exact hz
            | true => exact absurd c_33 (by decide), rfl⟩)
    · have c_11 : E.length = 1 := (nI_eq (a := E.length) (b := 1) (by omega) (by decide)).mp c_11
      obtain ⟨k9, hE, hky, hk9, -, -⟩ : ∃ k9, E = [(k9, vl)] ∧ ky = nI k9 ∧ k9 < 65536 ∧ z = none ∧ o = none := by
          rcases hcase with h | ⟨n9, -, -, h2, -⟩
          · exact h
          · omega
      refine lv_aload_n hx hb dX3_half_14 rfl (lv_at hl 0 rfl) ?_
      refine hp_get (C := RX1) (T := TX1) (N := 6) (v := .int ky) EE hm e_a inh1 rfl 1 (by decide) wf_X3_105 rfl dX3_half_15 ?_
      refine lv_iload_n hx hb dX3_half_18 rfl (lv_at hl 1 rfl) ?_
      refine hp_ci (hp_runS (np := 2) (k := 1) (mc := 0) (ms := 0) (As := [.int ky, .int (nI d)]) (rest := []) EE hm hS (c_X3_bitAt l g M ky (nI d)) ms_X3_bitAt wt_X3_bitAt wl_X3_83 rfl hl.1 rfl (Nat.le_of_ble_eq_true rfl) dX3_half_19 ⟨Nat.le_of_ble_eq_true rfl, Nat.le_of_ble_eq_true rfl⟩ ⟨(Nat.le_of_ble_eq_true rfl), (Nat.le_of_ble_eq_true rfl)⟩) hS (fun r1 Mx2 H locs hq3 hm hS => ?_)
      obtain ⟨rfl, h9⟩ := hq3
      rw [h9] at hm
      refine lv_iload_n hx hb dX3_half_22 rfl (lv_at hl 2 rfl) ?_
      refine lv_icmp_ne (tgt := 30) hx hb dX3_half_23 (by decide) (fun c_23 => ?_) (fun c_23 => ?_)
      · refine lv_null hx hb dX3_half_30 ?_
        exact ret (v := none) dX3_half_31 hm hS (Nat.le_of_ble_eq_true rfl) (Nat.le_of_ble_eq_true rfl) (⟨by rw [hky, bitA_n hk9 hd] at c_23; rw [hE]; show rt N none n _; show spl n b [(k9, vl)] = []; rw [spl_out (fun q => c_23 (by rw [← q]))]; rfl, rfl⟩)
      · refine lv_aload_n hx hb dX3_half_26 rfl (lv_at hl 0 rfl) ?_
        refine lv_goto (tgt := 31) hx hb dX3_half_27 (by decide) ?_
        exact ret (v := some a) dX3_half_31 hm hS (Nat.le_of_ble_eq_true rfl) (Nat.le_of_ble_eq_true rfl) (⟨by rw [hky, bitA_n hk9 hd] at c_23; rw [hE]; rw [spl_in (bI_inj c_23)]; exact ⟨n0, by rw [hN, hE]; rfl, by simp [spl], fun q => by simp [spl] at q⟩, rfl⟩)
end
section
/-- what the way of a key ends with -/
def endE : Nat → Nat → En → En
  | 0, _, E => E
  | n + 1, k, E => if E.length ≤ 1 then E else endE n k (spl n (k.testBit n) E)
theorem endE_1 {n k : Nat} {E : En} (h : E.length ≤ 1) : endE n k E = E := by
  cases n with
  | zero => rfl
  | succ n => show (if E.length ≤ 1 then E else _) = E; rw [if_pos h]
theorem endE_2 {n k : Nat} {E : En} (h : ¬ E.length ≤ 1) : endE (n + 1) k E = endE n k (spl n (k.testBit n) E) := by
  show (if E.length ≤ 1 then E else _) = _
  rw [if_neg h]
set_option maxHeartbeats 4000000 in
set_option maxRecDepth 100000 in
theorem c_X3_endOf (l : Launch) (g : hG) (M : hM) (N Z : gT) (hW : WF g M N Z) (r : Option Nat) (E : En) (hr : rt N r 16 E) (k : Nat) (hk : k < 65536) : Cq l g yX3_endOf cX3_endOf 4 ((.object "ProofMap$Node")) 3 0 0 [va_rf r, .int (nI k)] M (fun r M9 => (∃ n9, rt N r n9 (endE 16 k E)) ∧ M9 = M) := by
  refine hp_startQ (by decide) (by cases r <;> exact Nat.le_of_ble_eq_true rfl) (by first | exact Or.inl ⟨_, rfl⟩ | exact Or.inr ⟨_, rfl⟩) ?_
  intro p e s m below meth c Q H locs ls EE hnm ret hm hS hl
  have hx := EE.1
  have hb := EE.2.1
  have hown := EE.2.2.2.1
  have hts := EE.2.2.2.2.1
  have hl : lv_has ls 4 [(0, va_rf r), (1, .int (nI k))] := by cases r <;> exact hl
  refine hq_aload_n hx hb dX3_endOf_0 rfl (lv_at hl 0 rfl) ?_
  refine hq_astore_n (lv' := [(2, va_rf r), (0, va_rf r), (1, .int (nI k))]) hx hb dX3_endOf_1 rfl hl (by decide) rfl (fun ls hl => ?_)
  refine lv_iconst (v := 0) hx hb dX3_endOf_2 (by decide) ?_
  refine lv_istore_n (lv' := [(3, .int 0), (2, va_rf r), (0, va_rf r), (1, .int (nI k))]) hx hb dX3_endOf_3 rfl hl (by decide) (by cases r <;> rfl) (fun ls hl => ?_)
  have lp : ∀ (n d : Nat) (nn : Nat) (r1 : Option Nat) (E1 : En) (H : Heap) (locs : List Loc) (ls : Array Slot), 17 ≤ d + n → d + nn = 16 → rt N r1 nn E1 → endE nn k E1 = endE 16 k E → hp g M H → va_S (hA g) s.heap H locs → lv_has ls 4 [(3, .int (nI d)), (2, va_rf r1), (0, va_rf r), (1, .int (nI k))] → W p l e (hR 3 0 0) s m [va_rf r, .int (nI k)].toArray below meth c H locs 0 0 Q (F0 m 4 ls []) := by
    intro n
    induction n with
    | zero => intro d nn r1 E1 H locs ls hn hd hr1 hen; exact absurd hn (by omega)
    | succ n ih =>
      intro d nn r1 E1 H locs ls hn hd hr1 hen hm hS hl
      have hlen := rt_len hW hr1
      refine lv_iload_n hx hb dX3_endOf_4 rfl (lv_at hl 0 rfl) ?_
      refine lv_bipush (v := 16) hx hb dX3_endOf_5 (by decide) ?_
      refine lv_icmp_ge (tgt := 35) hx hb dX3_endOf_7 (by decide) (fun c_7 => ?_) (fun c_7 => ?_)
      · have c_7 : 16 ≤ d := (nI_leI (a := 16) (b := d) (by decide) (by omega)).mp c_7
        have hn0 : nn = 0 := by omega
        subst hn0
        refine hq_aload_n hx hb dX3_endOf_35 rfl (lv_at hl 1 rfl) ?_
        exact ret (v := r1) dX3_endOf_36 hm hS (Nat.le_of_ble_eq_true rfl) (Nat.le_of_ble_eq_true rfl) (⟨⟨_, by rw [← hen]; exact hr1⟩, rfl⟩)
      · have c_7 : ¬ 16 ≤ d := fun h9 => c_7 ((nI_leI (a := 16) (b := d) (by decide) (by omega)).mpr h9)
        obtain ⟨n1, hn1⟩ : ∃ n1, nn = n1 + 1 := ⟨nn - 1, by omega⟩
        subst hn1
        refine hq_aload_n hx hb dX3_endOf_10 rfl (lv_at hl 1 rfl) ?_
        refine hp_ci (hp_runS (np := 1) (k := 1) (mc := 0) (ms := 0) (As := [va_rf r1]) (rest := []) EE hm hS (c_X3_countOf l g M N Z hW r1 _ E1 hr1) ms_X3_countOf wt_X3_countOf wl_X3_53 rfl hl.1 rfl (Nat.le_of_ble_eq_true rfl) dX3_endOf_11 ⟨Nat.le_of_ble_eq_true rfl, Nat.le_of_ble_eq_true rfl⟩ ⟨(Nat.le_of_ble_eq_true rfl), (Nat.le_of_ble_eq_true rfl)⟩) hS (fun r1 Mx2 H locs hq3 hm hS => ?_)
        obtain ⟨rfl, h9⟩ := hq3
        rw [h9] at hm
        refine lv_iconst (v := 1) hx hb dX3_endOf_14 (by decide) ?_
        refine lv_icmp_le (tgt := 35) hx hb dX3_endOf_15 (by decide) (fun c_15 => ?_) (fun c_15 => ?_)
        · have c_15 : E1.length ≤ 1 := (nI_leI (a := E1.length) (b := 1) (by omega) (by decide)).mp c_15
          refine hq_aload_n hx hb dX3_endOf_35 rfl (lv_at hl 1 rfl) ?_
          exact ret (v := r1) dX3_endOf_36 hm hS (Nat.le_of_ble_eq_true rfl) (Nat.le_of_ble_eq_true rfl) (⟨⟨_, by rw [← hen, endE_1 (by omega)]; exact hr1⟩, rfl⟩)
        · have c_15 : ¬ E1.length ≤ 1 := fun h9 => c_15 ((nI_leI (a := E1.length) (b := 1) (by omega) (by decide)).mpr h9)
          refine hq_aload_n hx hb dX3_endOf_18 rfl (lv_at hl 1 rfl) ?_
          refine lv_iload_n hx hb dX3_endOf_19 rfl (lv_at hl 0 rfl) ?_
          refine lv_iload_n hx hb dX3_endOf_20 rfl (lv_at hl 3 rfl) ?_
          refine lv_iload_n hx hb dX3_endOf_21 rfl (lv_at hl 0 rfl) ?_
          refine hp_ci (hp_runS (np := 2) (k := 1) (mc := 0) (ms := 0) (As := [.int (nI k), .int (nI d)]) (rest := [.int (nI d), va_rf r1]) EE hm hS (c_X3_bitAt l g M (nI k) (nI d)) ms_X3_bitAt wt_X3_bitAt wl_X3_83 rfl hl.1 rfl (by cases r1 <;> exact Nat.le_of_ble_eq_true rfl) dX3_endOf_22 ⟨Nat.le_of_ble_eq_true rfl, Nat.le_of_ble_eq_true rfl⟩ ⟨(Nat.le_of_ble_eq_true rfl), (Nat.le_of_ble_eq_true rfl)⟩) hS (fun r4 Mx5 H locs hq6 hm hS => ?_)
          obtain ⟨hr9, h9⟩ := hq6
          rw [h9] at hm
          rw [bitA_n hk (show d + n1 = 15 by omega)] at hr9
          subst hr9
          refine hp_cq (hp_runS (np := 3) (k := 2) (mc := 0) (ms := 0) (As := [va_rf r1, .int (nI d), .int (bI (k.testBit n1))]) (rest := []) EE hm hS (c_X3_half l g M N Z hW r1 n1 d (by omega) (k.testBit n1) E1 hr1) ms_X3_half wt_X3_half wl_X3_87 rfl hl.1 rfl (Nat.le_of_ble_eq_true rfl) dX3_endOf_25 ⟨Nat.le_of_ble_eq_true rfl, Nat.le_of_ble_eq_true rfl⟩ ⟨(Nat.le_of_ble_eq_true rfl), (Nat.le_of_ble_eq_true rfl)⟩) hS (fun r7 Mx8 H locs hq9 hm hS => ?_)
          obtain ⟨hr2, h9⟩ := hq9
          rw [h9] at hm
          refine hq_astore_n (lv' := [(2, va_rf r7), (3, .int (nI d)), (0, va_rf r), (1, .int (nI k))]) hx hb dX3_endOf_28 rfl hl (by decide) rfl (fun ls hl => ?_)
          refine lv_iinc (v := nI (d + 1)) (lv' := [(3, .int (nI (d + 1))), (2, va_rf r7), (0, va_rf r), (1, .int (nI k))]) hx hb dX3_endOf_29 hl (k := 1) rfl (nI_1 _) (by decide) (by cases r7 <;> rfl) (fun ls hl => ?_)
          refine lv_goto (tgt := 4) hx hb dX3_endOf_32 (by decide) ?_
          exact ih (d + 1) n1 _ _ H locs ls (by omega) (by omega) hr2 (by rw [← hen, endE_2 (by omega)]) hm hS (lv_sub hl [0, 1, 2, 3] rfl)
  exact lp 17 0 16 r E H locs ls (by omega) (by omega) hr rfl hm hS (lv_sub hl [0, 1, 2, 3] rfl)
set_option maxHeartbeats 4000000 in
set_option maxRecDepth 100000 in
theorem c_X1_init (l : Launch) (g : hG) (M : hM) (q : Nat) (k0 v0 : Int32) (e_q : M q = some (.inr (1, [.int 0, .int 0, .int 0, .null, .null, .null]))) : Cv l g yX1_init cX1_init 3 1 0 0 [.ref q, .int k0, .int v0] M (fun M9 => M9 q = some (.inr (1, [.int 1, .int k0, .int v0, .null, .null, .null])) ∧ ∀ x, x ≠ q → M9 x = M x) := by
  refine hp_startV (by decide) (by exact Nat.le_of_ble_eq_true rfl) ?_
  intro p e s m below meth c Q H locs ls EE hnm ret hm hS hl
  have hx := EE.1
  have hb := EE.2.1
  have hown := EE.2.2.2.1
  have hts := EE.2.2.2.2.1
  have hl : lv_has ls 3 [(0, .ref q), (1, .int k0), (2, .int v0)] := hl
  refine lv_aload_n hx hb dX1_init_0 rfl (lv_at hl 0 rfl) ?_
  refine hp_obj EE wl_X1_1 wi_objectInit wcode_objectInit hl.1 dX1_init_1 (Nat.le_of_ble_eq_true rfl) (Nat.le_of_ble_eq_true rfl) ?_
  refine lv_aload_n hx hb dX1_init_4 rfl (lv_at hl 0 rfl) ?_
  refine lv_iconst (v := 1) hx hb dX1_init_5 (by decide) ?_
  refine hp_putF (C := RX1) (T := TX1) (N := 6) (v := .int 1) (ty := .int) EE hm hS e_q inh1 tyX1 tyX1_ok nmX1 rfl 0 (by decide) wf_X1_7 rfl hnm rfl (by decide +kernel) rfl rfl (Nat.le_of_ble_eq_true rfl) dX1_init_6 (fun H locs hm hS => ?_)
  obtain ⟨Mx1, hMx1⟩ : ∃ Mz, Mz = hm_up M q (.inr (1, [.int 1, .int 0, .int 0, .null, .null, .null])) := ⟨_, rfl⟩
  have hm : hp g Mx1 H := by rw [hMx1]; exact hm
  have e_q : Mx1 q = some (.inr (1, [.int 1, .int 0, .int 0, .null, .null, .null])) := by rw [hMx1]; exact up_eq
  refine lv_aload_n hx hb dX1_init_9 rfl (lv_at hl 0 rfl) ?_
  refine lv_iload_n hx hb dX1_init_10 rfl (lv_at hl 1 rfl) ?_
  refine hp_putF (C := RX1) (T := TX1) (N := 6) (v := .int k0) (ty := .int) EE hm hS e_q inh1 tyX1 tyX1_ok nmX1 rfl 1 (by decide) wf_X1_13 rfl hnm rfl (by decide +kernel) rfl rfl (Nat.le_of_ble_eq_true rfl) dX1_init_11 (fun H locs hm hS => ?_)
  obtain ⟨Mx2, hMx2⟩ : ∃ Mz, Mz = hm_up Mx1 q (.inr (1, [.int 1, .int k0, .int 0, .null, .null, .null])) := ⟨_, rfl⟩
  have hm : hp g Mx2 H := by rw [hMx2]; exact hm
  have e_q : Mx2 q = some (.inr (1, [.int 1, .int k0, .int 0, .null, .null, .null])) := by rw [hMx2]; exact up_eq
  refine lv_aload_n hx hb dX1_init_14 rfl (lv_at hl 0 rfl) ?_
  refine lv_iload_n hx hb dX1_init_15 rfl (lv_at hl 2 rfl) ?_
  refine hp_putF (C := RX1) (T := TX1) (N := 6) (v := .int v0) (ty := .int) EE hm hS e_q inh1 tyX1 tyX1_ok nmX1 rfl 2 (by decide) wf_X1_16 rfl hnm rfl (by decide +kernel) rfl rfl (Nat.le_of_ble_eq_true rfl) dX1_init_16 (fun H locs hm hS => ?_)
  obtain ⟨Mx3, hMx3⟩ : ∃ Mz, Mz = hm_up Mx2 q (.inr (1, [.int 1, .int k0, .int v0, .null, .null, .null])) := ⟨_, rfl⟩
  have hm : hp g Mx3 H := by rw [hMx3]; exact hm
  have e_q : Mx3 q = some (.inr (1, [.int 1, .int k0, .int v0, .null, .null, .null])) := by rw [hMx3]; exact up_eq
  refine lv_aload_n hx hb dX1_init_19 rfl (lv_at hl 0 rfl) ?_
  refine lv_null hx hb dX1_init_20 ?_
  refine hp_putF (C := RX1) (T := TX1) (N := 6) (v := .null) (ty := .object "ProofMap$Node") EE hm hS e_q inh1 tyX1 tyX1_ok nmX1 rfl 3 (by decide) wf_X1_19 rfl hnm rfl (by decide +kernel) rfl rfl (Nat.le_of_ble_eq_true rfl) dX1_init_21 (fun H locs hm hS => ?_)
  obtain ⟨Mx4, hMx4⟩ : ∃ Mz, Mz = hm_up Mx3 q (.inr (1, [.int 1, .int k0, .int v0, .null, .null, .null])) := ⟨_, rfl⟩
  have hm : hp g Mx4 H := by rw [hMx4]; exact hm
  have e_q : Mx4 q = some (.inr (1, [.int 1, .int k0, .int v0, .null, .null, .null])) := by rw [hMx4]; exact up_eq
  refine lv_aload_n hx hb dX1_init_24 rfl (lv_at hl 0 rfl) ?_
  refine lv_null hx hb dX1_init_25 ?_
  refine hp_putF (C := RX1) (T := TX1) (N := 6) (v := .null) (ty := .object "ProofMap$Node") EE hm hS e_q inh1 tyX1 tyX1_ok nmX1 rfl 4 (by decide) wf_X1_23 rfl hnm rfl (by decide +kernel) rfl rfl (Nat.le_of_ble_eq_true rfl) dX1_init_26 (fun H locs hm hS => ?_)
  obtain ⟨Mx5, hMx5⟩ : ∃ Mz, Mz = hm_up Mx4 q (.inr (1, [.int 1, .int k0, .int v0, .null, .null, .null])) := ⟨_, rfl⟩
  have hm : hp g Mx5 H := by rw [hMx5]; exact hm
  have e_q : Mx5 q = some (.inr (1, [.int 1, .int k0, .int v0, .null, .null, .null])) := by rw [hMx5]; exact up_eq
  refine lv_aload_n hx hb dX1_init_29 rfl (lv_at hl 0 rfl) ?_
  refine lv_null hx hb dX1_init_30 ?_
  refine hp_put (C := RX1) (T := TX1) (N := 6) (v := .null) (ty := .array .int) EE hm hS e_q inh1 tyX1 tyX1_ok nmX1 rfl 5 (by decide) wf_X1_26 rfl (by decide +kernel) rfl rfl (Nat.le_of_ble_eq_true rfl) dX1_init_31 (fun H locs hm hS => ?_)
  obtain ⟨Mx6, hMx6⟩ : ∃ Mz, Mz = hm_up Mx5 q (.inr (1, [.int 1, .int k0, .int v0, .null, .null, .null])) := ⟨_, rfl⟩
  have hm : hp g Mx6 H := by rw [hMx6]; exact hm
  have e_q : Mx6 q = some (.inr (1, [.int 1, .int k0, .int v0, .null, .null, .null])) := by rw [hMx6]; exact up_eq
  exact ret dX1_init_34 hm hS (Nat.le_of_ble_eq_true rfl) (Nat.le_of_ble_eq_true rfl) (⟨e_q, fun x hx => by rw [hMx6, up_ne hx, hMx5, up_ne hx, hMx4, up_ne hx, hMx3, up_ne hx, hMx2, up_ne hx, hMx1, up_ne hx]⟩)
set_option maxHeartbeats 4000000 in
set_option maxRecDepth 100000 in
theorem c_X1_init_ (l : Launch) (g : hG) (M : hM) (N Z : gT) (hW : WF g M N Z) (q n : Nat) (z o : Option Nat) (E0 E1 : En) (hz : rt N z n E0) (ho : rt N o n E1) (e_q : M q = some (.inr (1, [.int 0, .int 0, .int 0, .null, .null, .null]))) : Cv l g yX1_init_ cX1_init_ 3 2 0 0 [.ref q, va_rf z, va_rf o] M (fun M9 => M9 q = some (.inr (1, [.int (nI (E0.length + E1.length)), .int 0, .int 0, va_rf z, va_rf o, .null])) ∧ ∀ x, x ≠ q → M9 x = M x) := by
  refine hp_startV (by decide) (by cases z <;> cases o <;> exact Nat.le_of_ble_eq_true rfl) ?_
  intro p e s m below meth c Q H locs ls EE hnm ret hm hS hl
  have hx := EE.1
  have hb := EE.2.1
  have hown := EE.2.2.2.1
  have hts := EE.2.2.2.2.1
  have hl : lv_has ls 3 [(0, .ref q), (1, va_rf z), (2, va_rf o)] := by cases z <;> cases o <;> exact hl
  refine lv_aload_n hx hb dX1_init__0 rfl (lv_at hl 0 rfl) ?_
  refine hp_obj EE wl_X1_1 wi_objectInit wcode_objectInit hl.1 dX1_init__1 (Nat.le_of_ble_eq_true rfl) (Nat.le_of_ble_eq_true rfl) ?_
  refine lv_aload_n hx hb dX1_init__4 rfl (lv_at hl 0 rfl) ?_
  refine hq_aload_n hx hb dX1_init__5 rfl (lv_at hl 1 rfl) ?_
  refine hp_ci (hp_runN (np := 1) (k := 1) (mc := 0) (ms := 0) (As := [va_rf z]) (rest := [.ref q]) EE hm hS (c_X3_countOf l g M N Z hW z n E0 hz) ms_X3_countOf wt_X3_countOf EE.2.2.2.2.2.2.2.2.2.2.2.2.2.1 rfl hl.1 rfl (Nat.le_of_ble_eq_true rfl) dX1_init__6 ⟨Nat.le_of_ble_eq_true rfl, Nat.le_of_ble_eq_true rfl⟩ ⟨(Nat.le_of_ble_eq_true rfl), (Nat.le_of_ble_eq_true rfl)⟩) hS (fun r1 Mx2 H locs hq3 hm hS => ?_)
  obtain ⟨rfl, h9⟩ := hq3
  rw [h9] at hm
  refine hq_aload_n hx hb dX1_init__9 rfl (lv_at hl 2 rfl) ?_
  refine hp_ci (hp_runN (np := 1) (k := 1) (mc := 0) (ms := 0) (As := [va_rf o]) (rest := [.int (nI E0.length), .ref q]) EE hm hS (c_X3_countOf l g M N Z hW o n E1 ho) ms_X3_countOf wt_X3_countOf EE.2.2.2.2.2.2.2.2.2.2.2.2.2.1 rfl hl.1 rfl (Nat.le_of_ble_eq_true rfl) dX1_init__10 ⟨Nat.le_of_ble_eq_true rfl, Nat.le_of_ble_eq_true rfl⟩ ⟨(Nat.le_of_ble_eq_true rfl), (Nat.le_of_ble_eq_true rfl)⟩) hS (fun r4 Mx5 H locs hq6 hm hS => ?_)
  obtain ⟨rfl, h9⟩ := hq6
  rw [h9] at hm
  refine lv_iadd hx hb dX1_init__13 ?_
  rw [nI_add E0.length E1.length]
  refine hp_putF (C := RX1) (T := TX1) (N := 6) (v := .int (nI (E0.length + E1.length))) (ty := .int) EE hm hS e_q inh1 tyX1 tyX1_ok nmX1 rfl 0 (by decide) wf_X1_7 rfl hnm rfl (by decide +kernel) rfl rfl (Nat.le_of_ble_eq_true rfl) dX1_init__14 (fun H locs hm hS => ?_)
  obtain ⟨Mx7, hMx7⟩ : ∃ Mz, Mz = hm_up M q (.inr (1, [.int (nI (E0.length + E1.length)), .int 0, .int 0, .null, .null, .null])) := ⟨_, rfl⟩
  have hm : hp g Mx7 H := by rw [hMx7]; exact hm
  have e_q : Mx7 q = some (.inr (1, [.int (nI (E0.length + E1.length)), .int 0, .int 0, .null, .null, .null])) := by rw [hMx7]; exact up_eq
  refine lv_aload_n hx hb dX1_init__17 rfl (lv_at hl 0 rfl) ?_
  refine lv_iconst (v := 0) hx hb dX1_init__18 (by decide) ?_
  refine hp_putF (C := RX1) (T := TX1) (N := 6) (v := .int 0) (ty := .int) EE hm hS e_q inh1 tyX1 tyX1_ok nmX1 rfl 1 (by decide) wf_X1_13 rfl hnm rfl (by decide +kernel) rfl rfl (Nat.le_of_ble_eq_true rfl) dX1_init__19 (fun H locs hm hS => ?_)
  obtain ⟨Mx8, hMx8⟩ : ∃ Mz, Mz = hm_up Mx7 q (.inr (1, [.int (nI (E0.length + E1.length)), .int 0, .int 0, .null, .null, .null])) := ⟨_, rfl⟩
  have hm : hp g Mx8 H := by rw [hMx8]; exact hm
  have e_q : Mx8 q = some (.inr (1, [.int (nI (E0.length + E1.length)), .int 0, .int 0, .null, .null, .null])) := by rw [hMx8]; exact up_eq
  refine lv_aload_n hx hb dX1_init__22 rfl (lv_at hl 0 rfl) ?_
  refine lv_iconst (v := 0) hx hb dX1_init__23 (by decide) ?_
  refine hp_putF (C := RX1) (T := TX1) (N := 6) (v := .int 0) (ty := .int) EE hm hS e_q inh1 tyX1 tyX1_ok nmX1 rfl 2 (by decide) wf_X1_16 rfl hnm rfl (by decide +kernel) rfl rfl (Nat.le_of_ble_eq_true rfl) dX1_init__24 (fun H locs hm hS => ?_)
  obtain ⟨Mx9, hMx9⟩ : ∃ Mz, Mz = hm_up Mx8 q (.inr (1, [.int (nI (E0.length + E1.length)), .int 0, .int 0, .null, .null, .null])) := ⟨_, rfl⟩
  have hm : hp g Mx9 H := by rw [hMx9]; exact hm
  have e_q : Mx9 q = some (.inr (1, [.int (nI (E0.length + E1.length)), .int 0, .int 0, .null, .null, .null])) := by rw [hMx9]; exact up_eq
  refine lv_aload_n hx hb dX1_init__27 rfl (lv_at hl 0 rfl) ?_
  refine hq_aload_n hx hb dX1_init__28 rfl (lv_at hl 1 rfl) ?_
  refine hp_putF (C := RX1) (T := TX1) (N := 6) (v := va_rf z) (ty := .object "ProofMap$Node") EE hm hS e_q inh1 tyX1 tyX1_ok nmX1 rfl 3 (by decide) wf_X1_19 rfl hnm rfl (by decide +kernel) (by cases z <;> rfl) (by cases z <;> rfl) (Nat.le_of_ble_eq_true rfl) dX1_init__29 (fun H locs hm hS => ?_)
  obtain ⟨Mx10, hMx10⟩ : ∃ Mz, Mz = hm_up Mx9 q (.inr (1, [.int (nI (E0.length + E1.length)), .int 0, .int 0, va_rf z, .null, .null])) := ⟨_, rfl⟩
  have hm : hp g Mx10 H := by rw [hMx10]; exact hm
  have e_q : Mx10 q = some (.inr (1, [.int (nI (E0.length + E1.length)), .int 0, .int 0, va_rf z, .null, .null])) := by rw [hMx10]; exact up_eq
  refine lv_aload_n hx hb dX1_init__32 rfl (lv_at hl 0 rfl) ?_
  refine hq_aload_n hx hb dX1_init__33 rfl (lv_at hl 2 rfl) ?_
  refine hp_putF (C := RX1) (T := TX1) (N := 6) (v := va_rf o) (ty := .object "ProofMap$Node") EE hm hS e_q inh1 tyX1 tyX1_ok nmX1 rfl 4 (by decide) wf_X1_23 rfl hnm rfl (by decide +kernel) (by cases o <;> rfl) (by cases o <;> rfl) (Nat.le_of_ble_eq_true rfl) dX1_init__34 (fun H locs hm hS => ?_)
  obtain ⟨Mx11, hMx11⟩ : ∃ Mz, Mz = hm_up Mx10 q (.inr (1, [.int (nI (E0.length + E1.length)), .int 0, .int 0, va_rf z, va_rf o, .null])) := ⟨_, rfl⟩
  have hm : hp g Mx11 H := by rw [hMx11]; exact hm
  have e_q : Mx11 q = some (.inr (1, [.int (nI (E0.length + E1.length)), .int 0, .int 0, va_rf z, va_rf o, .null])) := by rw [hMx11]; exact up_eq
  refine lv_aload_n hx hb dX1_init__37 rfl (lv_at hl 0 rfl) ?_
  refine lv_null hx hb dX1_init__38 ?_
  refine hp_put (C := RX1) (T := TX1) (N := 6) (v := .null) (ty := .array .int) EE hm hS e_q inh1 tyX1 tyX1_ok nmX1 rfl 5 (by decide) wf_X1_26 rfl (by decide +kernel) rfl rfl (Nat.le_of_ble_eq_true rfl) dX1_init__39 (fun H locs hm hS => ?_)
  obtain ⟨Mx12, hMx12⟩ : ∃ Mz, Mz = hm_up Mx11 q (.inr (1, [.int (nI (E0.length + E1.length)), .int 0, .int 0, va_rf z, va_rf o, .null])) := ⟨_, rfl⟩
  have hm : hp g Mx12 H := by rw [hMx12]; exact hm
  have e_q : Mx12 q = some (.inr (1, [.int (nI (E0.length + E1.length)), .int 0, .int 0, va_rf z, va_rf o, .null])) := by rw [hMx12]; exact up_eq
  exact ret dX1_init__42 hm hS (Nat.le_of_ble_eq_true rfl) (Nat.le_of_ble_eq_true rfl) (⟨e_q, fun x hx => by rw [hMx12, up_ne hx, hMx11, up_ne hx, hMx10, up_ne hx, hMx9, up_ne hx, hMx8, up_ne hx, hMx7, up_ne hx]⟩)
/-- M and N grow: at most k new cells, all of them new addresses -/
def gr (M : hM) (N : gT) (M9 : hM) (N9 : gT) (k : Nat) : Prop := (∀ q x, N q = some x → N9 q = some x) ∧ (∀ q, N9 q ≠ none → N q = none → M q = none) ∧ (∀ q e, M q = some e → M9 q = some e) ∧ ∃ L : List Nat, L.length ≤ k ∧ ∀ q, M q = none → M9 q ≠ none → q ∈ L
theorem gr.rf {M : hM} {N : gT} {k : Nat} : gr M N M N k := ⟨fun _ _ h => h, fun q h1 h2 => absurd h2 h1, fun _ _ h => h, [], Nat.zero_le _, fun q h1 h2 => absurd h1 h2⟩
theorem gr.tr {M M1 M2 : hM} {N N1 N2 : gT} {k1 k2 k : Nat} (h : gr M N M1 N1 k1) (h2 : gr M1 N1 M2 N2 k2) (hk : k1 + k2 ≤ k) : gr M N M2 N2 k := by
  obtain ⟨a1, a2, a3, L1, a4, a5⟩ := h
  obtain ⟨b1, b2, b3, L2, b4, b5⟩ := h2
  refine ⟨fun q x hx => b1 q x (a1 q x hx), fun q hq h0 => ?_, fun q e he => b3 q e (a3 q e he), L1 ++ L2, by rw [List.length_append]; omega, fun q h0 h2 => ?_⟩
  · cases h9 : N1 q with
    | some x => exact a2 q (by rw [h9]; exact fun z => by cases z) h0
    | none =>
      have h8 := b2 q hq h9
      cases h7 : M q with
      | none => rfl
      | some e => rw [a3 q e h7] at h8; cases h8
  · cases h9 : M1 q with
    | some e => exact List.mem_append_left _ (a5 q h0 (by rw [h9]; exact fun z => by cases z))
    | none => exact List.mem_append_right _ (b5 q h9 h2)
theorem rt.mono {N N9 : gT} (h : ∀ q x, N q = some x → N9 q = some x) {r : Option Nat} {n : Nat} {E : En} (hr : rt N r n E) : rt N9 r n E := by
  cases r with
  | none => exact hr
  | some a =>
    obtain ⟨n', h1, h2⟩ := hr
    exact ⟨n', h a _ h1, h2⟩
theorem nd.mono {M M9 : hM} {N N9 Z : gT} (hM : ∀ q e, M q = some e → M9 q = some e) (hN : ∀ q x, N q = some x → N9 q = some x) {a n : Nat} {E : En} (h : nd M N Z a n E) : nd M9 N9 Z a n E := by
  obtain ⟨ky, vl, z, o, dg, h1, h2, h3, h4⟩ := h
  refine ⟨ky, vl, z, o, dg, hM _ _ h1, h2, h3, ?_⟩
  rcases h4 with h | ⟨n', q1, q2, q3, q4, q5⟩
  · exact Or.inl h
  · exact Or.inr ⟨n', q1, q2, q3, q4.mono hN, q5.mono hN⟩
theorem WF.mono {g : hG} {M M9 : hM} {N Z : gT} (hW : WF g M N Z) (hM : ∀ q e, M q = some e → M9 q = some e) : WF g M9 N Z :=
  ⟨fun a n E h => (hW.1 a n E h).mono hM (fun _ _ h => h), fun b n E h => by obtain ⟨f, h1, h2⟩ := hW.2 b n E h; exact ⟨f, hM _ _ h1, h2⟩⟩
def nUp (N : gT) (a : Nat) (x : Nat × En) : gT := fun q => if q = a then some x else N q
theorem nUp_eq {N : gT} {a : Nat} {x : Nat × En} : nUp N a x a = some x := if_pos rfl
theorem nUp_ne {N : gT} {a q : Nat} {x : Nat × En} (h : q ≠ a) : nUp N a x q = N q := if_neg h
/-- a new node -/
theorem WF.add {g : hG} {M M9 : hM} {N Z : gT} {q n : Nat} {E : En} (hW : WF g M N Z) (hq : M q = none) (hM : ∀ x, x ≠ q → M9 x = M x) (hnd : ∀ N9 : gT, (∀ p x, N p = some x → N9 p = some x) → nd M9 N9 Z q n E) : WF g M9 (nUp N q (n, E)) Z ∧ gr M N M9 (nUp N q (n, E)) 1 := by
  have hN0 : N q = none := by
    cases h : N q with
    | none => rfl
    | some x =>
      obtain ⟨ky, vl, z, o, dg, h1, -⟩ := hW.1 q x.1 x.2 h
      rw [hq] at h1; cases h1
  have hN : ∀ p x, N p = some x → nUp N q (n, E) p = some x := fun p x h => by
    rw [nUp_ne (fun z => by rw [z, hN0] at h; cases h)]; exact h
  have hMM : ∀ p e, M p = some e → M9 p = some e := fun p e h => by
    rw [hM p (fun z => by rw [z, hq] at h; cases h)]; exact h
  refine ⟨⟨fun a m F h => ?_, fun b m F h => ?_⟩, hN, fun p h1 h2 => ?_, hMM, [q], Nat.le_refl 1, fun p h1 h2 => ?_⟩
  · by_cases ha : a = q
    · subst ha
      rw [nUp_eq] at h
      cases h
      exact hnd _ hN
    · rw [nUp_ne ha] at h
      exact (hW.1 a m F h).mono hMM hN
  · obtain ⟨f, q1, q2⟩ := hW.2 b m F h
    exact ⟨f, hMM _ _ q1, q2⟩
  · by_cases ha : p = q
    · rw [ha]; exact hq
    · rw [nUp_ne ha] at h1; exact absurd h2 h1
  · by_cases ha : p = q
    · rw [ha]; exact List.mem_singleton.mpr rfl
    · rw [hM p ha] at h2; exact absurd h1 h2
theorem spl_all {n : Nat} {b : Bool} {E : En} (h : spl n (!b) E = []) : spl n b E = E := by
  unfold spl
  refine List.filter_eq_self.mpr (fun x hx => ?_)
  cases hb : (x.1.testBit n == b) with
  | true => rfl
  | false =>
    have : x ∈ spl n (!b) E := spl_mem.mpr ⟨hx, by cases b <;> cases hq : x.1.testBit n <;> simp_all⟩
    rw [h] at this
    cases this
set_option maxHeartbeats 4000000 in
set_option maxRecDepth 100000 in
theorem c_X3_joined (l : Launch) (g : hG) (M : hM) (N Z : gT) (hW : WF g M N Z) (z o : Option Nat) (n : Nat) (hn : n < 16) (E : En) (hE : E.length < 2 ^ 30) (hz : rt N z n (spl n false E)) (ho : rt N o n (spl n true E)) : Cq l g yX3_joined cX3_joined 2 ((.object "ProofMap$Node")) 3 1 6 [va_rf z, va_rf o] M (fun r M9 => ∃ N9, WF g M9 N9 Z ∧ rt N9 r (n + 1) E ∧ gr M N M9 N9 1) := by
  have hsum := spl_len n E
  refine hp_startQ (by decide) (by cases z <;> cases o <;> exact Nat.le_of_ble_eq_true rfl) (by first | exact Or.inl ⟨_, rfl⟩ | exact Or.inr ⟨_, rfl⟩) ?_
  intro p e s m below meth c Q H locs ls EE hnm ret hm hS hl
  have hx := EE.1
  have hb := EE.2.1
  have hown := EE.2.2.2.1
  have hts := EE.2.2.2.2.1
  have hl : lv_has ls 2 [(0, va_rf z), (1, va_rf o)] := by cases z <;> cases o <;> exact hl
  refine hq_aload_n hx hb dX3_joined_0 rfl (lv_at hl 0 rfl) ?_
  refine hp_ci (hp_runS (np := 1) (k := 1) (mc := 0) (ms := 0) (As := [va_rf z]) (rest := []) EE hm hS (c_X3_countOf l g M N Z hW z n (spl n false E) hz) ms_X3_countOf wt_X3_countOf wl_X3_53 rfl hl.1 rfl (Nat.le_of_ble_eq_true rfl) dX3_joined_1 ⟨Nat.le_of_ble_eq_true rfl, Nat.le_of_ble_eq_true rfl⟩ ⟨(Nat.le_of_ble_eq_true rfl), (Nat.le_of_ble_eq_true rfl)⟩) hS (fun r1 Mx2 H locs hq3 hm hS => ?_)
  obtain ⟨rfl, h9⟩ := hq3
  rw [h9] at hm
  refine hq_aload_n hx hb dX3_joined_4 rfl (lv_at hl 1 rfl) ?_
  refine hp_ci (hp_runS (np := 1) (k := 1) (mc := 0) (ms := 0) (As := [va_rf o]) (rest := [.int (nI (spl n false E).length)]) EE hm hS (c_X3_countOf l g M N Z hW o n (spl n true E) ho) ms_X3_countOf wt_X3_countOf wl_X3_53 rfl hl.1 rfl (Nat.le_of_ble_eq_true rfl) dX3_joined_5 ⟨Nat.le_of_ble_eq_true rfl, Nat.le_of_ble_eq_true rfl⟩ ⟨(Nat.le_of_ble_eq_true rfl), (Nat.le_of_ble_eq_true rfl)⟩) hS (fun r4 Mx5 H locs hq6 hm hS => ?_)
  obtain ⟨rfl, h9⟩ := hq6
  rw [h9] at hm
  refine lv_iadd hx hb dX3_joined_8 ?_
  rw [nI_add, hsum]
  refine lv_iconst (v := 1) hx hb dX3_joined_9 (by decide) ?_
  refine lv_icmp_le (tgt := 23) hx hb dX3_joined_10 (by decide) (fun c_10 => ?_) (fun c_10 => ?_)
  · have c_10 : E.length ≤ 1 := (nI_leI (a := E.length) (b := 1) (by omega) (by decide)).mp c_10
    refine hq_aload_n hx hb dX3_joined_23 rfl (lv_at hl 0 rfl) ?_
    refine hq_ifnonnull (tgt := 31) hx hb dX3_joined_24 (by decide) (fun a hz9 => ?_) (fun hz9 => ?_)
    · have hz8 : spl n true E = [] := by
          rw [hz9] at hz
          obtain ⟨n8, -, h8, -⟩ := hz
          have : 0 < (spl n false E).length := List.length_pos_iff.mpr h8
          exact List.length_eq_zero_iff.mp (by omega)
      refine hq_aload_n hx hb dX3_joined_31 rfl (lv_at hl 0 rfl) ?_
      exact ret (v := z) dX3_joined_32 hm hS (Nat.le_of_ble_eq_true rfl) (Nat.le_of_ble_eq_true rfl) (⟨N, hW, by rw [spl_all (b := false) hz8] at hz; exact rt_up hz (by omega), gr.rf⟩)
    · have hz8 : spl n false E = [] := by rw [hz9] at hz; exact hz
      refine hq_aload_n hx hb dX3_joined_27 rfl (lv_at hl 1 rfl) ?_
      refine lv_goto (tgt := 32) hx hb dX3_joined_28 (by decide) ?_
      exact ret (v := o) dX3_joined_32 hm hS (Nat.le_of_ble_eq_true rfl) (Nat.le_of_ble_eq_true rfl) (⟨N, hW, by rw [spl_all (b := true) hz8] at ho; exact rt_up ho (by omega), gr.rf⟩)
  · have c_10 : ¬ E.length ≤ 1 := fun h9 => c_10 ((nI_leI (a := E.length) (b := 1) (by omega) (by decide)).mpr h9)
    refine hp_new (C := RX1) (T := TX1) (N := 6) (ci := 1) (fs := [.int 0, .int 0, .int 0, .null, .null, .null]) EE hm hS inh1 tyX1 tyX1_ok rfl wc_X3_9 wa_X1 wn_X1 (by decide +kernel) (Nat.le_of_ble_eq_true rfl) (Nat.le_of_ble_eq_true rfl) dX3_joined_13 (fun q7 H hq7 hm hS => ?_)
    obtain ⟨Mx8, hMx8⟩ : ∃ Mz, Mz = hm_up M q7 (.inr (1, [.int 0, .int 0, .int 0, .null, .null, .null])) := ⟨_, rfl⟩
    have hm : hp g Mx8 H := by rw [hMx8]; exact hm
    have e_q7 : Mx8 q7 = some (.inr (1, [.int 0, .int 0, .int 0, .null, .null, .null])) := by rw [hMx8]; exact up_eq
    refine lv_dup hx hb dX3_joined_16 rfl ?_
    refine hq_aload_n hx hb dX3_joined_17 rfl (lv_at hl 0 rfl) ?_
    refine hq_aload_n hx hb dX3_joined_18 rfl (lv_at hl 1 rfl) ?_
    refine hp_cv (hp_runI (np := 2) (k := 2) (mc := 0) (ms := 0) (As := [va_rf z, va_rf o]) (rest := [.ref q7]) EE hm hS (c_X1_init_ l g Mx8 N Z (hW.mono (fun x e9 h9 => by rw [hMx8]; exact up_at (ne_new hq7 h9) h9)) q7 n z o _ _ hz ho e_q7) ms_X1_init_ wi_X1_init_ rfl wl_X3_145 rfl hl.1 rfl (Nat.le_of_ble_eq_true rfl) dX3_joined_19 ⟨Nat.le_of_ble_eq_true rfl, Nat.le_of_ble_eq_true rfl⟩ ⟨(Nat.le_of_ble_eq_true rfl), (Nat.le_of_ble_eq_true rfl)⟩) hS (fun Mx9 H locs hq10 hm hS => ?_)
    obtain ⟨e_q, hfr⟩ := hq10
    rw [hsum] at e_q
    have hadd := WF.add (M9 := Mx9) (q := q7) (n := n + 1) (E := E) hW hq7 (fun x hx => by rw [hfr x hx, hMx8, up_ne hx]) (fun N9 hN9 => ⟨0, 0, z, o, none, e_q, fun b hb => (by cases hb), hE, Or.inr ⟨n, rfl, hn, (by omega), hz.mono hN9, ho.mono hN9⟩⟩)
    exact ret (v := some q7) dX3_joined_22 hm hS (Nat.le_of_ble_eq_true rfl) (Nat.le_of_ble_eq_true rfl) (⟨_, hadd.1, ⟨n + 1, nUp_eq, (by intro h; rw [h] at c_10; simp at c_10), fun _ => rfl⟩, hadd.2⟩)
end
section
/-- an entry comes (w = its value) or goes -/
def opL (w : Option Int32) (k : Nat) (E : En) : En := match w with
  | some v => putL k v E
  | none => remL k E
theorem opL_nil_len (w : Option Int32) (k : Nat) : (opL w k []).length ≤ 1 := by cases w <;> simp [opL, putL, remL]
theorem opL_one {w : Option Int32} {k : Nat} {E : En} (h : isEn E k = true) : opL w k E = opL w k [] := by
  match E, h with
  | [(k', v')], h =>
    have hk : k' = k := by simpa [isEn] using h
    subst hk
    cases w with
    | none => simp [opL, remL]
    | some v => simp [opL, putL]
theorem opL_spl {w : Option Int32} {n k : Nat} {b : Bool} {E : En} (hs : srt E) : spl n b (opL w k E) = if k.testBit n = b then opL w k (spl n b E) else spl n b E := by
  cases w with
  | some v => exact spl_putL hs
  | none =>
    show spl n b (remL k E) = if k.testBit n = b then remL k (spl n b E) else spl n b E
    rw [spl_remL]
    by_cases h : k.testBit n = b
    · rw [if_pos h]
    · rw [if_neg h]
      exact remL_out (fun x hx q => h (by rw [← q]; exact (spl_mem.mp hx).2))
theorem putL_len (k : Nat) (v : Int32) : ∀ E : En, (putL k v E).length ≤ E.length + 1
  | [] => Nat.le_refl 1
  | x :: t => by
    rw [putL_cons]
    by_cases h : k < x.1
    · rw [if_pos h]; simp
    · rw [if_neg h]
      by_cases h2 : k = x.1
      · rw [if_pos h2]; simp
      · rw [if_neg h2]
        have := putL_len k v t
        simp only [List.length_cons]
        omega
theorem opL_len (w : Option Int32) (k : Nat) (E : En) : (opL w k E).length ≤ E.length + 1 := by
  cases w with
  | some v => exact putL_len k v E
  | none => exact Nat.le_succ_of_le (List.length_filter_le _ _)
theorem opL_srt {w : Option Int32} {k : Nat} {E : En} (hs : srt E) : srt (opL w k E) := by
  cases w with
  | some v => exact putL_srt hs
  | none => exact List.Pairwise.filter _ hs
theorem spl_le (n : Nat) (b : Bool) (E : En) : (spl n b E).length ≤ E.length := List.length_filter_le _ _
theorem pre_opL {k : Nat} {w : Option Int32} {E : En} (h : pre 0 k E) (hs : srt E) : opL w k E = opL w k [] := by
  rcases pre_0 h hs with q | ⟨v, q⟩
  · rw [q]
  · rw [q]; exact opL_one (by simp [isEn])
set_option maxHeartbeats 4000000 in
set_option maxRecDepth 100000 in
theorem c_X3_replaced (l : Launch) (g : hG) (Z : gT) (k : Nat) (hk : k < 65536) (w : Option Int32) (ent : Option Nat) : ∀ (n : Nat) (M : hM) (N : gT) (hW : WF g M N Z) (r : Option Nat) (E : En) (hr : rt N r n E) (d : Nat) (hd : d + n = 16) (hs : srt E) (hpre : pre n k E) (hE : E.length < 2 ^ 29) (hent : rt N ent 0 (opL w k [])), Cq l g yX3_replaced cX3_replaced 7 ((.object "ProofMap$Node")) (4 + n) n (6 * n) [va_rf r, .int (nI d), .int (nI k), va_rf ent] M (fun r M9 => ∃ N9, WF g M9 N9 Z ∧ rt N9 r n (opL w k E) ∧ gr M N M9 N9 n) := by
  intro n
  induction n with
  | zero =>
    intro M N hW r E hr d hd hs hpre hE hent
    cases r with
    | none =>
      have hE0 : E = [] := hr
      show Cq l g yX3_replaced cX3_replaced 7 ((.object "ProofMap$Node")) 4 0 0 [.null, .int (nI d), .int (nI k), va_rf ent] M (fun r M9 => ∃ N9, WF g M9 N9 Z ∧ rt N9 r 0 (opL w k E) ∧ gr M N M9 N9 0)
      refine hp_startQ (by decide) (by cases ent <;> exact Nat.le_of_ble_eq_true rfl) (by first | exact Or.inl ⟨_, rfl⟩ | exact Or.inr ⟨_, rfl⟩) ?_
      intro p e s m below meth c Q H locs ls EE hnm ret hm hS hl
      have hx := EE.1
      have hb := EE.2.1
      have hown := EE.2.2.2.1
      have hts := EE.2.2.2.2.1
      have hl : lv_has ls 7 [(0, .null), (1, .int (nI d)), (2, .int (nI k)), (3, va_rf ent)] := by cases ent <;> exact hl
      refine lv_aload_nN hx hb dX3_replaced_0 rfl (lv_at hl 0 rfl) ?_
      refine lv_ifnullN (tgt := 18) hx hb dX3_replaced_1 (by decide) ?_
      refine hq_aload_n hx hb dX3_replaced_18 rfl (lv_at hl 3 rfl) ?_
      exact ret (v := ent) dX3_replaced_19 hm hS (Nat.le_of_ble_eq_true rfl) (Nat.le_of_ble_eq_true rfl) (⟨N, hW, by rw [hE0]; exact rt_up hent (opL_nil_len w k), gr.rf⟩)
    | some a =>
      have hr0 := hr
      show Cq l g yX3_replaced cX3_replaced 7 ((.object "ProofMap$Node")) 4 0 0 [.ref a, .int (nI d), .int (nI k), va_rf ent] M (fun r M9 => ∃ N9, WF g M9 N9 Z ∧ rt N9 r 0 (opL w k E) ∧ gr M N M9 N9 0)
      refine hp_startQ (by decide) (by cases ent <;> exact Nat.le_of_ble_eq_true rfl) (by first | exact Or.inl ⟨_, rfl⟩ | exact Or.inr ⟨_, rfl⟩) ?_
      intro p e s m below meth c Q H locs ls EE hnm ret hm hS hl
      have hx := EE.1
      have hb := EE.2.1
      have hown := EE.2.2.2.1
      have hts := EE.2.2.2.2.1
      have hl : lv_has ls 7 [(0, .ref a), (1, .int (nI d)), (2, .int (nI k)), (3, va_rf ent)] := by cases ent <;> exact hl
      refine lv_aload_n hx hb dX3_replaced_0 rfl (lv_at hl 0 rfl) ?_
      refine lv_ifnull hx hb dX3_replaced_1 ?_
      refine lv_iload_n hx hb dX3_replaced_4 rfl (lv_at hl 1 rfl) ?_
      refine lv_bipush (v := 16) hx hb dX3_replaced_5 (by decide) ?_
      refine lv_icmp_ge (tgt := 18) hx hb dX3_replaced_7 (by decide) (fun c_7 => ?_) (fun c_7 => ?_)
      · have c_7 : 16 ≤ d := (nI_leI (a := 16) (b := d) (by decide) (by omega)).mp c_7
        refine hq_aload_n hx hb dX3_replaced_18 rfl (lv_at hl 3 rfl) ?_
        exact ret (v := ent) dX3_replaced_19 hm hS (Nat.le_of_ble_eq_true rfl) (Nat.le_of_ble_eq_true rfl) (⟨N, hW, by rw [pre_opL hpre hs]; exact rt_up hent (opL_nil_len w k), gr.rf⟩)
      · have c_7 : ¬ 16 ≤ d := fun h9 => c_7 ((nI_leI (a := 16) (b := d) (by decide) (by omega)).mpr h9)
        exact absurd (by omega) c_7
  | succ n ih =>
    intro M N hW r E hr d hd hs hpre hE hent
    cases r with
    | none =>
      have hE0 : E = [] := hr
      show Cq l g yX3_replaced cX3_replaced 7 ((.object "ProofMap$Node")) (4 + (n + 1)) (n + 1) (6 * (n + 1)) [.null, .int (nI d), .int (nI k), va_rf ent] M (fun r M9 => ∃ N9, WF g M9 N9 Z ∧ rt N9 r (n + 1) (opL w k E) ∧ gr M N M9 N9 (n + 1))
      refine hp_startQ (by decide) (by cases ent <;> exact Nat.le_of_ble_eq_true rfl) (by first | exact Or.inl ⟨_, rfl⟩ | exact Or.inr ⟨_, rfl⟩) ?_
      intro p e s m below meth c Q H locs ls EE hnm ret hm hS hl
      have hx := EE.1
      have hb := EE.2.1
      have hown := EE.2.2.2.1
      have hts := EE.2.2.2.2.1
      have hl : lv_has ls 7 [(0, .null), (1, .int (nI d)), (2, .int (nI k)), (3, va_rf ent)] := by cases ent <;> exact hl
      refine lv_aload_nN hx hb dX3_replaced_0 rfl (lv_at hl 0 rfl) ?_
      refine lv_ifnullN (tgt := 18) hx hb dX3_replaced_1 (by decide) ?_
      refine hq_aload_n hx hb dX3_replaced_18 rfl (lv_at hl 3 rfl) ?_
      exact ret (v := ent) dX3_replaced_19 hm hS (by omega) (by omega) (⟨N, hW, by rw [hE0]; exact rt_up hent (opL_nil_len w k), gr.rf⟩)
    | some a =>
      have hr0 := hr
      show Cq l g yX3_replaced cX3_replaced 7 ((.object "ProofMap$Node")) (4 + (n + 1)) (n + 1) (6 * (n + 1)) [.ref a, .int (nI d), .int (nI k), va_rf ent] M (fun r M9 => ∃ N9, WF g M9 N9 Z ∧ rt N9 r (n + 1) (opL w k E) ∧ gr M N M9 N9 (n + 1))
      refine hp_startQ (by decide) (by cases ent <;> exact Nat.le_of_ble_eq_true rfl) (by first | exact Or.inl ⟨_, rfl⟩ | exact Or.inr ⟨_, rfl⟩) ?_
      intro p e s m below meth c Q H locs ls EE hnm ret hm hS hl
      have hx := EE.1
      have hb := EE.2.1
      have hown := EE.2.2.2.1
      have hts := EE.2.2.2.2.1
      have hl : lv_has ls 7 [(0, .ref a), (1, .int (nI d)), (2, .int (nI k)), (3, va_rf ent)] := by cases ent <;> exact hl
      refine lv_aload_n hx hb dX3_replaced_0 rfl (lv_at hl 0 rfl) ?_
      refine lv_ifnull hx hb dX3_replaced_1 ?_
      refine lv_iload_n hx hb dX3_replaced_4 rfl (lv_at hl 1 rfl) ?_
      refine lv_bipush (v := 16) hx hb dX3_replaced_5 (by decide) ?_
      refine lv_icmp_ge (tgt := 18) hx hb dX3_replaced_7 (by decide) (fun c_7 => ?_) (fun c_7 => ?_)
      · have c_7 : 16 ≤ d := (nI_leI (a := 16) (b := d) (by decide) (by omega)).mp c_7
        exact absurd c_7 (by omega)
      · have c_7 : ¬ 16 ≤ d := fun h9 => c_7 ((nI_leI (a := 16) (b := d) (by decide) (by omega)).mpr h9)
        refine lv_aload_n hx hb dX3_replaced_10 rfl (lv_at hl 0 rfl) ?_
        refine lv_iload_n hx hb dX3_replaced_11 rfl (lv_at hl 2 rfl) ?_
        refine hp_ci (hp_runS (np := 2) (k := 1) (mc := 0) (ms := 0) (As := [.ref a, .int (nI k)]) (rest := []) EE hm hS (c_X3_isEntry l g M N Z hW (some a) (n + 1) E hr0 k hk) ms_X3_isEntry wt_X3_isEntry wl_X3_49 rfl hl.1 rfl (Nat.le_of_ble_eq_true rfl) dX3_replaced_12 ⟨by show 1 + 1 ≤ 4 + (n + 1); omega, by show 8 + (2 + 11) + 100 * (1) ≤ 100 * (4 + (n + 1)); omega⟩ ⟨(by show 0 + 0 ≤ n + 1; omega), (by show 0 + 0 ≤ 6 * (n + 1); omega)⟩) hS (fun r1 Mx2 H locs hq3 hm hS => ?_)
        obtain ⟨rfl, h9⟩ := hq3
        rw [h9] at hm
        refine lv_if_eq (tgt := 20) hx hb dX3_replaced_15 (by decide) (fun c_15 => ?_) (fun c_15 => ?_)
        · refine lv_iload_n hx hb dX3_replaced_20 rfl (lv_at hl 2 rfl) ?_
          refine lv_iload_n hx hb dX3_replaced_21 rfl (lv_at hl 1 rfl) ?_
          refine hp_ci (hp_runS (np := 2) (k := 1) (mc := 0) (ms := 0) (As := [.int (nI k), .int (nI d)]) (rest := []) EE hm hS (c_X3_bitAt l g M (nI k) (nI d)) ms_X3_bitAt wt_X3_bitAt wl_X3_83 rfl hl.1 rfl (Nat.le_of_ble_eq_true rfl) dX3_replaced_22 ⟨by show 1 + 1 ≤ 4 + (n + 1); omega, by show 8 + (2 + 11) + 100 * (1) ≤ 100 * (4 + (n + 1)); omega⟩ ⟨(by show 0 + 0 ≤ n + 1; omega), (by show 0 + 0 ≤ 6 * (n + 1); omega)⟩) hS (fun r4 Mx5 H locs hq6 hm hS => ?_)
          obtain ⟨hr9, h9⟩ := hq6
          rw [h9] at hm
          rw [bitA_n hk (show d + n = 15 by omega)] at hr9
          subst hr9
          refine lv_istore (lv' := [(4, .int (bI (k.testBit n))), (0, .ref a), (1, .int (nI d)), (2, .int (nI k)), (3, va_rf ent)]) hx hb dX3_replaced_25 hl (by decide) (by cases ent <;> rfl) (fun ls hl => ?_)
          refine lv_aload_n hx hb dX3_replaced_27 rfl (lv_at hl 1 rfl) ?_
          refine lv_iload_n hx hb dX3_replaced_28 rfl (lv_at hl 2 rfl) ?_
          refine lv_iload hx hb dX3_replaced_29 (lv_at hl 0 rfl) ?_
          refine hp_cq (hp_runS (np := 3) (k := 2) (mc := 0) (ms := 0) (As := [.ref a, .int (nI d), .int (bI (k.testBit n))]) (rest := []) EE hm hS (c_X3_half l g M N Z hW (some a) n d (by omega) (k.testBit n) E hr0) ms_X3_half wt_X3_half wl_X3_87 rfl hl.1 rfl (Nat.le_of_ble_eq_true rfl) dX3_replaced_31 ⟨by show 2 + 1 ≤ 4 + (n + 1); omega, by show 8 + (3 + 11) + 100 * (2) ≤ 100 * (4 + (n + 1)); omega⟩ ⟨(by show 0 + 0 ≤ n + 1; omega), (by show 0 + 0 ≤ 6 * (n + 1); omega)⟩) hS (fun r7 Mx8 H locs hq9 hm hS => ?_)
          obtain ⟨hr1, h9⟩ := hq9
          rw [h9] at hm
          refine lv_iload_n hx hb dX3_replaced_34 rfl (lv_at hl 2 rfl) ?_
          refine lv_iconst (v := 1) hx hb dX3_replaced_35 (by decide) ?_
          refine lv_iadd hx hb dX3_replaced_36 ?_
          rw [nI_1 d]
          refine lv_iload_n hx hb dX3_replaced_37 rfl (lv_at hl 3 rfl) ?_
          refine hq_aload_n hx hb dX3_replaced_38 rfl (lv_at hl 4 rfl) ?_
          refine hp_cq (hp_runS (np := 4) (k := 4 + n) (mc := n) (ms := 6 * n) (As := [va_rf r7, .int (nI (d + 1)), .int (nI k), va_rf ent]) (rest := []) EE hm hS (ih M N hW r7 _ hr1 (d + 1) (by omega) (srt_spl hs _ _) (pre_spl hpre) (Nat.lt_of_le_of_lt (spl_le _ _ _) hE) hent) ms_X3_replaced wt_X3_replaced wl_X3_60 rfl hl.1 rfl (Nat.le_of_ble_eq_true rfl) dX3_replaced_39 ⟨by show 4 + n + 1 ≤ 4 + (n + 1); omega, by show 8 + (7 + 11) + 100 * (4 + n) ≤ 100 * (4 + (n + 1)); omega⟩ ⟨(by show 0 + n ≤ n + 1; omega), (by show 0 + 6 * n ≤ 6 * (n + 1); omega)⟩) hS (fun r10 Mx11 H locs hq12 hm hS => ?_)
          obtain ⟨N1, hW1, hr2, hg1⟩ := hq12
          refine hq_astore (lv' := [(5, va_rf r10), (4, .int (bI (k.testBit n))), (0, .ref a), (1, .int (nI d)), (2, .int (nI k)), (3, va_rf ent)]) hx hb dX3_replaced_42 hl (by decide) rfl (fun ls hl => ?_)
          refine lv_aload_n hx hb dX3_replaced_44 rfl (lv_at hl 2 rfl) ?_
          refine lv_iload_n hx hb dX3_replaced_45 rfl (lv_at hl 3 rfl) ?_
          refine lv_iconst (v := 1) hx hb dX3_replaced_46 (by decide) ?_
          refine lv_iload hx hb dX3_replaced_47 (lv_at hl 1 rfl) ?_
          refine lv_isub hx hb dX3_replaced_49 ?_
          rw [bI_not]
          refine hp_cq (hp_runS (np := 3) (k := 2) (mc := 0) (ms := 0) (As := [.ref a, .int (nI d), .int (bI (!(k.testBit n)))]) (rest := []) EE hm hS (c_X3_half l g Mx11 N1 Z hW1 (some a) n d (by omega) (!(k.testBit n)) E (rt.mono hg1.1 hr0)) ms_X3_half wt_X3_half wl_X3_87 rfl hl.1 rfl (Nat.le_of_ble_eq_true rfl) dX3_replaced_50 ⟨by show 2 + 1 ≤ 4 + (n + 1); omega, by show 8 + (3 + 11) + 100 * (2) ≤ 100 * (4 + (n + 1)); omega⟩ ⟨(by show 0 + n + 0 ≤ n + 1; omega), (by show 0 + (6 * n) + 0 ≤ 6 * (n + 1); omega)⟩) hS (fun r13 Mx14 H locs hq15 hm hS => ?_)
          obtain ⟨hr3, h9⟩ := hq15
          rw [h9] at hm
          refine hq_astore (lv' := [(6, va_rf r13), (5, va_rf r10), (4, .int (bI (k.testBit n))), (0, .ref a), (1, .int (nI d)), (2, .int (nI k)), (3, va_rf ent)]) hx hb dX3_replaced_53 hl (by decide) (by cases r10 <;> rfl) (fun ls hl => ?_)
          refine lv_iload hx hb dX3_replaced_55 (lv_at hl 2 rfl) ?_
          refine lv_if_ne (tgt := 70) hx hb dX3_replaced_57 (by decide) (fun c_57 => ?_) (fun c_57 => ?_)
          · have hb1 : k.testBit n = true := by
                cases h8 : k.testBit n with
                | true => rfl
                | false => rw [h8] at c_57; exact absurd rfl c_57
            rw [hb1] at hr2 hr3
            have hsp0 : spl n false (opL w k E) = spl n false E := by rw [opL_spl hs, if_neg (by rw [hb1]; decide)]
            have hsp1 : spl n true (opL w k E) = opL w k (spl n true E) := by rw [opL_spl hs, if_pos hb1]
            refine hq_aload hx hb dX3_replaced_70 (lv_at hl 0 rfl) ?_
            refine hq_aload hx hb dX3_replaced_72 (lv_at hl 1 rfl) ?_
            refine hp_cq (hp_runS (np := 2) (k := 3) (mc := 1) (ms := 6) (As := [va_rf r13, va_rf r10]) (rest := []) EE hm hS (c_X3_joined l g Mx11 N1 Z hW1 r13 r10 n (by omega) (opL w k E) (Nat.lt_of_le_of_lt (opL_len w k E) (by omega)) (by rw [hsp0]; exact hr3) (by rw [hsp1]; exact hr2)) ms_X3_joined wt_X3_joined wl_X3_141 rfl hl.1 rfl (Nat.le_of_ble_eq_true rfl) dX3_replaced_74 ⟨by show 3 + 1 ≤ 4 + (n + 1); omega, by show 8 + (2 + 11) + 100 * (3) ≤ 100 * (4 + (n + 1)); omega⟩ ⟨(by show 0 + n + 1 ≤ n + 1; omega), (by show 0 + (6 * n) + 6 ≤ 6 * (n + 1); omega)⟩) hS (fun r16 Mx17 H locs hq18 hm hS => ?_)
            obtain ⟨N2, hW2, hr4, hg2⟩ := hq18
            exact ret (v := r16) dX3_replaced_77 hm hS (by omega) (by omega) (⟨N2, hW2, hr4, hg1.tr hg2 (Nat.le_refl _)⟩)
          · have hb1 : k.testBit n = false := by
                cases h8 : k.testBit n with
                | false => rfl
                | true => rw [h8] at c_57; exact absurd c_57 (by decide)
            rw [hb1] at hr2 hr3
            have hsp0 : spl n false (opL w k E) = opL w k (spl n false E) := by rw [opL_spl hs, if_pos hb1]
            have hsp1 : spl n true (opL w k E) = spl n true E := by rw [opL_spl hs, if_neg (by rw [hb1]; decide)]
            refine hq_aload hx hb dX3_replaced_60 (lv_at hl 1 rfl) ?_
            refine hq_aload hx hb dX3_replaced_62 (lv_at hl 0 rfl) ?_
            refine hp_cq (hp_runS (np := 2) (k := 3) (mc := 1) (ms := 6) (As := [va_rf r10, va_rf r13]) (rest := []) EE hm hS (c_X3_joined l g Mx11 N1 Z hW1 r10 r13 n (by omega) (opL w k E) (Nat.lt_of_le_of_lt (opL_len w k E) (by omega)) (by rw [hsp0]; exact hr2) (by rw [hsp1]; exact hr3)) ms_X3_joined wt_X3_joined wl_X3_141 rfl hl.1 rfl (Nat.le_of_ble_eq_true rfl) dX3_replaced_64 ⟨by show 3 + 1 ≤ 4 + (n + 1); omega, by show 8 + (2 + 11) + 100 * (3) ≤ 100 * (4 + (n + 1)); omega⟩ ⟨(by show 0 + n + 1 ≤ n + 1; omega), (by show 0 + (6 * n) + 6 ≤ 6 * (n + 1); omega)⟩) hS (fun r19 Mx20 H locs hq21 hm hS => ?_)
            obtain ⟨N2, hW2, hr4, hg2⟩ := hq21
            refine lv_goto (tgt := 77) hx hb dX3_replaced_67 (by decide) ?_
            exact ret (v := r19) dX3_replaced_77 hm hS (by omega) (by omega) (⟨N2, hW2, hr4, hg1.tr hg2 (Nat.le_refl _)⟩)
        · have hie : isEn E k = true := by
              cases h8 : isEn E k with
              | true => rfl
              | false => rw [h8] at c_15; exact absurd rfl c_15
          refine hq_aload_n hx hb dX3_replaced_18 rfl (lv_at hl 3 rfl) ?_
          exact ret (v := ent) dX3_replaced_19 hm hS (by omega) (by omega) (⟨N, hW, by rw [opL_one hie]; exact rt_up hent (opL_nil_len w k), gr.rf⟩)
end
section
/-! nodes whose digest isn't known yet: how many a call makes known -/
def und (M : hM) (q : Nat) : Bool := match M q with
  | some (.inr (1, [_, _, _, _, _, .null])) => true
  | _ => false
def lf (M : hM) (a k : Nat) : Option Nat := match M a with
  | some (.inr (_, fs)) => (match fs[k]? with
    | some (.ref b) => some b
    | _ => none)
  | _ => none
def udT : Nat → hM → Option Nat → Nat
  | _, _, none => 0
  | 0, M, some a => if und M a then 1 else 0
  | n + 1, M, some a => if und M a then 1 + udT n M (lf M a 3) + udT n M (lf M a 4) else 0
theorem udT_none (n : Nat) (M : hM) : udT n M none = 0 := by cases n <;> rfl
theorem und_arr {M : hM} {q : Nat} {x : ClassId × vp_A} (h : M q = some (.inl x)) : und M q = false := by unfold und; rw [h]
theorem und_none {M : hM} {q : Nat} (h : M q = none) : und M q = false := by unfold und; rw [h]
theorem und_same {M M9 : hM} {q : Nat} (h : M9 q = M q) : und M9 q = und M q := by unfold und; rw [h]
theorem lf_same {M M9 : hM} {q k : Nat} (h : M9 q = M q) : lf M9 q k = lf M q k := by unfold lf; rw [h]
theorem und_t {M : hM} {a : Nat} {c ky vl z o : Value} (h : M a = some (.inr (1, [c, ky, vl, z, o, .null]))) : und M a = true := by unfold und; rw [h]; rfl
theorem und_f {M : hM} {a b : Nat} {c ky vl z o : Value} (h : M a = some (.inr (1, [c, ky, vl, z, o, .ref b]))) : und M a = false := by unfold und; rw [h]; rfl
theorem lf_3 {M : hM} {a : Nat} {z : Option Nat} {c ky vl o d : Value} (h : M a = some (.inr (1, [c, ky, vl, va_rf z, o, d]))) : lf M a 3 = z := by
  unfold lf; rw [h]; cases z <;> rfl
theorem lf_4 {M : hM} {a : Nat} {o : Option Nat} {c ky vl z d : Value} (h : M a = some (.inr (1, [c, ky, vl, z, va_rf o, d]))) : lf M a 4 = o := by
  unfold lf; rw [h]; cases o <;> rfl
/-- the nodes of a tree: those with these entries, of no more bits -/
def under (N : gT) (n : Nat) (E : En) (q : Nat) : Prop := ∃ n' E', N q = some (n', E') ∧ (∀ x ∈ E', x ∈ E) ∧ (2 ≤ E'.length → n' ≤ n)
theorem under.up {N : gT} {n m : Nat} {E F : En} {q : Nat} (h : under N n E q) (hE : ∀ x ∈ E, x ∈ F) (hn : n ≤ m) : under N m F q := by
  obtain ⟨n', E', h1, h2, h3⟩ := h
  exact ⟨n', E', h1, fun x hx => hE x (h2 x hx), fun q => Nat.le_trans (h3 q) hn⟩
theorem udT_eq {g : hG} {M M9 : hM} {N Z : gT} (hW : WF g M N Z) : ∀ (n : Nat) (r : Option Nat) (E : En), rt N r n E → (∀ q, under N n E q → M9 q = M q) → udT n M9 r = udT n M r
  | n, none, _, _, _ => by rw [udT_none, udT_none]
  | 0, some a, E, ⟨n', h1, h2, h3⟩, hu => by
    have h := hu a ⟨n', E, h1, fun _ hx => hx, fun q => by rw [h3 q]; exact Nat.le_refl _⟩
    show (if und M9 a then 1 else 0) = (if und M a then 1 else 0)
    rw [und_same h]
  | n + 1, some a, E, ⟨n', h1, h2, h3⟩, hu => by
    have h := hu a ⟨n', E, h1, fun _ hx => hx, fun q => by rw [h3 q]; exact Nat.le_refl _⟩
    show (if und M9 a then 1 + udT n M9 (lf M9 a 3) + udT n M9 (lf M9 a 4) else 0) = (if und M a then 1 + udT n M (lf M a 3) + udT n M (lf M a 4) else 0)
    rw [und_same h, lf_same h, lf_same h]
    obtain ⟨ky, vl, z, o, dg, e1, -, -, hc⟩ := hW.1 a n' E h1
    rw [lf_3 e1, lf_4 e1]
    rcases hc with ⟨k, -, -, -, hz, ho⟩ | ⟨m, q1, q2, q3, q4, q5⟩
    · subst hz; subst ho
      rw [udT_none, udT_none]
    · have hm : m = n := by have := h3 q3; omega
      subst hm
      rw [udT_eq hW m z _ q4 (fun q hq => hu q (hq.up (fun x hx => (spl_mem.mp hx).1) (Nat.le_succ m))), udT_eq hW m o _ q5 (fun q hq => hu q (hq.up (fun x hx => (spl_mem.mp hx).1) (Nat.le_succ m)))]
/-- at most c nodes have no digest yet -/
def pt (M : hM) (c : Nat) : Prop := ∃ L : List Nat, (∀ q, und M q = true → q ∈ L) ∧ L.length ≤ c
theorem pt.same {M M9 : hM} {c : Nat} (h : pt M c) (hq : ∀ q, und M9 q = true → und M q = true) : pt M9 c := by
  obtain ⟨L, h1, h2⟩ := h
  exact ⟨L, fun q hx => h1 q (hq q hx), h2⟩
theorem flt_ne {a : Nat} : ∀ {L : List Nat}, a ∈ L → (L.filter (fun q => q != a)).length + 1 ≤ L.length
  | x :: t, h => by
    by_cases hx : x = a
    · rw [List.filter_cons, if_neg (by simp [hx])]
      have := List.length_filter_le (fun q => q != a) t
      simp only [List.length_cons]
      omega
    · have ht : a ∈ t := by
        rcases List.mem_cons.mp h with q | q
        · exact absurd q.symm hx
        · exact q
      have ih := flt_ne ht
      rw [List.filter_cons, if_pos (by simp [hx])]
      simp only [List.length_cons]
      omega
theorem pt.flip {M M9 : hM} {c a : Nat} (h : pt M c) (ha : und M a = true) (ha9 : und M9 a = false) (hq : ∀ q, q ≠ a → und M9 q = true → und M q = true) : ∃ c9, pt M9 c9 ∧ c9 + 1 = c := by
  obtain ⟨L, h1, h2⟩ := h
  have := flt_ne (h1 a ha)
  refine ⟨c - 1, ⟨L.filter (fun q => q != a), fun q hx => ?_, by omega⟩, by omega⟩
  have hne : q ≠ a := fun z => by rw [z, ha9] at hx; cases hx
  exact List.mem_filter.mpr ⟨h1 q (hq q hne hx), by simp [hne]⟩
theorem gr.pt {M M9 : hM} {N N9 : gT} {k c : Nat} (hg : gr M N M9 N9 k) (h : pt M c) : pt M9 (c + k) := by
  obtain ⟨L, h1, h2⟩ := h
  obtain ⟨-, -, a3, L1, a4, a5⟩ := hg
  refine ⟨L1 ++ L, fun q hx => ?_, by rw [List.length_append]; omega⟩
  cases hM : M q with
  | none =>
    refine List.mem_append_left _ (a5 q hM (fun z => ?_))
    rw [und_none z] at hx; cases hx
  | some e =>
    refine List.mem_append_right _ (h1 q ?_)
    rw [← und_same ((a3 q e hM).trans hM.symm)]
    exact hx
/-- a node's digest becomes known -/
theorem WF.dig {g : hG} {M M9 : hM} {N Z : gT} {a b n : Nat} {E : En} {f : Nat → Int32} (hW : WF g M N Z) (ha : N a = some (n, E)) (hZb : Z b = none) {cn ky vl : Value} {z o : Option Nat} (e0 : M a = some (.inr (1, [cn, ky, vl, va_rf z, va_rf o, .null]))) (e1 : M9 a = some (.inr (1, [cn, ky, vl, va_rf z, va_rf o, .ref b]))) (eb : M9 b = some (aI g 8 f)) (hf : ∀ j, j < 8 → f j = dgF n E j) (hN : ∀ q x, N q = some x → q ≠ a → M9 q = M q) (hZ : ∀ q x, Z q = some x → M9 q = M q) : WF g M9 N (nUp Z b (n, E)) := by
  have hZ9 : ∀ q x, Z q = some x → nUp Z b (n, E) q = some x := fun q x h => by rw [nUp_ne (fun y => by rw [y, hZb] at h; cases h)]; exact h
  refine ⟨fun q m F h => ?_, fun q m F h => ?_⟩
  · obtain ⟨ky1, vl1, z1, o1, dg1, q1, q2, q3, q4⟩ := hW.1 q m F h
    by_cases hq : q = a
    · subst hq
      rw [ha] at h
      cases h
      rw [e0] at q1
      have hl := (Prod.mk.inj (Sum.inr.inj (Option.some.inj q1))).2
      simp only [List.cons.injEq] at hl
      obtain ⟨r1, r2, r3, r4, r5, r6, -⟩ := hl
      refine ⟨ky1, vl1, z1, o1, some b, ?_, fun x hx => ?_, q3, q4⟩
      · rw [e1, r1, r2, r3, r4, r5]; rfl
      · cases hx; exact nUp_eq
    · exact ⟨ky1, vl1, z1, o1, dg1, (hN q _ h hq).trans q1, fun x hx => hZ9 _ _ (q2 x hx), q3, q4⟩
  · by_cases hq : q = b
    · subst hq
      rw [nUp_eq] at h
      cases h
      exact ⟨f, eb, hf⟩
    · rw [nUp_ne hq] at h
      obtain ⟨f1, q1, q2⟩ := hW.2 q m F h
      exact ⟨f1, (hZ q _ h).trans q1, q2⟩
/-- what digestOf does besides: digests come to be known, nothing else but the Hasher's rows changes -/
def dgR (M : hM) (N Z : gT) (M9 : hM) (Z9 : gT) (n : Nat) (E : En) (ms sc sa u : Nat) : Prop :=
  (∀ q x, Z q = some x → Z9 q = some x) ∧ (∀ q, Z9 q ≠ none → Z q = none → M q = none) ∧ (∀ q e, M q = some e → q ≠ ms → q ≠ sc → q ≠ sa → ¬ under N n E q → M9 q = some e) ∧ (∀ q, M q ≠ none → M9 q ≠ none) ∧ ∀ c, pt M c → ∃ c9, pt M9 c9 ∧ c9 + u = c
theorem dgR.rf {M : hM} {N Z : gT} {n : Nat} {E : En} {ms sc sa : Nat} : dgR M N Z M Z n E ms sc sa 0 := ⟨fun _ _ h => h, fun _ h1 h2 => absurd h2 h1, fun _ _ h _ _ _ _ => h, fun _ h => h, fun c h => ⟨c, h, rfl⟩⟩
theorem dgR.tr {M M1 M2 : hM} {N Z Z1 Z2 : gT} {n n1 n2 : Nat} {E E1 E2 : En} {ms sc sa u1 u2 : Nat} (h : dgR M N Z M1 Z1 n1 E1 ms sc sa u1) (h2 : dgR M1 N Z1 M2 Z2 n2 E2 ms sc sa u2) (hu1 : ∀ q, under N n1 E1 q → under N n E q) (hu2 : ∀ q, under N n2 E2 q → under N n E q) : dgR M N Z M2 Z2 n E ms sc sa (u1 + u2) := by
  obtain ⟨a1, a2, a3, a4, a5⟩ := h
  obtain ⟨b1, b2, b3, b4, b5⟩ := h2
  refine ⟨fun q x hx => b1 q x (a1 q x hx), fun q h1 h0 => ?_, fun q e he m1 m2 m3 hn => b3 q e (a3 q e he m1 m2 m3 (fun z => hn (hu1 q z))) m1 m2 m3 (fun z => hn (hu2 q z)), fun q hq => b4 q (a4 q hq), fun c hc => ?_⟩
  · cases h9 : Z1 q with
    | some x => exact a2 q (by rw [h9]; exact fun z => by cases z) h0
    | none =>
      have := b2 q h1 h9
      cases h7 : M q with
      | none => rfl
      | some e => exact absurd this (a4 q (by rw [h7]; exact fun z => by cases z))
  · obtain ⟨c1, p1, q1⟩ := a5 c hc
    obtain ⟨c2, p2, q2⟩ := b5 c1 p1
    exact ⟨c2, p2, by omega⟩
theorem nd_ne {g : hG} {M : hM} {N Z : gT} (hW : WF g M N Z) {x b : Nat} {y : Nat × En} {v : ClassId × vp_A} (h : N x = some y) (hb : M b = some (.inl v)) : x ≠ b := by
  obtain ⟨ky, vl, z, o, dg, q1, -⟩ := hW.1 x y.1 y.2 h
  exact ne_lk q1 hb (by simp)
theorem dig_fin {g : hG} {M M1 M3 M5 : hM} {N Z Z3 : gT} {q a n0 m u ms sc sa : Nat} {E : En} {f : Nat → Int32} {cn ky vl : Value} {z o : Option Nat} {v0 v1 v2 v3 w1 w2 w3 : ClassId × vp_A} (hW3 : WF g M3 N Z3) (hR : dgR M1 N Z M3 Z3 m E ms sc sa u) (hq : M q = none) (hM1 : ∀ x, x ≠ q → M1 x = M x) (hM1q : M1 q = some (.inl v0)) (hZq : Z q = none) (haN : N a = some (n0, E)) (hua : under N m E a) (e0 : M3 a = some (.inr (1, [cn, ky, vl, va_rf z, va_rf o, .null]))) (e1 : M5 a = some (.inr (1, [cn, ky, vl, va_rf z, va_rf o, .ref q]))) (eb : M5 q = some (aI g 8 f)) (hf : ∀ j, j < 8 → f j = dgF n0 E j) (h5 : ∀ x, x ≠ ms → x ≠ sc → x ≠ sa → x ≠ q → x ≠ a → M5 x = M3 x)
    (k1 : M3 ms = some (.inl v1)) (k2 : M3 sc = some (.inl v2)) (k3 : M3 sa = some (.inl v3)) (k4 : M5 ms = some (.inl w1)) (k5 : M5 sc = some (.inl w2)) (k6 : M5 sa = some (.inl w3)) (z1 : Z ms = none) (z2 : Z sc = none) (z3 : Z sa = none) (m1 : M1 ms ≠ none) (m2 : M1 sc ≠ none) (m3 : M1 sa ≠ none) (kq : M3 q = some (.inl v0)) : ∃ Z9, WF g M5 N Z9 ∧ Z9 q ≠ none ∧ dgR M N Z M5 Z9 m E ms sc sa (u + 1) := by
  obtain ⟨a1, a2, a3, a4, a5⟩ := hR
  have noZ : ∀ x, Z x = none → M1 x ≠ none → Z3 x = none := fun x h1 h2 => by
    cases h : Z3 x with
    | none => rfl
    | some y => exact absurd (a2 x (by rw [h]; exact fun z => by cases z) h1) h2
  have hZ3q : Z3 q = none := noZ q hZq (by rw [hM1q]; exact fun z => by cases z)
  have y1 := noZ ms z1 m1
  have y2 := noZ sc z2 m2
  have y3 := noZ sa z3 m3
  have hW5 : WF g M5 N (nUp Z3 q (n0, E)) := by
    refine WF.dig hW3 haN hZ3q e0 e1 eb hf (fun x y hx hxa => h5 x (nd_ne hW3 hx k1) (nd_ne hW3 hx k2) (nd_ne hW3 hx k3) (nd_ne hW3 hx kq) hxa) (fun x y hx => ?_)
    obtain ⟨f1, q1, -⟩ := hW3.2 x y.1 y.2 hx
    exact h5 x (fun t => by rw [t, y1] at hx; cases hx) (fun t => by rw [t, y2] at hx; cases hx) (fun t => by rw [t, y3] at hx; cases hx) (fun t => by rw [t, hZ3q] at hx; cases hx) (ne_lk q1 e0 (by simp))
  have hup : ∀ x e, M x = some e → M1 x = some e := fun x e h => by rw [hM1 x (fun t => by rw [t, hq] at h; cases h)]; exact h
  refine ⟨nUp Z3 q (n0, E), hW5, (by rw [nUp_eq]; exact (fun z => (by cases z))), fun x y hx => ?_, fun x h1 h2 => ?_, fun x e he n1 n2 n3 hn => ?_, fun x hx => ?_, fun c hc => ?_⟩
  · have := a1 x y hx
    rw [nUp_ne (fun t => by rw [t, hZ3q] at this; cases this)]
    exact this
  · by_cases hx : x = q
    · rw [hx]; exact hq
    · rw [nUp_ne hx] at h1
      have := a2 x h1 h2
      rw [hM1 x hx] at this
      exact this
  · have hxq : x ≠ q := fun t => by rw [t, hq] at he; cases he
    rw [h5 x n1 n2 n3 hxq (fun t => hn (by rw [t]; exact hua))]
    exact a3 x e (hup x e he) n1 n2 n3 hn
  · by_cases t1 : x = ms
    · rw [t1, k4]; exact fun z => by cases z
    · by_cases t2 : x = sc
      · rw [t2, k5]; exact fun z => by cases z
      · by_cases t3 : x = sa
        · rw [t3, k6]; exact fun z => by cases z
        · by_cases t4 : x = q
          · rw [t4, eb]; exact fun z => by cases z
          · by_cases t5 : x = a
            · rw [t5, e1]; exact fun z => by cases z
            · rw [h5 x t1 t2 t3 t4 t5]
              refine a4 x ?_
              rw [hM1 x t4]; exact hx
  · have hc1 : pt M1 c := hc.same (fun x hx => by
      by_cases t : x = q
      · rw [t, und_arr hM1q] at hx; cases hx
      · rw [← und_same (hM1 x t)]; exact hx)
    obtain ⟨c3, p3, e3⟩ := a5 c hc1
    obtain ⟨c5, p5, e5⟩ := p3.flip (M9 := M5) (und_t e0) (und_f e1) (fun x hxa hx => by
      by_cases t1 : x = ms
      · rw [t1, und_arr k4] at hx; cases hx
      · by_cases t2 : x = sc
        · rw [t2, und_arr k5] at hx; cases hx
        · by_cases t3 : x = sa
          · rw [t3, und_arr k6] at hx; cases hx
          · by_cases t4 : x = q
            · rw [t4, und_arr eb] at hx; cases hx
            · rw [← und_same (h5 x t1 t2 t3 t4 hxa)]; exact hx)
    exact ⟨c5, p5, by omega⟩
end
section
set_option maxHeartbeats 4000000 in
set_option maxRecDepth 100000 in
theorem c_X3_digestOf (l : Launch) (g : hG) (N : gT) (h nm ms sc sa : Nat) : ∀ (n : Nat) (M : hM) (Z : gT) (fm fs fa : Nat → Int32) (ro : Option Nat) (E : En) (d : Nat) (hW : WF g M N Z) (hH : HS g M h nm ms sc sa fm fs fa) (hZ1 : Z ms = none) (hZ2 : Z sc = none) (hZ3 : Z sa = none) (hr : rt N ro n E) (hd : d + n = 16), Cq l g yX3_digestOf cX3_digestOf 6 ((.array .int)) (5 + n) (udT n M ro) (8 * (udT n M ro)) [va_rf ro, .int (nI d), .ref h] M (fun r M9 => ∃ Z9 fm9 fs9 fa9 b f, r = some b ∧ WF g M9 N Z9 ∧ HS g M9 h nm ms sc sa fm9 fs9 fa9 ∧ M9 b = some (aI g 8 f) ∧ (∀ j, j < 8 → f j = dgF n E j) ∧ (b = nm ∨ Z9 b ≠ none) ∧ dgR M N Z M9 Z9 n E ms sc sa (udT n M ro)) := by
  intro n
  induction n with
  | zero =>
    intro M Z fm fs fa ro E d hW hH hZ1 hZ2 hZ3 hr hd
    cases ro with
    | none =>
      have hE : E = [] := hr
      have hH0 := hH
      obtain ⟨e_h, e_ms, e_sc, e_sa, ⟨fn, e_nm, hz⟩, n_1, n_2, n_3, n_4, n_5, n_6⟩ := hH
      have nh1 : h ≠ ms := ne_lk e_h e_ms (by simp)
      have nh2 : h ≠ sc := ne_lk e_h e_sc (by simp)
      have nh3 : h ≠ sa := ne_lk e_h e_sa (by simp)
      show Cq l g yX3_digestOf cX3_digestOf 6 ((.array .int)) 5 (udT 0 M none) (8 * (udT 0 M none)) [.null, .int (nI d), .ref h] M (fun r M9 => ∃ Z9 fm9 fs9 fa9 b f, r = some b ∧ WF g M9 N Z9 ∧ HS g M9 h nm ms sc sa fm9 fs9 fa9 ∧ M9 b = some (aI g 8 f) ∧ (∀ j, j < 8 → f j = dgF 0 E j) ∧ (b = nm ∨ Z9 b ≠ none) ∧ dgR M N Z M9 Z9 0 E ms sc sa (udT 0 M none))
      refine hp_startQ (by decide) (by exact Nat.le_of_ble_eq_true rfl) (by first | exact Or.inl ⟨_, rfl⟩ | exact Or.inr ⟨_, rfl⟩) ?_
      intro p e s m below meth c Q H locs ls EE hnm ret hm hS hl
      have hx := EE.1
      have hb := EE.2.1
      have hown := EE.2.2.2.1
      have hts := EE.2.2.2.2.1
      have hl : lv_has ls 6 [(0, .null), (1, .int (nI d)), (2, .ref h)] := hl
      refine lv_aload_nN hx hb dX3_digestOf_0 rfl (lv_at hl 0 rfl) ?_
      refine lv_ifnullN (tgt := 10) hx hb dX3_digestOf_1 (by decide) ?_
      refine lv_aload_n hx hb dX3_digestOf_10 rfl (lv_at hl 2 rfl) ?_
      refine hp_get (C := RX0) (T := TX0) (N := 4) (v := .ref nm) EE hm e_h inh0 rfl 0 (by decide) wf_X3_148 rfl dX3_digestOf_11 ?_
      exact ret (v := some nm) dX3_digestOf_14 hm hS (Nat.zero_le _) (Nat.zero_le _) (⟨Z, fm, fs, fa, nm, fn, rfl, hW, hH0, e_nm, fun j hj => by rw [hE, dgF_nil, hz j hj], Or.inl rfl, by rw [udT_none]; exact dgR.rf⟩)
    | some a =>
      have hH0 := hH
      obtain ⟨e_h, e_ms, e_sc, e_sa, ⟨fn, e_nm, hz⟩, n_1, n_2, n_3, n_4, n_5, n_6⟩ := hH
      have nh1 : h ≠ ms := ne_lk e_h e_ms (by simp)
      have nh2 : h ≠ sc := ne_lk e_h e_sc (by simp)
      have nh3 : h ≠ sa := ne_lk e_h e_sa (by simp)
      obtain ⟨n0, hN, hne, hn2⟩ := hr
      have hr0 : rt N (some a) 0 E := ⟨n0, hN, hne, hn2⟩
      obtain ⟨ky, vl, z, o, dg, e_a, hdg, hlen, hcase⟩ := hW.1 a n0 E hN
      have hua : under N 0 E a := ⟨n0, E, hN, fun _ h => h, fun q => by rw [hn2 q]; exact Nat.le_refl _⟩
      have na1 : a ≠ ms := ne_lk e_a e_ms (by simp)
      have na2 : a ≠ sc := ne_lk e_a e_sc (by simp)
      have na3 : a ≠ sa := ne_lk e_a e_sa (by simp)
      show Cq l g yX3_digestOf cX3_digestOf 6 ((.array .int)) 5 (udT 0 M (some a)) (8 * (udT 0 M (some a))) [.ref a, .int (nI d), .ref h] M (fun r M9 => ∃ Z9 fm9 fs9 fa9 b f, r = some b ∧ WF g M9 N Z9 ∧ HS g M9 h nm ms sc sa fm9 fs9 fa9 ∧ M9 b = some (aI g 8 f) ∧ (∀ j, j < 8 → f j = dgF 0 E j) ∧ (b = nm ∨ Z9 b ≠ none) ∧ dgR M N Z M9 Z9 0 E ms sc sa (udT 0 M (some a)))
      refine hp_startQ (by decide) (by exact Nat.le_of_ble_eq_true rfl) (by first | exact Or.inl ⟨_, rfl⟩ | exact Or.inr ⟨_, rfl⟩) ?_
      intro p e s m below meth c Q H locs ls EE hnm ret hm hS hl
      have hx := EE.1
      have hb := EE.2.1
      have hown := EE.2.2.2.1
      have hts := EE.2.2.2.2.1
      have hl : lv_has ls 6 [(0, .ref a), (1, .int (nI d)), (2, .ref h)] := hl
      refine lv_aload_n hx hb dX3_digestOf_0 rfl (lv_at hl 0 rfl) ?_
      refine lv_ifnull hx hb dX3_digestOf_1 ?_
      refine lv_iload_n hx hb dX3_digestOf_4 rfl (lv_at hl 1 rfl) ?_
      refine lv_bipush (v := 16) hx hb dX3_digestOf_5 (by decide) ?_
      refine lv_icmp_le (tgt := 15) hx hb dX3_digestOf_7 (by decide) (fun c_7 => ?_) (fun c_7 => ?_)
      · have c_7 : d ≤ 16 := (nI_leI (a := d) (b := 16) (by omega) (by decide)).mp c_7
        refine lv_aload_n hx hb dX3_digestOf_15 rfl (lv_at hl 0 rfl) ?_
        refine hp_get (C := RX1) (T := TX1) (N := 6) (v := va_rf dg) EE hm e_a inh1 rfl 5 (by decide) wf_X3_151 rfl dX3_digestOf_16 ?_
        refine hq_ifnonnull (tgt := 91) hx hb dX3_digestOf_19 (by decide) (fun b0 hz9 => ?_) (fun hz9 => ?_)
        · rw [hz9] at e_a
          have e_a : M a = some (.inr (1, [.int (nI E.length), .int ky, .int vl, va_rf z, va_rf o, .ref b0])) := e_a
          obtain ⟨f0, e_b0, hf0⟩ := hW.2 b0 n0 E (hdg b0 hz9)
          have hu : udT 0 M (some a) = 0 := by
            show (if und M a then _ else 0) = 0
            rw [und_f e_a]; rfl
          have hdn : dgF n0 E = dgF 0 E := by
            rcases hcase with ⟨k, h1, -⟩ | ⟨n9, -, -, h2, -⟩
            · rw [h1, dgF_one, dgF_one]
            · rw [hn2 h2]
          refine lv_aload_n hx hb dX3_digestOf_91 rfl (lv_at hl 0 rfl) ?_
          refine hp_get (C := RX1) (T := TX1) (N := 6) (v := .ref b0) EE hm e_a inh1 rfl 5 (by decide) wf_X3_151 rfl dX3_digestOf_92 ?_
          exact ret (v := some b0) dX3_digestOf_95 hm hS (by omega) (by omega) (⟨Z, fm, fs, fa, b0, f0, rfl, hW, hH0, e_b0, fun j hj => by rw [hf0 j hj, hdn], Or.inr (by rw [hdg b0 hz9]; exact fun z9 => by cases z9), by rw [hu]; exact dgR.rf⟩)
        · rw [hz9] at e_a
          have e_a : M a = some (.inr (1, [.int (nI E.length), .int ky, .int vl, va_rf z, va_rf o, .null])) := e_a
          have hut := und_t e_a
          have hu0 : udT 0 M (some a) = 1 := by
            show (if und M a then _ else 0) = _
            rw [hut, if_pos rfl]
          have o_ms := e_ms
          have o_sc := e_sc
          have o_sa := e_sa
          have o_nm := e_nm
          have o_a := e_a
          have o_h := e_h
          refine lv_bipush (v := 8) hx hb dX3_digestOf_22 (by decide) ?_
          refine hp_newa (N' := 8) EE hm hS warr (by decide) (by decide) (by decide) (by show 0 + 1 ≤ udT 0 M (some a); omega) (by show 0 + 8 ≤ 8 * (udT 0 M (some a)); omega) dX3_digestOf_24 (fun q1 H hq1 hm hS => ?_)
          obtain ⟨Mx2, hMx2⟩ : ∃ Mz, Mz = hm_up M q1 (aI g 8 (fun _ => 0)) := ⟨_, rfl⟩
          have hm : hp g Mx2 H := by rw [hMx2]; exact hm
          have e_h : Mx2 h = some (.inr (0, [.ref nm, .ref ms, .ref sc, .ref sa])) := by rw [hMx2]; exact up_at (ne_new hq1 e_h) e_h
          have e_nm : Mx2 nm = some (aI g 8 fn) := by rw [hMx2]; exact up_at (ne_new hq1 e_nm) e_nm
          have e_ms : Mx2 ms = some (aI g 32 fm) := by rw [hMx2]; exact up_at (ne_new hq1 e_ms) e_ms
          have e_sc : Mx2 sc = some (aI g 64 fs) := by rw [hMx2]; exact up_at (ne_new hq1 e_sc) e_sc
          have e_sa : Mx2 sa = some (aI g 8 fa) := by rw [hMx2]; exact up_at (ne_new hq1 e_sa) e_sa
          have e_a : Mx2 a = some (.inr (1, [.int (nI E.length), .int ky, .int vl, va_rf z, va_rf o, .null])) := by rw [hMx2]; exact up_at (ne_new hq1 e_a) e_a
          have e_q1 : Mx2 q1 = some (aI g 8 (fun _ => 0)) := by rw [hMx2]; exact up_eq
          have t_ms : q1 ≠ ms := Ne.symm (ne_new hq1 o_ms)
          have t_sc : q1 ≠ sc := Ne.symm (ne_new hq1 o_sc)
          have t_sa : q1 ≠ sa := Ne.symm (ne_new hq1 o_sa)
          have t_nm : q1 ≠ nm := Ne.symm (ne_new hq1 o_nm)
          have t_a : q1 ≠ a := Ne.symm (ne_new hq1 o_a)
          have t_h : q1 ≠ h := Ne.symm (ne_new hq1 o_h)
          have hm1f : ∀ x, x ≠ q1 → Mx2 x = M x := fun x hx => by rw [hMx2, up_ne hx]
          have hW1 : WF g Mx2 N Z := hW.mono (fun x e9 h9 => by rw [hMx2]; exact up_at (ne_new hq1 h9) h9)
          have hZq : Z q1 = none := by
            cases h8 : Z q1 with
            | none => rfl
            | some y => obtain ⟨f8, h81, -⟩ := hW.2 _ _ _ h8; rw [hq1] at h81; cases h81
          have o_qq := e_q1
          have m1_ms : Mx2 ms ≠ none := by rw [e_ms]; exact fun z9 => by cases z9
          have m1_sc : Mx2 sc ≠ none := by rw [e_sc]; exact fun z9 => by cases z9
          have m1_sa : Mx2 sa ≠ none := by rw [e_sa]; exact fun z9 => by cases z9
          refine lv_astore_n (lv' := [(3, .ref q1), (0, .ref a), (1, .int (nI d)), (2, .ref h)]) hx hb dX3_digestOf_26 rfl hl (by decide) rfl (fun ls hl => ?_)
          refine lv_aload_n hx hb dX3_digestOf_27 rfl (lv_at hl 1 rfl) ?_
          refine hp_get (C := RX1) (T := TX1) (N := 6) (v := .int (nI E.length)) EE hm e_a inh1 rfl 0 (by decide) wf_X3_132 rfl dX3_digestOf_28 ?_
          refine lv_iconst (v := 1) hx hb dX3_digestOf_31 (by decide) ?_
          refine lv_icmp_ne (tgt := 51) hx hb dX3_digestOf_32 (by decide) (fun c_32 => ?_) (fun c_32 => ?_)
          · have c_32 : ¬ E.length = 1 := fun h9 => c_32 ((nI_eq (a := E.length) (b := 1) (by omega) (by decide)).mpr h9)
            rcases hcase with ⟨k9, h1, -⟩ | ⟨n9, h1, -, h2, -⟩
            · exact absurd (by rw [h1]; rfl) c_32
            · exact absurd (hn2 h2) (by omega)
          · have c_32 : E.length = 1 := (nI_eq (a := E.length) (b := 1) (by omega) (by decide)).mp c_32
            obtain ⟨k9, hE, hky, hk9, hz0, ho0⟩ : ∃ k9, E = [(k9, vl)] ∧ ky = nI k9 ∧ k9 < 65536 ∧ z = none ∧ o = none := by
              rcases hcase with h | ⟨n9, -, -, h2, -⟩
              · exact h
              · omega
            refine lv_aload_n hx hb dX3_digestOf_35 rfl (lv_at hl 3 rfl) ?_
            refine lv_aload_n hx hb dX3_digestOf_36 rfl (lv_at hl 1 rfl) ?_
            refine hp_get (C := RX1) (T := TX1) (N := 6) (v := .int ky) EE hm e_a inh1 rfl 1 (by decide) wf_X3_105 rfl dX3_digestOf_37 ?_
            refine lv_aload_n hx hb dX3_digestOf_40 rfl (lv_at hl 1 rfl) ?_
            refine hp_get (C := RX1) (T := TX1) (N := 6) (v := .int vl) EE hm e_a inh1 rfl 2 (by decide) wf_X3_73 rfl dX3_digestOf_41 ?_
            refine lv_aload_n hx hb dX3_digestOf_44 rfl (lv_at hl 0 rfl) ?_
            refine hp_cv (hp_runV (C := RX0) (T := TX0) (N := 4) (np := 3) (k := 4) (mc := 0) (ms := 0) (As := [.int ky, .int vl, .ref q1]) (rest := []) EE hm hS (c_X0_hashEntry l g Mx2 h nm ms sc sa fm fs fa ⟨e_h, e_ms, e_sc, e_sa, ⟨fn, e_nm, hz⟩, n_1, n_2, n_3, n_4, n_5, n_6⟩ q1 _ e_q1 t_ms t_sc t_sa t_nm ky vl) ms_X0_hashEntry wi_X0_hashEntry ws_X0_hashEntry wl_X3_154 e_h rfl rfl hl.1 rfl (Nat.le_of_ble_eq_true rfl) dX3_digestOf_45 ⟨Nat.le_of_ble_eq_true rfl, Nat.le_of_ble_eq_true rfl⟩ ⟨(by show 0 + 1 + 0 ≤ udT 0 M (some a); omega), (by show 0 + 8 + 0 ≤ 8 * (udT 0 M (some a)); omega)⟩) hS (fun Mx3 H locs hq4 hm hS => ?_)
            have k1 := e_ms
            have k2 := e_sc
            have k3 := e_sa
            have kq := e_q1
            have ka := e_a
            obtain ⟨fm5, fs5, fa5, f5, hH5, e_t5, hfr5, hf5⟩ := hq4
            have e_a : Mx3 a = some (.inr (1, [.int (nI E.length), .int ky, .int vl, va_rf z, va_rf o, .null])) := (hfr5 a na1 na2 na3 (Ne.symm t_a)).trans e_a
            have e_q1 := e_t5
            obtain ⟨e_h, e_ms, e_sc, e_sa, ⟨fn, e_nm, hz⟩, n_1, n_2, n_3, n_4, n_5, n_6⟩ := hH5
            refine lv_goto (tgt := 86) hx hb dX3_digestOf_48 (by decide) ?_
            refine lv_aload_n hx hb dX3_digestOf_86 rfl (lv_at hl 1 rfl) ?_
            refine lv_aload_n hx hb dX3_digestOf_87 rfl (lv_at hl 0 rfl) ?_
            refine hp_put (C := RX1) (T := TX1) (N := 6) (v := .ref q1) (ty := .array .int) EE hm hS e_a inh1 tyX1 tyX1_ok nmX1 rfl 5 (by decide) wf_X3_151 rfl (by decide +kernel) rfl rfl (Nat.le_of_ble_eq_true rfl) dX3_digestOf_88 (fun H locs hm hS => ?_)
            obtain ⟨Mx5, hMx5⟩ : ∃ Mz, Mz = hm_up Mx3 a (.inr (1, [.int (nI E.length), .int ky, .int vl, va_rf z, va_rf o, .ref q1])) := ⟨_, rfl⟩
            have hm : hp g Mx5 H := by rw [hMx5]; exact hm
            have e_h : Mx5 h = some (.inr (0, [.ref nm, .ref ms, .ref sc, .ref sa])) := by rw [hMx5]; exact up_at (ne_lk e_h e_a (by simp)) e_h
            have e_nm : Mx5 nm = some (aI g 8 fn) := by rw [hMx5]; exact up_at (ne_lk e_nm e_a (by simp)) e_nm
            have e_ms : Mx5 ms = some (aI g 32 fm5) := by rw [hMx5]; exact up_at (Ne.symm na1) e_ms
            have e_sc : Mx5 sc = some (aI g 64 fs5) := by rw [hMx5]; exact up_at (Ne.symm na2) e_sc
            have e_sa : Mx5 sa = some (aI g 8 fa5) := by rw [hMx5]; exact up_at (Ne.symm na3) e_sa
            have e_q1 : Mx5 q1 = some (aI g 8 f5) := by rw [hMx5]; exact up_at t_a e_q1
            have e_a : Mx5 a = some (.inr (1, [.int (nI E.length), .int ky, .int vl, va_rf z, va_rf o, .ref q1])) := by rw [hMx5]; exact up_eq
            refine lv_aload_n hx hb dX3_digestOf_91 rfl (lv_at hl 1 rfl) ?_
            refine hp_get (C := RX1) (T := TX1) (N := 6) (v := .ref q1) EE hm e_a inh1 rfl 5 (by decide) wf_X3_151 rfl dX3_digestOf_92 ?_
            have hf6 : ∀ j, j < 8 → f5 j = dgF n0 E j := fun j hj => by rw [hf5 j hj, hE, dgF_one, hky]
            obtain ⟨Z9, hW9, hZ9, hR9⟩ := dig_fin (n0 := n0) (m := 0) (u := 0) hW1 dgR.rf hq1 (fun x hx => hm1f x hx) o_qq hZq hN hua ka e_a e_q1 hf6 (fun x a1 a2 a3 a4 a5 => by rw [hMx5, up_ne a5]; exact hfr5 x a1 a2 a3 a4) k1 k2 k3 e_ms e_sc e_sa hZ1 hZ2 hZ3 m1_ms m1_sc m1_sa kq
            have hu : udT 0 M (some a) = 0 + 1 := by rw [hu0]
            have hfj : ∀ j, j < 8 → f5 j = dgF 0 E j := fun j hj => by
              rw [hf6 j hj]
              rcases hcase with ⟨k, h1, -⟩ | ⟨n9, -, -, h2, -⟩
              · rw [h1, dgF_one, dgF_one]
              · rw [hn2 h2]
            exact ret (v := some q1) dX3_digestOf_95 hm hS (by omega) (by omega) (⟨Z9, _, _, _, q1, f5, rfl, hW9, ⟨e_h, e_ms, e_sc, e_sa, ⟨fn, e_nm, hz⟩, n_1, n_2, n_3, n_4, n_5, n_6⟩, e_q1, hfj, Or.inr hZ9, by rw [hu]; exact hR9⟩)
      · have c_7 : ¬ d ≤ 16 := fun h9 => c_7 ((nI_leI (a := d) (b := 16) (by omega) (by decide)).mpr h9)
        exact absurd (by omega) c_7
  | succ n ih =>
    intro M Z fm fs fa ro E d hW hH hZ1 hZ2 hZ3 hr hd
    cases ro with
    | none =>
      have hE : E = [] := hr
      have hH0 := hH
      obtain ⟨e_h, e_ms, e_sc, e_sa, ⟨fn, e_nm, hz⟩, n_1, n_2, n_3, n_4, n_5, n_6⟩ := hH
      have nh1 : h ≠ ms := ne_lk e_h e_ms (by simp)
      have nh2 : h ≠ sc := ne_lk e_h e_sc (by simp)
      have nh3 : h ≠ sa := ne_lk e_h e_sa (by simp)
      show Cq l g yX3_digestOf cX3_digestOf 6 ((.array .int)) (5 + (n + 1)) (udT (n + 1) M none) (8 * (udT (n + 1) M none)) [.null, .int (nI d), .ref h] M (fun r M9 => ∃ Z9 fm9 fs9 fa9 b f, r = some b ∧ WF g M9 N Z9 ∧ HS g M9 h nm ms sc sa fm9 fs9 fa9 ∧ M9 b = some (aI g 8 f) ∧ (∀ j, j < 8 → f j = dgF (n + 1) E j) ∧ (b = nm ∨ Z9 b ≠ none) ∧ dgR M N Z M9 Z9 (n + 1) E ms sc sa (udT (n + 1) M none))
      refine hp_startQ (by decide) (by exact Nat.le_of_ble_eq_true rfl) (by first | exact Or.inl ⟨_, rfl⟩ | exact Or.inr ⟨_, rfl⟩) ?_
      intro p e s m below meth c Q H locs ls EE hnm ret hm hS hl
      have hx := EE.1
      have hb := EE.2.1
      have hown := EE.2.2.2.1
      have hts := EE.2.2.2.2.1
      have hl : lv_has ls 6 [(0, .null), (1, .int (nI d)), (2, .ref h)] := hl
      refine lv_aload_nN hx hb dX3_digestOf_0 rfl (lv_at hl 0 rfl) ?_
      refine lv_ifnullN (tgt := 10) hx hb dX3_digestOf_1 (by decide) ?_
      refine lv_aload_n hx hb dX3_digestOf_10 rfl (lv_at hl 2 rfl) ?_
      refine hp_get (C := RX0) (T := TX0) (N := 4) (v := .ref nm) EE hm e_h inh0 rfl 0 (by decide) wf_X3_148 rfl dX3_digestOf_11 ?_
      exact ret (v := some nm) dX3_digestOf_14 hm hS (Nat.zero_le _) (Nat.zero_le _) (⟨Z, fm, fs, fa, nm, fn, rfl, hW, hH0, e_nm, fun j hj => by rw [hE, dgF_nil, hz j hj], Or.inl rfl, by rw [udT_none]; exact dgR.rf⟩)
    | some a =>
      have hH0 := hH
      obtain ⟨e_h, e_ms, e_sc, e_sa, ⟨fn, e_nm, hz⟩, n_1, n_2, n_3, n_4, n_5, n_6⟩ := hH
      have nh1 : h ≠ ms := ne_lk e_h e_ms (by simp)
      have nh2 : h ≠ sc := ne_lk e_h e_sc (by simp)
      have nh3 : h ≠ sa := ne_lk e_h e_sa (by simp)
      obtain ⟨n0, hN, hne, hn2⟩ := hr
      have hr0 : rt N (some a) (n + 1) E := ⟨n0, hN, hne, hn2⟩
      obtain ⟨ky, vl, z, o, dg, e_a, hdg, hlen, hcase⟩ := hW.1 a n0 E hN
      have hua : under N (n + 1) E a := ⟨n0, E, hN, fun _ h => h, fun q => by rw [hn2 q]; exact Nat.le_refl _⟩
      have na1 : a ≠ ms := ne_lk e_a e_ms (by simp)
      have na2 : a ≠ sc := ne_lk e_a e_sc (by simp)
      have na3 : a ≠ sa := ne_lk e_a e_sa (by simp)
      show Cq l g yX3_digestOf cX3_digestOf 6 ((.array .int)) (5 + (n + 1)) (udT (n + 1) M (some a)) (8 * (udT (n + 1) M (some a))) [.ref a, .int (nI d), .ref h] M (fun r M9 => ∃ Z9 fm9 fs9 fa9 b f, r = some b ∧ WF g M9 N Z9 ∧ HS g M9 h nm ms sc sa fm9 fs9 fa9 ∧ M9 b = some (aI g 8 f) ∧ (∀ j, j < 8 → f j = dgF (n + 1) E j) ∧ (b = nm ∨ Z9 b ≠ none) ∧ dgR M N Z M9 Z9 (n + 1) E ms sc sa (udT (n + 1) M (some a)))
      refine hp_startQ (by decide) (by exact Nat.le_of_ble_eq_true rfl) (by first | exact Or.inl ⟨_, rfl⟩ | exact Or.inr ⟨_, rfl⟩) ?_
      intro p e s m below meth c Q H locs ls EE hnm ret hm hS hl
      have hx := EE.1
      have hb := EE.2.1
      have hown := EE.2.2.2.1
      have hts := EE.2.2.2.2.1
      have hl : lv_has ls 6 [(0, .ref a), (1, .int (nI d)), (2, .ref h)] := hl
      refine lv_aload_n hx hb dX3_digestOf_0 rfl (lv_at hl 0 rfl) ?_
      refine lv_ifnull hx hb dX3_digestOf_1 ?_
      refine lv_iload_n hx hb dX3_digestOf_4 rfl (lv_at hl 1 rfl) ?_
      refine lv_bipush (v := 16) hx hb dX3_digestOf_5 (by decide) ?_
      refine lv_icmp_le (tgt := 15) hx hb dX3_digestOf_7 (by decide) (fun c_7 => ?_) (fun c_7 => ?_)
      · have c_7 : d ≤ 16 := (nI_leI (a := d) (b := 16) (by omega) (by decide)).mp c_7
        refine lv_aload_n hx hb dX3_digestOf_15 rfl (lv_at hl 0 rfl) ?_
        refine hp_get (C := RX1) (T := TX1) (N := 6) (v := va_rf dg) EE hm e_a inh1 rfl 5 (by decide) wf_X3_151 rfl dX3_digestOf_16 ?_
        refine hq_ifnonnull (tgt := 91) hx hb dX3_digestOf_19 (by decide) (fun b0 hz9 => ?_) (fun hz9 => ?_)
        · rw [hz9] at e_a
          have e_a : M a = some (.inr (1, [.int (nI E.length), .int ky, .int vl, va_rf z, va_rf o, .ref b0])) := e_a
          obtain ⟨f0, e_b0, hf0⟩ := hW.2 b0 n0 E (hdg b0 hz9)
          have hu : udT (n + 1) M (some a) = 0 := by
            show (if und M a then _ else 0) = 0
            rw [und_f e_a]; rfl
          have hdn : dgF n0 E = dgF (n + 1) E := by
            rcases hcase with ⟨k, h1, -⟩ | ⟨n9, -, -, h2, -⟩
            · rw [h1, dgF_one, dgF_one]
            · rw [hn2 h2]
          refine lv_aload_n hx hb dX3_digestOf_91 rfl (lv_at hl 0 rfl) ?_
          refine hp_get (C := RX1) (T := TX1) (N := 6) (v := .ref b0) EE hm e_a inh1 rfl 5 (by decide) wf_X3_151 rfl dX3_digestOf_92 ?_
          exact ret (v := some b0) dX3_digestOf_95 hm hS (by omega) (by omega) (⟨Z, fm, fs, fa, b0, f0, rfl, hW, hH0, e_b0, fun j hj => by rw [hf0 j hj, hdn], Or.inr (by rw [hdg b0 hz9]; exact fun z9 => by cases z9), by rw [hu]; exact dgR.rf⟩)
        · rw [hz9] at e_a
          have e_a : M a = some (.inr (1, [.int (nI E.length), .int ky, .int vl, va_rf z, va_rf o, .null])) := e_a
          have hut := und_t e_a
          have hu0 : udT (n + 1) M (some a) = 1 + udT n M z + udT n M o := by
            show (if und M a then _ else 0) = _
            rw [hut, if_pos rfl, lf_3 e_a, lf_4 e_a]
          have o_ms := e_ms
          have o_sc := e_sc
          have o_sa := e_sa
          have o_nm := e_nm
          have o_a := e_a
          have o_h := e_h
          refine lv_bipush (v := 8) hx hb dX3_digestOf_22 (by decide) ?_
          refine hp_newa (N' := 8) EE hm hS warr (by decide) (by decide) (by decide) (by show 0 + 1 ≤ udT (n + 1) M (some a); omega) (by show 0 + 8 ≤ 8 * (udT (n + 1) M (some a)); omega) dX3_digestOf_24 (fun q1 H hq1 hm hS => ?_)
          obtain ⟨Mx2, hMx2⟩ : ∃ Mz, Mz = hm_up M q1 (aI g 8 (fun _ => 0)) := ⟨_, rfl⟩
          have hm : hp g Mx2 H := by rw [hMx2]; exact hm
          have e_h : Mx2 h = some (.inr (0, [.ref nm, .ref ms, .ref sc, .ref sa])) := by rw [hMx2]; exact up_at (ne_new hq1 e_h) e_h
          have e_nm : Mx2 nm = some (aI g 8 fn) := by rw [hMx2]; exact up_at (ne_new hq1 e_nm) e_nm
          have e_ms : Mx2 ms = some (aI g 32 fm) := by rw [hMx2]; exact up_at (ne_new hq1 e_ms) e_ms
          have e_sc : Mx2 sc = some (aI g 64 fs) := by rw [hMx2]; exact up_at (ne_new hq1 e_sc) e_sc
          have e_sa : Mx2 sa = some (aI g 8 fa) := by rw [hMx2]; exact up_at (ne_new hq1 e_sa) e_sa
          have e_a : Mx2 a = some (.inr (1, [.int (nI E.length), .int ky, .int vl, va_rf z, va_rf o, .null])) := by rw [hMx2]; exact up_at (ne_new hq1 e_a) e_a
          have e_q1 : Mx2 q1 = some (aI g 8 (fun _ => 0)) := by rw [hMx2]; exact up_eq
          have t_ms : q1 ≠ ms := Ne.symm (ne_new hq1 o_ms)
          have t_sc : q1 ≠ sc := Ne.symm (ne_new hq1 o_sc)
          have t_sa : q1 ≠ sa := Ne.symm (ne_new hq1 o_sa)
          have t_nm : q1 ≠ nm := Ne.symm (ne_new hq1 o_nm)
          have t_a : q1 ≠ a := Ne.symm (ne_new hq1 o_a)
          have t_h : q1 ≠ h := Ne.symm (ne_new hq1 o_h)
          have hm1f : ∀ x, x ≠ q1 → Mx2 x = M x := fun x hx => by rw [hMx2, up_ne hx]
          have hW1 : WF g Mx2 N Z := hW.mono (fun x e9 h9 => by rw [hMx2]; exact up_at (ne_new hq1 h9) h9)
          have hZq : Z q1 = none := by
            cases h8 : Z q1 with
            | none => rfl
            | some y => obtain ⟨f8, h81, -⟩ := hW.2 _ _ _ h8; rw [hq1] at h81; cases h81
          have o_qq := e_q1
          have m1_ms : Mx2 ms ≠ none := by rw [e_ms]; exact fun z9 => by cases z9
          have m1_sc : Mx2 sc ≠ none := by rw [e_sc]; exact fun z9 => by cases z9
          have m1_sa : Mx2 sa ≠ none := by rw [e_sa]; exact fun z9 => by cases z9
          refine lv_astore_n (lv' := [(3, .ref q1), (0, .ref a), (1, .int (nI d)), (2, .ref h)]) hx hb dX3_digestOf_26 rfl hl (by decide) rfl (fun ls hl => ?_)
          refine lv_aload_n hx hb dX3_digestOf_27 rfl (lv_at hl 1 rfl) ?_
          refine hp_get (C := RX1) (T := TX1) (N := 6) (v := .int (nI E.length)) EE hm e_a inh1 rfl 0 (by decide) wf_X3_132 rfl dX3_digestOf_28 ?_
          refine lv_iconst (v := 1) hx hb dX3_digestOf_31 (by decide) ?_
          refine lv_icmp_ne (tgt := 51) hx hb dX3_digestOf_32 (by decide) (fun c_32 => ?_) (fun c_32 => ?_)
          · have c_32 : ¬ E.length = 1 := fun h9 => c_32 ((nI_eq (a := E.length) (b := 1) (by omega) (by decide)).mpr h9)
            obtain ⟨n9, hn9, hn16, h2, hrz, hro⟩ : ∃ n9, n0 = n9 + 1 ∧ n9 < 16 ∧ 2 ≤ E.length ∧ rt N z n9 (spl n9 false E) ∧ rt N o n9 (spl n9 true E) := by
              rcases hcase with ⟨k9, h1, -⟩ | h
              · exact absurd (by rw [h1]; rfl) c_32
              · exact h
            have hnn : n9 = n := by have := hn2 h2; omega
            rw [hnn] at hrz hro
            have huz : ∀ q, under N n (spl n false E) q → under N (n + 1) E q := fun q hq => hq.up (fun x hx => (spl_mem.mp hx).1) (Nat.le_succ n)
            have huo : ∀ q, under N n (spl n true E) q → under N (n + 1) E q := fun q hq => hq.up (fun x hx => (spl_mem.mp hx).1) (Nat.le_succ n)
            have hu1 : udT n Mx2 z = udT n M z := udT_eq hW n z _ hrz (fun q8 hq8 => hm1f q8 (fun t8 => by obtain ⟨n8, E8, h81, -⟩ := hq8; rw [t8] at h81; exact absurd rfl (nd_ne hW1 h81 o_qq)))
            refine lv_aload_n hx hb dX3_digestOf_51 rfl (lv_at hl 1 rfl) ?_
            refine hp_get (C := RX1) (T := TX1) (N := 6) (v := va_rf z) EE hm e_a inh1 rfl 3 (by decide) wf_X3_135 rfl dX3_digestOf_52 ?_
            refine lv_iload_n hx hb dX3_digestOf_55 rfl (lv_at hl 2 rfl) ?_
            refine lv_iconst (v := 1) hx hb dX3_digestOf_56 (by decide) ?_
            refine lv_iadd hx hb dX3_digestOf_57 ?_
            rw [nI_1 d]
            refine lv_aload_n hx hb dX3_digestOf_58 rfl (lv_at hl 3 rfl) ?_
            refine hp_cq (hp_runS (np := 3) (k := 5 + n) (mc := udT n Mx2 z) (ms := 8 * udT n Mx2 z) (As := [va_rf z, .int (nI (d + 1)), .ref h]) (rest := []) EE hm hS (ih Mx2 Z fm fs fa z _ (d + 1) hW1 ⟨e_h, e_ms, e_sc, e_sa, ⟨fn, e_nm, hz⟩, n_1, n_2, n_3, n_4, n_5, n_6⟩ hZ1 hZ2 hZ3 hrz (by omega)) ms_X3_digestOf wt_X3_digestOf wl_X3_79 rfl hl.1 rfl (Nat.le_of_ble_eq_true rfl) dX3_digestOf_59 ⟨by show 5 + n + 1 ≤ 5 + (n + 1); omega, by show 8 + (6 + 11) + 100 * (5 + n) ≤ 100 * (5 + (n + 1)); omega⟩ ⟨(by show 0 + 1 + udT n Mx2 z ≤ udT (n + 1) M (some a); omega), (by show 0 + 8 + 8 * udT n Mx2 z ≤ 8 * (udT (n + 1) M (some a)); omega)⟩) hS (fun r3 Mx4 H locs hq5 hm hS => ?_)
            obtain ⟨Z2, fm2, fs2, fa2, b2, f2, hrb2, hW2, hH2, e_b2, hf2, hbz2, hR2⟩ := hq5
            subst hrb2
            have hna2 : ¬ under N n (spl n false E) a := fun ⟨n8, E8, h81, h82, h83⟩ => by rw [hN] at h81; cases h81; have := h83 h2; omega
            have e_a : Mx4 a = some (.inr (1, [.int (nI E.length), .int ky, .int vl, va_rf z, va_rf o, .null])) := hR2.2.2.1 a _ e_a na1 na2 na3 hna2
            have hnq2 : ¬ under N n (spl n false E) q1 := fun ⟨n8, E8, h81, _⟩ => absurd rfl (nd_ne hW1 h81 e_q1)
            have e_q1 : Mx4 q1 = some (aI g 8 (fun _ => 0)) := hR2.2.2.1 q1 _ e_q1 t_ms t_sc t_sa hnq2
            obtain ⟨e_h, e_ms, e_sc, e_sa, ⟨fn, e_nm, hz⟩, n_1, n_2, n_3, n_4, n_5, n_6⟩ := hH2
            have z2_ms : Z2 ms = none := by
              cases h8 : Z2 ms with
              | none => rfl
              | some y => exact absurd (hR2.2.1 ms (by rw [h8]; exact fun z9 => by cases z9) hZ1) m1_ms
            have z2_sc : Z2 sc = none := by
              cases h8 : Z2 sc with
              | none => rfl
              | some y => exact absurd (hR2.2.1 sc (by rw [h8]; exact fun z9 => by cases z9) hZ2) m1_sc
            have z2_sa : Z2 sa = none := by
              cases h8 : Z2 sa with
              | none => rfl
              | some y => exact absurd (hR2.2.1 sa (by rw [h8]; exact fun z9 => by cases z9) hZ3) m1_sa
            have hu2 : udT n Mx4 o = udT n M o := udT_eq hW n o _ hro (fun q8 hq8 => by
              obtain ⟨n8, E8, h81, h82, h83⟩ := hq8
              have hx1 : q8 ≠ q1 := fun t8 => by rw [t8] at h81; exact absurd rfl (nd_ne hW1 h81 o_qq)
              obtain ⟨ky8, vl8, z8, o8, dg8, h84, -, -, h85⟩ := hW.1 q8 n8 E8 h81
              have hne8 : E8 ≠ [] := by rcases h85 with ⟨k8, h86, -⟩ | ⟨m8, -, -, h86, -⟩ <;> intro h87 <;> rw [h87] at h86 <;> simp at h86
              rw [hR2.2.2.1 q8 _ ((hm1f q8 hx1).trans h84) (nd_ne hW h81 o_ms) (nd_ne hW h81 o_sc) (nd_ne hW h81 o_sa) (fun ⟨n7, E7, h71, h72, _⟩ => by
                rw [h81] at h71; cases h71
                obtain ⟨x8, hx8⟩ := List.exists_mem_of_ne_nil E8 hne8
                have := (spl_mem.mp (h72 x8 hx8)).2
                rw [(spl_mem.mp (h82 x8 hx8)).2] at this
                cases this), h84])
            refine lv_astore (lv' := [(4, .ref b2), (3, .ref q1), (0, .ref a), (1, .int (nI d)), (2, .ref h)]) hx hb dX3_digestOf_62 hl (by decide) rfl (fun ls hl => ?_)
            have k2ms := e_ms
            refine lv_aload_n hx hb dX3_digestOf_64 rfl (lv_at hl 2 rfl) ?_
            refine hp_get (C := RX1) (T := TX1) (N := 6) (v := va_rf o) EE hm e_a inh1 rfl 4 (by decide) wf_X3_138 rfl dX3_digestOf_65 ?_
            refine lv_iload_n hx hb dX3_digestOf_68 rfl (lv_at hl 3 rfl) ?_
            refine lv_iconst (v := 1) hx hb dX3_digestOf_69 (by decide) ?_
            refine lv_iadd hx hb dX3_digestOf_70 ?_
            rw [nI_1 d]
            refine lv_aload_n hx hb dX3_digestOf_71 rfl (lv_at hl 4 rfl) ?_
            refine hp_cq (hp_runS (np := 3) (k := 5 + n) (mc := udT n Mx4 o) (ms := 8 * udT n Mx4 o) (As := [va_rf o, .int (nI (d + 1)), .ref h]) (rest := []) EE hm hS (ih Mx4 Z2 fm2 fs2 fa2 o _ (d + 1) hW2 ⟨e_h, e_ms, e_sc, e_sa, ⟨fn, e_nm, hz⟩, n_1, n_2, n_3, n_4, n_5, n_6⟩ z2_ms z2_sc z2_sa hro (by omega)) ms_X3_digestOf wt_X3_digestOf wl_X3_79 rfl hl.1 rfl (Nat.le_of_ble_eq_true rfl) dX3_digestOf_72 ⟨by show 5 + n + 1 ≤ 5 + (n + 1); omega, by show 8 + (6 + 11) + 100 * (5 + n) ≤ 100 * (5 + (n + 1)); omega⟩ ⟨(by show 0 + 1 + (udT n Mx2 z) + udT n Mx4 o ≤ udT (n + 1) M (some a); omega), (by show 0 + 8 + (8 * udT n Mx2 z) + 8 * udT n Mx4 o ≤ 8 * (udT (n + 1) M (some a)); omega)⟩) hS (fun r6 Mx7 H locs hq8 hm hS => ?_)
            obtain ⟨Z3, fm3, fs3, fa3, b3, f3, hrb3, hW3, hH3, e_b3, hf3, hbz3, hR3⟩ := hq8
            subst hrb3
            have hna3 : ¬ under N n (spl n true E) a := fun ⟨n8, E8, h81, h82, h83⟩ => by rw [hN] at h81; cases h81; have := h83 h2; omega
            have e_a : Mx7 a = some (.inr (1, [.int (nI E.length), .int ky, .int vl, va_rf z, va_rf o, .null])) := hR3.2.2.1 a _ e_a na1 na2 na3 hna3
            have hnq3 : ¬ under N n (spl n true E) q1 := fun ⟨n8, E8, h81, _⟩ => absurd rfl (nd_ne hW2 h81 e_q1)
            have e_q1 : Mx7 q1 = some (aI g 8 (fun _ => 0)) := hR3.2.2.1 q1 _ e_q1 t_ms t_sc t_sa hnq3
            have hb2n : ∀ w9, (Z2 w9 = none ∧ w9 ≠ nm) → b2 ≠ w9 := fun w9 h8 h7 => hbz2.elim (fun h6 => h8.2 (h7 ▸ h6)) (fun h6 => h6 (h7 ▸ h8.1))
            have hnb : ¬ under N n (spl n true E) b2 := fun ⟨n8, E8, h81, _⟩ => absurd rfl (nd_ne hW2 h81 e_b2)
            have e_b2 : Mx7 b2 = some (aI g 8 f2) := hR3.2.2.1 b2 _ e_b2 (hb2n ms ⟨z2_ms, Ne.symm n_4⟩) (hb2n sc ⟨z2_sc, Ne.symm n_5⟩) (hb2n sa ⟨z2_sa, Ne.symm n_6⟩) hnb
            obtain ⟨e_h, e_ms, e_sc, e_sa, ⟨fn, e_nm, hz⟩, n_1, n_2, n_3, n_4, n_5, n_6⟩ := hH3
            refine lv_astore (lv' := [(5, .ref b3), (4, .ref b2), (3, .ref q1), (0, .ref a), (1, .int (nI d)), (2, .ref h)]) hx hb dX3_digestOf_75 hl (by decide) rfl (fun ls hl => ?_)
            refine lv_aload_n hx hb dX3_digestOf_77 rfl (lv_at hl 5 rfl) ?_
            refine lv_aload hx hb dX3_digestOf_78 (lv_at hl 1 rfl) ?_
            refine lv_aload hx hb dX3_digestOf_80 (lv_at hl 0 rfl) ?_
            refine lv_aload_n hx hb dX3_digestOf_82 rfl (lv_at hl 2 rfl) ?_
            refine hp_cv (hp_runV (C := RX0) (T := TX0) (N := 4) (np := 3) (k := 4) (mc := 0) (ms := 0) (As := [.ref b2, .ref b3, .ref q1]) (rest := []) EE hm hS (c_X0_hashPair l g Mx7 h nm ms sc sa fm3 fs3 fa3 ⟨e_h, e_ms, e_sc, e_sa, ⟨fn, e_nm, hz⟩, n_1, n_2, n_3, n_4, n_5, n_6⟩ q1 _ e_q1 t_ms t_sc t_sa t_nm b2 b3 f2 f3 e_b2 e_b3 (hb2n ms ⟨z2_ms, Ne.symm n_4⟩) (hbz3.elim (fun h6 => h6 ▸ n_4) (fun h6 h7 => h6 (by
              rw [h7]
              cases h8 : Z3 ms with
              | none => rfl
              | some y => exact absurd (hR3.2.1 ms (by rw [h8]; exact fun z9 => by cases z9) z2_ms) (by rw [k2ms]; exact fun z9 => by cases z9))))) ms_X0_hashPair wi_X0_hashPair ws_X0_hashPair wl_X3_158 e_h rfl rfl hl.1 rfl (Nat.le_of_ble_eq_true rfl) dX3_digestOf_83 ⟨by show 4 + 1 ≤ 5 + (n + 1); omega, by show 8 + (6 + 11) + 100 * (4) ≤ 100 * (5 + (n + 1)); omega⟩ ⟨(by show 0 + 1 + (udT n Mx2 z) + (udT n Mx4 o) + 0 ≤ udT (n + 1) M (some a); omega), (by show 0 + 8 + (8 * udT n Mx2 z) + (8 * udT n Mx4 o) + 0 ≤ 8 * (udT (n + 1) M (some a)); omega)⟩) hS (fun Mx9 H locs hq10 hm hS => ?_)
            have k1 := e_ms
            have k2 := e_sc
            have k3 := e_sa
            have kq := e_q1
            have ka := e_a
            obtain ⟨fm5, fs5, fa5, f5, hH5, e_t5, hfr5, hf5⟩ := hq10
            have e_a : Mx9 a = some (.inr (1, [.int (nI E.length), .int ky, .int vl, va_rf z, va_rf o, .null])) := (hfr5 a na1 na2 na3 (Ne.symm t_a)).trans e_a
            have e_q1 := e_t5
            obtain ⟨e_h, e_ms, e_sc, e_sa, ⟨fn, e_nm, hz⟩, n_1, n_2, n_3, n_4, n_5, n_6⟩ := hH5
            refine lv_aload_n hx hb dX3_digestOf_86 rfl (lv_at hl 3 rfl) ?_
            refine lv_aload_n hx hb dX3_digestOf_87 rfl (lv_at hl 2 rfl) ?_
            refine hp_put (C := RX1) (T := TX1) (N := 6) (v := .ref q1) (ty := .array .int) EE hm hS e_a inh1 tyX1 tyX1_ok nmX1 rfl 5 (by decide) wf_X3_151 rfl (by decide +kernel) rfl rfl (Nat.le_of_ble_eq_true rfl) dX3_digestOf_88 (fun H locs hm hS => ?_)
            obtain ⟨Mx11, hMx11⟩ : ∃ Mz, Mz = hm_up Mx9 a (.inr (1, [.int (nI E.length), .int ky, .int vl, va_rf z, va_rf o, .ref q1])) := ⟨_, rfl⟩
            have hm : hp g Mx11 H := by rw [hMx11]; exact hm
            have e_h : Mx11 h = some (.inr (0, [.ref nm, .ref ms, .ref sc, .ref sa])) := by rw [hMx11]; exact up_at (ne_lk e_h e_a (by simp)) e_h
            have e_nm : Mx11 nm = some (aI g 8 fn) := by rw [hMx11]; exact up_at (ne_lk e_nm e_a (by simp)) e_nm
            have e_ms : Mx11 ms = some (aI g 32 fm5) := by rw [hMx11]; exact up_at (Ne.symm na1) e_ms
            have e_sc : Mx11 sc = some (aI g 64 fs5) := by rw [hMx11]; exact up_at (Ne.symm na2) e_sc
            have e_sa : Mx11 sa = some (aI g 8 fa5) := by rw [hMx11]; exact up_at (Ne.symm na3) e_sa
            have e_q1 : Mx11 q1 = some (aI g 8 f5) := by rw [hMx11]; exact up_at t_a e_q1
            have e_a : Mx11 a = some (.inr (1, [.int (nI E.length), .int ky, .int vl, va_rf z, va_rf o, .ref q1])) := by rw [hMx11]; exact up_eq
            refine lv_aload_n hx hb dX3_digestOf_91 rfl (lv_at hl 3 rfl) ?_
            refine hp_get (C := RX1) (T := TX1) (N := 6) (v := .ref q1) EE hm e_a inh1 rfl 5 (by decide) wf_X3_151 rfl dX3_digestOf_92 ?_
            have hf6 : ∀ j, j < 8 → f5 j = dgF n0 E j := fun j hj => by rw [hf5 j hj, hn9, hnn, dgF_two h2]; exact hPair_w hf2 hf3 hj
            obtain ⟨Z9, hW9, hZ9, hR9⟩ := dig_fin (n0 := n0) (m := n + 1) hW3 (hR2.tr hR3 huz huo) hq1 (fun x hx => hm1f x hx) o_qq hZq hN hua ka e_a e_q1 hf6 (fun x a1 a2 a3 a4 a5 => by rw [hMx11, up_ne a5]; exact hfr5 x a1 a2 a3 a4) k1 k2 k3 e_ms e_sc e_sa hZ1 hZ2 hZ3 m1_ms m1_sc m1_sa kq
            have hu : udT (n + 1) M (some a) = (udT n Mx2 z + udT n Mx4 o) + 1 := by rw [hu0, hu1, hu2]; omega
            have hfj : ∀ j, j < 8 → f5 j = dgF (n + 1) E j := fun j hj => by
              rw [hf6 j hj]
              rcases hcase with ⟨k, h1, -⟩ | ⟨n9, -, -, h2, -⟩
              · rw [h1, dgF_one, dgF_one]
              · rw [hn2 h2]
            exact ret (v := some q1) dX3_digestOf_95 hm hS (by omega) (by omega) (⟨Z9, _, _, _, q1, f5, rfl, hW9, ⟨e_h, e_ms, e_sc, e_sa, ⟨fn, e_nm, hz⟩, n_1, n_2, n_3, n_4, n_5, n_6⟩, e_q1, hfj, Or.inr hZ9, by rw [hu]; exact hR9⟩)
          · have c_32 : E.length = 1 := (nI_eq (a := E.length) (b := 1) (by omega) (by decide)).mp c_32
            obtain ⟨k9, hE, hky, hk9, hz0, ho0⟩ : ∃ k9, E = [(k9, vl)] ∧ ky = nI k9 ∧ k9 < 65536 ∧ z = none ∧ o = none := by
              rcases hcase with h | ⟨n9, -, -, h2, -⟩
              · exact h
              · omega
            refine lv_aload_n hx hb dX3_digestOf_35 rfl (lv_at hl 3 rfl) ?_
            refine lv_aload_n hx hb dX3_digestOf_36 rfl (lv_at hl 1 rfl) ?_
            refine hp_get (C := RX1) (T := TX1) (N := 6) (v := .int ky) EE hm e_a inh1 rfl 1 (by decide) wf_X3_105 rfl dX3_digestOf_37 ?_
            refine lv_aload_n hx hb dX3_digestOf_40 rfl (lv_at hl 1 rfl) ?_
            refine hp_get (C := RX1) (T := TX1) (N := 6) (v := .int vl) EE hm e_a inh1 rfl 2 (by decide) wf_X3_73 rfl dX3_digestOf_41 ?_
            refine lv_aload_n hx hb dX3_digestOf_44 rfl (lv_at hl 0 rfl) ?_
            refine hp_cv (hp_runV (C := RX0) (T := TX0) (N := 4) (np := 3) (k := 4) (mc := 0) (ms := 0) (As := [.int ky, .int vl, .ref q1]) (rest := []) EE hm hS (c_X0_hashEntry l g Mx2 h nm ms sc sa fm fs fa ⟨e_h, e_ms, e_sc, e_sa, ⟨fn, e_nm, hz⟩, n_1, n_2, n_3, n_4, n_5, n_6⟩ q1 _ e_q1 t_ms t_sc t_sa t_nm ky vl) ms_X0_hashEntry wi_X0_hashEntry ws_X0_hashEntry wl_X3_154 e_h rfl rfl hl.1 rfl (Nat.le_of_ble_eq_true rfl) dX3_digestOf_45 ⟨by show 4 + 1 ≤ 5 + (n + 1); omega, by show 8 + (4 + 11) + 100 * (4) ≤ 100 * (5 + (n + 1)); omega⟩ ⟨(by show 0 + 1 + 0 ≤ udT (n + 1) M (some a); omega), (by show 0 + 8 + 0 ≤ 8 * (udT (n + 1) M (some a)); omega)⟩) hS (fun Mx12 H locs hq13 hm hS => ?_)
            have k1 := e_ms
            have k2 := e_sc
            have k3 := e_sa
            have kq := e_q1
            have ka := e_a
            obtain ⟨fm5, fs5, fa5, f5, hH5, e_t5, hfr5, hf5⟩ := hq13
            have e_a : Mx12 a = some (.inr (1, [.int (nI E.length), .int ky, .int vl, va_rf z, va_rf o, .null])) := (hfr5 a na1 na2 na3 (Ne.symm t_a)).trans e_a
            have e_q1 := e_t5
            obtain ⟨e_h, e_ms, e_sc, e_sa, ⟨fn, e_nm, hz⟩, n_1, n_2, n_3, n_4, n_5, n_6⟩ := hH5
            refine lv_goto (tgt := 86) hx hb dX3_digestOf_48 (by decide) ?_
            refine lv_aload_n hx hb dX3_digestOf_86 rfl (lv_at hl 1 rfl) ?_
            refine lv_aload_n hx hb dX3_digestOf_87 rfl (lv_at hl 0 rfl) ?_
            refine hp_put (C := RX1) (T := TX1) (N := 6) (v := .ref q1) (ty := .array .int) EE hm hS e_a inh1 tyX1 tyX1_ok nmX1 rfl 5 (by decide) wf_X3_151 rfl (by decide +kernel) rfl rfl (Nat.le_of_ble_eq_true rfl) dX3_digestOf_88 (fun H locs hm hS => ?_)
            obtain ⟨Mx14, hMx14⟩ : ∃ Mz, Mz = hm_up Mx12 a (.inr (1, [.int (nI E.length), .int ky, .int vl, va_rf z, va_rf o, .ref q1])) := ⟨_, rfl⟩
            have hm : hp g Mx14 H := by rw [hMx14]; exact hm
            have e_h : Mx14 h = some (.inr (0, [.ref nm, .ref ms, .ref sc, .ref sa])) := by rw [hMx14]; exact up_at (ne_lk e_h e_a (by simp)) e_h
            have e_nm : Mx14 nm = some (aI g 8 fn) := by rw [hMx14]; exact up_at (ne_lk e_nm e_a (by simp)) e_nm
            have e_ms : Mx14 ms = some (aI g 32 fm5) := by rw [hMx14]; exact up_at (Ne.symm na1) e_ms
            have e_sc : Mx14 sc = some (aI g 64 fs5) := by rw [hMx14]; exact up_at (Ne.symm na2) e_sc
            have e_sa : Mx14 sa = some (aI g 8 fa5) := by rw [hMx14]; exact up_at (Ne.symm na3) e_sa
            have e_q1 : Mx14 q1 = some (aI g 8 f5) := by rw [hMx14]; exact up_at t_a e_q1
            have e_a : Mx14 a = some (.inr (1, [.int (nI E.length), .int ky, .int vl, va_rf z, va_rf o, .ref q1])) := by rw [hMx14]; exact up_eq
            refine lv_aload_n hx hb dX3_digestOf_91 rfl (lv_at hl 1 rfl) ?_
            refine hp_get (C := RX1) (T := TX1) (N := 6) (v := .ref q1) EE hm e_a inh1 rfl 5 (by decide) wf_X3_151 rfl dX3_digestOf_92 ?_
            have hf6 : ∀ j, j < 8 → f5 j = dgF n0 E j := fun j hj => by rw [hf5 j hj, hE, dgF_one, hky]
            obtain ⟨Z9, hW9, hZ9, hR9⟩ := dig_fin (n0 := n0) (m := (n + 1)) (u := 0) hW1 dgR.rf hq1 (fun x hx => hm1f x hx) o_qq hZq hN hua ka e_a e_q1 hf6 (fun x a1 a2 a3 a4 a5 => by rw [hMx14, up_ne a5]; exact hfr5 x a1 a2 a3 a4) k1 k2 k3 e_ms e_sc e_sa hZ1 hZ2 hZ3 m1_ms m1_sc m1_sa kq
            have hu : udT (n + 1) M (some a) = 0 + 1 := by rw [hu0, hz0, ho0, udT_none]
            have hfj : ∀ j, j < 8 → f5 j = dgF (n + 1) E j := fun j hj => by
              rw [hf6 j hj]
              rcases hcase with ⟨k, h1, -⟩ | ⟨n9, -, -, h2, -⟩
              · rw [h1, dgF_one, dgF_one]
              · rw [hn2 h2]
            exact ret (v := some q1) dX3_digestOf_95 hm hS (by omega) (by omega) (⟨Z9, _, _, _, q1, f5, rfl, hW9, ⟨e_h, e_ms, e_sc, e_sa, ⟨fn, e_nm, hz⟩, n_1, n_2, n_3, n_4, n_5, n_6⟩, e_q1, hfj, Or.inr hZ9, by rw [hu]; exact hR9⟩)
      · have c_7 : ¬ d ≤ 16 := fun h9 => c_7 ((nI_leI (a := d) (b := 16) (by omega) (by decide)).mpr h9)
        exact absurd (by omega) c_7
end
section
section HA
variable {p : Program} {l : Launch} {e : Env} {R : Room} {s : State} {m : MethodId} {args : Array Value} {below : List Frame} {meth : Method} {c : Code} {H : Heap} {locs : List Loc} {cells slots : Nat} {Q : State → Prop}
variable {cc : ByteArray} {pc : Nat} {ls : Array Slot} {rest : List Value} {a : Nat} {g : hG} {M : hM} {own : String} {nL : Nat}
theorem hp_aaldNN (E : hE p c cc nL s args m own g) (hm : hp g M H) {n : Nat} {f : Nat → Option Nat} (he : M a = some (aN g n f)) {x : Int32} (i : Nat) (hi : x = nI i) (hlt : i < n) (hn : n < 2 ^ 31) (hdg : decode cc pc = .ok (.aaload, 1))
    (kk : W p l e R s m args below meth c H locs cells slots Q (F0 m (pc + 1) ls (va_rf (f i) :: rest))) : W p l e R s m args below meth c H locs cells slots Q (F0 m pc ls (.int x :: .ref a :: rest)) := by
  subst hi
  refine hp_aaldN E hm he (vp_in_nI hlt hn) hdg ?_
  rw [nI_clamp (by omega)]
  exact kk
theorem hp_aaldRN (E : hE p c cc nL s args m own g) (hm : hp g M H) {n : Nat} {f : Nat → Nat} (he : M a = some (aR g n (fun i => some (f i)))) {x : Int32} (i : Nat) (hi : x = nI i) (hlt : i < n) (hn : n < 2 ^ 31) (hdg : decode cc pc = .ok (.aaload, 1))
    (kk : W p l e R s m args below meth c H locs cells slots Q (F0 m (pc + 1) ls (.ref (f i) :: rest))) : W p l e R s m args below meth c H locs cells slots Q (F0 m pc ls (.int x :: .ref a :: rest)) := by
  subst hi
  refine hp_aaldR E hm he (vp_in_nI hlt hn) hdg ?_
  rw [nI_clamp (by omega)]
  exact kk
end HA
/-! the state that both programs hold: the map now, the versions, the proof at hand -/
abbrev cSt : Type := En × Nat × (Nat → En) × Nat × Bool × Int32 × Int32 × (Nat → Nat → Int32)
abbrev sNow (σ : cSt) : En := σ.1
abbrev sKc (σ : cSt) : Nat := σ.2.1
abbrev sVs (σ : cSt) : Nat → En := σ.2.2.1
abbrev sPl (σ : cSt) : Nat := σ.2.2.2.1
abbrev sPe (σ : cSt) : Bool := σ.2.2.2.2.1
abbrev sPk (σ : cSt) : Int32 := σ.2.2.2.2.2.1
abbrev sPv (σ : cSt) : Int32 := σ.2.2.2.2.2.2.1
abbrev sSb (σ : cSt) : Nat → Nat → Int32 := σ.2.2.2.2.2.2.2
def gE (E : En) : Prop := srt E ∧ E.length ≤ 300 ∧ ∀ x ∈ E, x.1 < 65536
def pOK (σ : cSt) : Prop := (sPe σ = true → ∃ k, k < 65536 ∧ sPk σ = nI k) ∧ (sPe σ = false → sPk σ = 0 ∧ sPv σ = 0)
/-- the state as such -/
def sOK (σ : cSt) : Prop := sKc σ ≤ 60 ∧ (∀ j, j < sKc σ → gE (sVs σ j)) ∧ gE (sNow σ) ∧ sPl σ ≤ 16 ∧ pOK σ
def isV (σ : cSt) (v : Int32) : Bool := decide (-1 ≤ v) && decide (v < nI (sKc σ))
def mapV (σ : cSt) (v : Int32) : En := if 0 ≤ v then sVs σ v.toNatClampNeg else sNow σ
theorem isV_nat {σ : cSt} {v : Int32} (hk : sKc σ ≤ 60) (h : isV σ v = true) : (v = -1 ∧ mapV σ v = sNow σ) ∨ ∃ j, j < sKc σ ∧ v = nI j ∧ mapV σ v = sVs σ j := by
  unfold isV at h
  rw [Bool.and_eq_true, decide_eq_true_eq, decide_eq_true_eq] at h
  obtain ⟨h1, h2⟩ := h
  by_cases h0 : v < 0
  · left
    have : v = -1 := by
      rw [Int32.le_iff_toInt_le] at h1
      rw [Int32.lt_iff_toInt_lt] at h0
      apply Int32.toInt_inj.mp
      have e1 : (-1 : Int32).toInt = -1 := by decide
      have e0 : (0 : Int32).toInt = 0 := by decide
      omega
    refine ⟨this, ?_⟩
    unfold mapV
    rw [if_neg (by rw [this]; decide)]
  · right
    obtain ⟨j, hj, rfl⟩ := nI_of h0
    refine ⟨j, (nI_ltI hj (by omega)).mp h2, rfl, ?_⟩
    unfold mapV
    rw [if_pos (i_nlt0 h0), nI_clamp hj]
/-- the rows of numbers that are the class's own, apart from each other -/
def DA (nm ms sc sa fo : Nat) (br : Nat → Nat) : Prop := fo ≠ nm ∧ fo ≠ ms ∧ fo ≠ sc ∧ fo ≠ sa ∧ (∀ i, i < 16 → br i ≠ nm ∧ br i ≠ ms ∧ br i ≠ sc ∧ br i ≠ sa ∧ br i ≠ fo) ∧ ∀ i j, i < 16 → j < 16 → br i = br j → i = j
def fxa (nm ms sc sa fo : Nat) (br : Nat → Nat) (q : Nat) : Prop := q = nm ∨ q = ms ∨ q = sc ∨ q = sa ∨ q = fo ∨ ∃ i, i < 16 ∧ q = br i
/-- the class's world -/
def CX (g : hG) (M : hM) (N Z : gT) (x kp pf bs h nm ms sc sa fo : Nat) (br : Nat → Nat) (kf : Nat → Option Nat) (nw : Option Nat) (fm fs fa ff : Nat → Int32) (rv : Nat → Nat → Int32) (σ : cSt) : Prop :=
  WF g M N Z ∧ HS g M h nm ms sc sa fm fs fa ∧ M x = some (.inr (3, [.ref kp, .int (nI (sKc σ)), va_rf nw, .ref pf, .ref h, .ref fo])) ∧ M kp = some (aN g 60 kf) ∧
  M pf = some (.inr (2, [.ref bs, .int (nI (sPl σ)), .int (bI (sPe σ)), .int (sPk σ), .int (sPv σ)])) ∧ M bs = some (aR g 16 (fun i => some (br i))) ∧ (∀ i, i < 16 → M (br i) = some (aI g 8 (rv i))) ∧ M fo = some (aI g 8 ff) ∧
  DA nm ms sc sa fo br ∧ (∀ q, fxa nm ms sc sa fo br q → Z q = none) ∧ sOK σ ∧ (∀ j, j < sKc σ → rt N (kf j) 16 (sVs σ j)) ∧ rt N nw 16 (sNow σ) ∧ ∀ i, i < sPl σ → ∀ j, j < 8 → rv i j = sSb σ i j
def rootR (kf : Nat → Option Nat) (nw : Option Nat) (v : Int32) : Option Nat := if 0 ≤ v ∧ v < 60 then kf v.toNatClampNeg else nw
theorem vp_in60 {v : Int32} {n : Nat} (hn : n < 2 ^ 31) (h : ¬ v < 0) (h2 : ¬ nI n ≤ v) : vp_in v n := by
  obtain ⟨j, hj, rfl⟩ := nI_of h
  refine vp_in_nI ?_ hn
  rcases Nat.lt_or_ge j n with q | q
  · exact q
  · exact absurd (nI_le q hj) h2
theorem isV_a {σ : cSt} {v : Int32} (h : v < -1) : isV σ v = false := by unfold isV; rw [decide_eq_false (Int32.not_le.mpr h)]; rfl
theorem isV_b {σ : cSt} {v : Int32} (h : nI (sKc σ) ≤ v) : isV σ v = false := by unfold isV; rw [decide_eq_false (Int32.not_lt.mpr h), Bool.and_false]
theorem isV_c {σ : cSt} {v : Int32} (h : ¬ v < -1) (h2 : ¬ nI (sKc σ) ≤ v) : isV σ v = true := by unfold isV; rw [decide_eq_true (Int32.not_lt.mp h), decide_eq_true (Int32.not_le.mp h2)]; rfl
def isS (σ : cSt) (k : Int32) : Bool := decide (0 ≤ k) && decide (k < nI (sPl σ))
theorem isS_a {σ : cSt} {v : Int32} (h : v < 0) : isS σ v = false := by unfold isS; rw [decide_eq_false (Int32.not_le.mpr h)]; rfl
theorem isS_b {σ : cSt} {v : Int32} (h : nI (sPl σ) ≤ v) : isS σ v = false := by unfold isS; rw [decide_eq_false (Int32.not_lt.mpr h), Bool.and_false]
theorem isS_c {σ : cSt} {v : Int32} (h : ¬ v < 0) (h2 : ¬ nI (sPl σ) ≤ v) : isS σ v = true := by unfold isS; rw [decide_eq_true (Int32.not_lt.mp h), decide_eq_true (Int32.not_le.mp h2)]; rfl
theorem isS_nat {σ : cSt} {v : Int32} (hl : sPl σ ≤ 16) (h : isS σ v = true) : ∃ j, j < sPl σ ∧ v = nI j := by
  unfold isS at h
  rw [Bool.and_eq_true, decide_eq_true_eq, decide_eq_true_eq] at h
  obtain ⟨j, hj, rfl⟩ := nI_of (Int32.not_lt.mpr h.1)
  exact ⟨j, (nI_ltI hj (by omega)).mp h.2, rfl⟩
theorem isW_nat {v : Int32} (h : isW v = true) : ∃ j, j < 8 ∧ v = nI j := by
  unfold isW at h
  rw [Bool.and_eq_true, decide_eq_true_eq, decide_eq_true_eq] at h
  obtain ⟨j, hj, rfl⟩ := nI_of (Int32.not_lt.mpr h.1)
  exact ⟨j, (nI_ltI (b := 8) hj (by decide)).mp h.2, rfl⟩
theorem isK_nat {v : Int32} (h : isK v = true) : ∃ j, j < 65536 ∧ v = nI j := by
  unfold isK at h
  rw [Bool.and_eq_true, decide_eq_true_eq, decide_eq_true_eq] at h
  obtain ⟨j, hj, rfl⟩ := nI_of (Int32.not_lt.mpr h.1)
  exact ⟨j, (nI_ltI (b := 65536) hj (by decide)).mp h.2, rfl⟩
set_option maxHeartbeats 4000000 in
set_option maxRecDepth 100000 in
theorem c_X3_isVersion (l : Launch) (g : hG) (M : hM) (N Z : gT) (x kp pf bs h nm ms sc sa fo : Nat) (br : Nat → Nat) (kf : Nat → Option Nat) (nw : Option Nat) (fm fs fa ff : Nat → Int32) (rv : Nat → Nat → Int32) (σ : cSt) (hC : CX g M N Z x kp pf bs h nm ms sc sa fo br kf nw fm fs fa ff rv σ) (v0 : Int32) : Ci l g yX3_isVersion cX3_isVersion 2 .boolean 1 0 0 [.ref x, .int v0] M (fun r M9 => r = bI (isV σ v0) ∧ M9 = M) := by
  have hC0 := hC
  obtain ⟨hW, hH, e_x, e_kp, e_pf, e_bs, e_br, e_fo, hDA, hZn, hok, hvs, hnw, hsb⟩ := hC
  obtain ⟨hkc, hvg, hgn, hpl, hpk⟩ := hok
  refine hp_startI (by decide) (by exact Nat.le_of_ble_eq_true rfl) ?_
  intro p e s m below meth c Q H locs ls EE hnm ret hm hS hl
  have hx := EE.1
  have hb := EE.2.1
  have hown := EE.2.2.2.1
  have hts := EE.2.2.2.2.1
  have hl : lv_has ls 2 [(0, .ref x), (1, .int v0)] := hl
  refine lv_iload_n hx hb dX3_isVersion_0 rfl (lv_at hl 1 rfl) ?_
  refine lv_iconst (v := (-1)) hx hb dX3_isVersion_1 (by decide) ?_
  refine lv_icmp_lt (tgt := 17) hx hb dX3_isVersion_2 (by decide) (fun c_2 => ?_) (fun c_2 => ?_)
  · refine lv_iconst (v := 0) hx hb dX3_isVersion_17 (by decide) ?_
    exact ret dX3_isVersion_18 na_0 hm hS (Nat.le_of_ble_eq_true rfl) (Nat.le_of_ble_eq_true rfl) (⟨by first | (rw [isV_a c_2]; rfl) | (rw [isV_b c_10]; rfl) | (rw [isV_c c_2 c_10]; rfl), rfl⟩)
  · refine lv_iload_n hx hb dX3_isVersion_5 rfl (lv_at hl 1 rfl) ?_
    refine lv_aload_n hx hb dX3_isVersion_6 rfl (lv_at hl 0 rfl) ?_
    refine hp_get (C := RX3) (T := TX3) (N := 6) (v := .int (nI (sKc σ))) EE hm e_x inh3 rfl 1 (by decide) wf_X3_15 rfl dX3_isVersion_7 ?_
    refine lv_icmp_ge (tgt := 17) hx hb dX3_isVersion_10 (by decide) (fun c_10 => ?_) (fun c_10 => ?_)
    · refine lv_iconst (v := 0) hx hb dX3_isVersion_17 (by decide) ?_
      exact ret dX3_isVersion_18 na_0 hm hS (Nat.le_of_ble_eq_true rfl) (Nat.le_of_ble_eq_true rfl) (⟨by first | (rw [isV_a c_2]; rfl) | (rw [isV_b c_10]; rfl) | (rw [isV_c c_2 c_10]; rfl), rfl⟩)
    · refine lv_iconst (v := 1) hx hb dX3_isVersion_13 (by decide) ?_
      refine lv_goto (tgt := 18) hx hb dX3_isVersion_14 (by decide) ?_
      exact ret dX3_isVersion_18 na_1 hm hS (Nat.le_of_ble_eq_true rfl) (Nat.le_of_ble_eq_true rfl) (⟨by first | (rw [isV_a c_2]; rfl) | (rw [isV_b c_10]; rfl) | (rw [isV_c c_2 c_10]; rfl), rfl⟩)
set_option maxHeartbeats 4000000 in
set_option maxRecDepth 100000 in
theorem c_X3_isSibling (l : Launch) (g : hG) (M : hM) (N Z : gT) (x kp pf bs h nm ms sc sa fo : Nat) (br : Nat → Nat) (kf : Nat → Option Nat) (nw : Option Nat) (fm fs fa ff : Nat → Int32) (rv : Nat → Nat → Int32) (σ : cSt) (hC : CX g M N Z x kp pf bs h nm ms sc sa fo br kf nw fm fs fa ff rv σ) (v0 : Int32) : Ci l g yX3_isSibling cX3_isSibling 2 .boolean 1 0 0 [.ref x, .int v0] M (fun r M9 => r = bI (isS σ v0) ∧ M9 = M) := by
  have hC0 := hC
  obtain ⟨hW, hH, e_x, e_kp, e_pf, e_bs, e_br, e_fo, hDA, hZn, hok, hvs, hnw, hsb⟩ := hC
  obtain ⟨hkc, hvg, hgn, hpl, hpk⟩ := hok
  refine hp_startI (by decide) (by exact Nat.le_of_ble_eq_true rfl) ?_
  intro p e s m below meth c Q H locs ls EE hnm ret hm hS hl
  have hx := EE.1
  have hb := EE.2.1
  have hown := EE.2.2.2.1
  have hts := EE.2.2.2.2.1
  have hl : lv_has ls 2 [(0, .ref x), (1, .int v0)] := hl
  refine lv_iload_n hx hb dX3_isSibling_0 rfl (lv_at hl 1 rfl) ?_
  refine lv_if_lt (tgt := 25) hx hb dX3_isSibling_1 (by decide) (fun c_1 => ?_) (fun c_1 => ?_)
  · refine lv_iconst (v := 0) hx hb dX3_isSibling_25 (by decide) ?_
    exact ret dX3_isSibling_26 na_0 hm hS (Nat.le_of_ble_eq_true rfl) (Nat.le_of_ble_eq_true rfl) (⟨by first | (rw [isS_a c_1]; rfl) | (rw [isS_b c_12]; rfl) | (rw [isS_c c_1 c_12]; rfl) | exact absurd (Int32.le_trans (nI_le (b := 16) hpl (by decide)) c_18) c_12, rfl⟩)
  · refine lv_iload_n hx hb dX3_isSibling_4 rfl (lv_at hl 1 rfl) ?_
    refine lv_aload_n hx hb dX3_isSibling_5 rfl (lv_at hl 0 rfl) ?_
    refine hp_get (C := RX3) (T := TX3) (N := 6) (v := .ref pf) EE hm e_x inh3 rfl 3 (by decide) wf_X3_26 rfl dX3_isSibling_6 ?_
    refine hp_get (C := RX2) (T := TX2) (N := 5) (v := .int (nI (sPl σ))) EE hm e_pf inh2 rfl 1 (by decide) wf_X3_99 rfl dX3_isSibling_9 ?_
    refine lv_icmp_ge (tgt := 25) hx hb dX3_isSibling_12 (by decide) (fun c_12 => ?_) (fun c_12 => ?_)
    · refine lv_iconst (v := 0) hx hb dX3_isSibling_25 (by decide) ?_
      exact ret dX3_isSibling_26 na_0 hm hS (Nat.le_of_ble_eq_true rfl) (Nat.le_of_ble_eq_true rfl) (⟨by first | (rw [isS_a c_1]; rfl) | (rw [isS_b c_12]; rfl) | (rw [isS_c c_1 c_12]; rfl) | exact absurd (Int32.le_trans (nI_le (b := 16) hpl (by decide)) c_18) c_12, rfl⟩)
    · refine lv_iload_n hx hb dX3_isSibling_15 rfl (lv_at hl 1 rfl) ?_
      refine lv_bipush (v := 16) hx hb dX3_isSibling_16 (by decide) ?_
      refine lv_icmp_ge (tgt := 25) hx hb dX3_isSibling_18 (by decide) (fun c_18 => ?_) (fun c_18 => ?_)
      · refine lv_iconst (v := 0) hx hb dX3_isSibling_25 (by decide) ?_
        exact ret dX3_isSibling_26 na_0 hm hS (Nat.le_of_ble_eq_true rfl) (Nat.le_of_ble_eq_true rfl) (⟨by first | (rw [isS_a c_1]; rfl) | (rw [isS_b c_12]; rfl) | (rw [isS_c c_1 c_12]; rfl) | exact absurd (Int32.le_trans (nI_le (b := 16) hpl (by decide)) c_18) c_12, rfl⟩)
      · refine lv_iconst (v := 1) hx hb dX3_isSibling_21 (by decide) ?_
        refine lv_goto (tgt := 26) hx hb dX3_isSibling_22 (by decide) ?_
        exact ret dX3_isSibling_26 na_1 hm hS (Nat.le_of_ble_eq_true rfl) (Nat.le_of_ble_eq_true rfl) (⟨by first | (rw [isS_a c_1]; rfl) | (rw [isS_b c_12]; rfl) | (rw [isS_c c_1 c_12]; rfl) | exact absurd (Int32.le_trans (nI_le (b := 16) hpl (by decide)) c_18) c_12, rfl⟩)
set_option maxHeartbeats 4000000 in
set_option maxRecDepth 100000 in
theorem c_X3_rootOf (l : Launch) (g : hG) (M : hM) (N Z : gT) (x kp pf bs h nm ms sc sa fo : Nat) (br : Nat → Nat) (kf : Nat → Option Nat) (nw : Option Nat) (fm fs fa ff : Nat → Int32) (rv : Nat → Nat → Int32) (σ : cSt) (hC : CX g M N Z x kp pf bs h nm ms sc sa fo br kf nw fm fs fa ff rv σ) (v0 : Int32) : Cq l g yX3_rootOf cX3_rootOf 2 ((.object "ProofMap$Node")) 1 0 0 [.ref x, .int v0] M (fun r M9 => r = rootR kf nw v0 ∧ M9 = M) := by
  have hC0 := hC
  obtain ⟨hW, hH, e_x, e_kp, e_pf, e_bs, e_br, e_fo, hDA, hZn, hok, hvs, hnw, hsb⟩ := hC
  obtain ⟨hkc, hvg, hgn, hpl, hpk⟩ := hok
  refine hp_startQ (by decide) (by exact Nat.le_of_ble_eq_true rfl) (by first | exact Or.inl ⟨_, rfl⟩ | exact Or.inr ⟨_, rfl⟩) ?_
  intro p e s m below meth c Q H locs ls EE hnm ret hm hS hl
  have hx := EE.1
  have hb := EE.2.1
  have hown := EE.2.2.2.1
  have hts := EE.2.2.2.2.1
  have hl : lv_has ls 2 [(0, .ref x), (1, .int v0)] := hl
  refine lv_iload_n hx hb dX3_rootOf_0 rfl (lv_at hl 1 rfl) ?_
  refine lv_if_lt (tgt := 19) hx hb dX3_rootOf_1 (by decide) (fun c_1 => ?_) (fun c_1 => ?_)
  · refine lv_aload_n hx hb dX3_rootOf_19 rfl (lv_at hl 0 rfl) ?_
    refine hp_get (C := RX3) (T := TX3) (N := 6) (v := va_rf nw) EE hm e_x inh3 rfl 2 (by decide) wf_X3_19 rfl dX3_rootOf_20 ?_
    exact ret (v := nw) dX3_rootOf_23 hm hS (Nat.le_of_ble_eq_true rfl) (Nat.le_of_ble_eq_true rfl) (⟨by unfold rootR; rw [if_neg (by first | exact fun h => absurd c_1 (Int32.not_lt.mpr h.1) | exact fun h => absurd c_7 (Int32.not_le.mpr h.2))], rfl⟩)
  · refine lv_iload_n hx hb dX3_rootOf_4 rfl (lv_at hl 1 rfl) ?_
    refine lv_bipush (v := 60) hx hb dX3_rootOf_5 (by decide) ?_
    refine lv_icmp_ge (tgt := 19) hx hb dX3_rootOf_7 (by decide) (fun c_7 => ?_) (fun c_7 => ?_)
    · refine lv_aload_n hx hb dX3_rootOf_19 rfl (lv_at hl 0 rfl) ?_
      refine hp_get (C := RX3) (T := TX3) (N := 6) (v := va_rf nw) EE hm e_x inh3 rfl 2 (by decide) wf_X3_19 rfl dX3_rootOf_20 ?_
      exact ret (v := nw) dX3_rootOf_23 hm hS (Nat.le_of_ble_eq_true rfl) (Nat.le_of_ble_eq_true rfl) (⟨by unfold rootR; rw [if_neg (by first | exact fun h => absurd c_1 (Int32.not_lt.mpr h.1) | exact fun h => absurd c_7 (Int32.not_le.mpr h.2))], rfl⟩)
    · refine lv_aload_n hx hb dX3_rootOf_10 rfl (lv_at hl 0 rfl) ?_
      refine hp_get (C := RX3) (T := TX3) (N := 6) (v := .ref kp) EE hm e_x inh3 rfl 0 (by decide) wf_X3_11 rfl dX3_rootOf_11 ?_
      refine lv_iload_n hx hb dX3_rootOf_14 rfl (lv_at hl 1 rfl) ?_
      refine hp_aaldN EE hm e_kp (vp_in60 (n := 60) (by decide) c_1 c_7) dX3_rootOf_15 ?_
      refine lv_goto (tgt := 23) hx hb dX3_rootOf_16 (by decide) ?_
      exact ret (v := kf v0.toNatClampNeg) dX3_rootOf_23 hm hS (Nat.le_of_ble_eq_true rfl) (Nat.le_of_ble_eq_true rfl) (⟨by unfold rootR; rw [if_pos ⟨i_nlt0 c_1, Int32.not_le.mp c_7⟩], rfl⟩)
set_option maxHeartbeats 4000000 in
set_option maxRecDepth 100000 in
theorem c_X3_siblings (l : Launch) (g : hG) (M : hM) (N Z : gT) (x kp pf bs h nm ms sc sa fo : Nat) (br : Nat → Nat) (kf : Nat → Option Nat) (nw : Option Nat) (fm fs fa ff : Nat → Int32) (rv : Nat → Nat → Int32) (σ : cSt) (hC : CX g M N Z x kp pf bs h nm ms sc sa fo br kf nw fm fs fa ff rv σ) : Ci l g yX3_siblings cX3_siblings 1 .int 1 0 0 [.ref x] M (fun r M9 => r = nI (sPl σ) ∧ M9 = M) := by
  have hC0 := hC
  obtain ⟨hW, hH, e_x, e_kp, e_pf, e_bs, e_br, e_fo, hDA, hZn, hok, hvs, hnw, hsb⟩ := hC
  obtain ⟨hkc, hvg, hgn, hpl, hpk⟩ := hok
  refine hp_startI (by decide) (by exact Nat.le_of_ble_eq_true rfl) ?_
  intro p e s m below meth c Q H locs ls EE hnm ret hm hS hl
  have hx := EE.1
  have hb := EE.2.1
  have hown := EE.2.2.2.1
  have hts := EE.2.2.2.2.1
  have hl : lv_has ls 1 [(0, .ref x)] := hl
  refine lv_aload_n hx hb dX3_siblings_0 rfl (lv_at hl 0 rfl) ?_
  refine hp_get (C := RX3) (T := TX3) (N := 6) (v := .ref pf) EE hm e_x inh3 rfl 3 (by decide) wf_X3_26 rfl dX3_siblings_1 ?_
  refine hp_get (C := RX2) (T := TX2) (N := 5) (v := .int (nI (sPl σ))) EE hm e_pf inh2 rfl 1 (by decide) wf_X3_99 rfl dX3_siblings_4 ?_
  exact ret dX3_siblings_7 na_i hm hS (Nat.le_of_ble_eq_true rfl) (Nat.le_of_ble_eq_true rfl) (⟨rfl, rfl⟩)
set_option maxHeartbeats 4000000 in
set_option maxRecDepth 100000 in
theorem c_X3_versions (l : Launch) (g : hG) (M : hM) (N Z : gT) (x kp pf bs h nm ms sc sa fo : Nat) (br : Nat → Nat) (kf : Nat → Option Nat) (nw : Option Nat) (fm fs fa ff : Nat → Int32) (rv : Nat → Nat → Int32) (σ : cSt) (hC : CX g M N Z x kp pf bs h nm ms sc sa fo br kf nw fm fs fa ff rv σ) : Ci l g yX3_versions cX3_versions 1 .int 1 0 0 [.ref x] M (fun r M9 => r = nI (sKc σ) ∧ M9 = M) := by
  have hC0 := hC
  obtain ⟨hW, hH, e_x, e_kp, e_pf, e_bs, e_br, e_fo, hDA, hZn, hok, hvs, hnw, hsb⟩ := hC
  obtain ⟨hkc, hvg, hgn, hpl, hpk⟩ := hok
  refine hp_startI (by decide) (by exact Nat.le_of_ble_eq_true rfl) ?_
  intro p e s m below meth c Q H locs ls EE hnm ret hm hS hl
  have hx := EE.1
  have hb := EE.2.1
  have hown := EE.2.2.2.1
  have hts := EE.2.2.2.2.1
  have hl : lv_has ls 1 [(0, .ref x)] := hl
  refine lv_aload_n hx hb dX3_versions_0 rfl (lv_at hl 0 rfl) ?_
  refine hp_get (C := RX3) (T := TX3) (N := 6) (v := .int (nI (sKc σ))) EE hm e_x inh3 rfl 1 (by decide) wf_X3_15 rfl dX3_versions_1 ?_
  exact ret dX3_versions_4 na_i hm hS (Nat.le_of_ble_eq_true rfl) (Nat.le_of_ble_eq_true rfl) (⟨rfl, rfl⟩)
theorem rootR_rt {N : gT} {kf : Nat → Option Nat} {nw : Option Nat} {σ : cSt} {v : Int32} (hk : sKc σ ≤ 60) (hvs : ∀ j, j < sKc σ → rt N (kf j) 16 (sVs σ j)) (hnw : rt N nw 16 (sNow σ)) (h : isV σ v = true) : rt N (rootR kf nw v) 16 (mapV σ v) := by
  rcases isV_nat hk h with ⟨h1, h2⟩ | ⟨j, h1, h2, h3⟩
  · rw [h2]; unfold rootR; rw [if_neg (by rw [h1]; decide)]; exact hnw
  · rw [h3]; unfold rootR
    rw [if_pos ⟨by rw [h2]; exact nI_pos' (by omega), by rw [h2]; exact nI_lt (b := 60) (by omega) (by decide)⟩, h2, nI_clamp (by omega)]
    exact hvs j h1
theorem mapV_g {σ : cSt} {v : Int32} (hok : sOK σ) (h : isV σ v = true) : gE (mapV σ v) := by
  obtain ⟨hk, hv, hn, -⟩ := hok
  rcases isV_nat hk h with ⟨h1, h2⟩ | ⟨j, h1, h2, h3⟩
  · rw [h2]; exact hn
  · rw [h3]; exact hv j h1
end
section
theorem bI_f {b : Bool} (h : bI b = 0) : b = false := by
  cases b with
  | false => rfl
  | true => exact absurd h (by decide)
theorem bI_t {b : Bool} (h : ¬ bI b = 0) : b = true := by
  cases b with
  | true => rfl
  | false => exact absurd rfl h
/-- the value of a key -/
def lkE (E : En) (k : Nat) : Option Int32 := (E.find? (fun x => x.1 == k)).map (fun x => x.2)
def vaE (E : En) : Int32 := match E with
  | [] => 0
  | x :: _ => x.2
theorem lkE_cons (x : Nat × Int32) (t : En) (k : Nat) : lkE (x :: t) k = if x.1 = k then some x.2 else lkE t k := by
  unfold lkE
  rw [List.find?_cons]
  by_cases h : x.1 = k
  · rw [if_pos h, show (x.1 == k) = true by simp [h]]; rfl
  · rw [if_neg h, show (x.1 == k) = false by simp [h]]
theorem lkE_spl (n k : Nat) : ∀ E : En, lkE (spl n (k.testBit n) E) k = lkE E k
  | [] => rfl
  | x :: t => by
    have ih := lkE_spl n k t
    by_cases h : x.1.testBit n = k.testBit n
    · rw [spl_in h, lkE_cons, lkE_cons, ih]
    · rw [spl_out h, lkE_cons, if_neg (fun q => h (by rw [q])), ih]
theorem end_lk (k : Nat) : ∀ (n : Nat) (E : En), pre n k E → srt E → lkE E k = if isEn (endE n k E) k then some (vaE (endE n k E)) else none := by
  intro n
  induction n with
  | zero =>
    intro E hp hs
    rcases pre_0 hp hs with q | ⟨v, q⟩
    · rw [q]; rfl
    · rw [q]; simp [endE, isEn, vaE, lkE]
  | succ n ih =>
    intro E hp hs
    by_cases h : E.length ≤ 1
    · rw [endE_1 h]
      match E, h with
      | [], _ => rfl
      | [x], _ =>
        rw [lkE_cons]
        by_cases q : x.1 = k
        · rw [if_pos q]; simp [isEn, q, vaE]
        · rw [if_neg q]; simp [isEn, q, lkE]
    · rw [endE_2 h, ← ih _ (pre_spl hp) (srt_spl hs _ _), lkE_spl]
theorem pre_16 {k : Nat} {E : En} (hk : k < 65536) (h : ∀ x ∈ E, x.1 < 65536) : pre 16 k E := fun x hx => by
  have := h x hx
  rw [Nat.shiftRight_eq_div_pow, Nat.shiftRight_eq_div_pow]
  omega
/-- the answers, from the state -/
def rSize (σ : cSt) (v : Int32) : Int32 := if isV σ v then nI (mapV σ v).length else -1
def rGet (σ : cSt) (v k : Int32) : Int64 := if isV σ v && isK k then (match lkE (mapV σ v) k.toNatClampNeg with
  | some w => w.toInt64
  | none => 9223372036854775807) else 9223372036854775807
def rSib (σ : cSt) (k i : Int32) : Int32 := if isS σ k && isW i then sSb σ k.toNatClampNeg i.toNatClampNeg else 0
def rEnd (σ : cSt) (w : Int32) : Int32 := if w = 0 then bI (sPe σ) else if w = 1 then sPk σ else if w = 2 then sPv σ else -1
/-- at how many first bits two keys are alike, of n -/
def alk : Nat → Nat → Nat → Nat
  | 0, _, _ => 0
  | n + 1, a, b => if a.testBit n = b.testBit n then alk n a b + 1 else 0
def rAlike (a b : Int32) : Int32 := if isK a && isK b then nI (alk 16 a.toNatClampNeg b.toNatClampNeg) else -1
set_option maxHeartbeats 4000000 in
set_option maxRecDepth 100000 in
theorem c_X3_size (l : Launch) (g : hG) (M : hM) (N Z : gT) (x kp pf bs h nm ms sc sa fo : Nat) (br : Nat → Nat) (kf : Nat → Option Nat) (nw : Option Nat) (fm fs fa ff : Nat → Int32) (rv : Nat → Nat → Int32) (σ : cSt) (hC : CX g M N Z x kp pf bs h nm ms sc sa fo br kf nw fm fs fa ff rv σ) (v0 : Int32) : Ci l g yX3_size cX3_size 2 .int 2 0 0 [.ref x, .int v0] M (fun r M9 => r = rSize σ v0 ∧ M9 = M) := by
  have hC0 := hC
  obtain ⟨hW, hH, e_x, e_kp, e_pf, e_bs, e_br, e_fo, hDA, hZn, hok, hvs, hnw, hsb⟩ := hC
  obtain ⟨hkc, hvg, hgn, hpl, hpk⟩ := hok
  refine hp_startI (by decide) (by exact Nat.le_of_ble_eq_true rfl) ?_
  intro p e s m below meth c Q H locs ls EE hnm ret hm hS hl
  have hx := EE.1
  have hb := EE.2.1
  have hown := EE.2.2.2.1
  have hts := EE.2.2.2.2.1
  have hl : lv_has ls 2 [(0, .ref x), (1, .int v0)] := hl
  refine lv_aload_n hx hb dX3_size_0 rfl (lv_at hl 0 rfl) ?_
  refine lv_iload_n hx hb dX3_size_1 rfl (lv_at hl 1 rfl) ?_
  refine hp_ci (hp_runV (C := RX3) (T := TX3) (N := 6) (np := 1) (k := 1) (mc := 0) (ms := 0) (As := [.int v0]) (rest := []) EE hm hS (c_X3_isVersion l g M N Z x kp pf bs h nm ms sc sa fo br kf nw fm fs fa ff rv σ hC0 v0) ms_X3_isVersion wi_X3_isVersion ws_X3_isVersion wl_X3_64 e_x rfl rfl hl.1 rfl (Nat.le_of_ble_eq_true rfl) dX3_size_2 ⟨Nat.le_of_ble_eq_true rfl, Nat.le_of_ble_eq_true rfl⟩ ⟨(Nat.le_of_ble_eq_true rfl), (Nat.le_of_ble_eq_true rfl)⟩) hS (fun r1 Mx2 H locs hq3 hm hS => ?_)
  obtain ⟨rfl, h9⟩ := hq3
  rw [h9] at hm
  refine lv_if_eq (tgt := 19) hx hb dX3_size_5 (by decide) (fun c_5 => ?_) (fun c_5 => ?_)
  · have c_5 := bI_f c_5
    refine lv_iconst (v := (-1)) hx hb dX3_size_19 (by decide) ?_
    exact ret dX3_size_20 na_i hm hS (Nat.le_of_ble_eq_true rfl) (Nat.le_of_ble_eq_true rfl) (⟨by unfold rSize; rw [c_5]; rfl, rfl⟩)
  · have c_5 := bI_t c_5
    refine lv_aload_n hx hb dX3_size_8 rfl (lv_at hl 0 rfl) ?_
    refine lv_iload_n hx hb dX3_size_9 rfl (lv_at hl 1 rfl) ?_
    refine hp_cq (hp_runV (C := RX3) (T := TX3) (N := 6) (np := 1) (k := 1) (mc := 0) (ms := 0) (As := [.int v0]) (rest := []) EE hm hS (c_X3_rootOf l g M N Z x kp pf bs h nm ms sc sa fo br kf nw fm fs fa ff rv σ hC0 v0) ms_X3_rootOf wi_X3_rootOf ws_X3_rootOf wl_X3_69 e_x rfl rfl hl.1 rfl (Nat.le_of_ble_eq_true rfl) dX3_size_10 ⟨Nat.le_of_ble_eq_true rfl, Nat.le_of_ble_eq_true rfl⟩ ⟨(Nat.le_of_ble_eq_true rfl), (Nat.le_of_ble_eq_true rfl)⟩) hS (fun r4 Mx5 H locs hq6 hm hS => ?_)
    obtain ⟨hro, h9⟩ := hq6
    rw [h9] at hm
    have hrt := rootR_rt hkc hvs hnw c_5
    rw [← hro] at hrt
    have hgm := mapV_g ⟨hkc, hvg, hgn, hpl, hpk⟩ c_5
    refine hp_ci (hp_runS (np := 1) (k := 1) (mc := 0) (ms := 0) (As := [va_rf r4]) (rest := []) EE hm hS (c_X3_countOf l g M N Z hW r4 16 _ hrt) ms_X3_countOf wt_X3_countOf wl_X3_53 rfl hl.1 rfl (Nat.le_of_ble_eq_true rfl) dX3_size_13 ⟨Nat.le_of_ble_eq_true rfl, Nat.le_of_ble_eq_true rfl⟩ ⟨(Nat.le_of_ble_eq_true rfl), (Nat.le_of_ble_eq_true rfl)⟩) hS (fun r7 Mx8 H locs hq9 hm hS => ?_)
    obtain ⟨rfl, h9⟩ := hq9
    rw [h9] at hm
    refine lv_goto (tgt := 20) hx hb dX3_size_16 (by decide) ?_
    exact ret dX3_size_20 na_i hm hS (Nat.le_of_ble_eq_true rfl) (Nat.le_of_ble_eq_true rfl) (⟨by unfold rSize; rw [c_5]; rfl, rfl⟩)
set_option maxHeartbeats 4000000 in
set_option maxRecDepth 100000 in
theorem c_X3_get (l : Launch) (g : hG) (M : hM) (N Z : gT) (x kp pf bs h nm ms sc sa fo : Nat) (br : Nat → Nat) (kf : Nat → Option Nat) (nw : Option Nat) (fm fs fa ff : Nat → Int32) (rv : Nat → Nat → Int32) (σ : cSt) (hC : CX g M N Z x kp pf bs h nm ms sc sa fo br kf nw fm fs fa ff rv σ) (v0 k0 : Int32) : Cl l g yX3_get cX3_get 4 4 0 0 [.ref x, .int v0, .int k0] M (fun r M9 => r = rGet σ v0 k0 ∧ M9 = M) := by
  have hC0 := hC
  obtain ⟨hW, hH, e_x, e_kp, e_pf, e_bs, e_br, e_fo, hDA, hZn, hok, hvs, hnw, hsb⟩ := hC
  obtain ⟨hkc, hvg, hgn, hpl, hpk⟩ := hok
  refine hp_startL (by decide) (by exact Nat.le_of_ble_eq_true rfl) ?_
  intro p e s m below meth c Q H locs ls EE hnm ret hm hS hl
  have hx := EE.1
  have hb := EE.2.1
  have hown := EE.2.2.2.1
  have hts := EE.2.2.2.2.1
  have hl : lv_has ls 4 [(0, .ref x), (1, .int v0), (2, .int k0)] := hl
  refine lv_aload_n hx hb dX3_get_0 rfl (lv_at hl 0 rfl) ?_
  refine lv_iload_n hx hb dX3_get_1 rfl (lv_at hl 1 rfl) ?_
  refine hp_ci (hp_runV (C := RX3) (T := TX3) (N := 6) (np := 1) (k := 1) (mc := 0) (ms := 0) (As := [.int v0]) (rest := []) EE hm hS (c_X3_isVersion l g M N Z x kp pf bs h nm ms sc sa fo br kf nw fm fs fa ff rv σ hC0 v0) ms_X3_isVersion wi_X3_isVersion ws_X3_isVersion wl_X3_64 e_x rfl rfl hl.1 rfl (Nat.le_of_ble_eq_true rfl) dX3_get_2 ⟨Nat.le_of_ble_eq_true rfl, Nat.le_of_ble_eq_true rfl⟩ ⟨(Nat.le_of_ble_eq_true rfl), (Nat.le_of_ble_eq_true rfl)⟩) hS (fun r1 Mx2 H locs hq3 hm hS => ?_)
  obtain ⟨rfl, h9⟩ := hq3
  rw [h9] at hm
  refine lv_if_eq (tgt := 15) hx hb dX3_get_5 (by decide) (fun c_5 => ?_) (fun c_5 => ?_)
  · have c_5 := bI_f c_5
    refine lv_ldc2 (v := 9223372036854775807) hx hb hown (hts _ wk_X3_67) dX3_get_15 ?_
    exact ret dX3_get_18 hm hS (Nat.le_of_ble_eq_true rfl) (Nat.le_of_ble_eq_true rfl) (⟨by unfold rGet; first | (rw [c_5]; rfl) | (rw [c_5, c_12]; rfl), rfl⟩)
  · have c_5 := bI_t c_5
    refine lv_iload_n hx hb dX3_get_8 rfl (lv_at hl 2 rfl) ?_
    refine hp_ci (hp_runS (np := 1) (k := 1) (mc := 0) (ms := 0) (As := [.int k0]) (rest := []) EE hm hS (c_X3_isKey l g M k0) ms_X3_isKey wt_X3_isKey wl_X3_41 rfl hl.1 rfl (Nat.le_of_ble_eq_true rfl) dX3_get_9 ⟨Nat.le_of_ble_eq_true rfl, Nat.le_of_ble_eq_true rfl⟩ ⟨(Nat.le_of_ble_eq_true rfl), (Nat.le_of_ble_eq_true rfl)⟩) hS (fun r4 Mx5 H locs hq6 hm hS => ?_)
    obtain ⟨rfl, h9⟩ := hq6
    rw [h9] at hm
    refine lv_if_ne (tgt := 19) hx hb dX3_get_12 (by decide) (fun c_12 => ?_) (fun c_12 => ?_)
    · have c_12 := bI_t c_12
      obtain ⟨kn, hkn, hke⟩ := isK_nat c_12
      subst hke
      refine lv_aload_n hx hb dX3_get_19 rfl (lv_at hl 0 rfl) ?_
      refine lv_iload_n hx hb dX3_get_20 rfl (lv_at hl 1 rfl) ?_
      refine hp_cq (hp_runV (C := RX3) (T := TX3) (N := 6) (np := 1) (k := 1) (mc := 0) (ms := 0) (As := [.int v0]) (rest := []) EE hm hS (c_X3_rootOf l g M N Z x kp pf bs h nm ms sc sa fo br kf nw fm fs fa ff rv σ hC0 v0) ms_X3_rootOf wi_X3_rootOf ws_X3_rootOf wl_X3_69 e_x rfl rfl hl.1 rfl (Nat.le_of_ble_eq_true rfl) dX3_get_21 ⟨Nat.le_of_ble_eq_true rfl, Nat.le_of_ble_eq_true rfl⟩ ⟨(Nat.le_of_ble_eq_true rfl), (Nat.le_of_ble_eq_true rfl)⟩) hS (fun r7 Mx8 H locs hq9 hm hS => ?_)
      obtain ⟨hro, h9⟩ := hq9
      rw [h9] at hm
      have hrt := rootR_rt hkc hvs hnw c_5
      rw [← hro] at hrt
      have hgm := mapV_g ⟨hkc, hvg, hgn, hpl, hpk⟩ c_5
      refine lv_iload_n hx hb dX3_get_24 rfl (lv_at hl 2 rfl) ?_
      refine hp_cq (hp_runS (np := 2) (k := 3) (mc := 0) (ms := 0) (As := [va_rf r7, .int (nI kn)]) (rest := []) EE hm hS (c_X3_endOf l g M N Z hW r7 _ hrt kn hkn) ms_X3_endOf wt_X3_endOf wl_X3_45 rfl hl.1 rfl (Nat.le_of_ble_eq_true rfl) dX3_get_25 ⟨Nat.le_of_ble_eq_true rfl, Nat.le_of_ble_eq_true rfl⟩ ⟨(Nat.le_of_ble_eq_true rfl), (Nat.le_of_ble_eq_true rfl)⟩) hS (fun r10 Mx11 H locs hq12 hm hS => ?_)
      obtain ⟨⟨ne, hre⟩, h9⟩ := hq12
      rw [h9] at hm
      have hlk := end_lk kn 16 _ (pre_16 hkn hgm.2.2) hgm.1
      refine hq_astore_n (lv' := [(3, va_rf r10), (0, .ref x), (1, .int v0), (2, .int (nI kn))]) hx hb dX3_get_28 rfl hl (by decide) rfl (fun ls hl => ?_)
      refine hq_aload_n hx hb dX3_get_29 rfl (lv_at hl 0 rfl) ?_
      refine hq_ifnull (tgt := 49) hx hb dX3_get_30 (by decide) (fun hn30 => ?_) (fun a hn30 => ?_)
      · subst hn30
        have hl : lv_has ls 4 [(3, .null), (0, .ref x), (1, .int v0), (2, .int (nI kn))] := hl
        have hre0 : endE 16 kn (mapV σ v0) = [] := hre
        rw [hre0] at hlk
        refine lv_ldc2 (v := 9223372036854775807) hx hb hown (hts _ wk_X3_67) dX3_get_49 ?_
        exact ret dX3_get_52 hm hS (Nat.le_of_ble_eq_true rfl) (Nat.le_of_ble_eq_true rfl) (⟨by unfold rGet; rw [c_5, c_12, nI_clamp (by omega), hlk]; rfl, rfl⟩)
      · subst hn30
        have hl : lv_has ls 4 [(3, .ref a), (0, .ref x), (1, .int v0), (2, .int (nI kn))] := hl
        have hre0 := hre
        obtain ⟨n0, hN, hne, hn2⟩ := hre
        obtain ⟨ky, vl, z, o, dg, e_a, hdg, hlen, hcase⟩ := hW.1 a n0 _ hN
        refine lv_aload_n hx hb dX3_get_33 rfl (lv_at hl 0 rfl) ?_
        refine lv_iload_n hx hb dX3_get_34 rfl (lv_at hl 3 rfl) ?_
        refine hp_ci (hp_runS (np := 2) (k := 1) (mc := 0) (ms := 0) (As := [.ref a, .int (nI kn)]) (rest := []) EE hm hS (c_X3_isEntry l g M N Z hW (some a) ne _ hre0 kn hkn) ms_X3_isEntry wt_X3_isEntry wl_X3_49 rfl hl.1 rfl (Nat.le_of_ble_eq_true rfl) dX3_get_35 ⟨Nat.le_of_ble_eq_true rfl, Nat.le_of_ble_eq_true rfl⟩ ⟨(Nat.le_of_ble_eq_true rfl), (Nat.le_of_ble_eq_true rfl)⟩) hS (fun r13 Mx14 H locs hq15 hm hS => ?_)
        obtain ⟨rfl, h9⟩ := hq15
        rw [h9] at hm
        refine lv_if_eq (tgt := 49) hx hb dX3_get_38 (by decide) (fun c_38 => ?_) (fun c_38 => ?_)
        · have c_38 := bI_f c_38
          refine lv_ldc2 (v := 9223372036854775807) hx hb hown (hts _ wk_X3_67) dX3_get_49 ?_
          exact ret dX3_get_52 hm hS (Nat.le_of_ble_eq_true rfl) (Nat.le_of_ble_eq_true rfl) (⟨by unfold rGet; rw [c_5, c_12, nI_clamp (by omega), hlk, c_38]; rfl, rfl⟩)
        · have c_38 := bI_t c_38
          have hvl : vaE (endE 16 kn (mapV σ v0)) = vl := by
            rcases hcase with ⟨k9, h1, -⟩ | ⟨n9, -, -, h2, -⟩
            · rw [h1]; rfl
            · exfalso
              generalize endE 16 kn (mapV σ v0) = E9 at h2 c_38
              match E9, h2 with
              | x :: y :: t, _ => exact absurd c_38 (by simp [isEn])
          refine lv_aload_n hx hb dX3_get_41 rfl (lv_at hl 0 rfl) ?_
          refine hp_get (C := RX1) (T := TX1) (N := 6) (v := .int vl) EE hm e_a inh1 rfl 2 (by decide) wf_X3_73 rfl dX3_get_42 ?_
          refine lv_i2l (v := vl.toInt64) hx hb dX3_get_45 rfl ?_
          refine lv_goto (tgt := 52) hx hb dX3_get_46 (by decide) ?_
          exact ret dX3_get_52 hm hS (Nat.le_of_ble_eq_true rfl) (Nat.le_of_ble_eq_true rfl) (⟨by unfold rGet; rw [c_5, c_12, nI_clamp (by omega), hlk, c_38, hvl]; rfl, rfl⟩)
    · have c_12 := bI_f c_12
      refine lv_ldc2 (v := 9223372036854775807) hx hb hown (hts _ wk_X3_67) dX3_get_15 ?_
      exact ret dX3_get_18 hm hS (Nat.le_of_ble_eq_true rfl) (Nat.le_of_ble_eq_true rfl) (⟨by unfold rGet; first | (rw [c_5]; rfl) | (rw [c_5, c_12]; rfl), rfl⟩)
set_option maxHeartbeats 4000000 in
set_option maxRecDepth 100000 in
theorem c_X3_sibling (l : Launch) (g : hG) (M : hM) (N Z : gT) (x kp pf bs h nm ms sc sa fo : Nat) (br : Nat → Nat) (kf : Nat → Option Nat) (nw : Option Nat) (fm fs fa ff : Nat → Int32) (rv : Nat → Nat → Int32) (σ : cSt) (hC : CX g M N Z x kp pf bs h nm ms sc sa fo br kf nw fm fs fa ff rv σ) (k0 i0 : Int32) : Ci l g yX3_sibling cX3_sibling 3 .int 2 0 0 [.ref x, .int k0, .int i0] M (fun r M9 => r = rSib σ k0 i0 ∧ M9 = M) := by
  have hC0 := hC
  obtain ⟨hW, hH, e_x, e_kp, e_pf, e_bs, e_br, e_fo, hDA, hZn, hok, hvs, hnw, hsb⟩ := hC
  obtain ⟨hkc, hvg, hgn, hpl, hpk⟩ := hok
  refine hp_startI (by decide) (by exact Nat.le_of_ble_eq_true rfl) ?_
  intro p e s m below meth c Q H locs ls EE hnm ret hm hS hl
  have hx := EE.1
  have hb := EE.2.1
  have hown := EE.2.2.2.1
  have hts := EE.2.2.2.2.1
  have hl : lv_has ls 3 [(0, .ref x), (1, .int k0), (2, .int i0)] := hl
  refine lv_aload_n hx hb dX3_sibling_0 rfl (lv_at hl 0 rfl) ?_
  refine lv_iload_n hx hb dX3_sibling_1 rfl (lv_at hl 1 rfl) ?_
  refine hp_ci (hp_runV (C := RX3) (T := TX3) (N := 6) (np := 1) (k := 1) (mc := 0) (ms := 0) (As := [.int k0]) (rest := []) EE hm hS (c_X3_isSibling l g M N Z x kp pf bs h nm ms sc sa fo br kf nw fm fs fa ff rv σ hC0 k0) ms_X3_isSibling wi_X3_isSibling ws_X3_isSibling wl_X3_111 e_x rfl rfl hl.1 rfl (Nat.le_of_ble_eq_true rfl) dX3_sibling_2 ⟨Nat.le_of_ble_eq_true rfl, Nat.le_of_ble_eq_true rfl⟩ ⟨(Nat.le_of_ble_eq_true rfl), (Nat.le_of_ble_eq_true rfl)⟩) hS (fun r1 Mx2 H locs hq3 hm hS => ?_)
  obtain ⟨rfl, h9⟩ := hq3
  rw [h9] at hm
  refine lv_if_eq (tgt := 29) hx hb dX3_sibling_5 (by decide) (fun c_5 => ?_) (fun c_5 => ?_)
  · have c_5 := bI_f c_5
    refine lv_iconst (v := 0) hx hb dX3_sibling_29 (by decide) ?_
    exact ret dX3_sibling_30 na_i hm hS (Nat.le_of_ble_eq_true rfl) (Nat.le_of_ble_eq_true rfl) (⟨by unfold rSib; first | (rw [c_5]; rfl) | (rw [c_5, c_12]; rfl), rfl⟩)
  · have c_5 := bI_t c_5
    refine lv_iload_n hx hb dX3_sibling_8 rfl (lv_at hl 2 rfl) ?_
    refine hp_ci (hp_runS (np := 1) (k := 1) (mc := 0) (ms := 0) (As := [.int i0]) (rest := []) EE hm hS (c_X3_isWord l g M i0) ms_X3_isWord wt_X3_isWord wl_X3_76 rfl hl.1 rfl (Nat.le_of_ble_eq_true rfl) dX3_sibling_9 ⟨Nat.le_of_ble_eq_true rfl, Nat.le_of_ble_eq_true rfl⟩ ⟨(Nat.le_of_ble_eq_true rfl), (Nat.le_of_ble_eq_true rfl)⟩) hS (fun r4 Mx5 H locs hq6 hm hS => ?_)
    obtain ⟨rfl, h9⟩ := hq6
    rw [h9] at hm
    refine lv_if_eq (tgt := 29) hx hb dX3_sibling_12 (by decide) (fun c_12 => ?_) (fun c_12 => ?_)
    · have c_12 := bI_f c_12
      refine lv_iconst (v := 0) hx hb dX3_sibling_29 (by decide) ?_
      exact ret dX3_sibling_30 na_i hm hS (Nat.le_of_ble_eq_true rfl) (Nat.le_of_ble_eq_true rfl) (⟨by unfold rSib; first | (rw [c_5]; rfl) | (rw [c_5, c_12]; rfl), rfl⟩)
    · have c_12 := bI_t c_12
      obtain ⟨i, hi, hie⟩ := isS_nat hpl c_5
      obtain ⟨j, hj, hje⟩ := isW_nat c_12
      have e_b := e_br i (by omega)
      refine lv_aload_n hx hb dX3_sibling_15 rfl (lv_at hl 0 rfl) ?_
      refine hp_get (C := RX3) (T := TX3) (N := 6) (v := .ref pf) EE hm e_x inh3 rfl 3 (by decide) wf_X3_26 rfl dX3_sibling_16 ?_
      refine hp_get (C := RX2) (T := TX2) (N := 5) (v := .ref bs) EE hm e_pf inh2 rfl 0 (by decide) wf_X3_91 rfl dX3_sibling_19 ?_
      refine lv_iload_n hx hb dX3_sibling_22 rfl (lv_at hl 1 rfl) ?_
      refine hp_aaldRN EE hm e_bs i hie (by omega) (by decide) dX3_sibling_23 ?_
      refine lv_iload_n hx hb dX3_sibling_24 rfl (lv_at hl 2 rfl) ?_
      refine hp_ialdN EE hm e_b j hje (by omega) (by decide) dX3_sibling_25 ?_
      refine lv_goto (tgt := 30) hx hb dX3_sibling_26 (by decide) ?_
      exact ret dX3_sibling_30 na_i hm hS (Nat.le_of_ble_eq_true rfl) (Nat.le_of_ble_eq_true rfl) (⟨by unfold rSib; rw [c_5, c_12, hie, hje, nI_clamp (by omega), nI_clamp (by omega)]; exact hsb i hi j hj, rfl⟩)
theorem tsw3 (w : Int32) : w = 0 ∨ w = 1 ∨ w = 2 ∨ ((w.toInt < 0 ∨ 2 < w.toInt) ∧ w ≠ 0 ∧ w ≠ 1 ∧ w ≠ 2) := by
  by_cases h0 : w = 0
  · exact Or.inl h0
  by_cases h1 : w = 1
  · exact Or.inr (Or.inl h1)
  by_cases h2 : w = 2
  · exact Or.inr (Or.inr (Or.inl h2))
  refine Or.inr (Or.inr (Or.inr ⟨?_, h0, h1, h2⟩))
  have e0 : (0 : Int32).toInt = 0 := by decide
  have e1 : (1 : Int32).toInt = 1 := by decide
  have e2 : (2 : Int32).toInt = 2 := by decide
  have n0 : w.toInt ≠ 0 := fun h => h0 (Int32.toInt_inj.mp (h.trans e0.symm))
  have n1 : w.toInt ≠ 1 := fun h => h1 (Int32.toInt_inj.mp (h.trans e1.symm))
  have n2 : w.toInt ≠ 2 := fun h => h2 (Int32.toInt_inj.mp (h.trans e2.symm))
  omega
set_option maxHeartbeats 4000000 in
set_option maxRecDepth 100000 in
theorem c_X3_end (l : Launch) (g : hG) (M : hM) (N Z : gT) (x kp pf bs h nm ms sc sa fo : Nat) (br : Nat → Nat) (kf : Nat → Option Nat) (nw : Option Nat) (fm fs fa ff : Nat → Int32) (rv : Nat → Nat → Int32) (σ : cSt) (hC : CX g M N Z x kp pf bs h nm ms sc sa fo br kf nw fm fs fa ff rv σ) (w0 : Int32) : Ci l g yX3_end cX3_end 2 .int 1 0 0 [.ref x, .int w0] M (fun r M9 => r = rEnd σ w0 ∧ M9 = M) := by
  have hC0 := hC
  obtain ⟨hW, hH, e_x, e_kp, e_pf, e_bs, e_br, e_fo, hDA, hZn, hok, hvs, hnw, hsb⟩ := hC
  obtain ⟨hkc, hvg, hgn, hpl, hpk⟩ := hok
  refine hp_startI (by decide) (by exact Nat.le_of_ble_eq_true rfl) ?_
  intro p e s m below meth c Q H locs ls EE hnm ret hm hS hl
  have hx := EE.1
  have hb := EE.2.1
  have hown := EE.2.2.2.1
  have hts := EE.2.2.2.2.1
  have hl : lv_has ls 2 [(0, .ref x), (1, .int w0)] := hl
  refine lv_iload_n hx hb dX3_end_0 rfl (lv_at hl 1 rfl) ?_
  rcases tsw3 w0 with rfl | rfl | rfl | ⟨hw, hw0, hw1, hw2⟩
  · refine lv_tableIn (tgt := 28) hx hb dX3_end_1 (by decide) (by decide) rfl (by decide) ?_
    refine lv_aload_n hx hb dX3_end_28 rfl (lv_at hl 0 rfl) ?_
    refine hp_get (C := RX3) (T := TX3) (N := 6) (v := .ref pf) EE hm e_x inh3 rfl 3 (by decide) wf_X3_26 rfl dX3_end_29 ?_
    refine hp_get (C := RX2) (T := TX2) (N := 5) (v := .int (bI (sPe σ))) EE hm e_pf inh2 rfl 2 (by decide) wf_X3_114 rfl dX3_end_32 ?_
    refine lv_if_eq (tgt := 42) hx hb dX3_end_35 (by decide) (fun c_35 => ?_) (fun c_35 => ?_)
    · have c_35 := bI_f c_35
      refine lv_iconst (v := 0) hx hb dX3_end_42 (by decide) ?_
      exact ret dX3_end_43 na_i hm hS (Nat.le_of_ble_eq_true rfl) (Nat.le_of_ble_eq_true rfl) (⟨by unfold rEnd; rw [if_pos rfl, c_35]; rfl, rfl⟩)
    · have c_35 := bI_t c_35
      refine lv_iconst (v := 1) hx hb dX3_end_38 (by decide) ?_
      refine lv_goto (tgt := 43) hx hb dX3_end_39 (by decide) ?_
      exact ret dX3_end_43 na_i hm hS (Nat.le_of_ble_eq_true rfl) (Nat.le_of_ble_eq_true rfl) (⟨by unfold rEnd; rw [if_pos rfl, c_35]; rfl, rfl⟩)
  · refine lv_tableIn (tgt := 44) hx hb dX3_end_1 (by decide) (by decide) rfl (by decide) ?_
    refine lv_aload_n hx hb dX3_end_44 rfl (lv_at hl 0 rfl) ?_
    refine hp_get (C := RX3) (T := TX3) (N := 6) (v := .ref pf) EE hm e_x inh3 rfl 3 (by decide) wf_X3_26 rfl dX3_end_45 ?_
    refine hp_get (C := RX2) (T := TX2) (N := 5) (v := .int (sPk σ)) EE hm e_pf inh2 rfl 3 (by decide) wf_X3_118 rfl dX3_end_48 ?_
    exact ret dX3_end_51 na_i hm hS (Nat.le_of_ble_eq_true rfl) (Nat.le_of_ble_eq_true rfl) (⟨by unfold rEnd; rw [if_neg (by decide), if_pos rfl], rfl⟩)
  · refine lv_tableIn (tgt := 52) hx hb dX3_end_1 (by decide) (by decide) rfl (by decide) ?_
    refine lv_aload_n hx hb dX3_end_52 rfl (lv_at hl 0 rfl) ?_
    refine hp_get (C := RX3) (T := TX3) (N := 6) (v := .ref pf) EE hm e_x inh3 rfl 3 (by decide) wf_X3_26 rfl dX3_end_53 ?_
    refine hp_get (C := RX2) (T := TX2) (N := 5) (v := .int (sPv σ)) EE hm e_pf inh2 rfl 4 (by decide) wf_X3_119 rfl dX3_end_56 ?_
    exact ret dX3_end_59 na_i hm hS (Nat.le_of_ble_eq_true rfl) (Nat.le_of_ble_eq_true rfl) (⟨by unfold rEnd; rw [if_neg (by decide), if_neg (by decide), if_pos rfl], rfl⟩)
  · refine lv_tableOut (tgt := 60) hx hb dX3_end_1 hw (by decide) ?_
    refine lv_iconst (v := (-1)) hx hb dX3_end_60 (by decide) ?_
    exact ret dX3_end_61 na_i hm hS (Nat.le_of_ble_eq_true rfl) (Nat.le_of_ble_eq_true rfl) (⟨by unfold rEnd; rw [if_neg hw0, if_neg hw1, if_neg hw2], rfl⟩)
set_option maxHeartbeats 4000000 in
set_option maxRecDepth 100000 in
theorem c_X3_sameFirstBits (l : Launch) (g : hG) (M : hM) (a b : Nat) (ha : a < 65536) (hb0 : b < 65536) : Ci l g yX3_sameFirstBits cX3_sameFirstBits 3 .int 2 0 0 [.int (nI a), .int (nI b)] M (fun r M9 => r = nI (alk 16 a b) ∧ M9 = M) := by
  refine hp_startI (by decide) (by exact Nat.le_of_ble_eq_true rfl) ?_
  intro p e s m below meth c Q H locs ls EE hnm ret hm hS hl
  have hx := EE.1
  have hb := EE.2.1
  have hown := EE.2.2.2.1
  have hts := EE.2.2.2.2.1
  have hl : lv_has ls 3 [(0, .int (nI a)), (1, .int (nI b))] := hl
  refine lv_iconst (v := 0) hx hb dX3_sameFirstBits_0 (by decide) ?_
  refine lv_istore_n (lv' := [(2, .int 0), (0, .int (nI a)), (1, .int (nI b))]) hx hb dX3_sameFirstBits_1 rfl hl (by decide) rfl (fun ls hl => ?_)
  have lp : ∀ (n d : Nat) (nn : Nat) (H : Heap) (locs : List Loc) (ls : Array Slot), 17 ≤ d + n → d + nn = 16 → d + alk nn a b = alk 16 a b → hp g M H → va_S (hA g) s.heap H locs → lv_has ls 3 [(2, .int (nI d)), (0, .int (nI a)), (1, .int (nI b))] → W p l e (hR 2 0 0) s m [.int (nI a), .int (nI b)].toArray below meth c H locs 0 0 Q (F0 m 2 ls []) := by
    intro n
    induction n with
    | zero => intro d nn H locs ls hn hd hen; exact absurd hn (by omega)
    | succ n ih =>
      intro d nn H locs ls hn hd hen hm hS hl
      refine lv_iload_n hx hb dX3_sameFirstBits_2 rfl (lv_at hl 0 rfl) ?_
      refine lv_bipush (v := 16) hx hb dX3_sameFirstBits_3 (by decide) ?_
      refine lv_icmp_ge (tgt := 27) hx hb dX3_sameFirstBits_5 (by decide) (fun c_5 => ?_) (fun c_5 => ?_)
      · have c_5 : 16 ≤ d := (nI_leI (a := 16) (b := d) (by decide) (by omega)).mp c_5
        have hn0 : nn = 0 := by omega
        subst hn0
        refine lv_iload_n hx hb dX3_sameFirstBits_27 rfl (lv_at hl 0 rfl) ?_
        exact ret dX3_sameFirstBits_28 na_i hm hS (Nat.le_of_ble_eq_true rfl) (Nat.le_of_ble_eq_true rfl) (⟨by rw [← hen]; rfl, rfl⟩)
      · have c_5 : ¬ 16 ≤ d := fun h9 => c_5 ((nI_leI (a := 16) (b := d) (by decide) (by omega)).mpr h9)
        obtain ⟨n1, hn1⟩ : ∃ n1, nn = n1 + 1 := ⟨nn - 1, by omega⟩
        subst hn1
        refine lv_iload_n hx hb dX3_sameFirstBits_8 rfl (lv_at hl 1 rfl) ?_
        refine lv_iload_n hx hb dX3_sameFirstBits_9 rfl (lv_at hl 0 rfl) ?_
        refine hp_ci (hp_runS (np := 2) (k := 1) (mc := 0) (ms := 0) (As := [.int (nI a), .int (nI d)]) (rest := []) EE hm hS (c_X3_bitAt l g M (nI a) (nI d)) ms_X3_bitAt wt_X3_bitAt wl_X3_83 rfl hl.1 rfl (Nat.le_of_ble_eq_true rfl) dX3_sameFirstBits_10 ⟨Nat.le_of_ble_eq_true rfl, Nat.le_of_ble_eq_true rfl⟩ ⟨(Nat.le_of_ble_eq_true rfl), (Nat.le_of_ble_eq_true rfl)⟩) hS (fun r1 Mx2 H locs hq3 hm hS => ?_)
        obtain ⟨hr9, h9⟩ := hq3
        rw [h9] at hm
        rw [bitA_n ha (show d + n1 = 15 by omega)] at hr9
        subst hr9
        refine lv_iload_n hx hb dX3_sameFirstBits_13 rfl (lv_at hl 2 rfl) ?_
        refine lv_iload_n hx hb dX3_sameFirstBits_14 rfl (lv_at hl 0 rfl) ?_
        refine hp_ci (hp_runS (np := 2) (k := 1) (mc := 0) (ms := 0) (As := [.int (nI b), .int (nI d)]) (rest := [.int (bI (a.testBit n1))]) EE hm hS (c_X3_bitAt l g M (nI b) (nI d)) ms_X3_bitAt wt_X3_bitAt wl_X3_83 rfl hl.1 rfl (Nat.le_of_ble_eq_true rfl) dX3_sameFirstBits_15 ⟨Nat.le_of_ble_eq_true rfl, Nat.le_of_ble_eq_true rfl⟩ ⟨(Nat.le_of_ble_eq_true rfl), (Nat.le_of_ble_eq_true rfl)⟩) hS (fun r4 Mx5 H locs hq6 hm hS => ?_)
        obtain ⟨hr9, h9⟩ := hq6
        rw [h9] at hm
        rw [bitA_n hb0 (show d + n1 = 15 by omega)] at hr9
        subst hr9
        refine lv_icmp_ne (tgt := 27) hx hb dX3_sameFirstBits_18 (by decide) (fun c_18 => ?_) (fun c_18 => ?_)
        · refine lv_iload_n hx hb dX3_sameFirstBits_27 rfl (lv_at hl 0 rfl) ?_
          exact ret dX3_sameFirstBits_28 na_i hm hS (Nat.le_of_ble_eq_true rfl) (Nat.le_of_ble_eq_true rfl) (⟨by rw [← hen]; show _ = nI (d + (if a.testBit n1 = b.testBit n1 then alk n1 a b + 1 else 0)); rw [if_neg (fun q => c_18 (by rw [q]))]; rfl, rfl⟩)
        · refine lv_iinc (v := nI (d + 1)) (lv' := [(2, .int (nI (d + 1))), (0, .int (nI a)), (1, .int (nI b))]) hx hb dX3_sameFirstBits_21 hl (k := 0) rfl (nI_1 _) (by decide) rfl (fun ls hl => ?_)
          refine lv_goto (tgt := 2) hx hb dX3_sameFirstBits_24 (by decide) ?_
          exact ih (d + 1) n1 H locs ls (by omega) (by omega) (by rw [← hen]; show d + 1 + alk n1 a b = d + (if a.testBit n1 = b.testBit n1 then alk n1 a b + 1 else 0); rw [if_pos (bI_inj c_18)]; omega) hm hS (lv_sub hl [0, 1, 2] rfl)
  exact lp 17 0 16 H locs ls (by omega) (by omega) (Nat.zero_add _) hm hS (lv_sub hl [0, 1, 2] rfl)
set_option maxHeartbeats 4000000 in
set_option maxRecDepth 100000 in
theorem c_X3_alike (l : Launch) (g : hG) (M : hM) (x : Nat) (a0 b0 : Int32) : Ci l g yX3_alike cX3_alike 3 .int 3 0 0 [.ref x, .int a0, .int b0] M (fun r M9 => r = rAlike a0 b0 ∧ M9 = M) := by
  refine hp_startI (by decide) (by exact Nat.le_of_ble_eq_true rfl) ?_
  intro p e s m below meth c Q H locs ls EE hnm ret hm hS hl
  have hx := EE.1
  have hb := EE.2.1
  have hown := EE.2.2.2.1
  have hts := EE.2.2.2.2.1
  have hl : lv_has ls 3 [(0, .ref x), (1, .int a0), (2, .int b0)] := hl
  refine lv_iload_n hx hb dX3_alike_0 rfl (lv_at hl 1 rfl) ?_
  refine hp_ci (hp_runS (np := 1) (k := 1) (mc := 0) (ms := 0) (As := [.int a0]) (rest := []) EE hm hS (c_X3_isKey l g M a0) ms_X3_isKey wt_X3_isKey wl_X3_41 rfl hl.1 rfl (Nat.le_of_ble_eq_true rfl) dX3_alike_1 ⟨Nat.le_of_ble_eq_true rfl, Nat.le_of_ble_eq_true rfl⟩ ⟨(Nat.le_of_ble_eq_true rfl), (Nat.le_of_ble_eq_true rfl)⟩) hS (fun r1 Mx2 H locs hq3 hm hS => ?_)
  obtain ⟨rfl, h9⟩ := hq3
  rw [h9] at hm
  refine lv_if_eq (tgt := 22) hx hb dX3_alike_4 (by decide) (fun c_4 => ?_) (fun c_4 => ?_)
  · have c_4 := bI_f c_4
    refine lv_iconst (v := (-1)) hx hb dX3_alike_22 (by decide) ?_
    exact ret dX3_alike_23 na_i hm hS (Nat.le_of_ble_eq_true rfl) (Nat.le_of_ble_eq_true rfl) (⟨by unfold rAlike; first | (rw [c_4]; rfl) | (rw [c_4, c_11]; rfl), rfl⟩)
  · have c_4 := bI_t c_4
    refine lv_iload_n hx hb dX3_alike_7 rfl (lv_at hl 2 rfl) ?_
    refine hp_ci (hp_runS (np := 1) (k := 1) (mc := 0) (ms := 0) (As := [.int b0]) (rest := []) EE hm hS (c_X3_isKey l g M b0) ms_X3_isKey wt_X3_isKey wl_X3_41 rfl hl.1 rfl (Nat.le_of_ble_eq_true rfl) dX3_alike_8 ⟨Nat.le_of_ble_eq_true rfl, Nat.le_of_ble_eq_true rfl⟩ ⟨(Nat.le_of_ble_eq_true rfl), (Nat.le_of_ble_eq_true rfl)⟩) hS (fun r4 Mx5 H locs hq6 hm hS => ?_)
    obtain ⟨rfl, h9⟩ := hq6
    rw [h9] at hm
    refine lv_if_eq (tgt := 22) hx hb dX3_alike_11 (by decide) (fun c_11 => ?_) (fun c_11 => ?_)
    · have c_11 := bI_f c_11
      refine lv_iconst (v := (-1)) hx hb dX3_alike_22 (by decide) ?_
      exact ret dX3_alike_23 na_i hm hS (Nat.le_of_ble_eq_true rfl) (Nat.le_of_ble_eq_true rfl) (⟨by unfold rAlike; first | (rw [c_4]; rfl) | (rw [c_4, c_11]; rfl), rfl⟩)
    · have c_11 := bI_t c_11
      obtain ⟨a, ha, hae⟩ := isK_nat c_4
      obtain ⟨b, hb0, hbe⟩ := isK_nat c_11
      subst hae
      subst hbe
      refine lv_iload_n hx hb dX3_alike_14 rfl (lv_at hl 1 rfl) ?_
      refine lv_iload_n hx hb dX3_alike_15 rfl (lv_at hl 2 rfl) ?_
      refine hp_ci (hp_runS (np := 2) (k := 2) (mc := 0) (ms := 0) (As := [.int (nI a), .int (nI b)]) (rest := []) EE hm hS (c_X3_sameFirstBits l g M a b ha hb0) ms_X3_sameFirstBits wt_X3_sameFirstBits wl_X3_120 rfl hl.1 rfl (Nat.le_of_ble_eq_true rfl) dX3_alike_16 ⟨Nat.le_of_ble_eq_true rfl, Nat.le_of_ble_eq_true rfl⟩ ⟨(Nat.le_of_ble_eq_true rfl), (Nat.le_of_ble_eq_true rfl)⟩) hS (fun r7 Mx8 H locs hq9 hm hS => ?_)
      obtain ⟨rfl, h9⟩ := hq9
      rw [h9] at hm
      refine lv_goto (tgt := 23) hx hb dX3_alike_19 (by decide) ?_
      exact ret dX3_alike_23 na_i hm hS (Nat.le_of_ble_eq_true rfl) (Nat.le_of_ble_eq_true rfl) (⟨by unfold rAlike; rw [c_4, c_11, nI_clamp (by omega), nI_clamp (by omega)]; rfl, rfl⟩)
end
section
section HB
variable {p : Program} {l : Launch} {e : Env} {R : Room} {s : State} {m : MethodId} {args : Array Value} {below : List Frame} {meth : Method} {c : Code} {H : Heap} {locs : List Loc} {cells slots : Nat} {Q : State → Prop}
variable {cc : ByteArray} {pc : Nat} {ls : Array Slot} {rest : List Value} {a : Nat} {g : hG} {M : hM} {own : String} {nL : Nat}
/-- aastore of a node, or null, into a Node[] -/
theorem hp_aastN (E : hE p c cc nL s args m own g) (hm : hp g M H) (hS : va_S (hA g) s.heap H locs) {n : Nat} {f : Nat → Option Nat} (he : M a = some (aN g n f)) {r : Option Nat} (hr : ∀ v, r = some v → ∃ fs, M v = some (.inr (1, fs))) {x : Int32} (i : Nat) (hi : x = nI i) (hlt : i < n) (hn : n < 2 ^ 31) (hdg : decode cc pc = .ok (.aastore, 1))
    (kk : ∀ (H1 : Heap) (locs1 : List Loc), hp g (hm_up M a (aN g n (va_up f i r))) H1 → va_S (hA g) s.heap H1 locs1 → W p l e R s m args below meth c H1 locs1 cells slots Q (F0 m (pc + 1) ls rest)) : W p l e R s m args below meth c H locs cells slots Q (F0 m pc ls (va_rf r :: .int x :: .ref a :: rest)) := by
  subst hi
  obtain ⟨hx, hb, -, hown, hts, hG⟩ := E
  have hat : H[a]? = some (vp_cell (gN g) (n, .inr (.inr (.inr (.inr f))))) := (hm _ _ he).2
  have hin : vp_in (nI i) n := vp_in_nI hlt hn
  have hcl : (nI i).toNatClampNeg = i := nI_clamp (by omega)
  have fin : ∀ (H1 : Heap) (k : Nat) (z : H1.size = H.size) (oq : ∀ q, q ≠ a → H1[q]? = H[q]?) (e1 : H1[a]? = some ((vp_cell (gN g) (n, .inr (.inr (.inr (.inr f))))).setSlot i (va_rf r))), W p l e R s m args below meth c H1 (locs ++ [⟨a, k⟩]) cells slots Q (F0 m (pc + 1) ls rest) := by
    intro H1 k z oq e1
    refine kk H1 _ (fun b eb hb => ?_) (hS.put z oq (hm _ _ he).1)
    by_cases hba : b = a
    · subst hba
      rw [up_eq] at hb
      cases hb
      refine ⟨(hm _ _ he).1, ?_⟩
      show H1[b]? = some (vp_cell _ _)
      rw [e1]
      rw [vp_cell_q, vp_cell_q, arrV_store]
      congr 2
      funext q
      by_cases hq : q = i
      · subst hq
        simp [updV, va_up]
      · simp [updV, va_up, hq]
    · rw [up_ne hba] at hb
      exact ⟨(hm _ _ hb).1, (hm _ _ hb).2.kept (oq _ hba)⟩
  cases r with
  | none =>
    refine va_WaastN (C := "ProofMap$Node") hx hb hat ((hG.1.2 1 (gN g, .object "ProofMap$Node") rfl).1 n (fun j => va_rf (f j))) (fun h => by cases h) (by show ¬ (nI i < 0 ∨ (arrV _ _ _).slots.size ≤ _); rw [arrV_size]; exact hin) rfl rfl hdg fun H1 e1 z oq => ?_
    rw [hcl] at e1 ⊢
    exact fin H1 _ z oq e1
  | some v =>
    obtain ⟨fs, hv⟩ := hr v rfl
    obtain ⟨-, r', hr', cellV, g1, g2, g3, -⟩ := hm _ _ hv
    have hcls := (hG.1.1 1 (RX1, TX1, 6) rfl).2
    obtain ⟨kA, comp, k1, k2, k3, -⟩ := (hG.1.2 1 (gN g, .object "ProofMap$Node") rfl).2
    have hcomp : comp = (gD g).1 1 := Option.some.inj (k3.symm.trans hcls.1)
    subst hcomp
    obtain ⟨kC, hkC, hkk⟩ := hcls.2
    have hcls : ClassAt s RX1 ((gD g).1 1) := ⟨hcls.1, kC, hkC, hkk⟩
    refine W.aast hx hb hat (fun q h => by cases h) (fun h => by cases h) k1 k2 rfl hkC ⟨fun q => hin (Or.inl q), by show _ < (arrV _ _ _).slots.size; rw [arrV_size, hcl]; exact hlt⟩ g1 (fun q h => by rw [g3] at h; cases h) (by rw [g2]; exact hkC) (by rw [g2]; exact va_assign hcls) rfl rfl hdg fun H1 e1 z oq => ?_
    rw [hcl] at e1 ⊢
    exact fin H1 _ z oq e1
end HB
/-- which cells are the class's to change -/
def ow (N : gT) (x kp pf ms sc sa fo : Nat) (br : Nat → Nat) (q : Nat) : Prop := N q ≠ none ∨ q = x ∨ q = kp ∨ q = pf ∨ q = ms ∨ q = sc ∨ q = sa ∨ q = fo ∨ ∃ i, i < 16 ∧ q = br i
/-- behind a call: the class's world with the state σ9; nothing else has changed; at most k nodes more without digest, u cells made for digests -/
def CP (g : hG) (M : hM) (N : gT) (x kp pf bs h nm ms sc sa fo : Nat) (br : Nat → Nat) (k u : Nat) (M9 : hM) (σ9 : cSt) : Prop :=
  ∃ N9 Z9 kf9 nw9 fm9 fs9 fa9 ff9 rv9, CX g M9 N9 Z9 x kp pf bs h nm ms sc sa fo br kf9 nw9 fm9 fs9 fa9 ff9 rv9 σ9 ∧ (∀ q e, M q = some e → ¬ ow N x kp pf ms sc sa fo br q → M9 q = some e ∧ ¬ ow N9 x kp pf ms sc sa fo br q) ∧ ∀ c, pt M c → ∃ c9, pt M9 c9 ∧ c9 + u ≤ c + k
theorem und_obj {M : hM} {q c : Nat} {fs : List Value} (h : M q = some (.inr (c, fs))) (hc : c ≠ 1) : und M q = false := by
  unfold und
  rw [h]
  match c, hc with
  | 0, _ => rfl
  | c + 2, _ => rfl
theorem pt.chg {M M9 : hM} {c a : Nat} (h : pt M c) (ha : und M9 a = false) (hf : ∀ q, q ≠ a → M9 q = M q) : pt M9 c := h.same (fun q hq => by
  by_cases t : q = a
  · rw [t, ha] at hq; cases hq
  · rw [← und_same (hf q t)]; exact hq)
theorem WF.frame {g : hG} {M M9 : hM} {N Z : gT} (hW : WF g M N Z) (h1 : ∀ q x, N q = some x → M9 q = M q) (h2 : ∀ q x, Z q = some x → M9 q = M q) : WF g M9 N Z := by
  refine ⟨fun a n E h => ?_, fun b n E h => ?_⟩
  · obtain ⟨ky, vl, z, o, dg, q1, q2⟩ := hW.1 a n E h
    exact ⟨ky, vl, z, o, dg, (h1 a _ h).trans q1, q2⟩
  · obtain ⟨f, q1, q2⟩ := hW.2 b n E h
    exact ⟨f, (h2 b _ h).trans q1, q2⟩
/-- a cell changes that is neither a node nor a digest's row -/
theorem WF.chg {g : hG} {M M9 : hM} {N Z : gT} {a : Nat} (hW : WF g M N Z) (hf : ∀ q, q ≠ a → M9 q = M q) (hN : N a = none) (hZ : Z a = none) : WF g M9 N Z :=
  hW.frame (fun q x h => hf q (fun t => by rw [t, hN] at h; cases h)) (fun q x h => hf q (fun t => by rw [t, hZ] at h; cases h))
theorem N_obj {g : hG} {M : hM} {N Z : gT} (hW : WF g M N Z) {q c : Nat} {fs : List Value} (h : M q = some (.inr (c, fs))) (hc : c ≠ 1) : N q = none := by
  cases hn : N q with
  | none => rfl
  | some x =>
    obtain ⟨ky, vl, z, o, dg, q1, -⟩ := hW.1 q x.1 x.2 hn
    rw [h] at q1
    exact absurd (Prod.mk.inj (Sum.inr.inj (Option.some.inj q1))).1 hc
theorem N_arr {g : hG} {M : hM} {N Z : gT} (hW : WF g M N Z) {q : Nat} {v : ClassId × vp_A} (h : M q = some (.inl v)) : N q = none := by
  cases hn : N q with
  | none => rfl
  | some x => exact absurd rfl (nd_ne hW hn h)
theorem Z_obj {g : hG} {M : hM} {N Z : gT} (hW : WF g M N Z) {q c : Nat} {fs : List Value} (h : M q = some (.inr (c, fs))) : Z q = none := by
  cases hn : Z q with
  | none => rfl
  | some x =>
    obtain ⟨f, q1, -⟩ := hW.2 q x.1 x.2 hn
    rw [h] at q1; cases q1
theorem Z_arN {g : hG} {M : hM} {N Z : gT} (hW : WF g M N Z) {q n : Nat} {f : Nat → Option Nat} {cA : ClassId} (h : M q = some (.inl (cA, n, .inr (.inr (.inr (.inr f)))))) : Z q = none := by
  cases hn : Z q with
  | none => rfl
  | some x =>
    obtain ⟨f1, q1, -⟩ := hW.2 q x.1 x.2 hn
    rw [h] at q1
    have := (Prod.mk.inj (Sum.inl.inj (Option.some.inj q1))).2
    have := (Prod.mk.inj this).2
    cases this
theorem HS.chg {g : hG} {M M9 : hM} {h nm ms sc sa a : Nat} {fm fs fa : Nat → Int32} (hH : HS g M h nm ms sc sa fm fs fa) (hf : ∀ q, q ≠ a → M9 q = M q) (h1 : h ≠ a) (h2 : nm ≠ a) (h3 : ms ≠ a) (h4 : sc ≠ a) (h5 : sa ≠ a) : HS g M9 h nm ms sc sa fm fs fa := by
  obtain ⟨q1, q2, q3, q4, ⟨fn, q5, q6⟩, q7⟩ := hH
  exact ⟨(hf h h1).trans q1, (hf ms h3).trans q2, (hf sc h4).trans q3, (hf sa h5).trans q4, ⟨fn, (hf nm h2).trans q5, q6⟩, q7⟩
section CXC
variable {g : hG} {M M9 : hM} {N Z : gT} {x kp pf bs h nm ms sc sa fo : Nat} {br : Nat → Nat} {kf : Nat → Option Nat} {nw : Option Nat} {fm fs fa ff : Nat → Int32} {rv : Nat → Nat → Int32} {σ : cSt}
/-- the proof's own cell changes -/
theorem CX.cpf (hC : CX g M N Z x kp pf bs h nm ms sc sa fo br kf nw fm fs fa ff rv σ) {pl : Nat} {pe : Bool} {pk pv : Int32} {sb : Nat → Nat → Int32} (e : M9 pf = some (.inr (2, [.ref bs, .int (nI pl), .int (bI pe), .int pk, .int pv]))) (hf : ∀ q, q ≠ pf → M9 q = M q) (hpl : pl ≤ 16) (hpk : pOK (sNow σ, sKc σ, sVs σ, pl, pe, pk, pv, sb)) (hsb : ∀ i, i < pl → ∀ j, j < 8 → rv i j = sb i j) : CP g M N x kp pf bs h nm ms sc sa fo br 0 0 M9 (sNow σ, sKc σ, sVs σ, pl, pe, pk, pv, sb) := by
  obtain ⟨hW, hH, e_x, e_kp, e_pf, e_bs, e_br, e_fo, hDA, hZn, hok, hvs, hnw, -⟩ := hC
  obtain ⟨k1, k2, k3, -, -⟩ := hok
  have hH0 := hH
  obtain ⟨q1, q2, q3, q4, ⟨fn, q5, q6⟩, q7⟩ := hH0
  refine ⟨N, Z, kf, nw, fm, fs, fa, ff, rv, ⟨hW.chg hf (N_obj hW e_pf (by decide)) (Z_obj hW e_pf), hH.chg hf (ne_lk q1 e_pf (by simp)) (ne_lk q5 e_pf (by simp)) (ne_lk q2 e_pf (by simp)) (ne_lk q3 e_pf (by simp)) (ne_lk q4 e_pf (by simp)), (hf x (ne_lk e_x e_pf (by simp))).trans e_x, (hf kp (ne_lk e_kp e_pf (by simp))).trans e_kp, e, (hf bs (ne_lk e_bs e_pf (by simp))).trans e_bs, fun i hi => (hf _ (ne_lk (e_br i hi) e_pf (by simp))).trans (e_br i hi), (hf fo (ne_lk e_fo e_pf (by simp))).trans e_fo, hDA, hZn, ⟨k1, k2, k3, hpl, hpk⟩, hvs, hnw, hsb⟩, fun q e9 h9 hn => ⟨?_, hn⟩, fun c hc => ⟨c, hc.chg (und_obj e (by decide)) hf, Nat.le_refl _⟩⟩
  rw [hf q (fun t => hn (Or.inr (Or.inr (Or.inr (Or.inl t)))))]
  exact h9
/-- the object's own cell changes -/
theorem CX.cob (hC : CX g M N Z x kp pf bs h nm ms sc sa fo br kf nw fm fs fa ff rv σ) {kc : Nat} {nw1 : Option Nat} {E1 : En} {vs : Nat → En} (e : M9 x = some (.inr (3, [.ref kp, .int (nI kc), va_rf nw1, .ref pf, .ref h, .ref fo]))) (hf : ∀ q, q ≠ x → M9 q = M q) (hkc : kc ≤ 60) (hv : ∀ j, j < kc → gE (vs j)) (hg : gE E1) (hvs : ∀ j, j < kc → rt N (kf j) 16 (vs j)) (hnw : rt N nw1 16 E1) : CP g M N x kp pf bs h nm ms sc sa fo br 0 0 M9 (E1, kc, vs, sPl σ, sPe σ, sPk σ, sPv σ, sSb σ) := by
  obtain ⟨hW, hH, e_x, e_kp, e_pf, e_bs, e_br, e_fo, hDA, hZn, hok, -, -, hsb⟩ := hC
  obtain ⟨-, -, -, k4, k5⟩ := hok
  have hH0 := hH
  obtain ⟨q1, q2, q3, q4, ⟨fn, q5, q6⟩, q7⟩ := hH0
  refine ⟨N, Z, kf, nw1, fm, fs, fa, ff, rv, ⟨hW.chg hf (N_obj hW e_x (by decide)) (Z_obj hW e_x), hH.chg hf (ne_lk q1 e_x (by simp)) (ne_lk q5 e_x (by simp)) (ne_lk q2 e_x (by simp)) (ne_lk q3 e_x (by simp)) (ne_lk q4 e_x (by simp)), e, (hf kp (ne_lk e_kp e_x (by simp))).trans e_kp, (hf pf (ne_lk e_pf e_x (by simp))).trans e_pf, (hf bs (ne_lk e_bs e_x (by simp))).trans e_bs, fun i hi => (hf _ (ne_lk (e_br i hi) e_x (by simp))).trans (e_br i hi), (hf fo (ne_lk e_fo e_x (by simp))).trans e_fo, hDA, hZn, ⟨hkc, hv, hg, k4, k5⟩, hvs, hnw, hsb⟩, fun q e9 h9 hn => ⟨?_, hn⟩, fun c hc => ⟨c, hc.chg (und_obj e (by decide)) hf, Nat.le_refl _⟩⟩
  rw [hf q (fun t => hn (Or.inr (Or.inl t)))]
  exact h9
theorem ne_NI {n m : Nat} {f : Nat → Option Nat} {f' : Nat → Int32} : aN g n f ≠ aI g m f' := by
  intro q
  have := (Prod.mk.inj (Prod.mk.inj (Sum.inl.inj q)).2).2
  cases this
theorem ne_RI {n m : Nat} {f : Nat → Option Nat} {f' : Nat → Int32} : aR g n f ≠ aI g m f' := by
  intro q
  have := (Prod.mk.inj (Prod.mk.inj (Sum.inl.inj q)).2).2
  cases this
/-- a row of the proof changes -/
theorem CX.cbr (hC : CX g M N Z x kp pf bs h nm ms sc sa fo br kf nw fm fs fa ff rv σ) {i : Nat} (hi : i < 16) {f1 : Nat → Int32} {sb : Nat → Nat → Int32} (e : M9 (br i) = some (aI g 8 f1)) (hf : ∀ q, q ≠ br i → M9 q = M q) (hsb : ∀ i1, i1 < sPl σ → ∀ j, j < 8 → (if i1 = i then f1 else rv i1) j = sb i1 j) : CP g M N x kp pf bs h nm ms sc sa fo br 0 0 M9 (sNow σ, sKc σ, sVs σ, sPl σ, sPe σ, sPk σ, sPv σ, sb) := by
  obtain ⟨hW, hH, e_x, e_kp, e_pf, e_bs, e_br, e_fo, hDA, hZn, hok, hvs, hnw, -⟩ := hC
  have hH0 := hH
  obtain ⟨q1, q2, q3, q4, ⟨fn, q5, q6⟩, q7⟩ := hH0
  have eb := e_br i hi
  have hd := hDA.2.2.2.2.1 i hi
  refine ⟨N, Z, kf, nw, fm, fs, fa, ff, fun i1 => if i1 = i then f1 else rv i1, ⟨hW.chg hf (N_arr hW eb) (hZn _ (Or.inr (Or.inr (Or.inr (Or.inr (Or.inr ⟨i, hi, rfl⟩)))))), hH.chg hf (ne_lk q1 eb (by simp)) (Ne.symm hd.1) (Ne.symm hd.2.1) (Ne.symm hd.2.2.1) (Ne.symm hd.2.2.2.1), (hf x (ne_lk e_x eb (by simp))).trans e_x, (hf kp (ne_lk e_kp eb ne_NI)).trans e_kp, (hf pf (ne_lk e_pf eb (by simp))).trans e_pf, (hf bs (ne_lk e_bs eb ne_RI)).trans e_bs, fun i1 hi1 => ?_, (hf fo (Ne.symm hd.2.2.2.2)).trans e_fo, hDA, hZn, hok, hvs, hnw, hsb⟩, fun q e9 h9 hn => ⟨?_, hn⟩, fun c hc => ⟨c, hc.chg (und_arr e) hf, Nat.le_refl _⟩⟩
  · show M9 (br i1) = some (aI g 8 (if i1 = i then f1 else rv i1))
    by_cases t : i1 = i
    · rw [t, if_pos rfl]; exact e
    · rw [if_neg t, hf _ (fun z => t (hDA.2.2.2.2.2 i1 i hi1 hi z))]
      exact e_br i1 hi1
  · rw [hf q (fun t => hn (Or.inr (Or.inr (Or.inr (Or.inr (Or.inr (Or.inr (Or.inr (Or.inr ⟨i, hi, t⟩)))))))))]
    exact h9
/-- the versions' row changes -/
theorem CX.ckp (hC : CX g M N Z x kp pf bs h nm ms sc sa fo br kf nw fm fs fa ff rv σ) {kf1 : Nat → Option Nat} (e : M9 kp = some (aN g 60 kf1)) (hf : ∀ q, q ≠ kp → M9 q = M q) (hvs1 : ∀ j, j < sKc σ → kf1 j = kf j) : CX g M9 N Z x kp pf bs h nm ms sc sa fo br kf1 nw fm fs fa ff rv σ := by
  obtain ⟨hW, hH, e_x, e_kp, e_pf, e_bs, e_br, e_fo, hDA, hZn, hok, hvs, hnw, hsb⟩ := hC
  have hH0 := hH
  obtain ⟨q1, q2, q3, q4, ⟨fn, q5, q6⟩, q7⟩ := hH0
  refine ⟨hW.chg hf (N_arr hW e_kp) (Z_arN hW e_kp), hH.chg hf (ne_lk q1 e_kp (by simp)) (ne_lk q5 e_kp (Ne.symm ne_NI)) (ne_lk q2 e_kp (Ne.symm ne_NI)) (ne_lk q3 e_kp (Ne.symm ne_NI)) (ne_lk q4 e_kp (Ne.symm ne_NI)), (hf x (ne_lk e_x e_kp (by simp))).trans e_x, e, (hf pf (ne_lk e_pf e_kp (by simp))).trans e_pf, (hf bs (fun t => ?_)).trans e_bs, fun i hi => (hf _ (ne_lk (e_br i hi) e_kp (Ne.symm ne_NI))).trans (e_br i hi), (hf fo (ne_lk e_fo e_kp (Ne.symm ne_NI))).trans e_fo, hDA, hZn, hok, fun j hj => by rw [hvs1 j hj]; exact hvs j hj, hnw, hsb⟩
  rw [t, e_kp] at e_bs
  have := (Prod.mk.inj (Prod.mk.inj (Sum.inl.inj (Option.some.inj e_bs))).2).1
  exact absurd this (by decide)
/-- the world grows -/
theorem CX.gr {M1 : hM} {N1 : gT} {k : Nat} (hC : CX g M N Z x kp pf bs h nm ms sc sa fo br kf nw fm fs fa ff rv σ) (hW1 : WF g M1 N1 Z) (hg : gr M N M1 N1 k) : CX g M1 N1 Z x kp pf bs h nm ms sc sa fo br kf nw fm fs fa ff rv σ := by
  obtain ⟨hW, ⟨q1, q2, q3, q4, ⟨fn, q5, q6⟩, q7⟩, e_x, e_kp, e_pf, e_bs, e_br, e_fo, hDA, hZn, hok, hvs, hnw, hsb⟩ := hC
  obtain ⟨g1, g2, g3, -⟩ := hg
  exact ⟨hW1, ⟨g3 _ _ q1, g3 _ _ q2, g3 _ _ q3, g3 _ _ q4, ⟨fn, g3 _ _ q5, q6⟩, q7⟩, g3 _ _ e_x, g3 _ _ e_kp, g3 _ _ e_pf, g3 _ _ e_bs, fun i hi => g3 _ _ (e_br i hi), g3 _ _ e_fo, hDA, hZn, hok, fun j hj => (hvs j hj).mono g1, hnw.mono g1, hsb⟩
/-- a growth, then a call's end -/
theorem CP.gr {M1 : hM} {N1 : gT} {k k1 k2 u : Nat} {σ9 : cSt} (hg : gr M N M1 N1 k1) (hP : CP g M1 N1 x kp pf bs h nm ms sc sa fo br k2 u M9 σ9) (hk : k1 + k2 ≤ k) : CP g M N x kp pf bs h nm ms sc sa fo br k u M9 σ9 := by
  obtain ⟨N9, Z9, kf9, nw9, fm9, fs9, fa9, ff9, rv9, hC9, hF, hc⟩ := hP
  have hg0 := hg
  obtain ⟨g1, g2, g3, -⟩ := hg0
  refine ⟨N9, Z9, kf9, nw9, fm9, fs9, fa9, ff9, rv9, hC9, fun q e h9 hn => hF q e (g3 q e h9) (fun t => hn ?_), fun c h0 => ?_⟩
  · rcases t with t | t
    · refine Or.inl (fun z => ?_)
      rw [g2 q t z] at h9
      cases h9
    · exact Or.inr t
  · obtain ⟨c9, p9, e9⟩ := hc (c + k1) (hg.pt h0)
    exact ⟨c9, p9, by omega⟩
end CXC
theorem CP.rf {g : hG} {M : hM} {N Z : gT} {x kp pf bs h nm ms sc sa fo : Nat} {br : Nat → Nat} {kf : Nat → Option Nat} {nw : Option Nat} {fm fs fa ff : Nat → Int32} {rv : Nat → Nat → Int32} {σ : cSt} {k : Nat} (hC : CX g M N Z x kp pf bs h nm ms sc sa fo br kf nw fm fs fa ff rv σ) : CP g M N x kp pf bs h nm ms sc sa fo br k 0 M σ := ⟨N, Z, kf, nw, fm, fs, fa, ff, rv, hC, fun _ _ h9 hn => ⟨h9, hn⟩, fun c hc => ⟨c, hc, Nat.le_add_right _ _⟩⟩
/-- the answers and the states behind the calls that change -/
def sCut (σ : cSt) (n : Int32) : Int32 × cSt := if decide (0 ≤ n) && decide (n ≤ nI (sPl σ)) then (1, (sNow σ, sKc σ, sVs σ, n.toNatClampNeg, sPe σ, sPk σ, sPv σ, sSb σ)) else (-1, σ)
def sClaim (σ : cSt) (k v : Int32) : Int32 × cSt := if k = -1 then (1, (sNow σ, sKc σ, sVs σ, sPl σ, false, 0, 0, sSb σ)) else if isK k then (1, (sNow σ, sKc σ, sVs σ, sPl σ, true, k, v, sSb σ)) else (-1, σ)
def sb1 (sb : Nat → Nat → Int32) (i j : Nat) (x : Int32) : Nat → Nat → Int32 := fun a b => if a = i ∧ b = j then x else sb a b
def sAlter (σ : cSt) (k i x : Int32) : Int32 × cSt := if isS σ k && isW i then (1, (sNow σ, sKc σ, sVs σ, sPl σ, sPe σ, sPk σ, sPv σ, sb1 (sSb σ) k.toNatClampNeg i.toNatClampNeg (sSb σ k.toNatClampNeg i.toNatClampNeg ^^^ x))) else (-1, σ)
def sCommit (σ : cSt) : Int32 × cSt := if sKc σ = 60 then (-3, σ) else (nI (sKc σ), (sNow σ, sKc σ + 1, fun j => if j = sKc σ then sNow σ else sVs σ j, sPl σ, sPe σ, sPk σ, sPv σ, sSb σ))
def sBack (σ : cSt) (v : Int32) : Int32 × cSt := if isV σ v && decide (0 ≤ v) then (nI (mapV σ v).length, (mapV σ v, sKc σ, sVs σ, sPl σ, sPe σ, sPk σ, sPv σ, sSb σ)) else (-1, σ)
def hasE (E : En) (k : Nat) : Bool := (lkE E k).isSome
def setN (σ : cSt) (E : En) : cSt := (E, sKc σ, sVs σ, sPl σ, sPe σ, sPk σ, sPv σ, sSb σ)
def sPut (σ : cSt) (k v : Int32) : Int32 × cSt := if isK k then (if hasE (sNow σ) k.toNatClampNeg then (0, setN σ (putL k.toNatClampNeg v (sNow σ))) else if (sNow σ).length = 300 then (-3, σ) else (1, setN σ (putL k.toNatClampNeg v (sNow σ)))) else (-1, σ)
def sRem (σ : cSt) (k : Int32) : Int32 × cSt := if isK k then (if hasE (sNow σ) k.toNatClampNeg then (1, setN σ (remL k.toNatClampNeg (sNow σ))) else (0, σ)) else (-1, σ)
set_option maxHeartbeats 4000000 in
set_option maxRecDepth 100000 in
theorem c_X2_endWithNothing (l : Launch) (g : hG) (M : hM) (pf bs : Nat) (x1 x2 x3 x4 : Int32) (e_pf : M pf = some (.inr (2, [.ref bs, .int x1, .int x2, .int x3, .int x4]))) : Cv l g yX2_endWithNothing cX2_endWithNothing 1 1 0 0 [.ref pf] M (fun M9 => M9 pf = some (.inr (2, [.ref bs, .int x1, .int 0, .int 0, .int 0])) ∧ ∀ q, q ≠ pf → M9 q = M q) := by
  refine hp_startV (by decide) (by exact Nat.le_of_ble_eq_true rfl) ?_
  intro p e s m below meth c Q H locs ls EE hnm ret hm hS hl
  have hx := EE.1
  have hb := EE.2.1
  have hown := EE.2.2.2.1
  have hts := EE.2.2.2.2.1
  have hl : lv_has ls 1 [(0, .ref pf)] := hl
  refine lv_aload_n hx hb dX2_endWithNothing_0 rfl (lv_at hl 0 rfl) ?_
  refine lv_iconst (v := 0) hx hb dX2_endWithNothing_1 (by decide) ?_
  refine hp_put (C := RX2) (T := TX2) (N := 5) (v := .int 0) (ty := .boolean) EE hm hS e_pf inh2 tyX2 tyX2_ok nmX2 rfl 2 (by decide) wf_X2_20 rfl (by decide +kernel) (by decide) (by decide) (Nat.le_of_ble_eq_true rfl) dX2_endWithNothing_2 (fun H locs hm hS => ?_)
  obtain ⟨Mx1, hMx1⟩ : ∃ Mz, Mz = hm_up M pf (.inr (2, [.ref bs, .int x1, .int 0, .int x3, .int x4])) := ⟨_, rfl⟩
  have hm : hp g Mx1 H := by rw [hMx1]; exact hm
  have e_pf : Mx1 pf = some (.inr (2, [.ref bs, .int x1, .int 0, .int x3, .int x4])) := by rw [hMx1]; exact up_eq
  refine lv_aload_n hx hb dX2_endWithNothing_5 rfl (lv_at hl 0 rfl) ?_
  refine lv_iconst (v := 0) hx hb dX2_endWithNothing_6 (by decide) ?_
  refine hp_put (C := RX2) (T := TX2) (N := 5) (v := .int 0) (ty := .int) EE hm hS e_pf inh2 tyX2 tyX2_ok nmX2 rfl 3 (by decide) wf_X2_24 rfl (by decide +kernel) rfl rfl (Nat.le_of_ble_eq_true rfl) dX2_endWithNothing_7 (fun H locs hm hS => ?_)
  obtain ⟨Mx2, hMx2⟩ : ∃ Mz, Mz = hm_up Mx1 pf (.inr (2, [.ref bs, .int x1, .int 0, .int 0, .int x4])) := ⟨_, rfl⟩
  have hm : hp g Mx2 H := by rw [hMx2]; exact hm
  have e_pf : Mx2 pf = some (.inr (2, [.ref bs, .int x1, .int 0, .int 0, .int x4])) := by rw [hMx2]; exact up_eq
  refine lv_aload_n hx hb dX2_endWithNothing_10 rfl (lv_at hl 0 rfl) ?_
  refine lv_iconst (v := 0) hx hb dX2_endWithNothing_11 (by decide) ?_
  refine hp_put (C := RX2) (T := TX2) (N := 5) (v := .int 0) (ty := .int) EE hm hS e_pf inh2 tyX2 tyX2_ok nmX2 rfl 4 (by decide) wf_X2_27 rfl (by decide +kernel) rfl rfl (Nat.le_of_ble_eq_true rfl) dX2_endWithNothing_12 (fun H locs hm hS => ?_)
  obtain ⟨Mx3, hMx3⟩ : ∃ Mz, Mz = hm_up Mx2 pf (.inr (2, [.ref bs, .int x1, .int 0, .int 0, .int 0])) := ⟨_, rfl⟩
  have hm : hp g Mx3 H := by rw [hMx3]; exact hm
  have e_pf : Mx3 pf = some (.inr (2, [.ref bs, .int x1, .int 0, .int 0, .int 0])) := by rw [hMx3]; exact up_eq
  exact ret dX2_endWithNothing_15 hm hS (Nat.le_of_ble_eq_true rfl) (Nat.le_of_ble_eq_true rfl) (⟨e_pf, fun q hx => by rw [hMx3, up_ne hx, hMx2, up_ne hx, hMx1, up_ne hx]⟩)
set_option maxHeartbeats 4000000 in
set_option maxRecDepth 100000 in
theorem c_X2_endWithEntry (l : Launch) (g : hG) (M : hM) (pf bs : Nat) (x1 x2 x3 x4 : Int32) (e_pf : M pf = some (.inr (2, [.ref bs, .int x1, .int x2, .int x3, .int x4]))) (k0 v0 : Int32) : Cv l g yX2_endWithEntry cX2_endWithEntry 3 1 0 0 [.ref pf, .int k0, .int v0] M (fun M9 => M9 pf = some (.inr (2, [.ref bs, .int x1, .int 1, .int k0, .int v0])) ∧ ∀ q, q ≠ pf → M9 q = M q) := by
  refine hp_startV (by decide) (by exact Nat.le_of_ble_eq_true rfl) ?_
  intro p e s m below meth c Q H locs ls EE hnm ret hm hS hl
  have hx := EE.1
  have hb := EE.2.1
  have hown := EE.2.2.2.1
  have hts := EE.2.2.2.2.1
  have hl : lv_has ls 3 [(0, .ref pf), (1, .int k0), (2, .int v0)] := hl
  refine lv_aload_n hx hb dX2_endWithEntry_0 rfl (lv_at hl 0 rfl) ?_
  refine lv_iconst (v := 1) hx hb dX2_endWithEntry_1 (by decide) ?_
  refine hp_put (C := RX2) (T := TX2) (N := 5) (v := .int 1) (ty := .boolean) EE hm hS e_pf inh2 tyX2 tyX2_ok nmX2 rfl 2 (by decide) wf_X2_20 rfl (by decide +kernel) (by decide) (by decide) (Nat.le_of_ble_eq_true rfl) dX2_endWithEntry_2 (fun H locs hm hS => ?_)
  obtain ⟨Mx1, hMx1⟩ : ∃ Mz, Mz = hm_up M pf (.inr (2, [.ref bs, .int x1, .int 1, .int x3, .int x4])) := ⟨_, rfl⟩
  have hm : hp g Mx1 H := by rw [hMx1]; exact hm
  have e_pf : Mx1 pf = some (.inr (2, [.ref bs, .int x1, .int 1, .int x3, .int x4])) := by rw [hMx1]; exact up_eq
  refine lv_aload_n hx hb dX2_endWithEntry_5 rfl (lv_at hl 0 rfl) ?_
  refine lv_iload_n hx hb dX2_endWithEntry_6 rfl (lv_at hl 1 rfl) ?_
  refine hp_put (C := RX2) (T := TX2) (N := 5) (v := .int k0) (ty := .int) EE hm hS e_pf inh2 tyX2 tyX2_ok nmX2 rfl 3 (by decide) wf_X2_24 rfl (by decide +kernel) rfl rfl (Nat.le_of_ble_eq_true rfl) dX2_endWithEntry_7 (fun H locs hm hS => ?_)
  obtain ⟨Mx2, hMx2⟩ : ∃ Mz, Mz = hm_up Mx1 pf (.inr (2, [.ref bs, .int x1, .int 1, .int k0, .int x4])) := ⟨_, rfl⟩
  have hm : hp g Mx2 H := by rw [hMx2]; exact hm
  have e_pf : Mx2 pf = some (.inr (2, [.ref bs, .int x1, .int 1, .int k0, .int x4])) := by rw [hMx2]; exact up_eq
  refine lv_aload_n hx hb dX2_endWithEntry_10 rfl (lv_at hl 0 rfl) ?_
  refine lv_iload_n hx hb dX2_endWithEntry_11 rfl (lv_at hl 2 rfl) ?_
  refine hp_put (C := RX2) (T := TX2) (N := 5) (v := .int v0) (ty := .int) EE hm hS e_pf inh2 tyX2 tyX2_ok nmX2 rfl 4 (by decide) wf_X2_27 rfl (by decide +kernel) rfl rfl (Nat.le_of_ble_eq_true rfl) dX2_endWithEntry_12 (fun H locs hm hS => ?_)
  obtain ⟨Mx3, hMx3⟩ : ∃ Mz, Mz = hm_up Mx2 pf (.inr (2, [.ref bs, .int x1, .int 1, .int k0, .int v0])) := ⟨_, rfl⟩
  have hm : hp g Mx3 H := by rw [hMx3]; exact hm
  have e_pf : Mx3 pf = some (.inr (2, [.ref bs, .int x1, .int 1, .int k0, .int v0])) := by rw [hMx3]; exact up_eq
  exact ret dX2_endWithEntry_15 hm hS (Nat.le_of_ble_eq_true rfl) (Nat.le_of_ble_eq_true rfl) (⟨e_pf, fun q hx => by rw [hMx3, up_ne hx, hMx2, up_ne hx, hMx1, up_ne hx]⟩)
set_option maxHeartbeats 4000000 in
set_option maxRecDepth 100000 in
theorem c_X3_cut (l : Launch) (g : hG) (M : hM) (N Z : gT) (x kp pf bs h nm ms sc sa fo : Nat) (br : Nat → Nat) (kf : Nat → Option Nat) (nw : Option Nat) (fm fs fa ff : Nat → Int32) (rv : Nat → Nat → Int32) (σ : cSt) (hC : CX g M N Z x kp pf bs h nm ms sc sa fo br kf nw fm fs fa ff rv σ) (n0 : Int32) : Ci l g yX3_cut cX3_cut 2 .int 1 0 0 [.ref x, .int n0] M (fun r M9 => r = (sCut σ n0).1 ∧ CP g M N x kp pf bs h nm ms sc sa fo br 0 0 M9 ((sCut σ n0).2)) := by
  have hC0 := hC
  obtain ⟨hW, hH, e_x, e_kp, e_pf, e_bs, e_br, e_fo, hDA, hZn, hok, hvs, hnw, hsb⟩ := hC
  have hok0 := hok
  obtain ⟨hkc, hvg, hgn, hpl, hpk⟩ := hok
  refine hp_startI (by decide) (by exact Nat.le_of_ble_eq_true rfl) ?_
  intro p e s m below meth c Q H locs ls EE hnm ret hm hS hl
  have hx := EE.1
  have hb := EE.2.1
  have hown := EE.2.2.2.1
  have hts := EE.2.2.2.2.1
  have hl : lv_has ls 2 [(0, .ref x), (1, .int n0)] := hl
  refine lv_iload_n hx hb dX3_cut_0 rfl (lv_at hl 1 rfl) ?_
  refine lv_if_lt (tgt := 15) hx hb dX3_cut_1 (by decide) (fun c_1 => ?_) (fun c_1 => ?_)
  · refine lv_iconst (v := (-1)) hx hb dX3_cut_15 (by decide) ?_
    exact ret dX3_cut_16 na_i hm hS (Nat.le_of_ble_eq_true rfl) (Nat.le_of_ble_eq_true rfl) (⟨by unfold sCut; first | (rw [decide_eq_false (Int32.not_le.mpr c_1)]; rfl) | (rw [decide_eq_false c_12, Bool.and_false]; rfl), by unfold sCut; first | (rw [decide_eq_false (Int32.not_le.mpr c_1)]; exact CP.rf hC0) | (rw [decide_eq_false c_12, Bool.and_false]; exact CP.rf hC0)⟩)
  · refine lv_iload_n hx hb dX3_cut_4 rfl (lv_at hl 1 rfl) ?_
    refine lv_aload_n hx hb dX3_cut_5 rfl (lv_at hl 0 rfl) ?_
    refine hp_get (C := RX3) (T := TX3) (N := 6) (v := .ref pf) EE hm e_x inh3 rfl 3 (by decide) wf_X3_26 rfl dX3_cut_6 ?_
    refine hp_get (C := RX2) (T := TX2) (N := 5) (v := .int (nI (sPl σ))) EE hm e_pf inh2 rfl 1 (by decide) wf_X3_99 rfl dX3_cut_9 ?_
    refine lv_icmp_le (tgt := 17) hx hb dX3_cut_12 (by decide) (fun c_12 => ?_) (fun c_12 => ?_)
    · have hT : (decide (0 ≤ n0) && decide (n0 ≤ nI (sPl σ))) = true := by rw [decide_eq_true (i_nlt0 c_1), decide_eq_true c_12]; rfl
      obtain ⟨nn, hnn, hne⟩ := nI_of c_1
      subst hne
      have hle := (nI_leI hnn (by omega)).mp c_12
      refine lv_aload_n hx hb dX3_cut_17 rfl (lv_at hl 0 rfl) ?_
      refine hp_get (C := RX3) (T := TX3) (N := 6) (v := .ref pf) EE hm e_x inh3 rfl 3 (by decide) wf_X3_26 rfl dX3_cut_18 ?_
      refine lv_iload_n hx hb dX3_cut_21 rfl (lv_at hl 1 rfl) ?_
      refine hp_put (C := RX2) (T := TX2) (N := 5) (v := .int (nI nn)) (ty := .int) EE hm hS e_pf inh2 tyX2 tyX2_ok nmX2 rfl 1 (by decide) wf_X3_99 rfl (by decide +kernel) rfl rfl (Nat.le_of_ble_eq_true rfl) dX3_cut_22 (fun H locs hm hS => ?_)
      obtain ⟨Mx1, hMx1⟩ : ∃ Mz, Mz = hm_up M pf (.inr (2, [.ref bs, .int (nI nn), .int (bI (sPe σ)), .int (sPk σ), .int (sPv σ)])) := ⟨_, rfl⟩
      have hm : hp g Mx1 H := by rw [hMx1]; exact hm
      have e_x : Mx1 x = some (.inr (3, [.ref kp, .int (nI (sKc σ)), va_rf nw, .ref pf, .ref h, .ref fo])) := by rw [hMx1]; exact up_at (ne_lk e_x e_pf (by simp)) e_x
      have e_kp : Mx1 kp = some (aN g 60 kf) := by rw [hMx1]; exact up_at (ne_lk e_kp e_pf (by simp)) e_kp
      have e_bs : Mx1 bs = some (aR g 16 (fun i => some (br i))) := by rw [hMx1]; exact up_at (ne_lk e_bs e_pf (by simp)) e_bs
      have e_pf : Mx1 pf = some (.inr (2, [.ref bs, .int (nI nn), .int (bI (sPe σ)), .int (sPk σ), .int (sPv σ)])) := by rw [hMx1]; exact up_eq
      refine lv_iconst (v := 1) hx hb dX3_cut_25 (by decide) ?_
      exact ret dX3_cut_26 na_i hm hS (Nat.le_of_ble_eq_true rfl) (Nat.le_of_ble_eq_true rfl) (⟨by unfold sCut; rw [hT]; rfl, by unfold sCut; rw [hT, if_pos rfl, nI_clamp hnn]; exact CX.cpf hC0 e_pf (fun q hx => by rw [hMx1, up_ne hx]) (by omega) hpk (fun i hi j hj => hsb i (by omega) j hj)⟩)
    · refine lv_iconst (v := (-1)) hx hb dX3_cut_15 (by decide) ?_
      exact ret dX3_cut_16 na_i hm hS (Nat.le_of_ble_eq_true rfl) (Nat.le_of_ble_eq_true rfl) (⟨by unfold sCut; first | (rw [decide_eq_false (Int32.not_le.mpr c_1)]; rfl) | (rw [decide_eq_false c_12, Bool.and_false]; rfl), by unfold sCut; first | (rw [decide_eq_false (Int32.not_le.mpr c_1)]; exact CP.rf hC0) | (rw [decide_eq_false c_12, Bool.and_false]; exact CP.rf hC0)⟩)
set_option maxHeartbeats 4000000 in
set_option maxRecDepth 100000 in
theorem c_X3_claim (l : Launch) (g : hG) (M : hM) (N Z : gT) (x kp pf bs h nm ms sc sa fo : Nat) (br : Nat → Nat) (kf : Nat → Option Nat) (nw : Option Nat) (fm fs fa ff : Nat → Int32) (rv : Nat → Nat → Int32) (σ : cSt) (hC : CX g M N Z x kp pf bs h nm ms sc sa fo br kf nw fm fs fa ff rv σ) (k0 v0 : Int32) : Ci l g yX3_claim cX3_claim 3 .int 2 0 0 [.ref x, .int k0, .int v0] M (fun r M9 => r = (sClaim σ k0 v0).1 ∧ CP g M N x kp pf bs h nm ms sc sa fo br 0 0 M9 ((sClaim σ k0 v0).2)) := by
  have hC0 := hC
  obtain ⟨hW, hH, e_x, e_kp, e_pf, e_bs, e_br, e_fo, hDA, hZn, hok, hvs, hnw, hsb⟩ := hC
  have hok0 := hok
  obtain ⟨hkc, hvg, hgn, hpl, hpk⟩ := hok
  refine hp_startI (by decide) (by exact Nat.le_of_ble_eq_true rfl) ?_
  intro p e s m below meth c Q H locs ls EE hnm ret hm hS hl
  have hx := EE.1
  have hb := EE.2.1
  have hown := EE.2.2.2.1
  have hts := EE.2.2.2.2.1
  have hl : lv_has ls 3 [(0, .ref x), (1, .int k0), (2, .int v0)] := hl
  refine lv_iload_n hx hb dX3_claim_0 rfl (lv_at hl 1 rfl) ?_
  refine lv_iconst (v := (-1)) hx hb dX3_claim_1 (by decide) ?_
  refine lv_icmp_ne (tgt := 14) hx hb dX3_claim_2 (by decide) (fun c_2 => ?_) (fun c_2 => ?_)
  · refine lv_iload_n hx hb dX3_claim_14 rfl (lv_at hl 1 rfl) ?_
    refine hp_ci (hp_runS (np := 1) (k := 1) (mc := 0) (ms := 0) (As := [.int k0]) (rest := []) EE hm hS (c_X3_isKey l g M k0) ms_X3_isKey wt_X3_isKey wl_X3_41 rfl hl.1 rfl (Nat.le_of_ble_eq_true rfl) dX3_claim_15 ⟨Nat.le_of_ble_eq_true rfl, Nat.le_of_ble_eq_true rfl⟩ ⟨(Nat.le_of_ble_eq_true rfl), (Nat.le_of_ble_eq_true rfl)⟩) hS (fun r1 Mx2 H locs hq3 hm hS => ?_)
    obtain ⟨rfl, h9⟩ := hq3
    rw [h9] at hm
    refine lv_if_ne (tgt := 23) hx hb dX3_claim_18 (by decide) (fun c_18 => ?_) (fun c_18 => ?_)
    · have c_18 := bI_t c_18
      refine lv_aload_n hx hb dX3_claim_23 rfl (lv_at hl 0 rfl) ?_
      refine hp_get (C := RX3) (T := TX3) (N := 6) (v := .ref pf) EE hm e_x inh3 rfl 3 (by decide) wf_X3_26 rfl dX3_claim_24 ?_
      refine lv_iload_n hx hb dX3_claim_27 rfl (lv_at hl 1 rfl) ?_
      refine lv_iload_n hx hb dX3_claim_28 rfl (lv_at hl 2 rfl) ?_
      refine hp_cv (hp_runV (C := RX2) (T := TX2) (N := 5) (np := 2) (k := 1) (mc := 0) (ms := 0) (As := [.int k0, .int v0]) (rest := []) EE hm hS (c_X2_endWithEntry l g M pf bs _ _ _ _ e_pf k0 v0) ms_X2_endWithEntry wi_X2_endWithEntry ws_X2_endWithEntry wl_X3_108 e_pf rfl rfl hl.1 rfl (Nat.le_of_ble_eq_true rfl) dX3_claim_29 ⟨Nat.le_of_ble_eq_true rfl, Nat.le_of_ble_eq_true rfl⟩ ⟨(Nat.le_of_ble_eq_true rfl), (Nat.le_of_ble_eq_true rfl)⟩) hS (fun Mx4 H locs hq5 hm hS => ?_)
      obtain ⟨e_9, hf9⟩ := hq5
      refine lv_iconst (v := 1) hx hb dX3_claim_32 (by decide) ?_
      exact ret dX3_claim_33 na_i hm hS (Nat.le_of_ble_eq_true rfl) (Nat.le_of_ble_eq_true rfl) (⟨by unfold sClaim; rw [if_neg c_2, c_18]; rfl, by unfold sClaim; rw [if_neg c_2, c_18]; exact CX.cpf (pe := true) hC0 e_9 hf9 hpl ⟨fun _ => (by obtain ⟨kk, h1, h2⟩ := isK_nat c_18; exact ⟨kk, h1, h2⟩), fun q => (by cases q)⟩ hsb⟩)
    · have c_18 := bI_f c_18
      refine lv_iconst (v := (-1)) hx hb dX3_claim_21 (by decide) ?_
      exact ret dX3_claim_22 na_i hm hS (Nat.le_of_ble_eq_true rfl) (Nat.le_of_ble_eq_true rfl) (⟨by unfold sClaim; rw [if_neg c_2, c_18]; rfl, by unfold sClaim; rw [if_neg c_2, c_18]; exact CP.rf hC0⟩)
  · refine lv_aload_n hx hb dX3_claim_5 rfl (lv_at hl 0 rfl) ?_
    refine hp_get (C := RX3) (T := TX3) (N := 6) (v := .ref pf) EE hm e_x inh3 rfl 3 (by decide) wf_X3_26 rfl dX3_claim_6 ?_
    refine hp_cv (hp_runV (C := RX2) (T := TX2) (N := 5) (np := 0) (k := 1) (mc := 0) (ms := 0) (As := ([] : List Value)) (rest := []) EE hm hS (c_X2_endWithNothing l g M pf bs _ _ _ _ e_pf) ms_X2_endWithNothing wi_X2_endWithNothing ws_X2_endWithNothing wl_X3_102 e_pf rfl rfl hl.1 rfl (Nat.le_of_ble_eq_true rfl) dX3_claim_9 ⟨Nat.le_of_ble_eq_true rfl, Nat.le_of_ble_eq_true rfl⟩ ⟨(Nat.le_of_ble_eq_true rfl), (Nat.le_of_ble_eq_true rfl)⟩) hS (fun Mx6 H locs hq7 hm hS => ?_)
    obtain ⟨e_9, hf9⟩ := hq7
    refine lv_iconst (v := 1) hx hb dX3_claim_12 (by decide) ?_
    exact ret dX3_claim_13 na_i hm hS (Nat.le_of_ble_eq_true rfl) (Nat.le_of_ble_eq_true rfl) (⟨by unfold sClaim; rw [if_pos c_2], by unfold sClaim; rw [if_pos c_2]; exact CX.cpf (pe := false) hC0 e_9 hf9 hpl ⟨fun q => (by cases q), fun _ => ⟨rfl, rfl⟩⟩ hsb⟩)
set_option maxHeartbeats 4000000 in
set_option maxRecDepth 100000 in
theorem c_X3_alter (l : Launch) (g : hG) (M : hM) (N Z : gT) (x kp pf bs h nm ms sc sa fo : Nat) (br : Nat → Nat) (kf : Nat → Option Nat) (nw : Option Nat) (fm fs fa ff : Nat → Int32) (rv : Nat → Nat → Int32) (σ : cSt) (hC : CX g M N Z x kp pf bs h nm ms sc sa fo br kf nw fm fs fa ff rv σ) (k0 i0 x0 : Int32) : Ci l g yX3_alter cX3_alter 4 .int 2 0 0 [.ref x, .int k0, .int i0, .int x0] M (fun r M9 => r = (sAlter σ k0 i0 x0).1 ∧ CP g M N x kp pf bs h nm ms sc sa fo br 0 0 M9 ((sAlter σ k0 i0 x0).2)) := by
  have hC0 := hC
  obtain ⟨hW, hH, e_x, e_kp, e_pf, e_bs, e_br, e_fo, hDA, hZn, hok, hvs, hnw, hsb⟩ := hC
  have hok0 := hok
  obtain ⟨hkc, hvg, hgn, hpl, hpk⟩ := hok
  refine hp_startI (by decide) (by exact Nat.le_of_ble_eq_true rfl) ?_
  intro p e s m below meth c Q H locs ls EE hnm ret hm hS hl
  have hx := EE.1
  have hb := EE.2.1
  have hown := EE.2.2.2.1
  have hts := EE.2.2.2.2.1
  have hl : lv_has ls 4 [(0, .ref x), (1, .int k0), (2, .int i0), (3, .int x0)] := hl
  refine lv_aload_n hx hb dX3_alter_0 rfl (lv_at hl 0 rfl) ?_
  refine lv_iload_n hx hb dX3_alter_1 rfl (lv_at hl 1 rfl) ?_
  refine hp_ci (hp_runV (C := RX3) (T := TX3) (N := 6) (np := 1) (k := 1) (mc := 0) (ms := 0) (As := [.int k0]) (rest := []) EE hm hS (c_X3_isSibling l g M N Z x kp pf bs h nm ms sc sa fo br kf nw fm fs fa ff rv σ hC0 k0) ms_X3_isSibling wi_X3_isSibling ws_X3_isSibling wl_X3_111 e_x rfl rfl hl.1 rfl (Nat.le_of_ble_eq_true rfl) dX3_alter_2 ⟨Nat.le_of_ble_eq_true rfl, Nat.le_of_ble_eq_true rfl⟩ ⟨(Nat.le_of_ble_eq_true rfl), (Nat.le_of_ble_eq_true rfl)⟩) hS (fun r1 Mx2 H locs hq3 hm hS => ?_)
  obtain ⟨rfl, h9⟩ := hq3
  rw [h9] at hm
  refine lv_if_eq (tgt := 15) hx hb dX3_alter_5 (by decide) (fun c_5 => ?_) (fun c_5 => ?_)
  · have c_5 := bI_f c_5
    refine lv_iconst (v := (-1)) hx hb dX3_alter_15 (by decide) ?_
    exact ret dX3_alter_16 na_i hm hS (Nat.le_of_ble_eq_true rfl) (Nat.le_of_ble_eq_true rfl) (⟨by unfold sAlter; first | (rw [c_5]; rfl) | (rw [c_5, c_12]; rfl), by unfold sAlter; first | (rw [c_5]; exact CP.rf hC0) | (rw [c_5, c_12]; exact CP.rf hC0)⟩)
  · have c_5 := bI_t c_5
    refine lv_iload_n hx hb dX3_alter_8 rfl (lv_at hl 2 rfl) ?_
    refine hp_ci (hp_runS (np := 1) (k := 1) (mc := 0) (ms := 0) (As := [.int i0]) (rest := []) EE hm hS (c_X3_isWord l g M i0) ms_X3_isWord wt_X3_isWord wl_X3_76 rfl hl.1 rfl (Nat.le_of_ble_eq_true rfl) dX3_alter_9 ⟨Nat.le_of_ble_eq_true rfl, Nat.le_of_ble_eq_true rfl⟩ ⟨(Nat.le_of_ble_eq_true rfl), (Nat.le_of_ble_eq_true rfl)⟩) hS (fun r4 Mx5 H locs hq6 hm hS => ?_)
    obtain ⟨rfl, h9⟩ := hq6
    rw [h9] at hm
    refine lv_if_ne (tgt := 17) hx hb dX3_alter_12 (by decide) (fun c_12 => ?_) (fun c_12 => ?_)
    · have c_12 := bI_t c_12
      obtain ⟨i, hi, hie⟩ := isS_nat hpl c_5
      obtain ⟨j, hj, hje⟩ := isW_nat c_12
      have e_b := e_br i (by omega)
      have n_kb : kp ≠ br i := ne_lk e_kp e_b ne_NI
      have n_bb : bs ≠ br i := ne_lk e_bs e_b ne_RI
      refine lv_aload_n hx hb dX3_alter_17 rfl (lv_at hl 0 rfl) ?_
      refine hp_get (C := RX3) (T := TX3) (N := 6) (v := .ref pf) EE hm e_x inh3 rfl 3 (by decide) wf_X3_26 rfl dX3_alter_18 ?_
      refine hp_get (C := RX2) (T := TX2) (N := 5) (v := .ref bs) EE hm e_pf inh2 rfl 0 (by decide) wf_X3_91 rfl dX3_alter_21 ?_
      refine lv_iload_n hx hb dX3_alter_24 rfl (lv_at hl 1 rfl) ?_
      refine hp_aaldRN EE hm e_bs i hie (by omega) (by decide) dX3_alter_25 ?_
      refine lv_iload_n hx hb dX3_alter_26 rfl (lv_at hl 2 rfl) ?_
      refine lv_dup2_11 hx hb dX3_alter_27 rfl rfl ?_
      refine hp_ialdN EE hm e_b j hje (by omega) (by decide) dX3_alter_28 ?_
      refine lv_iload_n hx hb dX3_alter_29 rfl (lv_at hl 3 rfl) ?_
      refine lv_ixor hx hb dX3_alter_30 ?_
      refine hp_iastN EE hm hS e_b j hje (by omega) (by decide) dX3_alter_31 (fun H locs hm hS => ?_)
      obtain ⟨Mx7, hMx7⟩ : ∃ Mz, Mz = hm_up M (br i) (aI g 8 (upd (rv i) j (((rv i) j) ^^^ x0))) := ⟨_, rfl⟩
      have hm : hp g Mx7 H := by rw [hMx7]; exact hm
      have e_x : Mx7 x = some (.inr (3, [.ref kp, .int (nI (sKc σ)), va_rf nw, .ref pf, .ref h, .ref fo])) := by rw [hMx7]; exact up_at (ne_lk e_x e_b (by simp)) e_x
      have e_kp : Mx7 kp = some (aN g 60 kf) := by rw [hMx7]; exact up_at n_kb e_kp
      have e_pf : Mx7 pf = some (.inr (2, [.ref bs, .int (nI (sPl σ)), .int (bI (sPe σ)), .int (sPk σ), .int (sPv σ)])) := by rw [hMx7]; exact up_at (ne_lk e_pf e_b (by simp)) e_pf
      have e_bs : Mx7 bs = some (aR g 16 (fun i => some (br i))) := by rw [hMx7]; exact up_at n_bb e_bs
      have e_b : Mx7 (br i) = some (aI g 8 (upd (rv i) j (((rv i) j) ^^^ x0))) := by rw [hMx7]; exact up_eq
      refine lv_iconst (v := 1) hx hb dX3_alter_32 (by decide) ?_
      exact ret dX3_alter_33 na_i hm hS (Nat.le_of_ble_eq_true rfl) (Nat.le_of_ble_eq_true rfl) (⟨by unfold sAlter; rw [c_5, c_12]; rfl, by unfold sAlter; rw [c_5, c_12, hie, hje, nI_clamp (by omega), nI_clamp (by omega)]; exact CX.cbr hC0 (by omega) e_b (fun q hx => by rw [hMx7, up_ne hx]) (fun i1 hi1 j1 hj1 => by
        unfold sb1
        by_cases t : i1 = i
        · rw [if_pos t, t]
          by_cases t2 : j1 = j
          · rw [t2, pk_us, if_pos ⟨rfl, rfl⟩, hsb i hi j hj]
          · rw [pk_un t2, if_neg (fun z => t2 z.2)]; exact hsb i hi j1 hj1
        · rw [if_neg t, if_neg (fun z => t z.1)]; exact hsb i1 hi1 j1 hj1)⟩)
    · have c_12 := bI_f c_12
      refine lv_iconst (v := (-1)) hx hb dX3_alter_15 (by decide) ?_
      exact ret dX3_alter_16 na_i hm hS (Nat.le_of_ble_eq_true rfl) (Nat.le_of_ble_eq_true rfl) (⟨by unfold sAlter; first | (rw [c_5]; rfl) | (rw [c_5, c_12]; rfl), by unfold sAlter; first | (rw [c_5]; exact CP.rf hC0) | (rw [c_5, c_12]; exact CP.rf hC0)⟩)
set_option maxHeartbeats 4000000 in
set_option maxRecDepth 100000 in
theorem c_X3_commit (l : Launch) (g : hG) (M : hM) (N Z : gT) (x kp pf bs h nm ms sc sa fo : Nat) (br : Nat → Nat) (kf : Nat → Option Nat) (nw : Option Nat) (fm fs fa ff : Nat → Int32) (rv : Nat → Nat → Int32) (σ : cSt) (hC : CX g M N Z x kp pf bs h nm ms sc sa fo br kf nw fm fs fa ff rv σ) : Ci l g yX3_commit cX3_commit 2 .int 1 0 0 [.ref x] M (fun r M9 => r = (sCommit σ).1 ∧ CP g M N x kp pf bs h nm ms sc sa fo br 0 0 M9 ((sCommit σ).2)) := by
  have hC0 := hC
  obtain ⟨hW, hH, e_x, e_kp, e_pf, e_bs, e_br, e_fo, hDA, hZn, hok, hvs, hnw, hsb⟩ := hC
  have hok0 := hok
  obtain ⟨hkc, hvg, hgn, hpl, hpk⟩ := hok
  refine hp_startI (by decide) (by exact Nat.le_of_ble_eq_true rfl) ?_
  intro p e s m below meth c Q H locs ls EE hnm ret hm hS hl
  have hx := EE.1
  have hb := EE.2.1
  have hown := EE.2.2.2.1
  have hts := EE.2.2.2.2.1
  have hl : lv_has ls 2 [(0, .ref x)] := hl
  refine lv_aload_n hx hb dX3_commit_0 rfl (lv_at hl 0 rfl) ?_
  refine hp_get (C := RX3) (T := TX3) (N := 6) (v := .int (nI (sKc σ))) EE hm e_x inh3 rfl 1 (by decide) wf_X3_15 rfl dX3_commit_1 ?_
  refine lv_if_lt (tgt := 16) hx hb dX3_commit_4 (by decide) (fun c_4 => ?_) (fun c_4 => ?_)
  · exact absurd c_4 (nI_pos (by omega))
  · refine lv_aload_n hx hb dX3_commit_7 rfl (lv_at hl 0 rfl) ?_
    refine hp_get (C := RX3) (T := TX3) (N := 6) (v := .int (nI (sKc σ))) EE hm e_x inh3 rfl 1 (by decide) wf_X3_15 rfl dX3_commit_8 ?_
    refine lv_bipush (v := 60) hx hb dX3_commit_11 (by decide) ?_
    refine lv_icmp_lt (tgt := 19) hx hb dX3_commit_13 (by decide) (fun c_13 => ?_) (fun c_13 => ?_)
    · have c_13 : (sKc σ) < 60 := (nI_ltI (a := sKc σ) (b := 60) (by omega) (by decide)).mp c_13
      have hnwn : ∀ v, nw = some v → ∃ fs9, M v = some (.inr (1, fs9)) := fun v hv => by
        rw [hv] at hnw
        obtain ⟨n9, h1, -⟩ := hnw
        obtain ⟨ky, vl, z, o, dg, h2, -⟩ := hW.1 v _ _ h1
        exact ⟨_, h2⟩
      have n_kb : kp ≠ bs := fun t => by
        rw [t, e_bs] at e_kp
        exact absurd (Prod.mk.inj (Prod.mk.inj (Sum.inl.inj (Option.some.inj e_kp))).2).1 (by decide)
      refine lv_aload_n hx hb dX3_commit_19 rfl (lv_at hl 0 rfl) ?_
      refine hp_get (C := RX3) (T := TX3) (N := 6) (v := .int (nI (sKc σ))) EE hm e_x inh3 rfl 1 (by decide) wf_X3_15 rfl dX3_commit_20 ?_
      refine lv_istore_n (lv' := [(1, .int (nI (sKc σ))), (0, .ref x)]) hx hb dX3_commit_23 rfl hl (by decide) rfl (fun ls hl => ?_)
      refine lv_aload_n hx hb dX3_commit_24 rfl (lv_at hl 1 rfl) ?_
      refine hp_get (C := RX3) (T := TX3) (N := 6) (v := .ref kp) EE hm e_x inh3 rfl 0 (by decide) wf_X3_11 rfl dX3_commit_25 ?_
      refine lv_iload_n hx hb dX3_commit_28 rfl (lv_at hl 0 rfl) ?_
      refine lv_aload_n hx hb dX3_commit_29 rfl (lv_at hl 1 rfl) ?_
      refine hp_get (C := RX3) (T := TX3) (N := 6) (v := va_rf nw) EE hm e_x inh3 rfl 2 (by decide) wf_X3_19 rfl dX3_commit_30 ?_
      refine hp_aastN EE hm hS e_kp hnwn (sKc σ) rfl (by omega) (by decide) dX3_commit_33 (fun H locs hm hS => ?_)
      obtain ⟨Mx1, hMx1⟩ : ∃ Mz, Mz = hm_up M kp (aN g 60 (va_up kf (sKc σ) nw)) := ⟨_, rfl⟩
      have hm : hp g Mx1 H := by rw [hMx1]; exact hm
      have e_x : Mx1 x = some (.inr (3, [.ref kp, .int (nI (sKc σ)), va_rf nw, .ref pf, .ref h, .ref fo])) := by rw [hMx1]; exact up_at (ne_lk e_x e_kp (by simp)) e_x
      have e_pf : Mx1 pf = some (.inr (2, [.ref bs, .int (nI (sPl σ)), .int (bI (sPe σ)), .int (sPk σ), .int (sPv σ)])) := by rw [hMx1]; exact up_at (ne_lk e_pf e_kp (by simp)) e_pf
      have e_bs : Mx1 bs = some (aR g 16 (fun i => some (br i))) := by rw [hMx1]; exact up_at (Ne.symm n_kb) e_bs
      have e_kp : Mx1 kp = some (aN g 60 (va_up kf (sKc σ) nw)) := by rw [hMx1]; exact up_eq
      have hC1 := CX.ckp hC0 (M9 := Mx1) e_kp (fun q hq => by rw [hMx1, up_ne hq]) (fun j hj => if_neg (by omega))
      have e_kp0 := e_kp
      refine lv_aload_n hx hb dX3_commit_34 rfl (lv_at hl 1 rfl) ?_
      refine lv_iload_n hx hb dX3_commit_35 rfl (lv_at hl 0 rfl) ?_
      refine lv_iconst (v := 1) hx hb dX3_commit_36 (by decide) ?_
      refine lv_iadd hx hb dX3_commit_37 ?_
      rw [nI_1]
      refine hp_put (C := RX3) (T := TX3) (N := 6) (v := .int (nI (sKc σ + 1))) (ty := .int) EE hm hS e_x inh3 tyX3 tyX3_ok nmX3 rfl 1 (by decide) wf_X3_15 rfl (by decide +kernel) rfl rfl (Nat.le_of_ble_eq_true rfl) dX3_commit_38 (fun H locs hm hS => ?_)
      obtain ⟨Mx2, hMx2⟩ : ∃ Mz, Mz = hm_up Mx1 x (.inr (3, [.ref kp, .int (nI (sKc σ + 1)), va_rf nw, .ref pf, .ref h, .ref fo])) := ⟨_, rfl⟩
      have hm : hp g Mx2 H := by rw [hMx2]; exact hm
      have e_kp : Mx2 kp = some (aN g 60 (va_up kf (sKc σ) nw)) := by rw [hMx2]; exact up_at (ne_lk e_kp e_x (by simp)) e_kp
      have e_pf : Mx2 pf = some (.inr (2, [.ref bs, .int (nI (sPl σ)), .int (bI (sPe σ)), .int (sPk σ), .int (sPv σ)])) := by rw [hMx2]; exact up_at (ne_lk e_pf e_x (by simp)) e_pf
      have e_bs : Mx2 bs = some (aR g 16 (fun i => some (br i))) := by rw [hMx2]; exact up_at (ne_lk e_bs e_x (by simp)) e_bs
      have e_x : Mx2 x = some (.inr (3, [.ref kp, .int (nI (sKc σ + 1)), va_rf nw, .ref pf, .ref h, .ref fo])) := by rw [hMx2]; exact up_eq
      refine lv_iload_n hx hb dX3_commit_41 rfl (lv_at hl 0 rfl) ?_
      have hP1 := CX.cob hC1 (M9 := Mx2) (kc := sKc σ + 1) (nw1 := nw) (E1 := sNow σ) (vs := fun j => if j = sKc σ then sNow σ else sVs σ j) e_x (fun q hq => by rw [hMx2, up_ne hq]) (by omega) (fun j hj => by
        show gE (if j = sKc σ then sNow σ else sVs σ j)
        by_cases t : j = sKc σ
        · rw [if_pos t]; exact hgn
        · rw [if_neg t]; exact hvg j (by omega)) hgn (fun j hj => by
        show rt N (if j = sKc σ then nw else kf j) 16 (if j = sKc σ then sNow σ else sVs σ j)
        by_cases t : j = sKc σ
        · rw [if_pos t, if_pos t]; exact hnw
        · rw [if_neg t, if_neg t]; exact hvs j (by omega)) hnw
      obtain ⟨N9, Z9, kf9, nw9, fm9, fs9, fa9, ff9, rv9, hC9, hF9, hc9⟩ := hP1
      exact ret dX3_commit_42 na_i hm hS (Nat.le_of_ble_eq_true rfl) (Nat.le_of_ble_eq_true rfl) (⟨by unfold sCommit; rw [if_neg (by omega)], by
        unfold sCommit
        rw [if_neg (by omega)]
        exact ⟨N9, Z9, kf9, nw9, fm9, fs9, fa9, ff9, rv9, hC9, fun q e9 h9 hn => hF9 q e9 (by rw [hMx1, up_ne (fun t => hn (Or.inr (Or.inr (Or.inl t))))]; exact h9) hn, fun c hc => hc9 c (hc.chg (a := kp) (und_arr e_kp0) (fun q hq => by rw [hMx1, up_ne hq]))⟩⟩)
    · have c_13 : ¬ (sKc σ) < 60 := fun h9 => c_13 ((nI_ltI (a := sKc σ) (b := 60) (by omega) (by decide)).mpr h9)
      refine lv_bipush (v := (-3)) hx hb dX3_commit_16 (by decide) ?_
      exact ret dX3_commit_18 na_i hm hS (Nat.le_of_ble_eq_true rfl) (Nat.le_of_ble_eq_true rfl) (⟨by unfold sCommit; rw [if_pos (by omega)], by unfold sCommit; rw [if_pos (by omega)]; exact CP.rf hC0⟩)
set_option maxHeartbeats 4000000 in
set_option maxRecDepth 100000 in
theorem c_X3_back (l : Launch) (g : hG) (M : hM) (N Z : gT) (x kp pf bs h nm ms sc sa fo : Nat) (br : Nat → Nat) (kf : Nat → Option Nat) (nw : Option Nat) (fm fs fa ff : Nat → Int32) (rv : Nat → Nat → Int32) (σ : cSt) (hC : CX g M N Z x kp pf bs h nm ms sc sa fo br kf nw fm fs fa ff rv σ) (v0 : Int32) : Ci l g yX3_back cX3_back 2 .int 2 0 0 [.ref x, .int v0] M (fun r M9 => r = (sBack σ v0).1 ∧ CP g M N x kp pf bs h nm ms sc sa fo br 0 0 M9 ((sBack σ v0).2)) := by
  have hC0 := hC
  obtain ⟨hW, hH, e_x, e_kp, e_pf, e_bs, e_br, e_fo, hDA, hZn, hok, hvs, hnw, hsb⟩ := hC
  have hok0 := hok
  obtain ⟨hkc, hvg, hgn, hpl, hpk⟩ := hok
  refine hp_startI (by decide) (by exact Nat.le_of_ble_eq_true rfl) ?_
  intro p e s m below meth c Q H locs ls EE hnm ret hm hS hl
  have hx := EE.1
  have hb := EE.2.1
  have hown := EE.2.2.2.1
  have hts := EE.2.2.2.2.1
  have hl : lv_has ls 2 [(0, .ref x), (1, .int v0)] := hl
  refine lv_iload_n hx hb dX3_back_0 rfl (lv_at hl 1 rfl) ?_
  refine lv_iconst (v := (-1)) hx hb dX3_back_1 (by decide) ?_
  refine lv_icmp_eq (tgt := 13) hx hb dX3_back_2 (by decide) (fun c_2 => ?_) (fun c_2 => ?_)
  · refine lv_iconst (v := (-1)) hx hb dX3_back_13 (by decide) ?_
    exact ret dX3_back_14 na_i hm hS (Nat.le_of_ble_eq_true rfl) (Nat.le_of_ble_eq_true rfl) (⟨by unfold sBack; first | (rw [c_10]; rfl) | (rw [c_2, show decide ((0 : Int32) ≤ -1) = false by decide, Bool.and_false]; rfl), by unfold sBack; first | (rw [c_10]; exact CP.rf hC0) | (rw [c_2, show decide ((0 : Int32) ≤ -1) = false by decide, Bool.and_false]; exact CP.rf hC0)⟩)
  · refine lv_aload_n hx hb dX3_back_5 rfl (lv_at hl 0 rfl) ?_
    refine lv_iload_n hx hb dX3_back_6 rfl (lv_at hl 1 rfl) ?_
    refine hp_ci (hp_runV (C := RX3) (T := TX3) (N := 6) (np := 1) (k := 1) (mc := 0) (ms := 0) (As := [.int v0]) (rest := []) EE hm hS (c_X3_isVersion l g M N Z x kp pf bs h nm ms sc sa fo br kf nw fm fs fa ff rv σ hC0 v0) ms_X3_isVersion wi_X3_isVersion ws_X3_isVersion wl_X3_64 e_x rfl rfl hl.1 rfl (Nat.le_of_ble_eq_true rfl) dX3_back_7 ⟨Nat.le_of_ble_eq_true rfl, Nat.le_of_ble_eq_true rfl⟩ ⟨(Nat.le_of_ble_eq_true rfl), (Nat.le_of_ble_eq_true rfl)⟩) hS (fun r1 Mx2 H locs hq3 hm hS => ?_)
    obtain ⟨rfl, h9⟩ := hq3
    rw [h9] at hm
    refine lv_if_ne (tgt := 15) hx hb dX3_back_10 (by decide) (fun c_10 => ?_) (fun c_10 => ?_)
    · have c_10 := bI_t c_10
      have h0v : 0 ≤ v0 := by
        rcases isV_nat hkc c_10 with ⟨h1, -⟩ | ⟨j, h1, h2, -⟩
        · exact absurd h1 c_2
        · rw [h2]; exact nI_pos' (by omega)
      refine lv_aload_n hx hb dX3_back_15 rfl (lv_at hl 0 rfl) ?_
      have e_x0 := e_x
      refine lv_aload_n hx hb dX3_back_16 rfl (lv_at hl 0 rfl) ?_
      refine lv_iload_n hx hb dX3_back_17 rfl (lv_at hl 1 rfl) ?_
      refine hp_cq (hp_runV (C := RX3) (T := TX3) (N := 6) (np := 1) (k := 1) (mc := 0) (ms := 0) (As := [.int v0]) (rest := [.ref x]) EE hm hS (c_X3_rootOf l g M N Z x kp pf bs h nm ms sc sa fo br kf nw fm fs fa ff rv σ hC0 v0) ms_X3_rootOf wi_X3_rootOf ws_X3_rootOf wl_X3_69 e_x rfl rfl hl.1 rfl (Nat.le_of_ble_eq_true rfl) dX3_back_18 ⟨Nat.le_of_ble_eq_true rfl, Nat.le_of_ble_eq_true rfl⟩ ⟨(Nat.le_of_ble_eq_true rfl), (Nat.le_of_ble_eq_true rfl)⟩) hS (fun r4 Mx5 H locs hq6 hm hS => ?_)
      obtain ⟨hro, h9⟩ := hq6
      rw [h9] at hm
      have hrt := rootR_rt hkc hvs hnw c_10
      rw [← hro] at hrt
      have hgm := mapV_g ⟨hkc, hvg, hgn, hpl, hpk⟩ c_10
      refine hp_put (C := RX3) (T := TX3) (N := 6) (v := va_rf r4) (ty := .object "ProofMap$Node") EE hm hS e_x inh3 tyX3 tyX3_ok nmX3 rfl 2 (by decide) wf_X3_19 rfl (by decide +kernel) (by cases r4 <;> rfl) (by cases r4 <;> rfl) (Nat.le_of_ble_eq_true rfl) dX3_back_21 (fun H locs hm hS => ?_)
      obtain ⟨Mx7, hMx7⟩ : ∃ Mz, Mz = hm_up M x (.inr (3, [.ref kp, .int (nI (sKc σ)), va_rf r4, .ref pf, .ref h, .ref fo])) := ⟨_, rfl⟩
      have hm : hp g Mx7 H := by rw [hMx7]; exact hm
      have e_kp : Mx7 kp = some (aN g 60 kf) := by rw [hMx7]; exact up_at (ne_lk e_kp e_x (by simp)) e_kp
      have e_pf : Mx7 pf = some (.inr (2, [.ref bs, .int (nI (sPl σ)), .int (bI (sPe σ)), .int (sPk σ), .int (sPv σ)])) := by rw [hMx7]; exact up_at (ne_lk e_pf e_x (by simp)) e_pf
      have e_bs : Mx7 bs = some (aR g 16 (fun i => some (br i))) := by rw [hMx7]; exact up_at (ne_lk e_bs e_x (by simp)) e_bs
      have e_x : Mx7 x = some (.inr (3, [.ref kp, .int (nI (sKc σ)), va_rf r4, .ref pf, .ref h, .ref fo])) := by rw [hMx7]; exact up_eq
      have hP1 := CX.cob hC0 (M9 := Mx7) (vs := sVs σ) e_x (fun q hq => by rw [hMx7, up_ne hq]) hkc hvg hgm hvs hrt
      refine lv_aload_n hx hb dX3_back_24 rfl (lv_at hl 0 rfl) ?_
      refine hp_get (C := RX3) (T := TX3) (N := 6) (v := va_rf r4) EE hm e_x inh3 rfl 2 (by decide) wf_X3_19 rfl dX3_back_25 ?_
      refine hp_ci (hp_runS (np := 1) (k := 1) (mc := 0) (ms := 0) (As := [va_rf r4]) (rest := []) EE hm hS (c_X3_countOf l g Mx7 N Z (hW.chg (a := x) (fun q hq => by rw [hMx7, up_ne hq]) (N_obj hW e_x0 (by decide)) (Z_obj hW e_x0)) r4 16 _ hrt) ms_X3_countOf wt_X3_countOf wl_X3_53 rfl hl.1 rfl (Nat.le_of_ble_eq_true rfl) dX3_back_28 ⟨Nat.le_of_ble_eq_true rfl, Nat.le_of_ble_eq_true rfl⟩ ⟨(Nat.le_of_ble_eq_true rfl), (Nat.le_of_ble_eq_true rfl)⟩) hS (fun r8 Mx9 H locs hq10 hm hS => ?_)
      obtain ⟨rfl, h9⟩ := hq10
      rw [h9] at hm
      exact ret dX3_back_31 na_i hm hS (Nat.le_of_ble_eq_true rfl) (Nat.le_of_ble_eq_true rfl) (⟨by unfold sBack; rw [c_10, decide_eq_true h0v]; rfl, by unfold sBack; rw [c_10, decide_eq_true h0v]; exact hP1⟩)
    · have c_10 := bI_f c_10
      refine lv_iconst (v := (-1)) hx hb dX3_back_13 (by decide) ?_
      exact ret dX3_back_14 na_i hm hS (Nat.le_of_ble_eq_true rfl) (Nat.le_of_ble_eq_true rfl) (⟨by unfold sBack; first | (rw [c_10]; rfl) | (rw [c_2, show decide ((0 : Int32) ≤ -1) = false by decide, Bool.and_false]; rfl), by unfold sBack; first | (rw [c_10]; exact CP.rf hC0) | (rw [c_2, show decide ((0 : Int32) ≤ -1) = false by decide, Bool.and_false]; exact CP.rf hC0)⟩)
theorem putL_g {E : En} {k : Nat} {v : Int32} (h : gE E) (hk : k < 65536) (hl : (putL k v E).length ≤ 300) : gE (putL k v E) := ⟨putL_srt h.1, hl, fun x hx => by
  rcases putL_mem hx with q | q
  · rw [q]; exact hk
  · exact h.2.2 x q⟩
theorem remL_g {E : En} {k : Nat} (h : gE E) : gE (remL k E) := ⟨List.Pairwise.filter _ h.1, Nat.le_trans (List.length_filter_le _ _) h.2.1, fun x hx => h.2.2 x (List.mem_filter.mp hx).1⟩
theorem putL_has {k : Nat} {v : Int32} : ∀ {E : En}, srt E → hasE E k = true → (putL k v E).length = E.length
  | [], _, h => by simp [hasE, lkE] at h
  | x :: t, hs, h => by
    rw [putL_cons]
    obtain ⟨h1, h2⟩ := List.pairwise_cons.mp hs
    by_cases q2 : k = x.1
    · rw [if_neg (by omega), if_pos q2]; rfl
    · have ht : hasE t k = true := by
        unfold hasE at h ⊢
        rw [lkE_cons, if_neg (Ne.symm q2)] at h
        exact h
      have hlt : x.1 < k := by
        unfold hasE lkE at ht
        cases hf : t.find? (fun x => x.1 == k) with
        | none => rw [hf] at ht; cases ht
        | some y =>
          have hy := List.find?_some hf
          have hm := List.mem_of_find?_eq_some hf
          have : y.1 = k := by simpa using hy
          rw [← this]; exact h1 y hm
      rw [if_neg (by omega), if_neg q2, List.length_cons, List.length_cons, putL_has h2 ht]
theorem isEn_has {E : En} {k : Nat} (hk : k < 65536) (hg : gE E) : isEn (endE 16 k E) k = hasE E k := by
  have := end_lk k 16 E (pre_16 hk hg.2.2) hg.1
  unfold hasE
  rw [this]
  cases isEn (endE 16 k E) k <;> rfl
set_option maxHeartbeats 4000000 in
set_option maxRecDepth 100000 in
theorem c_X3_put (l : Launch) (g : hG) (M : hM) (N Z : gT) (x kp pf bs h nm ms sc sa fo : Nat) (br : Nat → Nat) (kf : Nat → Option Nat) (nw : Option Nat) (fm fs fa ff : Nat → Int32) (rv : Nat → Nat → Int32) (σ : cSt) (hC : CX g M N Z x kp pf bs h nm ms sc sa fo br kf nw fm fs fa ff rv σ) (k0 v0 : Int32) : Ci l g yX3_put cX3_put 4 .int 21 17 102 [.ref x, .int k0, .int v0] M (fun r M9 => r = (sPut σ k0 v0).1 ∧ CP g M N x kp pf bs h nm ms sc sa fo br 17 0 M9 ((sPut σ k0 v0).2)) := by
  have hC0 := hC
  obtain ⟨hW, hH, e_x, e_kp, e_pf, e_bs, e_br, e_fo, hDA, hZn, hok, hvs, hnw, hsb⟩ := hC
  have hok0 := hok
  obtain ⟨hkc, hvg, hgn, hpl, hpk⟩ := hok
  refine hp_startI (by decide) (by exact Nat.le_of_ble_eq_true rfl) ?_
  intro p e s m below meth c Q H locs ls EE hnm ret hm hS hl
  have hx := EE.1
  have hb := EE.2.1
  have hown := EE.2.2.2.1
  have hts := EE.2.2.2.2.1
  have hl : lv_has ls 4 [(0, .ref x), (1, .int k0), (2, .int v0)] := hl
  refine lv_iload_n hx hb dX3_put_0 rfl (lv_at hl 1 rfl) ?_
  refine hp_ci (hp_runS (np := 1) (k := 1) (mc := 0) (ms := 0) (As := [.int k0]) (rest := []) EE hm hS (c_X3_isKey l g M k0) ms_X3_isKey wt_X3_isKey wl_X3_41 rfl hl.1 rfl (Nat.le_of_ble_eq_true rfl) dX3_put_1 ⟨Nat.le_of_ble_eq_true rfl, Nat.le_of_ble_eq_true rfl⟩ ⟨(Nat.le_of_ble_eq_true rfl), (Nat.le_of_ble_eq_true rfl)⟩) hS (fun r1 Mx2 H locs hq3 hm hS => ?_)
  obtain ⟨rfl, h9⟩ := hq3
  rw [h9] at hm
  refine lv_if_ne (tgt := 9) hx hb dX3_put_4 (by decide) (fun c_4 => ?_) (fun c_4 => ?_)
  · have c_4 := bI_t c_4
    obtain ⟨kn, hkn, hke⟩ := isK_nat c_4
    subst hke
    have hcl : (nI kn).toNatClampNeg = kn := nI_clamp (by omega)
    refine lv_aload_n hx hb dX3_put_9 rfl (lv_at hl 0 rfl) ?_
    refine hp_get (C := RX3) (T := TX3) (N := 6) (v := va_rf nw) EE hm e_x inh3 rfl 2 (by decide) wf_X3_19 rfl dX3_put_10 ?_
    refine lv_iload_n hx hb dX3_put_13 rfl (lv_at hl 1 rfl) ?_
    refine hp_cq (hp_runS (np := 2) (k := 3) (mc := 0) (ms := 0) (As := [va_rf nw, .int (nI kn)]) (rest := []) EE hm hS (c_X3_endOf l g M N Z hW nw _ hnw kn hkn) ms_X3_endOf wt_X3_endOf wl_X3_45 rfl hl.1 rfl (Nat.le_of_ble_eq_true rfl) dX3_put_14 ⟨Nat.le_of_ble_eq_true rfl, Nat.le_of_ble_eq_true rfl⟩ ⟨(Nat.le_of_ble_eq_true rfl), (Nat.le_of_ble_eq_true rfl)⟩) hS (fun r4 Mx5 H locs hq6 hm hS => ?_)
    obtain ⟨⟨ne, hre⟩, h9⟩ := hq6
    rw [h9] at hm
    refine lv_iload_n hx hb dX3_put_17 rfl (lv_at hl 1 rfl) ?_
    refine hp_ci (hp_runS (np := 2) (k := 1) (mc := 0) (ms := 0) (As := [va_rf r4, .int (nI kn)]) (rest := []) EE hm hS (c_X3_isEntry l g M N Z hW r4 ne _ hre kn hkn) ms_X3_isEntry wt_X3_isEntry wl_X3_49 rfl hl.1 rfl (Nat.le_of_ble_eq_true rfl) dX3_put_18 ⟨Nat.le_of_ble_eq_true rfl, Nat.le_of_ble_eq_true rfl⟩ ⟨(Nat.le_of_ble_eq_true rfl), (Nat.le_of_ble_eq_true rfl)⟩) hS (fun r7 Mx8 H locs hq9 hm hS => ?_)
    obtain ⟨hr9, h9⟩ := hq9
    rw [h9] at hm
    rw [isEn_has hkn hgn] at hr9
    subst hr9
    refine lv_istore_n (lv' := [(3, .int (bI (hasE (sNow σ) kn))), (0, .ref x), (1, .int (nI kn)), (2, .int v0)]) hx hb dX3_put_21 rfl hl (by decide) rfl (fun ls hl => ?_)
    refine lv_iload_n hx hb dX3_put_22 rfl (lv_at hl 0 rfl) ?_
    refine lv_if_ne (tgt := 42) hx hb dX3_put_23 (by decide) (fun c_23 => ?_) (fun c_23 => ?_)
    · have c_23 := bI_t c_23
      have hbd : (putL kn v0 (sNow σ)).length ≤ 300 := by rw [putL_has hgn.1 c_23]; exact hgn.2.1
      refine lv_aload_n hx hb dX3_put_42 rfl (lv_at hl 1 rfl) ?_
      refine lv_aload_n hx hb dX3_put_43 rfl (lv_at hl 1 rfl) ?_
      refine hp_get (C := RX3) (T := TX3) (N := 6) (v := va_rf nw) EE hm e_x inh3 rfl 2 (by decide) wf_X3_19 rfl dX3_put_44 ?_
      refine lv_iconst (v := 0) hx hb dX3_put_47 (by decide) ?_
      refine lv_iload_n hx hb dX3_put_48 rfl (lv_at hl 2 rfl) ?_
      refine hp_new (C := RX1) (T := TX1) (N := 6) (ci := 1) (fs := [.int 0, .int 0, .int 0, .null, .null, .null]) EE hm hS inh1 tyX1 tyX1_ok rfl wc_X3_9 wa_X1 wn_X1 (by decide +kernel) (Nat.le_of_ble_eq_true rfl) (Nat.le_of_ble_eq_true rfl) dX3_put_49 (fun q10 H hq10 hm hS => ?_)
      obtain ⟨Mx11, hMx11⟩ : ∃ Mz, Mz = hm_up M q10 (.inr (1, [.int 0, .int 0, .int 0, .null, .null, .null])) := ⟨_, rfl⟩
      have hm : hp g Mx11 H := by rw [hMx11]; exact hm
      have e_x : Mx11 x = some (.inr (3, [.ref kp, .int (nI (sKc σ)), va_rf nw, .ref pf, .ref h, .ref fo])) := by rw [hMx11]; exact up_at (ne_new hq10 e_x) e_x
      have e_kp : Mx11 kp = some (aN g 60 kf) := by rw [hMx11]; exact up_at (ne_new hq10 e_kp) e_kp
      have e_pf : Mx11 pf = some (.inr (2, [.ref bs, .int (nI (sPl σ)), .int (bI (sPe σ)), .int (sPk σ), .int (sPv σ)])) := by rw [hMx11]; exact up_at (ne_new hq10 e_pf) e_pf
      have e_bs : Mx11 bs = some (aR g 16 (fun i => some (br i))) := by rw [hMx11]; exact up_at (ne_new hq10 e_bs) e_bs
      have e_q10 : Mx11 q10 = some (.inr (1, [.int 0, .int 0, .int 0, .null, .null, .null])) := by rw [hMx11]; exact up_eq
      refine lv_dup hx hb dX3_put_52 rfl ?_
      refine lv_iload_n hx hb dX3_put_53 rfl (lv_at hl 2 rfl) ?_
      refine lv_iload_n hx hb dX3_put_54 rfl (lv_at hl 3 rfl) ?_
      refine hp_cv (hp_runI (np := 2) (k := 1) (mc := 0) (ms := 0) (As := [.int (nI kn), .int v0]) (rest := [.ref q10, .int (nI kn), .int 0, va_rf nw, .ref x]) EE hm hS (c_X1_init l g Mx11 q10 (nI kn) v0 e_q10) ms_X1_init wi_X1_init rfl wl_X3_57 rfl hl.1 rfl (by cases nw <;> exact Nat.le_of_ble_eq_true rfl) dX3_put_55 ⟨Nat.le_of_ble_eq_true rfl, Nat.le_of_ble_eq_true rfl⟩ ⟨(Nat.le_of_ble_eq_true rfl), (Nat.le_of_ble_eq_true rfl)⟩) hS (fun Mx12 H locs hq13 hm hS => ?_)
      obtain ⟨e_n, hf9⟩ := hq13
      have hadd := WF.add (M9 := Mx12) (q := q10) (n := 0) (E := [(kn, v0)]) hW hq10 (fun y hy => by rw [hf9 y hy, hMx11, up_ne hy]) (fun N9 _ => ⟨nI kn, v0, none, none, none, e_n, fun b hb => (by cases hb), (by show (1 : Nat) < 2 ^ 30; decide), Or.inl ⟨kn, rfl, rfl, hkn, rfl, rfl⟩⟩)
      obtain ⟨hW1, hg1⟩ := hadd
      have hC1 := CX.gr hC0 hW1 hg1
      refine hp_cq (hp_runS (np := 4) (k := 20) (mc := 16) (ms := 96) (As := [va_rf nw, .int 0, .int (nI kn), .ref q10]) (rest := [.ref x]) EE hm hS (c_X3_replaced l g Z kn hkn (some v0) (some q10) 16 Mx12 _ hW1 nw (sNow σ) (hnw.mono hg1.1) 0 rfl hgn.1 (pre_16 hkn hgn.2.2) (by have := hgn.2.1; omega) ⟨0, nUp_eq, (by intro q; cases q), fun q => by simp [opL, putL] at q⟩) ms_X3_replaced wt_X3_replaced wl_X3_60 rfl hl.1 rfl (Nat.le_of_ble_eq_true rfl) dX3_put_58 ⟨Nat.le_of_ble_eq_true rfl, Nat.le_of_ble_eq_true rfl⟩ ⟨(Nat.le_of_ble_eq_true rfl), (Nat.le_of_ble_eq_true rfl)⟩) hS (fun r14 Mx15 H locs hq16 hm hS => ?_)
      obtain ⟨N2, hW2, hr2, hg2⟩ := hq16
      have hC2 := CX.gr hC1 hW2 hg2
      have e_x := hC2.2.2.1
      refine hp_put (C := RX3) (T := TX3) (N := 6) (v := va_rf r14) (ty := .object "ProofMap$Node") EE hm hS e_x inh3 tyX3 tyX3_ok nmX3 rfl 2 (by decide) wf_X3_19 rfl (by decide +kernel) (by cases r14 <;> rfl) (by cases r14 <;> rfl) (Nat.le_of_ble_eq_true rfl) dX3_put_61 (fun H locs hm hS => ?_)
      obtain ⟨Mx17, hMx17⟩ : ∃ Mz, Mz = hm_up Mx15 x (.inr (3, [.ref kp, .int (nI (sKc σ)), va_rf r14, .ref pf, .ref h, .ref fo])) := ⟨_, rfl⟩
      have hm : hp g Mx17 H := by rw [hMx17]; exact hm
      have e_x : Mx17 x = some (.inr (3, [.ref kp, .int (nI (sKc σ)), va_rf r14, .ref pf, .ref h, .ref fo])) := by rw [hMx17]; exact up_eq
      have hP2 := CX.cob hC2 (M9 := Mx17) (vs := sVs σ) e_x (fun q hq => by rw [hMx17, up_ne hq]) hkc hvg (putL_g hgn hkn hbd) hC2.2.2.2.2.2.2.2.2.2.2.2.1 hr2
      have hP3 := CP.gr (k := 17) (hg1.tr (k := 17) hg2 (Nat.le_refl _)) hP2 (Nat.le_refl _)
      refine lv_iload_n hx hb dX3_put_64 rfl (lv_at hl 0 rfl) ?_
      refine lv_if_eq (tgt := 72) hx hb dX3_put_65 (by decide) (fun c_65 => ?_) (fun c_65 => ?_)
      · have c_65 := bI_f c_65
        refine lv_iconst (v := 1) hx hb dX3_put_72 (by decide) ?_
        exact ret dX3_put_73 na_i hm hS (Nat.le_of_ble_eq_true rfl) (Nat.le_of_ble_eq_true rfl) (⟨by unfold sPut; rw [c_4, hcl, c_65]; first | (simp only [if_neg (show ¬ (sNow σ).length = 300 by omega)]; rfl) | (rw [c_23] at c_65; cases c_65), by unfold sPut; rw [c_4, hcl, c_65]; first | (simp only [if_neg (show ¬ (sNow σ).length = 300 by omega)]; exact hP3) | (rw [c_23] at c_65; cases c_65)⟩)
      · have c_65 := bI_t c_65
        refine lv_iconst (v := 0) hx hb dX3_put_68 (by decide) ?_
        refine lv_goto (tgt := 73) hx hb dX3_put_69 (by decide) ?_
        exact ret dX3_put_73 na_i hm hS (Nat.le_of_ble_eq_true rfl) (Nat.le_of_ble_eq_true rfl) (⟨by unfold sPut; rw [c_4, hcl, c_65]; rfl, by unfold sPut; rw [c_4, hcl, c_65]; exact hP3⟩)
    · have c_23 := bI_f c_23
      have hgl := hgn.2.1
      refine lv_aload_n hx hb dX3_put_26 rfl (lv_at hl 1 rfl) ?_
      refine hp_get (C := RX3) (T := TX3) (N := 6) (v := va_rf nw) EE hm e_x inh3 rfl 2 (by decide) wf_X3_19 rfl dX3_put_27 ?_
      refine hp_ci (hp_runS (np := 1) (k := 1) (mc := 0) (ms := 0) (As := [va_rf nw]) (rest := []) EE hm hS (c_X3_countOf l g M N Z hW nw 16 _ hnw) ms_X3_countOf wt_X3_countOf wl_X3_53 rfl hl.1 rfl (Nat.le_of_ble_eq_true rfl) dX3_put_30 ⟨Nat.le_of_ble_eq_true rfl, Nat.le_of_ble_eq_true rfl⟩ ⟨(Nat.le_of_ble_eq_true rfl), (Nat.le_of_ble_eq_true rfl)⟩) hS (fun r18 Mx19 H locs hq20 hm hS => ?_)
      obtain ⟨rfl, h9⟩ := hq20
      rw [h9] at hm
      refine lv_sipush (v := 300) hx hb dX3_put_33 (by decide) ?_
      refine lv_icmp_lt (tgt := 42) hx hb dX3_put_36 (by decide) (fun c_36 => ?_) (fun c_36 => ?_)
      · have c_36 : ((sNow σ).length) < 300 := (nI_ltI (a := (sNow σ).length) (b := 300) (by omega) (by decide)).mp c_36
        have hbd : (putL kn v0 (sNow σ)).length ≤ 300 := Nat.le_trans (putL_len kn v0 _) (by omega)
        refine lv_aload_n hx hb dX3_put_42 rfl (lv_at hl 1 rfl) ?_
        refine lv_aload_n hx hb dX3_put_43 rfl (lv_at hl 1 rfl) ?_
        refine hp_get (C := RX3) (T := TX3) (N := 6) (v := va_rf nw) EE hm e_x inh3 rfl 2 (by decide) wf_X3_19 rfl dX3_put_44 ?_
        refine lv_iconst (v := 0) hx hb dX3_put_47 (by decide) ?_
        refine lv_iload_n hx hb dX3_put_48 rfl (lv_at hl 2 rfl) ?_
        refine hp_new (C := RX1) (T := TX1) (N := 6) (ci := 1) (fs := [.int 0, .int 0, .int 0, .null, .null, .null]) EE hm hS inh1 tyX1 tyX1_ok rfl wc_X3_9 wa_X1 wn_X1 (by decide +kernel) (Nat.le_of_ble_eq_true rfl) (Nat.le_of_ble_eq_true rfl) dX3_put_49 (fun q21 H hq21 hm hS => ?_)
        obtain ⟨Mx22, hMx22⟩ : ∃ Mz, Mz = hm_up M q21 (.inr (1, [.int 0, .int 0, .int 0, .null, .null, .null])) := ⟨_, rfl⟩
        have hm : hp g Mx22 H := by rw [hMx22]; exact hm
        have e_x : Mx22 x = some (.inr (3, [.ref kp, .int (nI (sKc σ)), va_rf nw, .ref pf, .ref h, .ref fo])) := by rw [hMx22]; exact up_at (ne_new hq21 e_x) e_x
        have e_kp : Mx22 kp = some (aN g 60 kf) := by rw [hMx22]; exact up_at (ne_new hq21 e_kp) e_kp
        have e_pf : Mx22 pf = some (.inr (2, [.ref bs, .int (nI (sPl σ)), .int (bI (sPe σ)), .int (sPk σ), .int (sPv σ)])) := by rw [hMx22]; exact up_at (ne_new hq21 e_pf) e_pf
        have e_bs : Mx22 bs = some (aR g 16 (fun i => some (br i))) := by rw [hMx22]; exact up_at (ne_new hq21 e_bs) e_bs
        have e_q21 : Mx22 q21 = some (.inr (1, [.int 0, .int 0, .int 0, .null, .null, .null])) := by rw [hMx22]; exact up_eq
        refine lv_dup hx hb dX3_put_52 rfl ?_
        refine lv_iload_n hx hb dX3_put_53 rfl (lv_at hl 2 rfl) ?_
        refine lv_iload_n hx hb dX3_put_54 rfl (lv_at hl 3 rfl) ?_
        refine hp_cv (hp_runI (np := 2) (k := 1) (mc := 0) (ms := 0) (As := [.int (nI kn), .int v0]) (rest := [.ref q21, .int (nI kn), .int 0, va_rf nw, .ref x]) EE hm hS (c_X1_init l g Mx22 q21 (nI kn) v0 e_q21) ms_X1_init wi_X1_init rfl wl_X3_57 rfl hl.1 rfl (by cases nw <;> exact Nat.le_of_ble_eq_true rfl) dX3_put_55 ⟨Nat.le_of_ble_eq_true rfl, Nat.le_of_ble_eq_true rfl⟩ ⟨(Nat.le_of_ble_eq_true rfl), (Nat.le_of_ble_eq_true rfl)⟩) hS (fun Mx23 H locs hq24 hm hS => ?_)
        obtain ⟨e_n, hf9⟩ := hq24
        have hadd := WF.add (M9 := Mx23) (q := q21) (n := 0) (E := [(kn, v0)]) hW hq21 (fun y hy => by rw [hf9 y hy, hMx22, up_ne hy]) (fun N9 _ => ⟨nI kn, v0, none, none, none, e_n, fun b hb => (by cases hb), (by show (1 : Nat) < 2 ^ 30; decide), Or.inl ⟨kn, rfl, rfl, hkn, rfl, rfl⟩⟩)
        obtain ⟨hW1, hg1⟩ := hadd
        have hC1 := CX.gr hC0 hW1 hg1
        refine hp_cq (hp_runS (np := 4) (k := 20) (mc := 16) (ms := 96) (As := [va_rf nw, .int 0, .int (nI kn), .ref q21]) (rest := [.ref x]) EE hm hS (c_X3_replaced l g Z kn hkn (some v0) (some q21) 16 Mx23 _ hW1 nw (sNow σ) (hnw.mono hg1.1) 0 rfl hgn.1 (pre_16 hkn hgn.2.2) (by have := hgn.2.1; omega) ⟨0, nUp_eq, (by intro q; cases q), fun q => by simp [opL, putL] at q⟩) ms_X3_replaced wt_X3_replaced wl_X3_60 rfl hl.1 rfl (Nat.le_of_ble_eq_true rfl) dX3_put_58 ⟨Nat.le_of_ble_eq_true rfl, Nat.le_of_ble_eq_true rfl⟩ ⟨(Nat.le_of_ble_eq_true rfl), (Nat.le_of_ble_eq_true rfl)⟩) hS (fun r25 Mx26 H locs hq27 hm hS => ?_)
        obtain ⟨N2, hW2, hr2, hg2⟩ := hq27
        have hC2 := CX.gr hC1 hW2 hg2
        have e_x := hC2.2.2.1
        refine hp_put (C := RX3) (T := TX3) (N := 6) (v := va_rf r25) (ty := .object "ProofMap$Node") EE hm hS e_x inh3 tyX3 tyX3_ok nmX3 rfl 2 (by decide) wf_X3_19 rfl (by decide +kernel) (by cases r25 <;> rfl) (by cases r25 <;> rfl) (Nat.le_of_ble_eq_true rfl) dX3_put_61 (fun H locs hm hS => ?_)
        obtain ⟨Mx28, hMx28⟩ : ∃ Mz, Mz = hm_up Mx26 x (.inr (3, [.ref kp, .int (nI (sKc σ)), va_rf r25, .ref pf, .ref h, .ref fo])) := ⟨_, rfl⟩
        have hm : hp g Mx28 H := by rw [hMx28]; exact hm
        have e_x : Mx28 x = some (.inr (3, [.ref kp, .int (nI (sKc σ)), va_rf r25, .ref pf, .ref h, .ref fo])) := by rw [hMx28]; exact up_eq
        have hP2 := CX.cob hC2 (M9 := Mx28) (vs := sVs σ) e_x (fun q hq => by rw [hMx28, up_ne hq]) hkc hvg (putL_g hgn hkn hbd) hC2.2.2.2.2.2.2.2.2.2.2.2.1 hr2
        have hP3 := CP.gr (k := 17) (hg1.tr (k := 17) hg2 (Nat.le_refl _)) hP2 (Nat.le_refl _)
        refine lv_iload_n hx hb dX3_put_64 rfl (lv_at hl 0 rfl) ?_
        refine lv_if_eq (tgt := 72) hx hb dX3_put_65 (by decide) (fun c_65 => ?_) (fun c_65 => ?_)
        · have c_65 := bI_f c_65
          refine lv_iconst (v := 1) hx hb dX3_put_72 (by decide) ?_
          exact ret dX3_put_73 na_i hm hS (Nat.le_of_ble_eq_true rfl) (Nat.le_of_ble_eq_true rfl) (⟨by unfold sPut; rw [c_4, hcl, c_65]; first | (simp only [if_neg (show ¬ (sNow σ).length = 300 by omega)]; rfl) | (rw [c_23] at c_65; cases c_65), by unfold sPut; rw [c_4, hcl, c_65]; first | (simp only [if_neg (show ¬ (sNow σ).length = 300 by omega)]; exact hP3) | (rw [c_23] at c_65; cases c_65)⟩)
        · have c_65 := bI_t c_65
          refine lv_iconst (v := 0) hx hb dX3_put_68 (by decide) ?_
          refine lv_goto (tgt := 73) hx hb dX3_put_69 (by decide) ?_
          exact ret dX3_put_73 na_i hm hS (Nat.le_of_ble_eq_true rfl) (Nat.le_of_ble_eq_true rfl) (⟨by unfold sPut; rw [c_4, hcl, c_65]; rfl, by unfold sPut; rw [c_4, hcl, c_65]; exact hP3⟩)
      · have c_36 : ¬ ((sNow σ).length) < 300 := fun h9 => c_36 ((nI_ltI (a := (sNow σ).length) (b := 300) (by omega) (by decide)).mpr h9)
        have hl3 : (sNow σ).length = 300 := by have := hgn.2.1; omega
        refine lv_bipush (v := (-3)) hx hb dX3_put_39 (by decide) ?_
        exact ret dX3_put_41 na_i hm hS (Nat.le_of_ble_eq_true rfl) (Nat.le_of_ble_eq_true rfl) (⟨by unfold sPut; rw [c_4, hcl, c_23, if_pos hl3]; rfl, by unfold sPut; rw [c_4, hcl, c_23, if_pos hl3]; exact CP.rf hC0⟩)
  · have c_4 := bI_f c_4
    refine lv_iconst (v := (-1)) hx hb dX3_put_7 (by decide) ?_
    exact ret dX3_put_8 na_i hm hS (Nat.le_of_ble_eq_true rfl) (Nat.le_of_ble_eq_true rfl) (⟨by unfold sPut; rw [c_4]; rfl, by unfold sPut; rw [c_4]; exact CP.rf hC0⟩)
set_option maxHeartbeats 4000000 in
set_option maxRecDepth 100000 in
theorem c_X3_remove (l : Launch) (g : hG) (M : hM) (N Z : gT) (x kp pf bs h nm ms sc sa fo : Nat) (br : Nat → Nat) (kf : Nat → Option Nat) (nw : Option Nat) (fm fs fa ff : Nat → Int32) (rv : Nat → Nat → Int32) (σ : cSt) (hC : CX g M N Z x kp pf bs h nm ms sc sa fo br kf nw fm fs fa ff rv σ) (k0 : Int32) : Ci l g yX3_remove cX3_remove 2 .int 21 17 102 [.ref x, .int k0] M (fun r M9 => r = (sRem σ k0).1 ∧ CP g M N x kp pf bs h nm ms sc sa fo br 17 0 M9 ((sRem σ k0).2)) := by
  have hC0 := hC
  obtain ⟨hW, hH, e_x, e_kp, e_pf, e_bs, e_br, e_fo, hDA, hZn, hok, hvs, hnw, hsb⟩ := hC
  have hok0 := hok
  obtain ⟨hkc, hvg, hgn, hpl, hpk⟩ := hok
  refine hp_startI (by decide) (by exact Nat.le_of_ble_eq_true rfl) ?_
  intro p e s m below meth c Q H locs ls EE hnm ret hm hS hl
  have hx := EE.1
  have hb := EE.2.1
  have hown := EE.2.2.2.1
  have hts := EE.2.2.2.2.1
  have hl : lv_has ls 2 [(0, .ref x), (1, .int k0)] := hl
  refine lv_iload_n hx hb dX3_remove_0 rfl (lv_at hl 1 rfl) ?_
  refine hp_ci (hp_runS (np := 1) (k := 1) (mc := 0) (ms := 0) (As := [.int k0]) (rest := []) EE hm hS (c_X3_isKey l g M k0) ms_X3_isKey wt_X3_isKey wl_X3_41 rfl hl.1 rfl (Nat.le_of_ble_eq_true rfl) dX3_remove_1 ⟨Nat.le_of_ble_eq_true rfl, Nat.le_of_ble_eq_true rfl⟩ ⟨(Nat.le_of_ble_eq_true rfl), (Nat.le_of_ble_eq_true rfl)⟩) hS (fun r1 Mx2 H locs hq3 hm hS => ?_)
  obtain ⟨rfl, h9⟩ := hq3
  rw [h9] at hm
  refine lv_if_ne (tgt := 9) hx hb dX3_remove_4 (by decide) (fun c_4 => ?_) (fun c_4 => ?_)
  · have c_4 := bI_t c_4
    obtain ⟨kn, hkn, hke⟩ := isK_nat c_4
    subst hke
    have hcl : (nI kn).toNatClampNeg = kn := nI_clamp (by omega)
    refine lv_aload_n hx hb dX3_remove_9 rfl (lv_at hl 0 rfl) ?_
    refine hp_get (C := RX3) (T := TX3) (N := 6) (v := va_rf nw) EE hm e_x inh3 rfl 2 (by decide) wf_X3_19 rfl dX3_remove_10 ?_
    refine lv_iload_n hx hb dX3_remove_13 rfl (lv_at hl 1 rfl) ?_
    refine hp_cq (hp_runS (np := 2) (k := 3) (mc := 0) (ms := 0) (As := [va_rf nw, .int (nI kn)]) (rest := []) EE hm hS (c_X3_endOf l g M N Z hW nw _ hnw kn hkn) ms_X3_endOf wt_X3_endOf wl_X3_45 rfl hl.1 rfl (Nat.le_of_ble_eq_true rfl) dX3_remove_14 ⟨Nat.le_of_ble_eq_true rfl, Nat.le_of_ble_eq_true rfl⟩ ⟨(Nat.le_of_ble_eq_true rfl), (Nat.le_of_ble_eq_true rfl)⟩) hS (fun r4 Mx5 H locs hq6 hm hS => ?_)
    obtain ⟨⟨ne, hre⟩, h9⟩ := hq6
    rw [h9] at hm
    refine lv_iload_n hx hb dX3_remove_17 rfl (lv_at hl 1 rfl) ?_
    refine hp_ci (hp_runS (np := 2) (k := 1) (mc := 0) (ms := 0) (As := [va_rf r4, .int (nI kn)]) (rest := []) EE hm hS (c_X3_isEntry l g M N Z hW r4 ne _ hre kn hkn) ms_X3_isEntry wt_X3_isEntry wl_X3_49 rfl hl.1 rfl (Nat.le_of_ble_eq_true rfl) dX3_remove_18 ⟨Nat.le_of_ble_eq_true rfl, Nat.le_of_ble_eq_true rfl⟩ ⟨(Nat.le_of_ble_eq_true rfl), (Nat.le_of_ble_eq_true rfl)⟩) hS (fun r7 Mx8 H locs hq9 hm hS => ?_)
    obtain ⟨hr9, h9⟩ := hq9
    rw [h9] at hm
    rw [isEn_has hkn hgn] at hr9
    subst hr9
    refine lv_if_ne (tgt := 26) hx hb dX3_remove_21 (by decide) (fun c_21 => ?_) (fun c_21 => ?_)
    · have c_21 := bI_t c_21
      refine lv_aload_n hx hb dX3_remove_26 rfl (lv_at hl 0 rfl) ?_
      refine lv_aload_n hx hb dX3_remove_27 rfl (lv_at hl 0 rfl) ?_
      refine hp_get (C := RX3) (T := TX3) (N := 6) (v := va_rf nw) EE hm e_x inh3 rfl 2 (by decide) wf_X3_19 rfl dX3_remove_28 ?_
      refine lv_iconst (v := 0) hx hb dX3_remove_31 (by decide) ?_
      refine lv_iload_n hx hb dX3_remove_32 rfl (lv_at hl 1 rfl) ?_
      refine lv_null hx hb dX3_remove_33 ?_
      refine hp_cq (hp_runS (np := 4) (k := 20) (mc := 16) (ms := 96) (As := [va_rf nw, .int 0, .int (nI kn), .null]) (rest := [.ref x]) EE hm hS (c_X3_replaced l g Z kn hkn none none 16 M N hW nw (sNow σ) hnw 0 rfl hgn.1 (pre_16 hkn hgn.2.2) (by have := hgn.2.1; omega) rfl) ms_X3_replaced wt_X3_replaced wl_X3_60 rfl hl.1 rfl (Nat.le_of_ble_eq_true rfl) dX3_remove_34 ⟨Nat.le_of_ble_eq_true rfl, Nat.le_of_ble_eq_true rfl⟩ ⟨(Nat.le_of_ble_eq_true rfl), (Nat.le_of_ble_eq_true rfl)⟩) hS (fun r10 Mx11 H locs hq12 hm hS => ?_)
      obtain ⟨N2, hW2, hr2, hg2⟩ := hq12
      have hC2 := CX.gr hC0 hW2 hg2
      have e_x := hC2.2.2.1
      refine hp_put (C := RX3) (T := TX3) (N := 6) (v := va_rf r10) (ty := .object "ProofMap$Node") EE hm hS e_x inh3 tyX3 tyX3_ok nmX3 rfl 2 (by decide) wf_X3_19 rfl (by decide +kernel) (by cases r10 <;> rfl) (by cases r10 <;> rfl) (Nat.le_of_ble_eq_true rfl) dX3_remove_37 (fun H locs hm hS => ?_)
      obtain ⟨Mx13, hMx13⟩ : ∃ Mz, Mz = hm_up Mx11 x (.inr (3, [.ref kp, .int (nI (sKc σ)), va_rf r10, .ref pf, .ref h, .ref fo])) := ⟨_, rfl⟩
      have hm : hp g Mx13 H := by rw [hMx13]; exact hm
      have e_x : Mx13 x = some (.inr (3, [.ref kp, .int (nI (sKc σ)), va_rf r10, .ref pf, .ref h, .ref fo])) := by rw [hMx13]; exact up_eq
      have hP2 := CX.cob hC2 (M9 := Mx13) (vs := sVs σ) e_x (fun q hq => by rw [hMx13, up_ne hq]) hkc hvg (remL_g hgn) hC2.2.2.2.2.2.2.2.2.2.2.2.1 hr2
      have hP3 := CP.gr (k := 17) hg2 hP2 (by omega)
      refine lv_iconst (v := 1) hx hb dX3_remove_40 (by decide) ?_
      exact ret dX3_remove_41 na_i hm hS (Nat.le_of_ble_eq_true rfl) (Nat.le_of_ble_eq_true rfl) (⟨by unfold sRem; rw [c_4, hcl, c_21]; rfl, by unfold sRem; rw [c_4, hcl, c_21]; exact hP3⟩)
    · have c_21 := bI_f c_21
      refine lv_iconst (v := 0) hx hb dX3_remove_24 (by decide) ?_
      exact ret dX3_remove_25 na_i hm hS (Nat.le_of_ble_eq_true rfl) (Nat.le_of_ble_eq_true rfl) (⟨by unfold sRem; rw [c_4, hcl, c_21]; rfl, by unfold sRem; rw [c_4, hcl, c_21]; exact CP.rf hC0⟩)
  · have c_4 := bI_f c_4
    refine lv_iconst (v := (-1)) hx hb dX3_remove_7 (by decide) ?_
    exact ret dX3_remove_8 na_i hm hS (Nat.le_of_ble_eq_true rfl) (Nat.le_of_ble_eq_true rfl) (⟨by unfold sRem; rw [c_4]; rfl, by unfold sRem; rw [c_4]; exact CP.rf hC0⟩)
end
section
section CXD
variable {g : hG} {M M9 : hM} {N Z Z9 : gT} {x kp pf bs h nm ms sc sa fo : Nat} {br : Nat → Nat} {kf : Nat → Option Nat} {nw : Option Nat} {fm fs fa ff fm9 fs9 fa9 : Nat → Int32} {rv : Nat → Nat → Int32} {σ : cSt}
/-- nothing but the class's own has changed, u digests have come to be known -/
def CR (M : hM) (N : gT) (x kp pf ms sc sa fo : Nat) (br : Nat → Nat) (M9 : hM) (u : Nat) : Prop := (∀ q e, M q = some e → ¬ ow N x kp pf ms sc sa fo br q → M9 q = some e) ∧ ∀ c, pt M c → ∃ c9, pt M9 c9 ∧ c9 + u ≤ c
theorem CR.rf : CR M N x kp pf ms sc sa fo br M 0 := ⟨fun _ _ h _ => h, fun c hc => ⟨c, hc, Nat.le_refl _⟩⟩
theorem CR.tr {M1 : hM} {u1 u2 u : Nat} (h1 : CR M N x kp pf ms sc sa fo br M1 u1) (h2 : CR M1 N x kp pf ms sc sa fo br M9 u2) (hu : u ≤ u1 + u2) : CR M N x kp pf ms sc sa fo br M9 u := by
  refine ⟨fun q e he hn => h2.1 q e (h1.1 q e he hn) hn, fun c hc => ?_⟩
  obtain ⟨c1, p1, e1⟩ := h1.2 c hc
  obtain ⟨c2, p2, e2⟩ := h2.2 c1 p1
  exact ⟨c2, p2, by omega⟩
theorem CR.CP {u : Nat} {σ9 : cSt} {kf9 : Nat → Option Nat} {nw9 : Option Nat} {ff9 : Nat → Int32} {rv9 : Nat → Nat → Int32} (hR : CR M N x kp pf ms sc sa fo br M9 u) (hC : CX g M9 N Z9 x kp pf bs h nm ms sc sa fo br kf9 nw9 fm9 fs9 fa9 ff9 rv9 σ9) : CP g M N x kp pf bs h nm ms sc sa fo br 0 u M9 σ9 :=
  ⟨N, Z9, kf9, nw9, fm9, fs9, fa9, ff9, rv9, hC, fun q e he hn => ⟨hR.1 q e he hn, hn⟩, fun c hc => by obtain ⟨c9, p9, e9⟩ := hR.2 c hc; exact ⟨c9, p9, by omega⟩⟩
theorem nu_of {n : Nat} {E : En} {q : Nat} (h : N q = none) : ¬ under N n E q := fun ⟨_, _, h1, _⟩ => by rw [h] at h1; cases h1
/-- digests have come to be known -/
theorem CX.dg {n u : Nat} {E : En} (hC : CX g M N Z x kp pf bs h nm ms sc sa fo br kf nw fm fs fa ff rv σ) (hW9 : WF g M9 N Z9) (hH9 : HS g M9 h nm ms sc sa fm9 fs9 fa9) (hR : dgR M N Z M9 Z9 n E ms sc sa u) : CX g M9 N Z9 x kp pf bs h nm ms sc sa fo br kf nw fm9 fs9 fa9 ff rv σ ∧ CR M N x kp pf ms sc sa fo br M9 u := by
  obtain ⟨hW, hH, e_x, e_kp, e_pf, e_bs, e_br, e_fo, hDA, hZn, hok, hvs, hnw, hsb⟩ := hC
  obtain ⟨q1, q2, q3, q4, ⟨fn, q5, q6⟩, q7, q8, q9, q10, q11, q12⟩ := hH
  obtain ⟨r1, r2, r3, r4, r5⟩ := hR
  have kq : ∀ q c fs0, M q = some (.inr (c, fs0)) → c ≠ 1 → M9 q = some (.inr (c, fs0)) := fun q c fs0 he hc => r3 q _ he (ne_lk he q2 (by simp)) (ne_lk he q3 (by simp)) (ne_lk he q4 (by simp)) (nu_of (N_obj hW he hc))
  have kr : ∀ q n0 f0, M q = some (aI g n0 f0) → q ≠ ms → q ≠ sc → q ≠ sa → M9 q = some (aI g n0 f0) := fun q n0 f0 he a1 a2 a3 => r3 q _ he a1 a2 a3 (nu_of (N_arr hW he))
  refine ⟨⟨hW9, hH9, kq _ _ _ e_x (by decide), r3 _ _ e_kp (ne_lk e_kp q2 ne_NI) (ne_lk e_kp q3 ne_NI) (ne_lk e_kp q4 ne_NI) (nu_of (N_arr hW e_kp)), kq _ _ _ e_pf (by decide), r3 _ _ e_bs (ne_lk e_bs q2 ne_RI) (ne_lk e_bs q3 ne_RI) (ne_lk e_bs q4 ne_RI) (nu_of (N_arr hW e_bs)), fun i hi => kr _ _ _ (e_br i hi) (hDA.2.2.2.2.1 i hi).2.1 (hDA.2.2.2.2.1 i hi).2.2.1 (hDA.2.2.2.2.1 i hi).2.2.2.1, kr _ _ _ e_fo hDA.2.1 hDA.2.2.1 hDA.2.2.2.1, hDA, fun q hq => ?_, hok, hvs, hnw, hsb⟩, fun q e he hn => r3 q e he (fun t => hn (Or.inr (Or.inr (Or.inr (Or.inr (Or.inl t)))))) (fun t => hn (Or.inr (Or.inr (Or.inr (Or.inr (Or.inr (Or.inl t))))))) (fun t => hn (Or.inr (Or.inr (Or.inr (Or.inr (Or.inr (Or.inr (Or.inl t)))))))) (fun ⟨n', E', h1, _⟩ => hn (Or.inl (by rw [h1]; exact fun z => by cases z))), fun c hc => by obtain ⟨c9, p9, e9⟩ := r5 c hc; exact ⟨c9, p9, by omega⟩⟩
  cases hz : Z9 q with
  | none => rfl
  | some y =>
    have hd := r2 q (by rw [hz]; exact fun z => by cases z) (hZn q hq)
    rcases hq with t | t | t | t | t | ⟨i, hi, t⟩
    · rw [t, q5] at hd; cases hd
    · rw [t, q2] at hd; cases hd
    · rw [t, q3] at hd; cases hd
    · rw [t, q4] at hd; cases hd
    · rw [t, e_fo] at hd; cases hd
    · rw [t, e_br i hi] at hd; cases hd
/-- the Hasher's rows and the folded digest change -/
theorem CX.hash (hC : CX g M N Z x kp pf bs h nm ms sc sa fo br kf nw fm fs fa ff rv σ) {f9 : Nat → Int32} (hH9 : HS g M9 h nm ms sc sa fm9 fs9 fa9) (e : M9 fo = some (aI g 8 f9)) (hf : ∀ q, q ≠ ms → q ≠ sc → q ≠ sa → q ≠ fo → M9 q = M q) : CX g M9 N Z x kp pf bs h nm ms sc sa fo br kf nw fm9 fs9 fa9 f9 rv σ ∧ CR M N x kp pf ms sc sa fo br M9 0 := by
  obtain ⟨hW, hH, e_x, e_kp, e_pf, e_bs, e_br, e_fo, hDA, hZn, hok, hvs, hnw, hsb⟩ := hC
  obtain ⟨q1, q2, q3, q4, ⟨fn, q5, q6⟩, q7, q8, q9, q10, q11, q12⟩ := hH
  have hH90 := hH9
  obtain ⟨p1, p2, p3, p4, -⟩ := hH90
  have kq : ∀ q c fs0, M q = some (.inr (c, fs0)) → M9 q = M q := fun q c fs0 he => hf q (ne_lk he q2 (by simp)) (ne_lk he q3 (by simp)) (ne_lk he q4 (by simp)) (ne_lk he e_fo (by simp))
  refine ⟨⟨hW.frame (fun q y hq => hf q (nd_ne hW hq q2) (nd_ne hW hq q3) (nd_ne hW hq q4) (nd_ne hW hq e_fo)) (fun q y hq => hf q (fun t => by rw [t, hZn ms (Or.inr (Or.inl rfl))] at hq; cases hq) (fun t => by rw [t, hZn sc (Or.inr (Or.inr (Or.inl rfl)))] at hq; cases hq) (fun t => by rw [t, hZn sa (Or.inr (Or.inr (Or.inr (Or.inl rfl))))] at hq; cases hq) (fun t => by rw [t, hZn fo (Or.inr (Or.inr (Or.inr (Or.inr (Or.inl rfl)))))] at hq; cases hq)), hH9, (kq _ _ _ e_x).trans e_x, (hf _ (ne_lk e_kp q2 ne_NI) (ne_lk e_kp q3 ne_NI) (ne_lk e_kp q4 ne_NI) (ne_lk e_kp e_fo ne_NI)).trans e_kp, (kq _ _ _ e_pf).trans e_pf, (hf _ (ne_lk e_bs q2 ne_RI) (ne_lk e_bs q3 ne_RI) (ne_lk e_bs q4 ne_RI) (ne_lk e_bs e_fo ne_RI)).trans e_bs, fun i hi => (hf _ (hDA.2.2.2.2.1 i hi).2.1 (hDA.2.2.2.2.1 i hi).2.2.1 (hDA.2.2.2.2.1 i hi).2.2.2.1 (hDA.2.2.2.2.1 i hi).2.2.2.2).trans (e_br i hi), e, hDA, hZn, hok, hvs, hnw, hsb⟩, fun q e9 he hn => ?_, fun c hc => ⟨c, hc.same (fun q hq => ?_), Nat.le_refl _⟩⟩
  · rw [hf q (fun t => hn (Or.inr (Or.inr (Or.inr (Or.inr (Or.inl t)))))) (fun t => hn (Or.inr (Or.inr (Or.inr (Or.inr (Or.inr (Or.inl t))))))) (fun t => hn (Or.inr (Or.inr (Or.inr (Or.inr (Or.inr (Or.inr (Or.inl t)))))))) (fun t => hn (Or.inr (Or.inr (Or.inr (Or.inr (Or.inr (Or.inr (Or.inr (Or.inl t)))))))))]
    exact he
  · by_cases t1 : q = ms
    · rw [t1, und_arr p2] at hq; cases hq
    · by_cases t2 : q = sc
      · rw [t2, und_arr p3] at hq; cases hq
      · by_cases t3 : q = sa
        · rw [t3, und_arr p4] at hq; cases hq
        · by_cases t4 : q = fo
          · rw [t4, und_arr e] at hq; cases hq
          · rw [← und_same (hf q t1 t2 t3 t4)]; exact hq
end CXD
def rWord (σ : cSt) (v i : Int32) : Int32 := if isV σ v && isW i then dgF 16 (mapV σ v) i.toNatClampNeg else 0
def uWord (M : hM) (kf : Nat → Option Nat) (nw : Option Nat) (σ : cSt) (v i : Int32) : Nat := if isV σ v && isW i then udT 16 M (rootR kf nw v) else 0
set_option maxHeartbeats 4000000 in
set_option maxRecDepth 100000 in
theorem c_X3_word (l : Launch) (g : hG) (M : hM) (N Z : gT) (x kp pf bs h nm ms sc sa fo : Nat) (br : Nat → Nat) (kf : Nat → Option Nat) (nw : Option Nat) (fm fs fa ff : Nat → Int32) (rv : Nat → Nat → Int32) (σ : cSt) (hC : CX g M N Z x kp pf bs h nm ms sc sa fo br kf nw fm fs fa ff rv σ) (v0 i0 : Int32) : Ci l g yX3_word cX3_word 3 .int 22 (uWord M kf nw σ v0 i0) (8 * (uWord M kf nw σ v0 i0)) [.ref x, .int v0, .int i0] M (fun r M9 => r = rWord σ v0 i0 ∧ CP g M N x kp pf bs h nm ms sc sa fo br 0 (uWord M kf nw σ v0 i0) M9 (σ)) := by
  have hC0 := hC
  obtain ⟨hW, hH, e_x, e_kp, e_pf, e_bs, e_br, e_fo, hDA, hZn, hok, hvs, hnw, hsb⟩ := hC
  have hok0 := hok
  obtain ⟨hkc, hvg, hgn, hpl, hpk⟩ := hok
  refine hp_startI (by decide) (by exact Nat.le_of_ble_eq_true rfl) ?_
  intro p e s m below meth c Q H locs ls EE hnm ret hm hS hl
  have hx := EE.1
  have hb := EE.2.1
  have hown := EE.2.2.2.1
  have hts := EE.2.2.2.2.1
  have hl : lv_has ls 3 [(0, .ref x), (1, .int v0), (2, .int i0)] := hl
  refine lv_aload_n hx hb dX3_word_0 rfl (lv_at hl 0 rfl) ?_
  refine lv_iload_n hx hb dX3_word_1 rfl (lv_at hl 1 rfl) ?_
  refine hp_ci (hp_runV (C := RX3) (T := TX3) (N := 6) (np := 1) (k := 1) (mc := 0) (ms := 0) (As := [.int v0]) (rest := []) EE hm hS (c_X3_isVersion l g M N Z x kp pf bs h nm ms sc sa fo br kf nw fm fs fa ff rv σ hC0 v0) ms_X3_isVersion wi_X3_isVersion ws_X3_isVersion wl_X3_64 e_x rfl rfl hl.1 rfl (Nat.le_of_ble_eq_true rfl) dX3_word_2 ⟨Nat.le_of_ble_eq_true rfl, Nat.le_of_ble_eq_true rfl⟩ ⟨(by show 0 + 0 ≤ uWord M kf nw σ v0 i0; omega), (by show 0 + 0 ≤ 8 * (uWord M kf nw σ v0 i0); omega)⟩) hS (fun r1 Mx2 H locs hq3 hm hS => ?_)
  obtain ⟨rfl, h9⟩ := hq3
  rw [h9] at hm
  refine lv_if_eq (tgt := 15) hx hb dX3_word_5 (by decide) (fun c_5 => ?_) (fun c_5 => ?_)
  · have c_5 := bI_f c_5
    refine lv_iconst (v := 0) hx hb dX3_word_15 (by decide) ?_
    exact ret dX3_word_16 na_i hm hS (by omega) (by omega) (⟨by unfold rWord; first | (rw [c_5]; rfl) | (rw [c_5, c_12]; rfl), by unfold uWord; first | (rw [c_5]; exact CP.rf hC0) | (rw [c_5, c_12]; exact CP.rf hC0)⟩)
  · have c_5 := bI_t c_5
    refine lv_iload_n hx hb dX3_word_8 rfl (lv_at hl 2 rfl) ?_
    refine hp_ci (hp_runS (np := 1) (k := 1) (mc := 0) (ms := 0) (As := [.int i0]) (rest := []) EE hm hS (c_X3_isWord l g M i0) ms_X3_isWord wt_X3_isWord wl_X3_76 rfl hl.1 rfl (Nat.le_of_ble_eq_true rfl) dX3_word_9 ⟨Nat.le_of_ble_eq_true rfl, Nat.le_of_ble_eq_true rfl⟩ ⟨(by show 0 + 0 ≤ uWord M kf nw σ v0 i0; omega), (by show 0 + 0 ≤ 8 * (uWord M kf nw σ v0 i0); omega)⟩) hS (fun r4 Mx5 H locs hq6 hm hS => ?_)
    obtain ⟨rfl, h9⟩ := hq6
    rw [h9] at hm
    refine lv_if_ne (tgt := 17) hx hb dX3_word_12 (by decide) (fun c_12 => ?_) (fun c_12 => ?_)
    · have c_12 := bI_t c_12
      obtain ⟨j, hj, hje⟩ := isW_nat c_12
      have hu : uWord M kf nw σ v0 i0 = udT 16 M (rootR kf nw v0) := by unfold uWord; rw [c_5, c_12]; rfl
      refine lv_aload_n hx hb dX3_word_17 rfl (lv_at hl 0 rfl) ?_
      refine lv_iload_n hx hb dX3_word_18 rfl (lv_at hl 1 rfl) ?_
      refine hp_cq (hp_runV (C := RX3) (T := TX3) (N := 6) (np := 1) (k := 1) (mc := 0) (ms := 0) (As := [.int v0]) (rest := []) EE hm hS (c_X3_rootOf l g M N Z x kp pf bs h nm ms sc sa fo br kf nw fm fs fa ff rv σ hC0 v0) ms_X3_rootOf wi_X3_rootOf ws_X3_rootOf wl_X3_69 e_x rfl rfl hl.1 rfl (Nat.le_of_ble_eq_true rfl) dX3_word_19 ⟨Nat.le_of_ble_eq_true rfl, Nat.le_of_ble_eq_true rfl⟩ ⟨(by show 0 + 0 ≤ uWord M kf nw σ v0 i0; omega), (by show 0 + 0 ≤ 8 * (uWord M kf nw σ v0 i0); omega)⟩) hS (fun r7 Mx8 H locs hq9 hm hS => ?_)
      obtain ⟨hro, h9⟩ := hq9
      rw [h9] at hm
      have hrt := rootR_rt hkc hvs hnw c_5
      rw [← hro] at hrt
      have hgm := mapV_g ⟨hkc, hvg, hgn, hpl, hpk⟩ c_5
      refine lv_iconst (v := 0) hx hb dX3_word_22 (by decide) ?_
      refine lv_aload_n hx hb dX3_word_23 rfl (lv_at hl 0 rfl) ?_
      rw [← hro] at hu
      refine hp_get (C := RX3) (T := TX3) (N := 6) (v := .ref h) EE hm e_x inh3 rfl 4 (by decide) wf_X3_33 rfl dX3_word_24 ?_
      refine hp_cq (hp_runS (np := 3) (k := 21) (mc := udT 16 M r7) (ms := 8 * (udT 16 M r7)) (As := [va_rf r7, .int 0, .ref h]) (rest := []) EE hm hS (c_X3_digestOf l g N h nm ms sc sa 16 M Z fm fs fa r7 (mapV σ v0) 0 hW hH (hZn ms (Or.inr (Or.inl rfl))) (hZn sc (Or.inr (Or.inr (Or.inl rfl)))) (hZn sa (Or.inr (Or.inr (Or.inr (Or.inl rfl))))) hrt rfl) ms_X3_digestOf wt_X3_digestOf wl_X3_79 rfl hl.1 rfl (Nat.le_of_ble_eq_true rfl) dX3_word_27 ⟨Nat.le_of_ble_eq_true rfl, Nat.le_of_ble_eq_true rfl⟩ ⟨(by show 0 + udT 16 M r7 ≤ uWord M kf nw σ v0 i0; omega), (by show 0 + 8 * (udT 16 M r7) ≤ 8 * (uWord M kf nw σ v0 i0); omega)⟩) hS (fun r10 Mx11 H locs hq12 hm hS => ?_)
      obtain ⟨Z9, fm9, fs9, fa9, b9, f9, hb9, hW9, hH9, e_9, hf9, -, hR9⟩ := hq12
      subst hb9
      obtain ⟨hC9, hR9⟩ := CX.dg hC0 hW9 hH9 hR9
      refine lv_iload_n hx hb dX3_word_30 rfl (lv_at hl 2 rfl) ?_
      refine hp_ialdN EE hm e_9 j hje (by omega) (by decide) dX3_word_31 ?_
      exact ret dX3_word_32 na_i hm hS (by omega) (by omega) (⟨by unfold rWord; rw [c_5, c_12, hje, nI_clamp (by omega)]; exact hf9 j hj, by rw [hu]; exact hR9.CP hC9⟩)
    · have c_12 := bI_f c_12
      refine lv_iconst (v := 0) hx hb dX3_word_15 (by decide) ?_
      exact ret dX3_word_16 na_i hm hS (by omega) (by omega) (⟨by unfold rWord; first | (rw [c_5]; rfl) | (rw [c_5, c_12]; rfl), by unfold uWord; first | (rw [c_5]; exact CP.rf hC0) | (rw [c_5, c_12]; exact CP.rf hC0)⟩)
def eq8 (f f2 : Nat → Int32) : Bool := (List.range 8).all (fun j => f j == f2 j)
theorem eq8_t {f f2 : Nat → Int32} (h : ∀ j, j < 8 → f j = f2 j) : eq8 f f2 = true := List.all_eq_true.mpr (fun j hj => by simp [h j (List.mem_range.mp hj)])
theorem eq8_f {f f2 : Nat → Int32} {i : Nat} (hi : i < 8) (h : ¬ f i = f2 i) : eq8 f f2 = false := by
  cases hq : eq8 f f2 with
  | false => rfl
  | true =>
    have := List.all_eq_true.mp hq i (List.mem_range.mpr hi)
    exact absurd (by simpa using this) h
theorem eq8_w {f f2 e e2 : Nat → Int32} (h : ∀ j, j < 8 → f j = f2 j) (h2 : ∀ j, j < 8 → e j = e2 j) : eq8 f e = eq8 f2 e2 := by
  unfold eq8
  have : ∀ j ∈ List.range 8, (f j == e j) = (f2 j == e2 j) := fun j hj => by rw [h j (List.mem_range.mp hj), h2 j (List.mem_range.mp hj)]
  rw [Bool.eq_iff_iff, List.all_eq_true, List.all_eq_true]
  exact ⟨fun q j hj => by rw [← this j hj]; exact q j hj, fun q j hj => by rw [this j hj]; exact q j hj⟩
set_option maxHeartbeats 4000000 in
set_option maxRecDepth 100000 in
theorem c_X3_sameWords (l : Launch) (g : hG) (M : hM) (a b : Nat) (fA fB : Nat → Int32) (e_a : M a = some (aI g 8 fA)) (e_b : M b = some (aI g 8 fB)) : Ci l g yX3_sameWords cX3_sameWords 3 .boolean 1 0 0 [.ref a, .ref b] M (fun r M9 => r = bI (eq8 fA fB) ∧ M9 = M) := by
  refine hp_startI (by decide) (by exact Nat.le_of_ble_eq_true rfl) ?_
  intro p e s m below meth c Q H locs ls EE hnm ret hm hS hl
  have hx := EE.1
  have hb := EE.2.1
  have hown := EE.2.2.2.1
  have hts := EE.2.2.2.2.1
  have hl : lv_has ls 3 [(0, .ref a), (1, .ref b)] := hl
  refine lv_iconst (v := 0) hx hb dX3_sameWords_0 (by decide) ?_
  refine lv_istore_n (lv' := [(2, .int 0), (0, .ref a), (1, .ref b)]) hx hb dX3_sameWords_1 rfl hl (by decide) rfl (fun ls hl => ?_)
  have lp : ∀ (n i : Nat)  (H : Heap) (locs : List Loc) (ls : Array Slot), 9 ≤ i + n → i ≤ 8 → (∀ j, j < i → fA j = fB j) → hp g M H → va_S (hA g) s.heap H locs → lv_has ls 3 [(2, .int (nI i)), (0, .ref a), (1, .ref b)] → W p l e (hR 1 0 0) s m [.ref a, .ref b].toArray below meth c H locs 0 0 Q (F0 m 2 ls []) := by
    intro n
    induction n with
    | zero => intro i  H locs ls hn hi hf; exact absurd hn (by omega)
    | succ n ih =>
      intro i  H locs ls hn hi hf hm hS hl
      refine lv_iload_n hx hb dX3_sameWords_2 rfl (lv_at hl 0 rfl) ?_
      refine lv_bipush (v := 8) hx hb dX3_sameWords_3 (by decide) ?_
      refine lv_icmp_ge (tgt := 25) hx hb dX3_sameWords_5 (by decide) (fun c_5 => ?_) (fun c_5 => ?_)
      · have c_5 : 8 ≤ i := (nI_leI (a := 8) (b := i) (by decide) (by omega)).mp c_5
        refine lv_iconst (v := 1) hx hb dX3_sameWords_25 (by decide) ?_
        exact ret dX3_sameWords_26 na_1 hm hS (Nat.le_of_ble_eq_true rfl) (Nat.le_of_ble_eq_true rfl) (⟨by rw [eq8_t (fun j hj => hf j (by omega))]; rfl, rfl⟩)
      · have c_5 : ¬ 8 ≤ i := fun h9 => c_5 ((nI_leI (a := 8) (b := i) (by decide) (by omega)).mpr h9)
        refine lv_aload_n hx hb dX3_sameWords_8 rfl (lv_at hl 1 rfl) ?_
        refine lv_iload_n hx hb dX3_sameWords_9 rfl (lv_at hl 0 rfl) ?_
        refine hp_ialdN EE hm e_a i rfl (by omega) (by decide) dX3_sameWords_10 ?_
        refine lv_aload_n hx hb dX3_sameWords_11 rfl (lv_at hl 2 rfl) ?_
        refine lv_iload_n hx hb dX3_sameWords_12 rfl (lv_at hl 0 rfl) ?_
        refine hp_ialdN EE hm e_b i rfl (by omega) (by decide) dX3_sameWords_13 ?_
        refine lv_icmp_eq (tgt := 19) hx hb dX3_sameWords_14 (by decide) (fun c_14 => ?_) (fun c_14 => ?_)
        · refine lv_iinc (v := nI (i + 1)) (lv' := [(2, .int (nI (i + 1))), (0, .ref a), (1, .ref b)]) hx hb dX3_sameWords_19 hl (k := 0) rfl (nI_1 _) (by decide) rfl (fun ls hl => ?_)
          refine lv_goto (tgt := 2) hx hb dX3_sameWords_22 (by decide) ?_
          exact ih (i + 1) H locs ls (by omega) (by omega) (fun j hj => by
            rcases Nat.lt_or_eq_of_le (Nat.le_of_lt_succ hj) with q | q
            · exact hf j q
            · rw [q]; exact c_14) hm hS (lv_sub hl [0, 1, 2] rfl)
        · refine lv_iconst (v := 0) hx hb dX3_sameWords_17 (by decide) ?_
          exact ret dX3_sameWords_18 na_0 hm hS (Nat.le_of_ble_eq_true rfl) (Nat.le_of_ble_eq_true rfl) (⟨by rw [eq8_f (by omega) c_14]; rfl, rfl⟩)
  exact lp 9 0 H locs ls (by omega) (by omega) (fun j hj => absurd hj (Nat.not_lt_zero j)) hm hS (lv_sub hl [0, 1, 2] rfl)
theorem m1_sub (x : Int32) : x + (-1) = x - 1 := by rw [Int32.sub_eq_add_neg]
/-- what a proof comes to with a key: from the last sibling to the first -/
def foldS (sb : Nat → Nat → Int32) (k : Nat) : Nat → (Nat → Int32) → Nat → Int32
  | 0, f => f
  | n + 1, f => foldS sb k n (if k.testBit (15 - n) then hPair (sb n) f else hPair f (sb n))
def endD (σ : cSt) : Nat → Int32 := if sPe σ then hLeaf (sPk σ) (sPv σ) else fun _ => 0
theorem foldS_w {sb sb2 : Nat → Nat → Int32} {k : Nat} : ∀ (n : Nat) {f f2 : Nat → Int32}, (∀ i, i < n → ∀ j, j < 8 → sb i j = sb2 i j) → (∀ j, j < 8 → f j = f2 j) → ∀ j, j < 8 → foldS sb k n f j = foldS sb2 k n f2 j
  | 0, _, _, _, hf, j, hj => hf j hj
  | n + 1, f, f2, hs, hf, j, hj => by
    refine foldS_w n (fun i hi => hs i (by omega)) (fun b hb => ?_) j hj
    cases k.testBit (15 - n) with
    | true => exact hPair_w (fun c hc => hs n (by omega) c hc) hf hb
    | false => exact hPair_w hf (fun c hc => hs n (by omega) c hc) hb
set_option maxHeartbeats 4000000 in
set_option maxRecDepth 100000 in
theorem c_X3_foldProof (l : Launch) (g : hG) (M : hM) (N Z : gT) (x kp pf bs h nm ms sc sa fo : Nat) (br : Nat → Nat) (kf : Nat → Option Nat) (nw : Option Nat) (fm fs fa ff : Nat → Int32) (rv : Nat → Nat → Int32) (σ : cSt) (hC : CX g M N Z x kp pf bs h nm ms sc sa fo br kf nw fm fs fa ff rv σ) (kn : Nat) (hkn : kn < 65536) : Cv l g yX3_foldProof cX3_foldProof 3 5 0 0 [.ref x, .int (nI kn)] M (fun M9 => ∃ fm9 fs9 fa9 f9, CX g M9 N Z x kp pf bs h nm ms sc sa fo br kf nw fm9 fs9 fa9 f9 rv σ ∧ CR M N x kp pf ms sc sa fo br M9 0 ∧ (∀ q y, N q = some y → M9 q = M q) ∧ ∀ j, j < 8 → f9 j = foldS (sSb σ) kn (sPl σ) (endD σ) j) := by
  have hC0 := hC
  obtain ⟨hW, hH, e_x, e_kp, e_pf, e_bs, e_br, e_fo, hDA, hZn, hok, hvs, hnw, hsb⟩ := hC
  obtain ⟨hkc, hvg, hgn, hpl, hpk⟩ := hok
  obtain ⟨e_h, e_ms, e_sc, e_sa, ⟨fn, e_nm, hz⟩, n_1, n_2, n_3, n_4, n_5, n_6⟩ := id hH
  obtain ⟨d1, d2, d3, d4, d5, d6⟩ := id hDA
  refine hp_startV (by decide) (by exact Nat.le_of_ble_eq_true rfl) ?_
  intro p e s m below meth c Q H locs ls EE hnm ret hm hS hl
  have hx := EE.1
  have hb := EE.2.1
  have hown := EE.2.2.2.1
  have hts := EE.2.2.2.2.1
  have hl : lv_has ls 3 [(0, .ref x), (1, .int (nI kn))] := hl
  refine lv_aload_n hx hb dX3_foldProof_0 rfl (lv_at hl 0 rfl) ?_
  refine hp_get (C := RX3) (T := TX3) (N := 6) (v := .ref pf) EE hm e_x inh3 rfl 3 (by decide) wf_X3_26 rfl dX3_foldProof_1 ?_
  refine hp_get (C := RX2) (T := TX2) (N := 5) (v := .int (bI (sPe σ))) EE hm e_pf inh2 rfl 2 (by decide) wf_X3_114 rfl dX3_foldProof_4 ?_
  refine lv_if_eq (tgt := 38) hx hb dX3_foldProof_7 (by decide) (fun c_7 => ?_) (fun c_7 => ?_)
  · have c_7 := bI_f c_7
    refine lv_aload_n hx hb dX3_foldProof_38 rfl (lv_at hl 0 rfl) ?_
    refine hp_get (C := RX3) (T := TX3) (N := 6) (v := .ref h) EE hm e_x inh3 rfl 4 (by decide) wf_X3_33 rfl dX3_foldProof_39 ?_
    refine hp_get (C := RX0) (T := TX0) (N := 4) (v := .ref nm) EE hm e_h inh0 rfl 0 (by decide) wf_X3_148 rfl dX3_foldProof_42 ?_
    refine lv_aload_n hx hb dX3_foldProof_45 rfl (lv_at hl 0 rfl) ?_
    refine hp_get (C := RX3) (T := TX3) (N := 6) (v := .ref fo) EE hm e_x inh3 rfl 5 (by decide) wf_X3_37 rfl dX3_foldProof_46 ?_
    refine hp_cv (hp_runS (np := 2) (k := 1) (mc := 0) (ms := 0) (As := [.ref nm, .ref fo]) (rest := []) EE hm hS (c_X3_copyWords l g M nm fo fn ff e_nm e_fo (Ne.symm d1)) ms_X3_copyWords wt_X3_copyWords wl_X3_95 rfl hl.1 rfl (Nat.le_of_ble_eq_true rfl) dX3_foldProof_49 ⟨Nat.le_of_ble_eq_true rfl, Nat.le_of_ble_eq_true rfl⟩ ⟨(Nat.le_of_ble_eq_true rfl), (Nat.le_of_ble_eq_true rfl)⟩) hS (fun Mx1 H locs hq2 hm hS => ?_)
    obtain ⟨f1, e_1, hfr1, hf1⟩ := hq2
    have hHx := HS.chg hH hfr1 (ne_lk e_h e_fo (by simp)) (Ne.symm d1) (Ne.symm d2) (Ne.symm d3) (Ne.symm d4)
    obtain ⟨hC1, hR1⟩ := CX.hash hC0 hHx e_1 (fun q _ _ _ h9 => hfr1 q h9)
    have hend : ∀ j, j < 8 → f1 j = endD σ j := fun j hj => by unfold endD; rw [c_7, hf1 j hj, hz j hj]; rfl
    have hR0 : CR M N x kp pf ms sc sa fo br Mx1 0 := hR1
    have hN0 : ∀ q y, N q = some y → Mx1 q = M q := fun q y hy => hfr1 q (nd_ne hW hy e_fo)
    obtain ⟨hW1, hH1, e_x, e_kp, e_pf, e_bs, e_br, e_fo, -, hZn1, -, hvs1, hnw1, hsb1⟩ := id hC1
    obtain ⟨e_h, e_ms, e_sc, e_sa, ⟨fn1, e_nm, hz1⟩, -⟩ := id hH1
    refine lv_aload_n hx hb dX3_foldProof_52 rfl (lv_at hl 0 rfl) ?_
    refine hp_get (C := RX3) (T := TX3) (N := 6) (v := .ref pf) EE hm e_x inh3 rfl 3 (by decide) wf_X3_26 rfl dX3_foldProof_53 ?_
    refine hp_get (C := RX2) (T := TX2) (N := 5) (v := .int (nI (sPl σ))) EE hm e_pf inh2 rfl 1 (by decide) wf_X3_99 rfl dX3_foldProof_56 ?_
    refine lv_bipush (v := 16) hx hb dX3_foldProof_59 (by decide) ?_
    refine va_mmin hx hb (by rw [EE.2.2.1]; exact hl.1.symm) hown (hts _ wl_X3_162) (hts _ wt_J9_min_7cf53) (hts _ wn_J9) (hts _ wcode_J9_min_7cf53) (Nat.le_of_ble_eq_true rfl) (Nat.le_of_ble_eq_true rfl) (Nat.le_refl _) (Nat.le_refl _) dX3_foldProof_61 ?_
    rw [if_neg (show ¬ (16 : Int32) < nI (sPl σ) from nI_nlt (a := 16) hpl (by decide))]
    refine lv_iconst (v := 1) hx hb dX3_foldProof_64 (by decide) ?_
    refine lv_isub hx hb dX3_foldProof_65 ?_
    refine lv_istore_n (lv' := [(2, .int ((nI (sPl σ)) - 1)), (0, .ref x), (1, .int (nI kn))]) hx hb dX3_foldProof_66 rfl hl (by decide) rfl (fun ls hl => ?_)
    have lp : ∀ (n u : Nat) (M1 : hM) (fm2 fs2 fa2 f2 : Nat → Int32) (H : Heap) (locs : List Loc) (ls : Array Slot), u + 1 ≤ n → u ≤ sPl σ → CX g M1 N Z x kp pf bs h nm ms sc sa fo br kf nw fm2 fs2 fa2 f2 rv σ → CR M N x kp pf ms sc sa fo br M1 0 → (∀ q y, N q = some y → M1 q = M q) → (∀ j, j < 8 → foldS (sSb σ) kn u f2 j = foldS (sSb σ) kn (sPl σ) (endD σ) j) → hp g M1 H → va_S (hA g) s.heap H locs → lv_has ls 3 [(2, .int (nI u - 1)), (0, .ref x), (1, .int (nI kn))] → W p l e (hR 5 0 0) s m [.ref x, .int (nI kn)].toArray below meth c H locs 0 0 Q (F0 m 67 ls []) := by
      intro n
      induction n with
      | zero => intro u M1 fm2 fs2 fa2 f2 H locs ls hn hu hC2 hR2 hN2 hfold; exact absurd hn (by omega)
      | succ n ih =>
        intro u M1 fm2 fs2 fa2 f2 H locs ls hn hu hC2 hR2 hN2 hfold hm hS hl
        obtain ⟨hW1, hH1, e_x, e_kp, e_pf, e_bs, e_br, e_fo, -, hZn1, -, hvs1, hnw1, hsb1⟩ := id hC2
        obtain ⟨e_h, e_ms, e_sc, e_sa, ⟨fn1, e_nm, hz1⟩, -⟩ := id hH1
        refine lv_iload_n hx hb dX3_foldProof_67 rfl (lv_at hl 0 rfl) ?_
        refine lv_if_lt (tgt := 136) hx hb dX3_foldProof_68 (by decide) (fun c_68 => ?_) (fun c_68 => ?_)
        · have hu0 : u = 0 := by
            rcases Nat.eq_zero_or_pos u with q | q
            · exact q
            · obtain ⟨u1, rfl⟩ : ∃ u1, u = u1 + 1 := ⟨u - 1, by omega⟩
              rw [nI_pred] at c_68
              exact absurd c_68 (nI_pos (by omega))
          subst hu0
          exact ret dX3_foldProof_136 hm hS (Nat.le_of_ble_eq_true rfl) (Nat.le_of_ble_eq_true rfl) (⟨fm2, fs2, fa2, f2, hC2, hR2, hN2, hfold⟩)
        · obtain ⟨u1, hu1⟩ : ∃ u1, u = u1 + 1 := by
            rcases Nat.eq_zero_or_pos u with q | q
            · rw [q] at c_68; exact absurd (by decide) c_68
            · exact ⟨u - 1, by omega⟩
          subst hu1
          rw [nI_pred] at hl
          have hl : lv_has ls 3 [(2, .int (nI u1)), (0, .ref x), (1, .int (nI kn))] := hl
          have e_b := e_br u1 (by omega)
          refine lv_iload_n hx hb dX3_foldProof_71 rfl (lv_at hl 2 rfl) ?_
          refine lv_iload_n hx hb dX3_foldProof_72 rfl (lv_at hl 0 rfl) ?_
          refine hp_ci (hp_runS (np := 2) (k := 1) (mc := 0) (ms := 0) (As := [.int (nI kn), .int (nI u1)]) (rest := []) EE hm hS (c_X3_bitAt l g M1 (nI kn) (nI u1)) ms_X3_bitAt wt_X3_bitAt wl_X3_83 rfl hl.1 rfl (Nat.le_of_ble_eq_true rfl) dX3_foldProof_73 ⟨Nat.le_of_ble_eq_true rfl, Nat.le_of_ble_eq_true rfl⟩ ⟨(Nat.le_of_ble_eq_true rfl), (Nat.le_of_ble_eq_true rfl)⟩) hS (fun r3 Mx4 H locs hq5 hm hS => ?_)
          obtain ⟨hr9, h9⟩ := hq5
          rw [h9] at hm
          rw [bitA_n hkn (show u1 + (15 - u1) = 15 by omega)] at hr9
          subst hr9
          refine lv_if_ne (tgt := 106) hx hb dX3_foldProof_76 (by decide) (fun c_76 => ?_) (fun c_76 => ?_)
          · have c_76 := bI_t c_76
            refine lv_aload_n hx hb dX3_foldProof_106 rfl (lv_at hl 1 rfl) ?_
            refine hp_get (C := RX3) (T := TX3) (N := 6) (v := .ref h) EE hm e_x inh3 rfl 4 (by decide) wf_X3_33 rfl dX3_foldProof_107 ?_
            refine lv_aload_n hx hb dX3_foldProof_110 rfl (lv_at hl 1 rfl) ?_
            refine hp_get (C := RX3) (T := TX3) (N := 6) (v := .ref pf) EE hm e_x inh3 rfl 3 (by decide) wf_X3_26 rfl dX3_foldProof_111 ?_
            refine hp_get (C := RX2) (T := TX2) (N := 5) (v := .ref bs) EE hm e_pf inh2 rfl 0 (by decide) wf_X3_91 rfl dX3_foldProof_114 ?_
            refine lv_iload_n hx hb dX3_foldProof_117 rfl (lv_at hl 0 rfl) ?_
            refine hp_aaldRN EE hm e_bs u1 rfl (by omega) (by decide) dX3_foldProof_118 ?_
            refine lv_aload_n hx hb dX3_foldProof_119 rfl (lv_at hl 1 rfl) ?_
            refine hp_get (C := RX3) (T := TX3) (N := 6) (v := .ref fo) EE hm e_x inh3 rfl 5 (by decide) wf_X3_37 rfl dX3_foldProof_120 ?_
            refine lv_aload_n hx hb dX3_foldProof_123 rfl (lv_at hl 1 rfl) ?_
            refine hp_get (C := RX3) (T := TX3) (N := 6) (v := .ref fo) EE hm e_x inh3 rfl 5 (by decide) wf_X3_37 rfl dX3_foldProof_124 ?_
            refine hp_cv (hp_runV (C := RX0) (T := TX0) (N := 4) (np := 3) (k := 4) (mc := 0) (ms := 0) (As := [.ref (br u1), .ref fo, .ref fo]) (rest := []) EE hm hS (c_X0_hashPair l g M1 h nm ms sc sa fm2 fs2 fa2 hH1 fo f2 e_fo d2 d3 d4 d1 (br u1) fo (rv u1) f2 e_b e_fo (d5 u1 (by omega)).2.1 d2) ms_X0_hashPair wi_X0_hashPair ws_X0_hashPair wl_X3_158 e_h rfl rfl hl.1 rfl (Nat.le_of_ble_eq_true rfl) dX3_foldProof_127 ⟨Nat.le_of_ble_eq_true rfl, Nat.le_of_ble_eq_true rfl⟩ ⟨(Nat.le_of_ble_eq_true rfl), (Nat.le_of_ble_eq_true rfl)⟩) hS (fun Mx6 H locs hq7 hm hS => ?_)
            obtain ⟨fm3, fs3, fa3, f3, hH3, e_3, hfr3, hf3⟩ := hq7
            obtain ⟨hC3, hRx⟩ := CX.hash hC2 hH3 e_3 hfr3
            have hR3 := hR2.tr hRx (Nat.le_refl _)
            have hN3 : ∀ q y, N q = some y → Mx6 q = M q := fun q y hy => (hfr3 q (nd_ne hW1 hy e_ms) (nd_ne hW1 hy e_sc) (nd_ne hW1 hy e_sa) (nd_ne hW1 hy e_fo)).trans (hN2 q y hy)
            obtain ⟨M3, hM3⟩ : ∃ z, z = Mx6 := ⟨_, rfl⟩
            rw [← hM3] at hm hC3 hR3 hN3
            refine lv_iinc (v := (nI u1) + (-1)) (lv' := [(2, .int ((nI u1) + (-1))), (0, .ref x), (1, .int (nI kn))]) hx hb dX3_foldProof_130 hl (k := 0) rfl rfl (by decide) rfl (fun ls hl => ?_)
            refine lv_goto (tgt := 67) hx hb dX3_foldProof_133 (by decide) ?_
            exact ih u1 M3 fm3 fs3 fa3 f3 H locs ls (by omega) (by omega) hC3 hR3 hN3 (fun j hj => by rw [← hfold j hj]; show _ = foldS (sSb σ) kn u1 (if kn.testBit (15 - u1) then hPair (sSb σ u1) f2 else hPair f2 (sSb σ u1)) j; rw [c_76, if_pos rfl]; exact foldS_w u1 (fun _ _ _ _ => rfl) (fun b hb9 => by rw [hf3 b hb9]; exact hPair_w (fun c9 hc9 => hsb1 u1 (by omega) c9 hc9) (fun _ _ => rfl) hb9) j hj) hm hS (lv_sub hl [0, 1, 2] (by rw [m1_sub]; rfl))
          · have c_76 := bI_f c_76
            refine lv_aload_n hx hb dX3_foldProof_79 rfl (lv_at hl 1 rfl) ?_
            refine hp_get (C := RX3) (T := TX3) (N := 6) (v := .ref h) EE hm e_x inh3 rfl 4 (by decide) wf_X3_33 rfl dX3_foldProof_80 ?_
            refine lv_aload_n hx hb dX3_foldProof_83 rfl (lv_at hl 1 rfl) ?_
            refine hp_get (C := RX3) (T := TX3) (N := 6) (v := .ref fo) EE hm e_x inh3 rfl 5 (by decide) wf_X3_37 rfl dX3_foldProof_84 ?_
            refine lv_aload_n hx hb dX3_foldProof_87 rfl (lv_at hl 1 rfl) ?_
            refine hp_get (C := RX3) (T := TX3) (N := 6) (v := .ref pf) EE hm e_x inh3 rfl 3 (by decide) wf_X3_26 rfl dX3_foldProof_88 ?_
            refine hp_get (C := RX2) (T := TX2) (N := 5) (v := .ref bs) EE hm e_pf inh2 rfl 0 (by decide) wf_X3_91 rfl dX3_foldProof_91 ?_
            refine lv_iload_n hx hb dX3_foldProof_94 rfl (lv_at hl 0 rfl) ?_
            refine hp_aaldRN EE hm e_bs u1 rfl (by omega) (by decide) dX3_foldProof_95 ?_
            refine lv_aload_n hx hb dX3_foldProof_96 rfl (lv_at hl 1 rfl) ?_
            refine hp_get (C := RX3) (T := TX3) (N := 6) (v := .ref fo) EE hm e_x inh3 rfl 5 (by decide) wf_X3_37 rfl dX3_foldProof_97 ?_
            refine hp_cv (hp_runV (C := RX0) (T := TX0) (N := 4) (np := 3) (k := 4) (mc := 0) (ms := 0) (As := [.ref fo, .ref (br u1), .ref fo]) (rest := []) EE hm hS (c_X0_hashPair l g M1 h nm ms sc sa fm2 fs2 fa2 hH1 fo f2 e_fo d2 d3 d4 d1 fo (br u1) f2 (rv u1) e_fo e_b d2 (d5 u1 (by omega)).2.1) ms_X0_hashPair wi_X0_hashPair ws_X0_hashPair wl_X3_158 e_h rfl rfl hl.1 rfl (Nat.le_of_ble_eq_true rfl) dX3_foldProof_100 ⟨Nat.le_of_ble_eq_true rfl, Nat.le_of_ble_eq_true rfl⟩ ⟨(Nat.le_of_ble_eq_true rfl), (Nat.le_of_ble_eq_true rfl)⟩) hS (fun Mx8 H locs hq9 hm hS => ?_)
            obtain ⟨fm3, fs3, fa3, f3, hH3, e_3, hfr3, hf3⟩ := hq9
            obtain ⟨hC3, hRx⟩ := CX.hash hC2 hH3 e_3 hfr3
            have hR3 := hR2.tr hRx (Nat.le_refl _)
            have hN3 : ∀ q y, N q = some y → Mx8 q = M q := fun q y hy => (hfr3 q (nd_ne hW1 hy e_ms) (nd_ne hW1 hy e_sc) (nd_ne hW1 hy e_sa) (nd_ne hW1 hy e_fo)).trans (hN2 q y hy)
            obtain ⟨M3, hM3⟩ : ∃ z, z = Mx8 := ⟨_, rfl⟩
            rw [← hM3] at hm hC3 hR3 hN3
            refine lv_goto (tgt := 130) hx hb dX3_foldProof_103 (by decide) ?_
            refine lv_iinc (v := (nI u1) + (-1)) (lv' := [(2, .int ((nI u1) + (-1))), (0, .ref x), (1, .int (nI kn))]) hx hb dX3_foldProof_130 hl (k := 0) rfl rfl (by decide) rfl (fun ls hl => ?_)
            refine lv_goto (tgt := 67) hx hb dX3_foldProof_133 (by decide) ?_
            exact ih u1 M3 fm3 fs3 fa3 f3 H locs ls (by omega) (by omega) hC3 hR3 hN3 (fun j hj => by rw [← hfold j hj]; show _ = foldS (sSb σ) kn u1 (if kn.testBit (15 - u1) then hPair (sSb σ u1) f2 else hPair f2 (sSb σ u1)) j; rw [c_76]; exact foldS_w u1 (fun _ _ _ _ => rfl) (fun b hb9 => by rw [hf3 b hb9]; exact hPair_w (fun _ _ => rfl) (fun c9 hc9 => hsb1 u1 (by omega) c9 hc9) hb9) j hj) hm hS (lv_sub hl [0, 1, 2] (by rw [m1_sub]; rfl))
    exact lp (sPl σ + 1) (sPl σ) _ _ _ _ _ H locs ls (Nat.le_refl _) (Nat.le_refl _) hC1 hR0 hN0 (foldS_w _ (fun _ _ _ _ => rfl) hend) hm hS (lv_sub hl [0, 1, 2] rfl)
  · have c_7 := bI_t c_7
    refine lv_aload_n hx hb dX3_foldProof_10 rfl (lv_at hl 0 rfl) ?_
    refine hp_get (C := RX3) (T := TX3) (N := 6) (v := .ref h) EE hm e_x inh3 rfl 4 (by decide) wf_X3_33 rfl dX3_foldProof_11 ?_
    refine lv_aload_n hx hb dX3_foldProof_14 rfl (lv_at hl 0 rfl) ?_
    refine hp_get (C := RX3) (T := TX3) (N := 6) (v := .ref pf) EE hm e_x inh3 rfl 3 (by decide) wf_X3_26 rfl dX3_foldProof_15 ?_
    refine hp_get (C := RX2) (T := TX2) (N := 5) (v := .int (sPk σ)) EE hm e_pf inh2 rfl 3 (by decide) wf_X3_118 rfl dX3_foldProof_18 ?_
    refine lv_aload_n hx hb dX3_foldProof_21 rfl (lv_at hl 0 rfl) ?_
    refine hp_get (C := RX3) (T := TX3) (N := 6) (v := .ref pf) EE hm e_x inh3 rfl 3 (by decide) wf_X3_26 rfl dX3_foldProof_22 ?_
    refine hp_get (C := RX2) (T := TX2) (N := 5) (v := .int (sPv σ)) EE hm e_pf inh2 rfl 4 (by decide) wf_X3_119 rfl dX3_foldProof_25 ?_
    refine lv_aload_n hx hb dX3_foldProof_28 rfl (lv_at hl 0 rfl) ?_
    refine hp_get (C := RX3) (T := TX3) (N := 6) (v := .ref fo) EE hm e_x inh3 rfl 5 (by decide) wf_X3_37 rfl dX3_foldProof_29 ?_
    refine hp_cv (hp_runV (C := RX0) (T := TX0) (N := 4) (np := 3) (k := 4) (mc := 0) (ms := 0) (As := [.int (sPk σ), .int (sPv σ), .ref fo]) (rest := []) EE hm hS (c_X0_hashEntry l g M h nm ms sc sa fm fs fa hH fo ff e_fo d2 d3 d4 d1 (sPk σ) (sPv σ)) ms_X0_hashEntry wi_X0_hashEntry ws_X0_hashEntry wl_X3_154 e_h rfl rfl hl.1 rfl (Nat.le_of_ble_eq_true rfl) dX3_foldProof_32 ⟨Nat.le_of_ble_eq_true rfl, Nat.le_of_ble_eq_true rfl⟩ ⟨(Nat.le_of_ble_eq_true rfl), (Nat.le_of_ble_eq_true rfl)⟩) hS (fun Mx10 H locs hq11 hm hS => ?_)
    obtain ⟨fm1, fs1, fa1, f1, hH1, e_1, hfr1, hf1⟩ := hq11
    obtain ⟨hC1, hR1⟩ := CX.hash hC0 hH1 e_1 hfr1
    have hend : ∀ j, j < 8 → f1 j = endD σ j := fun j hj => by unfold endD; rw [c_7]; exact hf1 j hj
    have hR0 : CR M N x kp pf ms sc sa fo br Mx10 0 := hR1
    have hN0 : ∀ q y, N q = some y → Mx10 q = M q := fun q y hy => hfr1 q (nd_ne hW hy e_ms) (nd_ne hW hy e_sc) (nd_ne hW hy e_sa) (nd_ne hW hy e_fo)
    obtain ⟨hW1, hH1, e_x, e_kp, e_pf, e_bs, e_br, e_fo, -, hZn1, -, hvs1, hnw1, hsb1⟩ := id hC1
    obtain ⟨e_h, e_ms, e_sc, e_sa, ⟨fn1, e_nm, hz1⟩, -⟩ := id hH1
    refine lv_goto (tgt := 52) hx hb dX3_foldProof_35 (by decide) ?_
    refine lv_aload_n hx hb dX3_foldProof_52 rfl (lv_at hl 0 rfl) ?_
    refine hp_get (C := RX3) (T := TX3) (N := 6) (v := .ref pf) EE hm e_x inh3 rfl 3 (by decide) wf_X3_26 rfl dX3_foldProof_53 ?_
    refine hp_get (C := RX2) (T := TX2) (N := 5) (v := .int (nI (sPl σ))) EE hm e_pf inh2 rfl 1 (by decide) wf_X3_99 rfl dX3_foldProof_56 ?_
    refine lv_bipush (v := 16) hx hb dX3_foldProof_59 (by decide) ?_
    refine va_mmin hx hb (by rw [EE.2.2.1]; exact hl.1.symm) hown (hts _ wl_X3_162) (hts _ wt_J9_min_7cf53) (hts _ wn_J9) (hts _ wcode_J9_min_7cf53) (Nat.le_of_ble_eq_true rfl) (Nat.le_of_ble_eq_true rfl) (Nat.le_refl _) (Nat.le_refl _) dX3_foldProof_61 ?_
    rw [if_neg (show ¬ (16 : Int32) < nI (sPl σ) from nI_nlt (a := 16) hpl (by decide))]
    refine lv_iconst (v := 1) hx hb dX3_foldProof_64 (by decide) ?_
    refine lv_isub hx hb dX3_foldProof_65 ?_
    refine lv_istore_n (lv' := [(2, .int ((nI (sPl σ)) - 1)), (0, .ref x), (1, .int (nI kn))]) hx hb dX3_foldProof_66 rfl hl (by decide) rfl (fun ls hl => ?_)
    have lp : ∀ (n u : Nat) (M1 : hM) (fm2 fs2 fa2 f2 : Nat → Int32) (H : Heap) (locs : List Loc) (ls : Array Slot), u + 1 ≤ n → u ≤ sPl σ → CX g M1 N Z x kp pf bs h nm ms sc sa fo br kf nw fm2 fs2 fa2 f2 rv σ → CR M N x kp pf ms sc sa fo br M1 0 → (∀ q y, N q = some y → M1 q = M q) → (∀ j, j < 8 → foldS (sSb σ) kn u f2 j = foldS (sSb σ) kn (sPl σ) (endD σ) j) → hp g M1 H → va_S (hA g) s.heap H locs → lv_has ls 3 [(2, .int (nI u - 1)), (0, .ref x), (1, .int (nI kn))] → W p l e (hR 5 0 0) s m [.ref x, .int (nI kn)].toArray below meth c H locs 0 0 Q (F0 m 67 ls []) := by
      intro n
      induction n with
      | zero => intro u M1 fm2 fs2 fa2 f2 H locs ls hn hu hC2 hR2 hN2 hfold; exact absurd hn (by omega)
      | succ n ih =>
        intro u M1 fm2 fs2 fa2 f2 H locs ls hn hu hC2 hR2 hN2 hfold hm hS hl
        obtain ⟨hW1, hH1, e_x, e_kp, e_pf, e_bs, e_br, e_fo, -, hZn1, -, hvs1, hnw1, hsb1⟩ := id hC2
        obtain ⟨e_h, e_ms, e_sc, e_sa, ⟨fn1, e_nm, hz1⟩, -⟩ := id hH1
        refine lv_iload_n hx hb dX3_foldProof_67 rfl (lv_at hl 0 rfl) ?_
        refine lv_if_lt (tgt := 136) hx hb dX3_foldProof_68 (by decide) (fun c_68 => ?_) (fun c_68 => ?_)
        · have hu0 : u = 0 := by
            rcases Nat.eq_zero_or_pos u with q | q
            · exact q
            · obtain ⟨u1, rfl⟩ : ∃ u1, u = u1 + 1 := ⟨u - 1, by omega⟩
              rw [nI_pred] at c_68
              exact absurd c_68 (nI_pos (by omega))
          subst hu0
          exact ret dX3_foldProof_136 hm hS (Nat.le_of_ble_eq_true rfl) (Nat.le_of_ble_eq_true rfl) (⟨fm2, fs2, fa2, f2, hC2, hR2, hN2, hfold⟩)
        · obtain ⟨u1, hu1⟩ : ∃ u1, u = u1 + 1 := by
            rcases Nat.eq_zero_or_pos u with q | q
            · rw [q] at c_68; exact absurd (by decide) c_68
            · exact ⟨u - 1, by omega⟩
          subst hu1
          rw [nI_pred] at hl
          have hl : lv_has ls 3 [(2, .int (nI u1)), (0, .ref x), (1, .int (nI kn))] := hl
          have e_b := e_br u1 (by omega)
          refine lv_iload_n hx hb dX3_foldProof_71 rfl (lv_at hl 2 rfl) ?_
          refine lv_iload_n hx hb dX3_foldProof_72 rfl (lv_at hl 0 rfl) ?_
          refine hp_ci (hp_runS (np := 2) (k := 1) (mc := 0) (ms := 0) (As := [.int (nI kn), .int (nI u1)]) (rest := []) EE hm hS (c_X3_bitAt l g M1 (nI kn) (nI u1)) ms_X3_bitAt wt_X3_bitAt wl_X3_83 rfl hl.1 rfl (Nat.le_of_ble_eq_true rfl) dX3_foldProof_73 ⟨Nat.le_of_ble_eq_true rfl, Nat.le_of_ble_eq_true rfl⟩ ⟨(Nat.le_of_ble_eq_true rfl), (Nat.le_of_ble_eq_true rfl)⟩) hS (fun r12 Mx13 H locs hq14 hm hS => ?_)
          obtain ⟨hr9, h9⟩ := hq14
          rw [h9] at hm
          rw [bitA_n hkn (show u1 + (15 - u1) = 15 by omega)] at hr9
          subst hr9
          refine lv_if_ne (tgt := 106) hx hb dX3_foldProof_76 (by decide) (fun c_76 => ?_) (fun c_76 => ?_)
          · have c_76 := bI_t c_76
            refine lv_aload_n hx hb dX3_foldProof_106 rfl (lv_at hl 1 rfl) ?_
            refine hp_get (C := RX3) (T := TX3) (N := 6) (v := .ref h) EE hm e_x inh3 rfl 4 (by decide) wf_X3_33 rfl dX3_foldProof_107 ?_
            refine lv_aload_n hx hb dX3_foldProof_110 rfl (lv_at hl 1 rfl) ?_
            refine hp_get (C := RX3) (T := TX3) (N := 6) (v := .ref pf) EE hm e_x inh3 rfl 3 (by decide) wf_X3_26 rfl dX3_foldProof_111 ?_
            refine hp_get (C := RX2) (T := TX2) (N := 5) (v := .ref bs) EE hm e_pf inh2 rfl 0 (by decide) wf_X3_91 rfl dX3_foldProof_114 ?_
            refine lv_iload_n hx hb dX3_foldProof_117 rfl (lv_at hl 0 rfl) ?_
            refine hp_aaldRN EE hm e_bs u1 rfl (by omega) (by decide) dX3_foldProof_118 ?_
            refine lv_aload_n hx hb dX3_foldProof_119 rfl (lv_at hl 1 rfl) ?_
            refine hp_get (C := RX3) (T := TX3) (N := 6) (v := .ref fo) EE hm e_x inh3 rfl 5 (by decide) wf_X3_37 rfl dX3_foldProof_120 ?_
            refine lv_aload_n hx hb dX3_foldProof_123 rfl (lv_at hl 1 rfl) ?_
            refine hp_get (C := RX3) (T := TX3) (N := 6) (v := .ref fo) EE hm e_x inh3 rfl 5 (by decide) wf_X3_37 rfl dX3_foldProof_124 ?_
            refine hp_cv (hp_runV (C := RX0) (T := TX0) (N := 4) (np := 3) (k := 4) (mc := 0) (ms := 0) (As := [.ref (br u1), .ref fo, .ref fo]) (rest := []) EE hm hS (c_X0_hashPair l g M1 h nm ms sc sa fm2 fs2 fa2 hH1 fo f2 e_fo d2 d3 d4 d1 (br u1) fo (rv u1) f2 e_b e_fo (d5 u1 (by omega)).2.1 d2) ms_X0_hashPair wi_X0_hashPair ws_X0_hashPair wl_X3_158 e_h rfl rfl hl.1 rfl (Nat.le_of_ble_eq_true rfl) dX3_foldProof_127 ⟨Nat.le_of_ble_eq_true rfl, Nat.le_of_ble_eq_true rfl⟩ ⟨(Nat.le_of_ble_eq_true rfl), (Nat.le_of_ble_eq_true rfl)⟩) hS (fun Mx15 H locs hq16 hm hS => ?_)
            obtain ⟨fm3, fs3, fa3, f3, hH3, e_3, hfr3, hf3⟩ := hq16
            obtain ⟨hC3, hRx⟩ := CX.hash hC2 hH3 e_3 hfr3
            have hR3 := hR2.tr hRx (Nat.le_refl _)
            have hN3 : ∀ q y, N q = some y → Mx15 q = M q := fun q y hy => (hfr3 q (nd_ne hW1 hy e_ms) (nd_ne hW1 hy e_sc) (nd_ne hW1 hy e_sa) (nd_ne hW1 hy e_fo)).trans (hN2 q y hy)
            obtain ⟨M3, hM3⟩ : ∃ z, z = Mx15 := ⟨_, rfl⟩
            rw [← hM3] at hm hC3 hR3 hN3
            refine lv_iinc (v := (nI u1) + (-1)) (lv' := [(2, .int ((nI u1) + (-1))), (0, .ref x), (1, .int (nI kn))]) hx hb dX3_foldProof_130 hl (k := 0) rfl rfl (by decide) rfl (fun ls hl => ?_)
            refine lv_goto (tgt := 67) hx hb dX3_foldProof_133 (by decide) ?_
            exact ih u1 M3 fm3 fs3 fa3 f3 H locs ls (by omega) (by omega) hC3 hR3 hN3 (fun j hj => by rw [← hfold j hj]; show _ = foldS (sSb σ) kn u1 (if kn.testBit (15 - u1) then hPair (sSb σ u1) f2 else hPair f2 (sSb σ u1)) j; rw [c_76, if_pos rfl]; exact foldS_w u1 (fun _ _ _ _ => rfl) (fun b hb9 => by rw [hf3 b hb9]; exact hPair_w (fun c9 hc9 => hsb1 u1 (by omega) c9 hc9) (fun _ _ => rfl) hb9) j hj) hm hS (lv_sub hl [0, 1, 2] (by rw [m1_sub]; rfl))
          · have c_76 := bI_f c_76
            refine lv_aload_n hx hb dX3_foldProof_79 rfl (lv_at hl 1 rfl) ?_
            refine hp_get (C := RX3) (T := TX3) (N := 6) (v := .ref h) EE hm e_x inh3 rfl 4 (by decide) wf_X3_33 rfl dX3_foldProof_80 ?_
            refine lv_aload_n hx hb dX3_foldProof_83 rfl (lv_at hl 1 rfl) ?_
            refine hp_get (C := RX3) (T := TX3) (N := 6) (v := .ref fo) EE hm e_x inh3 rfl 5 (by decide) wf_X3_37 rfl dX3_foldProof_84 ?_
            refine lv_aload_n hx hb dX3_foldProof_87 rfl (lv_at hl 1 rfl) ?_
            refine hp_get (C := RX3) (T := TX3) (N := 6) (v := .ref pf) EE hm e_x inh3 rfl 3 (by decide) wf_X3_26 rfl dX3_foldProof_88 ?_
            refine hp_get (C := RX2) (T := TX2) (N := 5) (v := .ref bs) EE hm e_pf inh2 rfl 0 (by decide) wf_X3_91 rfl dX3_foldProof_91 ?_
            refine lv_iload_n hx hb dX3_foldProof_94 rfl (lv_at hl 0 rfl) ?_
            refine hp_aaldRN EE hm e_bs u1 rfl (by omega) (by decide) dX3_foldProof_95 ?_
            refine lv_aload_n hx hb dX3_foldProof_96 rfl (lv_at hl 1 rfl) ?_
            refine hp_get (C := RX3) (T := TX3) (N := 6) (v := .ref fo) EE hm e_x inh3 rfl 5 (by decide) wf_X3_37 rfl dX3_foldProof_97 ?_
            refine hp_cv (hp_runV (C := RX0) (T := TX0) (N := 4) (np := 3) (k := 4) (mc := 0) (ms := 0) (As := [.ref fo, .ref (br u1), .ref fo]) (rest := []) EE hm hS (c_X0_hashPair l g M1 h nm ms sc sa fm2 fs2 fa2 hH1 fo f2 e_fo d2 d3 d4 d1 fo (br u1) f2 (rv u1) e_fo e_b d2 (d5 u1 (by omega)).2.1) ms_X0_hashPair wi_X0_hashPair ws_X0_hashPair wl_X3_158 e_h rfl rfl hl.1 rfl (Nat.le_of_ble_eq_true rfl) dX3_foldProof_100 ⟨Nat.le_of_ble_eq_true rfl, Nat.le_of_ble_eq_true rfl⟩ ⟨(Nat.le_of_ble_eq_true rfl), (Nat.le_of_ble_eq_true rfl)⟩) hS (fun Mx17 H locs hq18 hm hS => ?_)
            obtain ⟨fm3, fs3, fa3, f3, hH3, e_3, hfr3, hf3⟩ := hq18
            obtain ⟨hC3, hRx⟩ := CX.hash hC2 hH3 e_3 hfr3
            have hR3 := hR2.tr hRx (Nat.le_refl _)
            have hN3 : ∀ q y, N q = some y → Mx17 q = M q := fun q y hy => (hfr3 q (nd_ne hW1 hy e_ms) (nd_ne hW1 hy e_sc) (nd_ne hW1 hy e_sa) (nd_ne hW1 hy e_fo)).trans (hN2 q y hy)
            obtain ⟨M3, hM3⟩ : ∃ z, z = Mx17 := ⟨_, rfl⟩
            rw [← hM3] at hm hC3 hR3 hN3
            refine lv_goto (tgt := 130) hx hb dX3_foldProof_103 (by decide) ?_
            refine lv_iinc (v := (nI u1) + (-1)) (lv' := [(2, .int ((nI u1) + (-1))), (0, .ref x), (1, .int (nI kn))]) hx hb dX3_foldProof_130 hl (k := 0) rfl rfl (by decide) rfl (fun ls hl => ?_)
            refine lv_goto (tgt := 67) hx hb dX3_foldProof_133 (by decide) ?_
            exact ih u1 M3 fm3 fs3 fa3 f3 H locs ls (by omega) (by omega) hC3 hR3 hN3 (fun j hj => by rw [← hfold j hj]; show _ = foldS (sSb σ) kn u1 (if kn.testBit (15 - u1) then hPair (sSb σ u1) f2 else hPair f2 (sSb σ u1)) j; rw [c_76]; exact foldS_w u1 (fun _ _ _ _ => rfl) (fun b hb9 => by rw [hf3 b hb9]; exact hPair_w (fun _ _ => rfl) (fun c9 hc9 => hsb1 u1 (by omega) c9 hc9) hb9) j hj) hm hS (lv_sub hl [0, 1, 2] (by rw [m1_sub]; rfl))
    exact lp (sPl σ + 1) (sPl σ) _ _ _ _ _ H locs ls (Nat.le_refl _) (Nat.le_refl _) hC1 hR0 hN0 (foldS_w _ (fun _ _ _ _ => rfl) hend) hm hS (lv_sub hl [0, 1, 2] rfl)
def fitV (σ : cSt) (k : Nat) : Bool := !(sPe σ && decide (nI (alk 16 (sPk σ).toNatClampNeg k) < nI (sPl σ)))
def rVer (σ : cSt) (v k : Int32) : Int32 := if isV σ v && isK k then (if fitV σ k.toNatClampNeg then (if eq8 (foldS (sSb σ) k.toNatClampNeg (sPl σ) (endD σ)) (dgF 16 (mapV σ v)) then (if sPe σ && decide (sPk σ = k) then 1 else 0) else -2) else -2) else -1
def uVer (M : hM) (kf : Nat → Option Nat) (nw : Option Nat) (σ : cSt) (v k : Int32) : Nat := if isV σ v && isK k then (if fitV σ k.toNatClampNeg then udT 16 M (rootR kf nw v) else 0) else 0
set_option maxHeartbeats 4000000 in
set_option maxRecDepth 100000 in
theorem c_X3_verify (l : Launch) (g : hG) (M : hM) (N Z : gT) (x kp pf bs h nm ms sc sa fo : Nat) (br : Nat → Nat) (kf : Nat → Option Nat) (nw : Option Nat) (fm fs fa ff : Nat → Int32) (rv : Nat → Nat → Int32) (σ : cSt) (hC : CX g M N Z x kp pf bs h nm ms sc sa fo br kf nw fm fs fa ff rv σ) (v0 k0 : Int32) : Ci l g yX3_verify cX3_verify 3 .int 22 (uVer M kf nw σ v0 k0) (8 * (uVer M kf nw σ v0 k0)) [.ref x, .int v0, .int k0] M (fun r M9 => r = rVer σ v0 k0 ∧ CP g M N x kp pf bs h nm ms sc sa fo br 0 (uVer M kf nw σ v0 k0) M9 (σ)) := by
  have hC0 := hC
  obtain ⟨hW, hH, e_x, e_kp, e_pf, e_bs, e_br, e_fo, hDA, hZn, hok, hvs, hnw, hsb⟩ := hC
  have hok0 := hok
  obtain ⟨hkc, hvg, hgn, hpl, hpk⟩ := hok
  refine hp_startI (by decide) (by exact Nat.le_of_ble_eq_true rfl) ?_
  intro p e s m below meth c Q H locs ls EE hnm ret hm hS hl
  have hx := EE.1
  have hb := EE.2.1
  have hown := EE.2.2.2.1
  have hts := EE.2.2.2.2.1
  have hl : lv_has ls 3 [(0, .ref x), (1, .int v0), (2, .int k0)] := hl
  refine lv_aload_n hx hb dX3_verify_0 rfl (lv_at hl 0 rfl) ?_
  refine lv_iload_n hx hb dX3_verify_1 rfl (lv_at hl 1 rfl) ?_
  refine hp_ci (hp_runV (C := RX3) (T := TX3) (N := 6) (np := 1) (k := 1) (mc := 0) (ms := 0) (As := [.int v0]) (rest := []) EE hm hS (c_X3_isVersion l g M N Z x kp pf bs h nm ms sc sa fo br kf nw fm fs fa ff rv σ hC0 v0) ms_X3_isVersion wi_X3_isVersion ws_X3_isVersion wl_X3_64 e_x rfl rfl hl.1 rfl (Nat.le_of_ble_eq_true rfl) dX3_verify_2 ⟨Nat.le_of_ble_eq_true rfl, Nat.le_of_ble_eq_true rfl⟩ ⟨(by show 0 + 0 ≤ uVer M kf nw σ v0 k0; omega), (by show 0 + 0 ≤ 8 * (uVer M kf nw σ v0 k0); omega)⟩) hS (fun r1 Mx2 H locs hq3 hm hS => ?_)
  obtain ⟨rfl, h9⟩ := hq3
  rw [h9] at hm
  refine lv_if_eq (tgt := 15) hx hb dX3_verify_5 (by decide) (fun c_5 => ?_) (fun c_5 => ?_)
  · have c_5 := bI_f c_5
    refine lv_iconst (v := (-1)) hx hb dX3_verify_15 (by decide) ?_
    exact ret dX3_verify_16 na_i hm hS (by omega) (by omega) (⟨by unfold rVer; first | (rw [c_5]; rfl) | (rw [c_5, c_12]; rfl), by unfold uVer; first | (rw [c_5]; exact CP.rf hC0) | (rw [c_5, c_12]; exact CP.rf hC0)⟩)
  · have c_5 := bI_t c_5
    refine lv_iload_n hx hb dX3_verify_8 rfl (lv_at hl 2 rfl) ?_
    refine hp_ci (hp_runS (np := 1) (k := 1) (mc := 0) (ms := 0) (As := [.int k0]) (rest := []) EE hm hS (c_X3_isKey l g M k0) ms_X3_isKey wt_X3_isKey wl_X3_41 rfl hl.1 rfl (Nat.le_of_ble_eq_true rfl) dX3_verify_9 ⟨Nat.le_of_ble_eq_true rfl, Nat.le_of_ble_eq_true rfl⟩ ⟨(by show 0 + 0 ≤ uVer M kf nw σ v0 k0; omega), (by show 0 + 0 ≤ 8 * (uVer M kf nw σ v0 k0); omega)⟩) hS (fun r4 Mx5 H locs hq6 hm hS => ?_)
    obtain ⟨rfl, h9⟩ := hq6
    rw [h9] at hm
    refine lv_if_ne (tgt := 17) hx hb dX3_verify_12 (by decide) (fun c_12 => ?_) (fun c_12 => ?_)
    · have c_12 := bI_t c_12
      obtain ⟨kn, hkn, hke⟩ := isK_nat c_12
      have hcl : k0.toNatClampNeg = kn := by rw [hke]; exact nI_clamp (by omega)
      have hl : lv_has ls 3 [(0, .ref x), (1, .int v0), (2, .int (nI kn))] := by rw [← hke]; exact hl
      refine lv_aload_n hx hb dX3_verify_17 rfl (lv_at hl 0 rfl) ?_
      refine hp_get (C := RX3) (T := TX3) (N := 6) (v := .ref pf) EE hm e_x inh3 rfl 3 (by decide) wf_X3_26 rfl dX3_verify_18 ?_
      refine hp_get (C := RX2) (T := TX2) (N := 5) (v := .int (bI (sPe σ))) EE hm e_pf inh2 rfl 2 (by decide) wf_X3_114 rfl dX3_verify_21 ?_
      refine lv_if_eq (tgt := 51) hx hb dX3_verify_24 (by decide) (fun c_24 => ?_) (fun c_24 => ?_)
      · have c_24 := bI_f c_24
        have hfit : fitV σ kn = true := by unfold fitV; rw [c_24]; rfl
        refine lv_aload_n hx hb dX3_verify_51 rfl (lv_at hl 0 rfl) ?_
        refine lv_iload_n hx hb dX3_verify_52 rfl (lv_at hl 2 rfl) ?_
        refine hp_cv (hp_runV (C := RX3) (T := TX3) (N := 6) (np := 1) (k := 5) (mc := 0) (ms := 0) (As := [.int (nI kn)]) (rest := []) EE hm hS (c_X3_foldProof l g M N Z x kp pf bs h nm ms sc sa fo br kf nw fm fs fa ff rv σ hC0 kn hkn) ms_X3_foldProof wi_X3_foldProof ws_X3_foldProof wl_X3_123 e_x rfl rfl hl.1 rfl (Nat.le_of_ble_eq_true rfl) dX3_verify_53 ⟨Nat.le_of_ble_eq_true rfl, Nat.le_of_ble_eq_true rfl⟩ ⟨(by show 0 + 0 ≤ uVer M kf nw σ v0 k0; omega), (by show 0 + 0 ≤ 8 * (uVer M kf nw σ v0 k0); omega)⟩) hS (fun Mx7 H locs hq8 hm hS => ?_)
        obtain ⟨fm1, fs1, fa1, f1, hC1, hR1, hfrN, hf1⟩ := hq8
        obtain ⟨hW1, hH1, e_x, e_kp, e_pf, e_bs, e_br, e_fo, -, hZn1, -, hvs1, hnw1, hsb1⟩ := id hC1
        refine lv_aload_n hx hb dX3_verify_56 rfl (lv_at hl 0 rfl) ?_
        refine hp_get (C := RX3) (T := TX3) (N := 6) (v := .ref fo) EE hm e_x inh3 rfl 5 (by decide) wf_X3_37 rfl dX3_verify_57 ?_
        refine lv_aload_n hx hb dX3_verify_60 rfl (lv_at hl 0 rfl) ?_
        refine lv_iload_n hx hb dX3_verify_61 rfl (lv_at hl 1 rfl) ?_
        refine hp_cq (hp_runV (C := RX3) (T := TX3) (N := 6) (np := 1) (k := 1) (mc := 0) (ms := 0) (As := [.int v0]) (rest := [.ref fo]) EE hm hS (c_X3_rootOf l g Mx7 N Z x kp pf bs h nm ms sc sa fo br kf nw fm1 fs1 fa1 f1 rv σ hC1 v0) ms_X3_rootOf wi_X3_rootOf ws_X3_rootOf wl_X3_69 e_x rfl rfl hl.1 rfl (Nat.le_of_ble_eq_true rfl) dX3_verify_62 ⟨Nat.le_of_ble_eq_true rfl, Nat.le_of_ble_eq_true rfl⟩ ⟨(by show 0 + 0 ≤ uVer M kf nw σ v0 k0; omega), (by show 0 + 0 ≤ 8 * (uVer M kf nw σ v0 k0); omega)⟩) hS (fun r9 Mx10 H locs hq11 hm hS => ?_)
        obtain ⟨hro, h9⟩ := hq11
        rw [h9] at hm
        have hrt := rootR_rt hkc hvs1 hnw1 c_5
        rw [← hro] at hrt
        have hu : uVer M kf nw σ v0 k0 = udT 16 Mx7 r9 := by
          unfold uVer
          rw [c_5, c_12, hcl, hfit, hro, if_pos (show (true && true) = true from rfl), if_pos rfl]
          refine (udT_eq hW 16 _ _ (rootR_rt hkc hvs hnw c_5) (fun q hq => ?_)).symm
          obtain ⟨n8, E8, h8, -⟩ := hq
          exact hfrN q _ h8
        refine lv_iconst (v := 0) hx hb dX3_verify_65 (by decide) ?_
        refine lv_aload_n hx hb dX3_verify_66 rfl (lv_at hl 0 rfl) ?_
        refine hp_get (C := RX3) (T := TX3) (N := 6) (v := .ref h) EE hm e_x inh3 rfl 4 (by decide) wf_X3_33 rfl dX3_verify_67 ?_
        refine hp_cq (hp_runS (np := 3) (k := 21) (mc := udT 16 Mx7 r9) (ms := 8 * (udT 16 Mx7 r9)) (As := [va_rf r9, .int 0, .ref h]) (rest := [.ref fo]) EE hm hS (c_X3_digestOf l g N h nm ms sc sa 16 Mx7 Z fm1 fs1 fa1 r9 (mapV σ v0) 0 hW1 hH1 (hZn1 ms (Or.inr (Or.inl rfl))) (hZn1 sc (Or.inr (Or.inr (Or.inl rfl)))) (hZn1 sa (Or.inr (Or.inr (Or.inr (Or.inl rfl))))) hrt rfl) ms_X3_digestOf wt_X3_digestOf wl_X3_79 rfl hl.1 rfl (Nat.le_of_ble_eq_true rfl) dX3_verify_70 ⟨Nat.le_of_ble_eq_true rfl, Nat.le_of_ble_eq_true rfl⟩ ⟨(by show 0 + udT 16 Mx7 r9 ≤ uVer M kf nw σ v0 k0; omega), (by show 0 + 8 * (udT 16 Mx7 r9) ≤ 8 * (uVer M kf nw σ v0 k0); omega)⟩) hS (fun r12 Mx13 H locs hq14 hm hS => ?_)
        obtain ⟨Z9, fm9, fs9, fa9, b9, f9, hb9, hW9, hH9, e_9, hf9, -, hR9⟩ := hq14
        subst hb9
        obtain ⟨hC9, hR9⟩ := CX.dg hC1 hW9 hH9 hR9
        obtain ⟨-, -, e_x, -, e_pf, -, -, e_fo, -⟩ := id hC9
        refine hp_ci (hp_runS (np := 2) (k := 1) (mc := 0) (ms := 0) (As := [.ref fo, .ref b9]) (rest := []) EE hm hS (c_X3_sameWords l g Mx13 fo b9 f1 f9 e_fo e_9) ms_X3_sameWords wt_X3_sameWords wl_X3_127 rfl hl.1 rfl (Nat.le_of_ble_eq_true rfl) dX3_verify_73 ⟨Nat.le_of_ble_eq_true rfl, Nat.le_of_ble_eq_true rfl⟩ ⟨(by show 0 + (udT 16 Mx7 r9) + 0 ≤ uVer M kf nw σ v0 k0; omega), (by show 0 + (8 * (udT 16 Mx7 r9)) + 0 ≤ 8 * (uVer M kf nw σ v0 k0); omega)⟩) hS (fun r15 Mx16 H locs hq17 hm hS => ?_)
        obtain ⟨hr9, h9⟩ := hq17
        rw [h9] at hm
        rw [eq8_w hf1 hf9] at hr9
        subst hr9
        have hPP : CP g M N x kp pf bs h nm ms sc sa fo br 0 (uVer M kf nw σ v0 k0) Mx13 σ := by rw [hu]; exact (hR1.tr hR9 (by omega)).CP hC9
        refine lv_if_ne (tgt := 82) hx hb dX3_verify_76 (by decide) (fun c_76 => ?_) (fun c_76 => ?_)
        · have c_76 := bI_t c_76
          refine lv_aload_n hx hb dX3_verify_82 rfl (lv_at hl 0 rfl) ?_
          refine hp_get (C := RX3) (T := TX3) (N := 6) (v := .ref pf) EE hm e_x inh3 rfl 3 (by decide) wf_X3_26 rfl dX3_verify_83 ?_
          refine hp_get (C := RX2) (T := TX2) (N := 5) (v := .int (bI (sPe σ))) EE hm e_pf inh2 rfl 2 (by decide) wf_X3_114 rfl dX3_verify_86 ?_
          refine lv_if_eq (tgt := 107) hx hb dX3_verify_89 (by decide) (fun c_89 => ?_) (fun c_89 => ?_)
          · have c_89 := bI_f c_89
            refine lv_iconst (v := 0) hx hb dX3_verify_107 (by decide) ?_
            exact ret dX3_verify_108 na_i hm hS (by omega) (by omega) (⟨by unfold rVer; rw [c_5, c_12, hcl, hfit, c_76]; first | (rw [c_89]; rfl) | (rw [c_89, hke, decide_eq_true c_100]; rfl) | (rw [c_89, hke, decide_eq_false c_100]; rfl), hPP⟩)
          · have c_89 := bI_t c_89
            refine lv_aload_n hx hb dX3_verify_92 rfl (lv_at hl 0 rfl) ?_
            refine hp_get (C := RX3) (T := TX3) (N := 6) (v := .ref pf) EE hm e_x inh3 rfl 3 (by decide) wf_X3_26 rfl dX3_verify_93 ?_
            refine hp_get (C := RX2) (T := TX2) (N := 5) (v := .int (sPk σ)) EE hm e_pf inh2 rfl 3 (by decide) wf_X3_118 rfl dX3_verify_96 ?_
            refine lv_iload_n hx hb dX3_verify_99 rfl (lv_at hl 2 rfl) ?_
            refine lv_icmp_ne (tgt := 107) hx hb dX3_verify_100 (by decide) (fun c_100 => ?_) (fun c_100 => ?_)
            · refine lv_iconst (v := 0) hx hb dX3_verify_107 (by decide) ?_
              exact ret dX3_verify_108 na_i hm hS (by omega) (by omega) (⟨by unfold rVer; rw [c_5, c_12, hcl, hfit, c_76]; first | (rw [c_89]; rfl) | (rw [c_89, hke, decide_eq_true c_100]; rfl) | (rw [c_89, hke, decide_eq_false c_100]; rfl), hPP⟩)
            · refine lv_iconst (v := 1) hx hb dX3_verify_103 (by decide) ?_
              refine lv_goto (tgt := 108) hx hb dX3_verify_104 (by decide) ?_
              exact ret dX3_verify_108 na_i hm hS (by omega) (by omega) (⟨by unfold rVer; rw [c_5, c_12, hcl, hfit, c_76]; first | (rw [c_89]; rfl) | (rw [c_89, hke, decide_eq_true c_100]; rfl) | (rw [c_89, hke, decide_eq_false c_100]; rfl), hPP⟩)
        · have c_76 := bI_f c_76
          refine lv_bipush (v := (-2)) hx hb dX3_verify_79 (by decide) ?_
          exact ret dX3_verify_81 na_i hm hS (by omega) (by omega) (⟨by unfold rVer; rw [c_5, c_12, hcl, hfit, c_76]; rfl, hPP⟩)
      · have c_24 := bI_t c_24
        obtain ⟨pk, hpk1, hpk2⟩ := hpk.1 c_24
        have hpc : (sPk σ).toNatClampNeg = pk := by rw [hpk2]; exact nI_clamp (by omega)
        have e_pf2 : M pf = some (.inr (2, [.ref bs, .int (nI (sPl σ)), .int (bI (sPe σ)), .int (nI pk), .int (sPv σ)])) := by rw [← hpk2]; exact e_pf
        refine lv_aload_n hx hb dX3_verify_27 rfl (lv_at hl 0 rfl) ?_
        refine hp_get (C := RX3) (T := TX3) (N := 6) (v := .ref pf) EE hm e_x inh3 rfl 3 (by decide) wf_X3_26 rfl dX3_verify_28 ?_
        refine hp_get (C := RX2) (T := TX2) (N := 5) (v := .int (nI pk)) EE hm e_pf2 inh2 rfl 3 (by decide) wf_X3_118 rfl dX3_verify_31 ?_
        refine lv_iload_n hx hb dX3_verify_34 rfl (lv_at hl 2 rfl) ?_
        refine hp_ci (hp_runS (np := 2) (k := 2) (mc := 0) (ms := 0) (As := [.int (nI pk), .int (nI kn)]) (rest := []) EE hm hS (c_X3_sameFirstBits l g M pk kn hpk1 hkn) ms_X3_sameFirstBits wt_X3_sameFirstBits wl_X3_120 rfl hl.1 rfl (Nat.le_of_ble_eq_true rfl) dX3_verify_35 ⟨Nat.le_of_ble_eq_true rfl, Nat.le_of_ble_eq_true rfl⟩ ⟨(by show 0 + 0 ≤ uVer M kf nw σ v0 k0; omega), (by show 0 + 0 ≤ 8 * (uVer M kf nw σ v0 k0); omega)⟩) hS (fun r18 Mx19 H locs hq20 hm hS => ?_)
        obtain ⟨rfl, h9⟩ := hq20
        rw [h9] at hm
        refine lv_aload_n hx hb dX3_verify_38 rfl (lv_at hl 0 rfl) ?_
        refine hp_get (C := RX3) (T := TX3) (N := 6) (v := .ref pf) EE hm e_x inh3 rfl 3 (by decide) wf_X3_26 rfl dX3_verify_39 ?_
        refine hp_get (C := RX2) (T := TX2) (N := 5) (v := .int (nI (sPl σ))) EE hm e_pf2 inh2 rfl 1 (by decide) wf_X3_99 rfl dX3_verify_42 ?_
        refine lv_icmp_ge (tgt := 51) hx hb dX3_verify_45 (by decide) (fun c_45 => ?_) (fun c_45 => ?_)
        · have hfit : fitV σ kn = true := by unfold fitV; rw [c_24, hpc, decide_eq_false (Int32.not_lt.mpr c_45)]; rfl
          refine lv_aload_n hx hb dX3_verify_51 rfl (lv_at hl 0 rfl) ?_
          refine lv_iload_n hx hb dX3_verify_52 rfl (lv_at hl 2 rfl) ?_
          refine hp_cv (hp_runV (C := RX3) (T := TX3) (N := 6) (np := 1) (k := 5) (mc := 0) (ms := 0) (As := [.int (nI kn)]) (rest := []) EE hm hS (c_X3_foldProof l g M N Z x kp pf bs h nm ms sc sa fo br kf nw fm fs fa ff rv σ hC0 kn hkn) ms_X3_foldProof wi_X3_foldProof ws_X3_foldProof wl_X3_123 e_x rfl rfl hl.1 rfl (Nat.le_of_ble_eq_true rfl) dX3_verify_53 ⟨Nat.le_of_ble_eq_true rfl, Nat.le_of_ble_eq_true rfl⟩ ⟨(by show 0 + 0 ≤ uVer M kf nw σ v0 k0; omega), (by show 0 + 0 ≤ 8 * (uVer M kf nw σ v0 k0); omega)⟩) hS (fun Mx21 H locs hq22 hm hS => ?_)
          obtain ⟨fm1, fs1, fa1, f1, hC1, hR1, hfrN, hf1⟩ := hq22
          obtain ⟨hW1, hH1, e_x, e_kp, e_pf, e_bs, e_br, e_fo, -, hZn1, -, hvs1, hnw1, hsb1⟩ := id hC1
          refine lv_aload_n hx hb dX3_verify_56 rfl (lv_at hl 0 rfl) ?_
          refine hp_get (C := RX3) (T := TX3) (N := 6) (v := .ref fo) EE hm e_x inh3 rfl 5 (by decide) wf_X3_37 rfl dX3_verify_57 ?_
          refine lv_aload_n hx hb dX3_verify_60 rfl (lv_at hl 0 rfl) ?_
          refine lv_iload_n hx hb dX3_verify_61 rfl (lv_at hl 1 rfl) ?_
          refine hp_cq (hp_runV (C := RX3) (T := TX3) (N := 6) (np := 1) (k := 1) (mc := 0) (ms := 0) (As := [.int v0]) (rest := [.ref fo]) EE hm hS (c_X3_rootOf l g Mx21 N Z x kp pf bs h nm ms sc sa fo br kf nw fm1 fs1 fa1 f1 rv σ hC1 v0) ms_X3_rootOf wi_X3_rootOf ws_X3_rootOf wl_X3_69 e_x rfl rfl hl.1 rfl (Nat.le_of_ble_eq_true rfl) dX3_verify_62 ⟨Nat.le_of_ble_eq_true rfl, Nat.le_of_ble_eq_true rfl⟩ ⟨(by show 0 + 0 ≤ uVer M kf nw σ v0 k0; omega), (by show 0 + 0 ≤ 8 * (uVer M kf nw σ v0 k0); omega)⟩) hS (fun r23 Mx24 H locs hq25 hm hS => ?_)
          obtain ⟨hro, h9⟩ := hq25
          rw [h9] at hm
          have hrt := rootR_rt hkc hvs1 hnw1 c_5
          rw [← hro] at hrt
          have hu : uVer M kf nw σ v0 k0 = udT 16 Mx21 r23 := by
            unfold uVer
            rw [c_5, c_12, hcl, hfit, hro, if_pos (show (true && true) = true from rfl), if_pos rfl]
            refine (udT_eq hW 16 _ _ (rootR_rt hkc hvs hnw c_5) (fun q hq => ?_)).symm
            obtain ⟨n8, E8, h8, -⟩ := hq
            exact hfrN q _ h8
          refine lv_iconst (v := 0) hx hb dX3_verify_65 (by decide) ?_
          refine lv_aload_n hx hb dX3_verify_66 rfl (lv_at hl 0 rfl) ?_
          refine hp_get (C := RX3) (T := TX3) (N := 6) (v := .ref h) EE hm e_x inh3 rfl 4 (by decide) wf_X3_33 rfl dX3_verify_67 ?_
          refine hp_cq (hp_runS (np := 3) (k := 21) (mc := udT 16 Mx21 r23) (ms := 8 * (udT 16 Mx21 r23)) (As := [va_rf r23, .int 0, .ref h]) (rest := [.ref fo]) EE hm hS (c_X3_digestOf l g N h nm ms sc sa 16 Mx21 Z fm1 fs1 fa1 r23 (mapV σ v0) 0 hW1 hH1 (hZn1 ms (Or.inr (Or.inl rfl))) (hZn1 sc (Or.inr (Or.inr (Or.inl rfl)))) (hZn1 sa (Or.inr (Or.inr (Or.inr (Or.inl rfl))))) hrt rfl) ms_X3_digestOf wt_X3_digestOf wl_X3_79 rfl hl.1 rfl (Nat.le_of_ble_eq_true rfl) dX3_verify_70 ⟨Nat.le_of_ble_eq_true rfl, Nat.le_of_ble_eq_true rfl⟩ ⟨(by show 0 + udT 16 Mx21 r23 ≤ uVer M kf nw σ v0 k0; omega), (by show 0 + 8 * (udT 16 Mx21 r23) ≤ 8 * (uVer M kf nw σ v0 k0); omega)⟩) hS (fun r26 Mx27 H locs hq28 hm hS => ?_)
          obtain ⟨Z9, fm9, fs9, fa9, b9, f9, hb9, hW9, hH9, e_9, hf9, -, hR9⟩ := hq28
          subst hb9
          obtain ⟨hC9, hR9⟩ := CX.dg hC1 hW9 hH9 hR9
          obtain ⟨-, -, e_x, -, e_pf, -, -, e_fo, -⟩ := id hC9
          refine hp_ci (hp_runS (np := 2) (k := 1) (mc := 0) (ms := 0) (As := [.ref fo, .ref b9]) (rest := []) EE hm hS (c_X3_sameWords l g Mx27 fo b9 f1 f9 e_fo e_9) ms_X3_sameWords wt_X3_sameWords wl_X3_127 rfl hl.1 rfl (Nat.le_of_ble_eq_true rfl) dX3_verify_73 ⟨Nat.le_of_ble_eq_true rfl, Nat.le_of_ble_eq_true rfl⟩ ⟨(by show 0 + (udT 16 Mx21 r23) + 0 ≤ uVer M kf nw σ v0 k0; omega), (by show 0 + (8 * (udT 16 Mx21 r23)) + 0 ≤ 8 * (uVer M kf nw σ v0 k0); omega)⟩) hS (fun r29 Mx30 H locs hq31 hm hS => ?_)
          obtain ⟨hr9, h9⟩ := hq31
          rw [h9] at hm
          rw [eq8_w hf1 hf9] at hr9
          subst hr9
          have hPP : CP g M N x kp pf bs h nm ms sc sa fo br 0 (uVer M kf nw σ v0 k0) Mx27 σ := by rw [hu]; exact (hR1.tr hR9 (by omega)).CP hC9
          refine lv_if_ne (tgt := 82) hx hb dX3_verify_76 (by decide) (fun c_76 => ?_) (fun c_76 => ?_)
          · have c_76 := bI_t c_76
            refine lv_aload_n hx hb dX3_verify_82 rfl (lv_at hl 0 rfl) ?_
            refine hp_get (C := RX3) (T := TX3) (N := 6) (v := .ref pf) EE hm e_x inh3 rfl 3 (by decide) wf_X3_26 rfl dX3_verify_83 ?_
            refine hp_get (C := RX2) (T := TX2) (N := 5) (v := .int (bI (sPe σ))) EE hm e_pf inh2 rfl 2 (by decide) wf_X3_114 rfl dX3_verify_86 ?_
            refine lv_if_eq (tgt := 107) hx hb dX3_verify_89 (by decide) (fun c_89 => ?_) (fun c_89 => ?_)
            · have c_89 := bI_f c_89
              refine lv_iconst (v := 0) hx hb dX3_verify_107 (by decide) ?_
              exact ret dX3_verify_108 na_i hm hS (by omega) (by omega) (⟨by unfold rVer; rw [c_5, c_12, hcl, hfit, c_76]; first | (rw [c_89]; rfl) | (rw [c_89, hke, decide_eq_true c_100]; rfl) | (rw [c_89, hke, decide_eq_false c_100]; rfl), hPP⟩)
            · have c_89 := bI_t c_89
              refine lv_aload_n hx hb dX3_verify_92 rfl (lv_at hl 0 rfl) ?_
              refine hp_get (C := RX3) (T := TX3) (N := 6) (v := .ref pf) EE hm e_x inh3 rfl 3 (by decide) wf_X3_26 rfl dX3_verify_93 ?_
              refine hp_get (C := RX2) (T := TX2) (N := 5) (v := .int (sPk σ)) EE hm e_pf inh2 rfl 3 (by decide) wf_X3_118 rfl dX3_verify_96 ?_
              refine lv_iload_n hx hb dX3_verify_99 rfl (lv_at hl 2 rfl) ?_
              refine lv_icmp_ne (tgt := 107) hx hb dX3_verify_100 (by decide) (fun c_100 => ?_) (fun c_100 => ?_)
              · refine lv_iconst (v := 0) hx hb dX3_verify_107 (by decide) ?_
                exact ret dX3_verify_108 na_i hm hS (by omega) (by omega) (⟨by unfold rVer; rw [c_5, c_12, hcl, hfit, c_76]; first | (rw [c_89]; rfl) | (rw [c_89, hke, decide_eq_true c_100]; rfl) | (rw [c_89, hke, decide_eq_false c_100]; rfl), hPP⟩)
              · refine lv_iconst (v := 1) hx hb dX3_verify_103 (by decide) ?_
                refine lv_goto (tgt := 108) hx hb dX3_verify_104 (by decide) ?_
                exact ret dX3_verify_108 na_i hm hS (by omega) (by omega) (⟨by unfold rVer; rw [c_5, c_12, hcl, hfit, c_76]; first | (rw [c_89]; rfl) | (rw [c_89, hke, decide_eq_true c_100]; rfl) | (rw [c_89, hke, decide_eq_false c_100]; rfl), hPP⟩)
          · have c_76 := bI_f c_76
            refine lv_bipush (v := (-2)) hx hb dX3_verify_79 (by decide) ?_
            exact ret dX3_verify_81 na_i hm hS (by omega) (by omega) (⟨by unfold rVer; rw [c_5, c_12, hcl, hfit, c_76]; rfl, hPP⟩)
        · have hfit : fitV σ kn = false := by unfold fitV; rw [c_24, hpc, decide_eq_true (Int32.not_le.mp c_45)]; rfl
          refine lv_bipush (v := (-2)) hx hb dX3_verify_48 (by decide) ?_
          exact ret dX3_verify_50 na_i hm hS (by omega) (by omega) (⟨by unfold rVer; rw [c_5, c_12, hcl, hfit]; rfl, by unfold uVer; rw [c_5, c_12, hcl, hfit]; exact CP.rf hC0⟩)
    · have c_12 := bI_f c_12
      refine lv_iconst (v := (-1)) hx hb dX3_verify_15 (by decide) ?_
      exact ret dX3_verify_16 na_i hm hS (by omega) (by omega) (⟨by unfold rVer; first | (rw [c_5]; rfl) | (rw [c_5, c_12]; rfl), by unfold uVer; first | (rw [c_5]; exact CP.rf hC0) | (rw [c_5, c_12]; exact CP.rf hC0)⟩)
end
section
/-- the node on a key's way, behind i bits -/
def way (k : Nat) (E : En) : Nat → En
  | 0 => E
  | i + 1 => spl (15 - i) (k.testBit (15 - i)) (way k E i)
/-- the siblings of a proof, and how many -/
def sibV (k : Nat) (E : En) (i : Nat) : Nat → Int32 := dgF (15 - i) (spl (15 - i) (!(k.testBit (15 - i))) (way k E i))
def prN : Nat → Nat → En → Nat
  | 0, _, _ => 0
  | n + 1, k, E => if E.length ≤ 1 then 0 else prN n k (spl n (k.testBit n) E) + 1
theorem prN_le : ∀ (n k : Nat) (E : En), prN n k E ≤ n
  | 0, _, _ => Nat.le_refl 0
  | n + 1, k, E => by
    show (if E.length ≤ 1 then 0 else prN n k (spl n (k.testBit n) E) + 1) ≤ n + 1
    have := prN_le n k (spl n (k.testBit n) E)
    by_cases h : E.length ≤ 1
    · rw [if_pos h]; omega
    · rw [if_neg h]; omega
theorem prN_1 {n k : Nat} {E : En} (h : E.length ≤ 1) : prN n k E = 0 := by
  cases n with
  | zero => rfl
  | succ n => show (if E.length ≤ 1 then 0 else _) = 0; rw [if_pos h]
theorem prN_2 {n k : Nat} {E : En} (h : ¬ E.length ≤ 1) : prN (n + 1) k E = prN n k (spl n (k.testBit n) E) + 1 := by
  show (if E.length ≤ 1 then 0 else _) = _
  rw [if_neg h]
def endPe (E : En) : Bool := !E.isEmpty
def endPk (E : En) : Int32 := match E with
  | [] => 0
  | x :: _ => nI x.1
def sProve (σ : cSt) (v k : Int32) : Int32 × cSt := if isV σ v && isK k then (nI (prN 16 k.toNatClampNeg (mapV σ v)), (sNow σ, sKc σ, sVs σ, prN 16 k.toNatClampNeg (mapV σ v), endPe (endE 16 k.toNatClampNeg (mapV σ v)), endPk (endE 16 k.toNatClampNeg (mapV σ v)), vaE (endE 16 k.toNatClampNeg (mapV σ v)), sibV k.toNatClampNeg (mapV σ v))) else (-1, σ)
/-- the digests that a proof makes known -/
def lfB (M : hM) (a : Nat) (b : Bool) : Option Nat := if b then lf M a 4 else lf M a 3
def prU : Nat → hM → Option Nat → Nat → En → Nat
  | 0, _, _, _, _ => 0
  | n + 1, M, r, k, E => if E.length ≤ 1 then 0 else match r with
    | none => 0
    | some a => udT n M (lfB M a (!(k.testBit n))) + prU n M (lfB M a (k.testBit n)) k (spl n (k.testBit n) E)
theorem prU_1 {n k : Nat} {M : hM} {r : Option Nat} {E : En} (h : E.length ≤ 1) : prU n M r k E = 0 := by
  cases n with
  | zero => rfl
  | succ n => show (if E.length ≤ 1 then 0 else _) = 0; rw [if_pos h]
theorem prU_2 {n k a : Nat} {M : hM} {E : En} (h : ¬ E.length ≤ 1) : prU (n + 1) M (some a) k E = udT n M (lfB M a (!(k.testBit n))) + prU n M (lfB M a (k.testBit n)) k (spl n (k.testBit n) E) := by
  show (if E.length ≤ 1 then 0 else _) = _
  rw [if_neg h]
theorem lfB_same {M M9 : hM} {q : Nat} {b : Bool} (h : M9 q = M q) : lfB M9 q b = lfB M q b := by unfold lfB; rw [lf_same h, lf_same h]
theorem lfB_rt {g : hG} {M : hM} {N Z : gT} (hW : WF g M N Z) {a n : Nat} {E : En} (h : rt N (some a) (n + 1) E) (h2 : ¬ E.length ≤ 1) (b : Bool) : rt N (lfB M a b) n (spl n b E) := by
  obtain ⟨n', h1, -, h3⟩ := h
  obtain ⟨ky, vl, z, o, dg, e1, -, -, hc⟩ := hW.1 a n' E h1
  rcases hc with ⟨k, q1, -⟩ | ⟨m, q1, q2, q3, q4, q5⟩
  · rw [q1] at h2; exact absurd (Nat.le_refl 1) h2
  · have hm : m = n := by have := h3 q3; omega
    subst hm
    unfold lfB
    cases b with
    | true => rw [if_pos rfl, lf_4 e1]; exact q5
    | false => rw [if_neg (by decide), lf_3 e1]; exact q4
theorem prU_eq {g : hG} {M M9 : hM} {N Z : gT} (hW : WF g M N Z) (k : Nat) : ∀ (n : Nat) (r : Option Nat) (E : En), rt N r n E → (∀ q, under N n E q → M9 q = M q) → prU n M9 r k E = prU n M r k E := by
  intro n
  induction n with
  | zero => intro r E _ _; rfl
  | succ n ih =>
    intro r E hr hu
    by_cases h : E.length ≤ 1
    · rw [prU_1 h, prU_1 h]
    · cases r with
      | none => rw [show E = [] from hr] at h; exact absurd (Nat.zero_le 1) h
      | some a =>
        have ha : M9 a = M a := by
          obtain ⟨n', h1, -, h3⟩ := hr
          exact hu a ⟨n', E, h1, fun _ hx => hx, fun q => by rw [h3 q]; exact Nat.le_refl _⟩
        rw [prU_2 h, prU_2 h, lfB_same ha, lfB_same ha]
        have hs : ∀ b q, under N n (spl n b E) q → M9 q = M q := fun b q hq => hu q (hq.up (fun x hx => (spl_mem.mp hx).1) (Nat.le_succ n))
        rw [udT_eq hW n _ _ (lfB_rt hW hr h _) (hs _), ih _ _ (lfB_rt hW hr h _) (hs _)]
def uProve (M : hM) (kf : Nat → Option Nat) (nw : Option Nat) (σ : cSt) (v k : Int32) : Nat := if isV σ v && isK k then prU 16 M (rootR kf nw v) k.toNatClampNeg (mapV σ v) else 0
def setSb (σ : cSt) (sb : Nat → Nat → Int32) : cSt := (sNow σ, sKc σ, sVs σ, sPl σ, sPe σ, sPk σ, sPv σ, sb)
section CXE
variable {g : hG} {M M9 : hM} {N Z Z9 : gT} {x kp pf bs h nm ms sc sa fo : Nat} {br : Nat → Nat} {kf : Nat → Option Nat} {nw : Option Nat} {fm fs fa ff : Nat → Int32} {rv : Nat → Nat → Int32} {σ : cSt}
/-- a row of the proof is written, by its place; the state tells the rows as they are -/
theorem CX.row (hC : CX g M N Z x kp pf bs h nm ms sc sa fo br kf nw fm fs fa ff rv (setSb σ rv)) {i : Nat} (hi : i < 16) {f1 : Nat → Int32} (e : M9 (br i) = some (aI g 8 f1)) (hf : ∀ q, q ≠ br i → M9 q = M q) : CX g M9 N Z x kp pf bs h nm ms sc sa fo br kf nw fm fs fa ff (fun i1 => if i1 = i then f1 else rv i1) (setSb σ (fun i1 => if i1 = i then f1 else rv i1)) ∧ CR M N x kp pf ms sc sa fo br M9 0 := by
  obtain ⟨hW, hH, e_x, e_kp, e_pf, e_bs, e_br, e_fo, hDA, hZn, hok, hvs, hnw, -⟩ := hC
  have hH0 := hH
  obtain ⟨q1, q2, q3, q4, ⟨fn, q5, q6⟩, q7⟩ := hH0
  have eb := e_br i hi
  have hd := hDA.2.2.2.2.1 i hi
  refine ⟨⟨hW.chg hf (N_arr hW eb) (hZn _ (Or.inr (Or.inr (Or.inr (Or.inr (Or.inr ⟨i, hi, rfl⟩)))))), hH.chg hf (ne_lk q1 eb (by simp)) (Ne.symm hd.1) (Ne.symm hd.2.1) (Ne.symm hd.2.2.1) (Ne.symm hd.2.2.2.1), (hf x (ne_lk e_x eb (by simp))).trans e_x, (hf kp (ne_lk e_kp eb ne_NI)).trans e_kp, (hf pf (ne_lk e_pf eb (by simp))).trans e_pf, (hf bs (ne_lk e_bs eb ne_RI)).trans e_bs, fun i1 hi1 => ?_, (hf fo (Ne.symm hd.2.2.2.2)).trans e_fo, hDA, hZn, hok, hvs, hnw, fun _ _ _ _ => rfl⟩, fun q e9 h9 hn => ?_, fun c hc => ⟨c, hc.chg (und_arr e) hf, Nat.le_refl _⟩⟩
  · show M9 (br i1) = some (aI g 8 (if i1 = i then f1 else rv i1))
    by_cases t : i1 = i
    · rw [t, if_pos rfl]; exact e
    · rw [if_neg t, hf _ (fun z => t (hDA.2.2.2.2.2 i1 i hi1 hi z))]
      exact e_br i1 hi1
  · rw [hf q (fun t => hn (Or.inr (Or.inr (Or.inr (Or.inr (Or.inr (Or.inr (Or.inr (Or.inr ⟨i, hi, t⟩)))))))))]
    exact h9
theorem CX.rows (hC : CX g M N Z x kp pf bs h nm ms sc sa fo br kf nw fm fs fa ff rv σ) : CX g M N Z x kp pf bs h nm ms sc sa fo br kf nw fm fs fa ff rv (setSb σ rv) := by
  obtain ⟨hW, hH, e_x, e_kp, e_pf, e_bs, e_br, e_fo, hDA, hZn, hok, hvs, hnw, hsb⟩ := hC
  exact ⟨hW, hH, e_x, e_kp, e_pf, e_bs, e_br, e_fo, hDA, hZn, hok, hvs, hnw, fun _ _ _ _ => rfl⟩
/-- behind CR the world of a call -/
theorem CRtP {M1 : hM} {u u2 k : Nat} {σ9 : cSt} (hR : CR M N x kp pf ms sc sa fo br M1 u) (hP : CP g M1 N x kp pf bs h nm ms sc sa fo br k u2 M9 σ9) : CP g M N x kp pf bs h nm ms sc sa fo br k (u + u2) M9 σ9 := by
  obtain ⟨N9, Z9, kf9, nw9, fm9, fs9, fa9, ff9, rv9, hC9, hF, hc⟩ := hP
  refine ⟨N9, Z9, kf9, nw9, fm9, fs9, fa9, ff9, rv9, hC9, fun q e he hn => hF q e (hR.1 q e he hn) hn, fun c h0 => ?_⟩
  obtain ⟨c1, p1, e1⟩ := hR.2 c h0
  obtain ⟨c9, p9, e9⟩ := hc c1 p1
  exact ⟨c9, p9, by omega⟩
end CXE
set_option maxHeartbeats 4000000 in
set_option maxRecDepth 100000 in
theorem c_X3_half2 (l : Launch) (g : hG) (M : hM) (N Z : gT) (hW : WF g M N Z) (a n d : Nat) (b : Bool) (E : En) (hr : rt N (some a) (n + 1) E) (h2 : ¬ E.length ≤ 1) : Cq l g yX3_half cX3_half 3 ((.object "ProofMap$Node")) 2 0 0 [.ref a, .int (nI d), .int (bI b)] M (fun r M9 => r = lfB M a b ∧ M9 = M) := by
  have hr0 := hr
  obtain ⟨n0, hN, hne, hn2⟩ := hr
  obtain ⟨ky, vl, z, o, dg, e_a, hdg, hlen, hcase⟩ := hW.1 a n0 E hN
  have hrt := lfB_rt hW hr0 h2 b
  refine hp_startQ (by decide) (by exact Nat.le_of_ble_eq_true rfl) (by first | exact Or.inl ⟨_, rfl⟩ | exact Or.inr ⟨_, rfl⟩) ?_
  intro p e s m below meth c Q H locs ls EE hnm ret hm hS hl
  have hx := EE.1
  have hb := EE.2.1
  have hown := EE.2.2.2.1
  have hts := EE.2.2.2.2.1
  have hl : lv_has ls 3 [(0, .ref a), (1, .int (nI d)), (2, .int (bI b))] := hl
  refine lv_aload_n hx hb dX3_half_0 rfl (lv_at hl 0 rfl) ?_
  refine lv_ifnonnull (tgt := 6) hx hb dX3_half_1 (by decide) ?_
  refine lv_aload_n hx hb dX3_half_6 rfl (lv_at hl 0 rfl) ?_
  refine hp_get (C := RX1) (T := TX1) (N := 6) (v := .int (nI E.length)) EE hm e_a inh1 rfl 0 (by decide) wf_X3_132 rfl dX3_half_7 ?_
  refine lv_iconst (v := 1) hx hb dX3_half_10 (by decide) ?_
  refine lv_icmp_ne (tgt := 32) hx hb dX3_half_11 (by decide) (fun c_11 => ?_) (fun c_11 => ?_)
  · have c_11 : ¬ E.length = 1 := fun h9 => c_11 ((nI_eq (a := E.length) (b := 1) (by omega) (by decide)).mpr h9)
    refine lv_iload_n hx hb dX3_half_32 rfl (lv_at hl 2 rfl) ?_
    refine lv_if_ne (tgt := 43) hx hb dX3_half_33 (by decide) (fun c_33 => ?_) (fun c_33 => ?_)
    · have c_33 := bI_t c_33
      refine lv_aload_n hx hb dX3_half_43 rfl (lv_at hl 0 rfl) ?_
      refine hp_get (C := RX1) (T := TX1) (N := 6) (v := va_rf o) EE hm e_a inh1 rfl 4 (by decide) wf_X3_138 rfl dX3_half_44 ?_
      exact ret (v := o) dX3_half_47 hm hS (Nat.le_of_ble_eq_true rfl) (Nat.le_of_ble_eq_true rfl) (⟨by unfold lfB; cases b with
        | false => exact absurd c_33 (by decide)
        | true => rw [if_pos rfl, lf_4 e_a], rfl⟩)
    · have c_33 := bI_f c_33
      refine lv_aload_n hx hb dX3_half_36 rfl (lv_at hl 0 rfl) ?_
      refine hp_get (C := RX1) (T := TX1) (N := 6) (v := va_rf z) EE hm e_a inh1 rfl 3 (by decide) wf_X3_135 rfl dX3_half_37 ?_
      refine lv_goto (tgt := 47) hx hb dX3_half_40 (by decide) ?_
      exact ret (v := z) dX3_half_47 hm hS (Nat.le_of_ble_eq_true rfl) (Nat.le_of_ble_eq_true rfl) (⟨by unfold lfB; cases b with
        | false => rw [if_neg (by decide), lf_3 e_a]
        | true => exact absurd c_33 (by decide), rfl⟩)
  · have c_11 : E.length = 1 := (nI_eq (a := E.length) (b := 1) (by omega) (by decide)).mp c_11
    exact absurd c_11 (by omega)
set_option maxHeartbeats 4000000 in
set_option maxRecDepth 100000 in
theorem c_X3_prove (l : Launch) (g : hG) (M : hM) (N Z : gT) (x kp pf bs h nm ms sc sa fo : Nat) (br : Nat → Nat) (kf : Nat → Option Nat) (nw : Option Nat) (fm fs fa ff : Nat → Int32) (rv : Nat → Nat → Int32) (σ : cSt) (hC : CX g M N Z x kp pf bs h nm ms sc sa fo br kf nw fm fs fa ff rv σ) (v0 k0 : Int32) : Ci l g yX3_prove cX3_prove 6 .int 22 (uProve M kf nw σ v0 k0) (8 * (uProve M kf nw σ v0 k0)) [.ref x, .int v0, .int k0] M (fun r M9 => r = (sProve σ v0 k0).1 ∧ CP g M N x kp pf bs h nm ms sc sa fo br 0 (uProve M kf nw σ v0 k0) M9 ((sProve σ v0 k0).2)) := by
  have hC0 := hC
  obtain ⟨hW, hH, e_x, e_kp, e_pf, e_bs, e_br, e_fo, hDA, hZn, hok, hvs, hnw, hsb⟩ := hC
  have hok0 := hok
  obtain ⟨hkc, hvg, hgn, hpl, hpk⟩ := hok
  refine hp_startI (by decide) (by exact Nat.le_of_ble_eq_true rfl) ?_
  intro p e s m below meth c Q H locs ls EE hnm ret hm hS hl
  have hx := EE.1
  have hb := EE.2.1
  have hown := EE.2.2.2.1
  have hts := EE.2.2.2.2.1
  have hl : lv_has ls 6 [(0, .ref x), (1, .int v0), (2, .int k0)] := hl
  refine lv_aload_n hx hb dX3_prove_0 rfl (lv_at hl 0 rfl) ?_
  refine lv_iload_n hx hb dX3_prove_1 rfl (lv_at hl 1 rfl) ?_
  refine hp_ci (hp_runV (C := RX3) (T := TX3) (N := 6) (np := 1) (k := 1) (mc := 0) (ms := 0) (As := [.int v0]) (rest := []) EE hm hS (c_X3_isVersion l g M N Z x kp pf bs h nm ms sc sa fo br kf nw fm fs fa ff rv σ hC0 v0) ms_X3_isVersion wi_X3_isVersion ws_X3_isVersion wl_X3_64 e_x rfl rfl hl.1 rfl (Nat.le_of_ble_eq_true rfl) dX3_prove_2 ⟨Nat.le_of_ble_eq_true rfl, Nat.le_of_ble_eq_true rfl⟩ ⟨(by show 0 + 0 ≤ uProve M kf nw σ v0 k0; omega), (by show 0 + 0 ≤ 8 * (uProve M kf nw σ v0 k0); omega)⟩) hS (fun r1 Mx2 H locs hq3 hm hS => ?_)
  obtain ⟨rfl, h9⟩ := hq3
  rw [h9] at hm
  refine lv_if_eq (tgt := 15) hx hb dX3_prove_5 (by decide) (fun c_5 => ?_) (fun c_5 => ?_)
  · have c_5 := bI_f c_5
    refine lv_iconst (v := (-1)) hx hb dX3_prove_15 (by decide) ?_
    exact ret dX3_prove_16 na_i hm hS (by omega) (by omega) (⟨by unfold sProve; first | (rw [c_5]; rfl) | (rw [c_5, c_12]; rfl), by unfold uProve sProve; first | (rw [c_5]; exact CP.rf hC0) | (rw [c_5, c_12]; exact CP.rf hC0)⟩)
  · have c_5 := bI_t c_5
    refine lv_iload_n hx hb dX3_prove_8 rfl (lv_at hl 2 rfl) ?_
    refine hp_ci (hp_runS (np := 1) (k := 1) (mc := 0) (ms := 0) (As := [.int k0]) (rest := []) EE hm hS (c_X3_isKey l g M k0) ms_X3_isKey wt_X3_isKey wl_X3_41 rfl hl.1 rfl (Nat.le_of_ble_eq_true rfl) dX3_prove_9 ⟨Nat.le_of_ble_eq_true rfl, Nat.le_of_ble_eq_true rfl⟩ ⟨(by show 0 + 0 ≤ uProve M kf nw σ v0 k0; omega), (by show 0 + 0 ≤ 8 * (uProve M kf nw σ v0 k0); omega)⟩) hS (fun r4 Mx5 H locs hq6 hm hS => ?_)
    obtain ⟨rfl, h9⟩ := hq6
    rw [h9] at hm
    refine lv_if_ne (tgt := 17) hx hb dX3_prove_12 (by decide) (fun c_12 => ?_) (fun c_12 => ?_)
    · have c_12 := bI_t c_12
      obtain ⟨kn, hkn, hke⟩ := isK_nat c_12
      have hcl : k0.toNatClampNeg = kn := by rw [hke]; exact nI_clamp (by omega)
      have hl : lv_has ls 6 [(0, .ref x), (1, .int v0), (2, .int (nI kn))] := by rw [← hke]; exact hl
      have hut : uProve M kf nw σ v0 k0 = prU 16 M (rootR kf nw v0) kn (mapV σ v0) := by unfold uProve; rw [c_5, c_12, hcl]; exact if_pos rfl
      refine lv_aload_n hx hb dX3_prove_17 rfl (lv_at hl 0 rfl) ?_
      refine lv_iload_n hx hb dX3_prove_18 rfl (lv_at hl 1 rfl) ?_
      refine hp_cq (hp_runV (C := RX3) (T := TX3) (N := 6) (np := 1) (k := 1) (mc := 0) (ms := 0) (As := [.int v0]) (rest := []) EE hm hS (c_X3_rootOf l g M N Z x kp pf bs h nm ms sc sa fo br kf nw fm fs fa ff rv σ hC0 v0) ms_X3_rootOf wi_X3_rootOf ws_X3_rootOf wl_X3_69 e_x rfl rfl hl.1 rfl (Nat.le_of_ble_eq_true rfl) dX3_prove_19 ⟨Nat.le_of_ble_eq_true rfl, Nat.le_of_ble_eq_true rfl⟩ ⟨(by show 0 + 0 ≤ uProve M kf nw σ v0 k0; omega), (by show 0 + 0 ≤ 8 * (uProve M kf nw σ v0 k0); omega)⟩) hS (fun r7 Mx8 H locs hq9 hm hS => ?_)
      obtain ⟨hro, h9⟩ := hq9
      rw [h9] at hm
      have hrt := rootR_rt hkc hvs hnw c_5
      rw [← hro] at hrt
      have hgm := mapV_g ⟨hkc, hvg, hgn, hpl, hpk⟩ c_5
      refine hq_astore_n (lv' := [(3, va_rf r7), (0, .ref x), (1, .int v0), (2, .int (nI kn))]) hx hb dX3_prove_22 rfl hl (by decide) rfl (fun ls hl => ?_)
      refine lv_iconst (v := 0) hx hb dX3_prove_23 (by decide) ?_
      refine lv_istore (lv' := [(4, .int 0), (3, va_rf r7), (0, .ref x), (1, .int v0), (2, .int (nI kn))]) hx hb dX3_prove_24 hl (by decide) (by cases r7 <;> rfl) (fun ls hl => ?_)
      have lp : ∀ (n d : Nat) (nn : Nat) (M1 : hM) (Z1 : gT) (fm1 fs1 fa1 : Nat → Int32) (rv1 : Nat → Nat → Int32) (r1 : Option Nat) (E1 : En) (H : Heap) (locs : List Loc) (ls : Array Slot), 17 ≤ d + n → d + nn = 16 → CX g M1 N Z1 x kp pf bs h nm ms sc sa fo br kf nw fm1 fs1 fa1 ff rv1 (setSb σ rv1) → rt N r1 nn E1 → prU nn M1 r1 kn E1 ≤ uProve M kf nw σ v0 k0 → CR M N x kp pf ms sc sa fo br M1 (uProve M kf nw σ v0 k0 - prU nn M1 r1 kn E1) → E1 = way kn (mapV σ v0) d → (∀ i, i < d → ∀ j, j < 8 → rv1 i j = sibV kn (mapV σ v0) i j) → endE nn kn E1 = endE 16 kn (mapV σ v0) → d + prN nn kn E1 = prN 16 kn (mapV σ v0) → hp g M1 H → va_S (hA g) s.heap H locs → lv_has ls 6 [(4, .int (nI d)), (3, va_rf r1), (0, .ref x), (1, .int v0), (2, .int (nI kn))] → W p l e (hR 22 (uProve M kf nw σ v0 k0) (8 * (uProve M kf nw σ v0 k0))) s m [.ref x, .int v0, .int k0].toArray below meth c H locs (uProve M kf nw σ v0 k0 - prU nn M1 r1 kn E1) (8 * (uProve M kf nw σ v0 k0 - prU nn M1 r1 kn E1)) Q (F0 m 26 ls []) := by
        intro n
        induction n with
        | zero => intro d nn M1 Z1 fm1 fs1 fa1 rv1 r1 E1 H locs ls hn hd hC1 hr1 hpu hR1 hwy hrow hen hpn; exact absurd hn (by omega)
        | succ n ih =>
          intro d nn M1 Z1 fm1 fs1 fa1 rv1 r1 E1 H locs ls hn hd hC1 hr1 hpu hR1 hwy hrow hen hpn hm hS hl
          obtain ⟨hW1, hH1, e_x, e_kp, e_pf, e_bs, e_br, e_fo, -, hZn1, -, hvs1, hnw1, -⟩ := id hC1
          have hlen := rt_len hW1 hr1
          refine lv_iload hx hb dX3_prove_26 (lv_at hl 0 rfl) ?_
          refine lv_bipush (v := 16) hx hb dX3_prove_28 (by decide) ?_
          refine lv_icmp_ge (tgt := 98) hx hb dX3_prove_30 (by decide) (fun c_30 => ?_) (fun c_30 => ?_)
          · have c_30 : 16 ≤ d := (nI_leI (a := 16) (b := d) (by decide) (by omega)).mp c_30
            have hn0 : nn = 0 := by omega
            subst hn0
            have hprz : prU 0 M1 r1 kn E1 = 0 := rfl
            have hpnz : prN 0 kn E1 = 0 := rfl
            have henz : endE 0 kn E1 = E1 := rfl
            refine W.widen (k := uProve M kf nw σ v0 k0) (n := 8 * (uProve M kf nw σ v0 k0)) (by omega) (by omega) ?_
            have hdp : d = prN 16 kn (mapV σ v0) := by omega
            have hEe : E1 = endE 16 kn (mapV σ v0) := by rw [← hen, henz]
            have hRe : CR M N x kp pf ms sc sa fo br M1 (uProve M kf nw σ v0 k0) := by rw [hprz] at hR1; exact hR1
            refine lv_aload_n hx hb dX3_prove_98 rfl (lv_at hl 2 rfl) ?_
            refine hp_get (C := RX3) (T := TX3) (N := 6) (v := .ref pf) EE hm e_x inh3 rfl 3 (by decide) wf_X3_26 rfl dX3_prove_99 ?_
            refine lv_iload hx hb dX3_prove_102 (lv_at hl 0 rfl) ?_
            have e_pf0 := e_pf
            refine hp_put (C := RX2) (T := TX2) (N := 5) (v := .int (nI d)) (ty := .int) EE hm hS e_pf inh2 tyX2 tyX2_ok nmX2 rfl 1 (by decide) wf_X3_99 rfl (by decide +kernel) rfl rfl (Nat.le_of_ble_eq_true rfl) dX3_prove_104 (fun H locs hm hS => ?_)
            obtain ⟨Mx10, hMx10⟩ : ∃ Mz, Mz = hm_up M1 pf (.inr (2, [.ref bs, .int (nI d), .int (bI (sPe σ)), .int (sPk σ), .int (sPv σ)])) := ⟨_, rfl⟩
            have hm : hp g Mx10 H := by rw [hMx10]; exact hm
            have e_x : Mx10 x = some (.inr (3, [.ref kp, .int (nI (sKc σ)), va_rf nw, .ref pf, .ref h, .ref fo])) := by rw [hMx10]; exact up_at (ne_lk e_x e_pf (by simp)) e_x
            have e_bs : Mx10 bs = some (aR g 16 (fun i => some (br i))) := by rw [hMx10]; exact up_at (ne_lk e_bs e_pf (by simp)) e_bs
            have e_pf : Mx10 pf = some (.inr (2, [.ref bs, .int (nI d), .int (bI (sPe σ)), .int (sPk σ), .int (sPv σ)])) := by rw [hMx10]; exact up_eq
            refine hq_aload_n hx hb dX3_prove_107 rfl (lv_at hl 1 rfl) ?_
            refine hq_ifnonnull (tgt := 121) hx hb dX3_prove_108 (by decide) (fun a hn108 => ?_) (fun hn108 => ?_)
            · subst hn108
              have hl : lv_has ls 6 [(4, .int (nI d)), (3, .ref a), (0, .ref x), (1, .int v0), (2, .int (nI kn))] := hl
              obtain ⟨n0, hN, hne, hn2⟩ := id hr1
              obtain ⟨ky, vl, z, o, dg, e_a, hdg, hlen2, hcase⟩ := hW1.1 a n0 E1 hN
              obtain ⟨k9, hE9, hky, hk9, -, -⟩ : ∃ k9, E1 = [(k9, vl)] ∧ ky = nI k9 ∧ k9 < 65536 ∧ z = none ∧ o = none := by
                rcases hcase with h8 | ⟨n9, h81, -, h8, -⟩
                · exact h8
                · first | (exact absurd (hn2 h8) (by omega)) | omega
              have e_a : Mx10 a = some (.inr (1, [.int (nI E1.length), .int ky, .int vl, va_rf z, va_rf o, va_rf dg])) := by rw [hMx10, up_ne (ne_lk e_a e_pf0 (by simp))]; exact e_a
              refine lv_aload_n hx hb dX3_prove_121 rfl (lv_at hl 2 rfl) ?_
              refine hp_get (C := RX3) (T := TX3) (N := 6) (v := .ref pf) EE hm e_x inh3 rfl 3 (by decide) wf_X3_26 rfl dX3_prove_122 ?_
              refine lv_aload_n hx hb dX3_prove_125 rfl (lv_at hl 1 rfl) ?_
              refine hp_get (C := RX1) (T := TX1) (N := 6) (v := .int ky) EE hm e_a inh1 rfl 1 (by decide) wf_X3_105 rfl dX3_prove_126 ?_
              refine lv_aload_n hx hb dX3_prove_129 rfl (lv_at hl 1 rfl) ?_
              refine hp_get (C := RX1) (T := TX1) (N := 6) (v := .int vl) EE hm e_a inh1 rfl 2 (by decide) wf_X3_73 rfl dX3_prove_130 ?_
              refine hp_cv (hp_runV (C := RX2) (T := TX2) (N := 5) (np := 2) (k := 1) (mc := 0) (ms := 0) (As := [.int ky, .int vl]) (rest := []) EE hm hS (c_X2_endWithEntry l g Mx10 pf bs _ _ _ _ e_pf ky vl) ms_X2_endWithEntry wi_X2_endWithEntry ws_X2_endWithEntry wl_X3_108 e_pf rfl rfl hl.1 rfl (Nat.le_of_ble_eq_true rfl) dX3_prove_133 ⟨Nat.le_of_ble_eq_true rfl, Nat.le_of_ble_eq_true rfl⟩ ⟨(by show uProve M kf nw σ v0 k0 + 0 ≤ uProve M kf nw σ v0 k0; omega), (by show 8 * (uProve M kf nw σ v0 k0) + 0 ≤ 8 * (uProve M kf nw σ v0 k0); omega)⟩) hS (fun Mx11 H locs hq12 hm hS => ?_)
              obtain ⟨e_9, hf9⟩ := hq12
              refine lv_iload hx hb dX3_prove_136 (lv_at hl 0 rfl) ?_
              rw [hky] at e_9
              exact ret dX3_prove_138 na_i hm hS (by omega) (by omega) (⟨by unfold sProve; rw [c_5, c_12, hcl, ← hdp]; rfl, by
                unfold sProve
                rw [c_5, c_12, hcl, if_pos (show (true && true) = true from rfl), ← hdp, ← hEe, hE9]
                exact CRtP hRe (CX.cpf hC1 (pl := d) (pe := true) e_9 (fun q hq => by rw [hf9 q hq, hMx10, up_ne hq]) (by omega) ⟨fun _ => ⟨k9, hk9, rfl⟩, fun q => (by cases q)⟩ hrow)⟩)
            · subst hn108
              have hl : lv_has ls 6 [(4, .int (nI d)), (3, .null), (0, .ref x), (1, .int v0), (2, .int (nI kn))] := hl
              have hE0 : E1 = [] := hr1
              refine lv_aload_n hx hb dX3_prove_111 rfl (lv_at hl 2 rfl) ?_
              refine hp_get (C := RX3) (T := TX3) (N := 6) (v := .ref pf) EE hm e_x inh3 rfl 3 (by decide) wf_X3_26 rfl dX3_prove_112 ?_
              refine hp_cv (hp_runV (C := RX2) (T := TX2) (N := 5) (np := 0) (k := 1) (mc := 0) (ms := 0) (As := ([] : List Value)) (rest := []) EE hm hS (c_X2_endWithNothing l g Mx10 pf bs _ _ _ _ e_pf) ms_X2_endWithNothing wi_X2_endWithNothing ws_X2_endWithNothing wl_X3_102 e_pf rfl rfl hl.1 rfl (Nat.le_of_ble_eq_true rfl) dX3_prove_115 ⟨Nat.le_of_ble_eq_true rfl, Nat.le_of_ble_eq_true rfl⟩ ⟨(by show uProve M kf nw σ v0 k0 + 0 ≤ uProve M kf nw σ v0 k0; omega), (by show 8 * (uProve M kf nw σ v0 k0) + 0 ≤ 8 * (uProve M kf nw σ v0 k0); omega)⟩) hS (fun Mx13 H locs hq14 hm hS => ?_)
              obtain ⟨e_9, hf9⟩ := hq14
              refine lv_goto (tgt := 136) hx hb dX3_prove_118 (by decide) ?_
              refine lv_iload hx hb dX3_prove_136 (lv_at hl 0 rfl) ?_
              exact ret dX3_prove_138 na_i hm hS (by omega) (by omega) (⟨by unfold sProve; rw [c_5, c_12, hcl, ← hdp]; rfl, by
                unfold sProve
                rw [c_5, c_12, hcl, if_pos (show (true && true) = true from rfl), ← hdp, ← hEe, hE0]
                exact CRtP hRe (CX.cpf hC1 (pl := d) (pe := false) e_9 (fun q hq => by rw [hf9 q hq, hMx10, up_ne hq]) (by omega) ⟨fun q => (by cases q), fun _ => ⟨rfl, rfl⟩⟩ hrow)⟩)
          · have c_30 : ¬ 16 ≤ d := fun h9 => c_30 ((nI_leI (a := 16) (b := d) (by decide) (by omega)).mpr h9)
            obtain ⟨n1, hn1⟩ : ∃ n1, nn = n1 + 1 := ⟨nn - 1, by omega⟩
            subst hn1
            refine hq_aload_n hx hb dX3_prove_33 rfl (lv_at hl 1 rfl) ?_
            refine hp_ci (hp_runS (np := 1) (k := 1) (mc := 0) (ms := 0) (As := [va_rf r1]) (rest := []) EE hm hS (c_X3_countOf l g M1 N Z1 hW1 r1 _ E1 hr1) ms_X3_countOf wt_X3_countOf wl_X3_53 rfl hl.1 rfl (Nat.le_of_ble_eq_true rfl) dX3_prove_34 ⟨Nat.le_of_ble_eq_true rfl, Nat.le_of_ble_eq_true rfl⟩ ⟨(by show uProve M kf nw σ v0 k0 - prU (n1 + 1) M1 r1 kn E1 + 0 ≤ uProve M kf nw σ v0 k0; omega), (by show 8 * (uProve M kf nw σ v0 k0 - prU (n1 + 1) M1 r1 kn E1) + 0 ≤ 8 * (uProve M kf nw σ v0 k0); omega)⟩) hS (fun r15 Mx16 H locs hq17 hm hS => ?_)
            obtain ⟨rfl, h9⟩ := hq17
            rw [h9] at hm
            refine lv_iconst (v := 1) hx hb dX3_prove_37 (by decide) ?_
            refine lv_icmp_le (tgt := 98) hx hb dX3_prove_38 (by decide) (fun c_38 => ?_) (fun c_38 => ?_)
            · have c_38 : E1.length ≤ 1 := (nI_leI (a := E1.length) (b := 1) (by omega) (by decide)).mp c_38
              have hprz : prU (n1 + 1) M1 r1 kn E1 = 0 := prU_1 (by omega)
              have hpnz : prN (n1 + 1) kn E1 = 0 := prN_1 (by omega)
              have henz : endE (n1 + 1) kn E1 = E1 := endE_1 (by omega)
              refine W.widen (k := uProve M kf nw σ v0 k0) (n := 8 * (uProve M kf nw σ v0 k0)) (by omega) (by omega) ?_
              have hdp : d = prN 16 kn (mapV σ v0) := by omega
              have hEe : E1 = endE 16 kn (mapV σ v0) := by rw [← hen, henz]
              have hRe : CR M N x kp pf ms sc sa fo br M1 (uProve M kf nw σ v0 k0) := by rw [hprz] at hR1; exact hR1
              refine lv_aload_n hx hb dX3_prove_98 rfl (lv_at hl 2 rfl) ?_
              refine hp_get (C := RX3) (T := TX3) (N := 6) (v := .ref pf) EE hm e_x inh3 rfl 3 (by decide) wf_X3_26 rfl dX3_prove_99 ?_
              refine lv_iload hx hb dX3_prove_102 (lv_at hl 0 rfl) ?_
              have e_pf0 := e_pf
              refine hp_put (C := RX2) (T := TX2) (N := 5) (v := .int (nI d)) (ty := .int) EE hm hS e_pf inh2 tyX2 tyX2_ok nmX2 rfl 1 (by decide) wf_X3_99 rfl (by decide +kernel) rfl rfl (Nat.le_of_ble_eq_true rfl) dX3_prove_104 (fun H locs hm hS => ?_)
              obtain ⟨Mx18, hMx18⟩ : ∃ Mz, Mz = hm_up M1 pf (.inr (2, [.ref bs, .int (nI d), .int (bI (sPe σ)), .int (sPk σ), .int (sPv σ)])) := ⟨_, rfl⟩
              have hm : hp g Mx18 H := by rw [hMx18]; exact hm
              have e_x : Mx18 x = some (.inr (3, [.ref kp, .int (nI (sKc σ)), va_rf nw, .ref pf, .ref h, .ref fo])) := by rw [hMx18]; exact up_at (ne_lk e_x e_pf (by simp)) e_x
              have e_bs : Mx18 bs = some (aR g 16 (fun i => some (br i))) := by rw [hMx18]; exact up_at (ne_lk e_bs e_pf (by simp)) e_bs
              have e_pf : Mx18 pf = some (.inr (2, [.ref bs, .int (nI d), .int (bI (sPe σ)), .int (sPk σ), .int (sPv σ)])) := by rw [hMx18]; exact up_eq
              refine hq_aload_n hx hb dX3_prove_107 rfl (lv_at hl 1 rfl) ?_
              refine hq_ifnonnull (tgt := 121) hx hb dX3_prove_108 (by decide) (fun a hn108 => ?_) (fun hn108 => ?_)
              · subst hn108
                have hl : lv_has ls 6 [(4, .int (nI d)), (3, .ref a), (0, .ref x), (1, .int v0), (2, .int (nI kn))] := hl
                obtain ⟨n0, hN, hne, hn2⟩ := id hr1
                obtain ⟨ky, vl, z, o, dg, e_a, hdg, hlen2, hcase⟩ := hW1.1 a n0 E1 hN
                obtain ⟨k9, hE9, hky, hk9, -, -⟩ : ∃ k9, E1 = [(k9, vl)] ∧ ky = nI k9 ∧ k9 < 65536 ∧ z = none ∧ o = none := by
                  rcases hcase with h8 | ⟨n9, h81, -, h8, -⟩
                  · exact h8
                  · first | (exact absurd (hn2 h8) (by omega)) | omega
                have e_a : Mx18 a = some (.inr (1, [.int (nI E1.length), .int ky, .int vl, va_rf z, va_rf o, va_rf dg])) := by rw [hMx18, up_ne (ne_lk e_a e_pf0 (by simp))]; exact e_a
                refine lv_aload_n hx hb dX3_prove_121 rfl (lv_at hl 2 rfl) ?_
                refine hp_get (C := RX3) (T := TX3) (N := 6) (v := .ref pf) EE hm e_x inh3 rfl 3 (by decide) wf_X3_26 rfl dX3_prove_122 ?_
                refine lv_aload_n hx hb dX3_prove_125 rfl (lv_at hl 1 rfl) ?_
                refine hp_get (C := RX1) (T := TX1) (N := 6) (v := .int ky) EE hm e_a inh1 rfl 1 (by decide) wf_X3_105 rfl dX3_prove_126 ?_
                refine lv_aload_n hx hb dX3_prove_129 rfl (lv_at hl 1 rfl) ?_
                refine hp_get (C := RX1) (T := TX1) (N := 6) (v := .int vl) EE hm e_a inh1 rfl 2 (by decide) wf_X3_73 rfl dX3_prove_130 ?_
                refine hp_cv (hp_runV (C := RX2) (T := TX2) (N := 5) (np := 2) (k := 1) (mc := 0) (ms := 0) (As := [.int ky, .int vl]) (rest := []) EE hm hS (c_X2_endWithEntry l g Mx18 pf bs _ _ _ _ e_pf ky vl) ms_X2_endWithEntry wi_X2_endWithEntry ws_X2_endWithEntry wl_X3_108 e_pf rfl rfl hl.1 rfl (Nat.le_of_ble_eq_true rfl) dX3_prove_133 ⟨Nat.le_of_ble_eq_true rfl, Nat.le_of_ble_eq_true rfl⟩ ⟨(by show uProve M kf nw σ v0 k0 + 0 ≤ uProve M kf nw σ v0 k0; omega), (by show 8 * (uProve M kf nw σ v0 k0) + 0 ≤ 8 * (uProve M kf nw σ v0 k0); omega)⟩) hS (fun Mx19 H locs hq20 hm hS => ?_)
                obtain ⟨e_9, hf9⟩ := hq20
                refine lv_iload hx hb dX3_prove_136 (lv_at hl 0 rfl) ?_
                rw [hky] at e_9
                exact ret dX3_prove_138 na_i hm hS (by omega) (by omega) (⟨by unfold sProve; rw [c_5, c_12, hcl, ← hdp]; rfl, by
                  unfold sProve
                  rw [c_5, c_12, hcl, if_pos (show (true && true) = true from rfl), ← hdp, ← hEe, hE9]
                  exact CRtP hRe (CX.cpf hC1 (pl := d) (pe := true) e_9 (fun q hq => by rw [hf9 q hq, hMx18, up_ne hq]) (by omega) ⟨fun _ => ⟨k9, hk9, rfl⟩, fun q => (by cases q)⟩ hrow)⟩)
              · subst hn108
                have hl : lv_has ls 6 [(4, .int (nI d)), (3, .null), (0, .ref x), (1, .int v0), (2, .int (nI kn))] := hl
                have hE0 : E1 = [] := hr1
                refine lv_aload_n hx hb dX3_prove_111 rfl (lv_at hl 2 rfl) ?_
                refine hp_get (C := RX3) (T := TX3) (N := 6) (v := .ref pf) EE hm e_x inh3 rfl 3 (by decide) wf_X3_26 rfl dX3_prove_112 ?_
                refine hp_cv (hp_runV (C := RX2) (T := TX2) (N := 5) (np := 0) (k := 1) (mc := 0) (ms := 0) (As := ([] : List Value)) (rest := []) EE hm hS (c_X2_endWithNothing l g Mx18 pf bs _ _ _ _ e_pf) ms_X2_endWithNothing wi_X2_endWithNothing ws_X2_endWithNothing wl_X3_102 e_pf rfl rfl hl.1 rfl (Nat.le_of_ble_eq_true rfl) dX3_prove_115 ⟨Nat.le_of_ble_eq_true rfl, Nat.le_of_ble_eq_true rfl⟩ ⟨(by show uProve M kf nw σ v0 k0 + 0 ≤ uProve M kf nw σ v0 k0; omega), (by show 8 * (uProve M kf nw σ v0 k0) + 0 ≤ 8 * (uProve M kf nw σ v0 k0); omega)⟩) hS (fun Mx21 H locs hq22 hm hS => ?_)
                obtain ⟨e_9, hf9⟩ := hq22
                refine lv_goto (tgt := 136) hx hb dX3_prove_118 (by decide) ?_
                refine lv_iload hx hb dX3_prove_136 (lv_at hl 0 rfl) ?_
                exact ret dX3_prove_138 na_i hm hS (by omega) (by omega) (⟨by unfold sProve; rw [c_5, c_12, hcl, ← hdp]; rfl, by
                  unfold sProve
                  rw [c_5, c_12, hcl, if_pos (show (true && true) = true from rfl), ← hdp, ← hEe, hE0]
                  exact CRtP hRe (CX.cpf hC1 (pl := d) (pe := false) e_9 (fun q hq => by rw [hf9 q hq, hMx18, up_ne hq]) (by omega) ⟨fun q => (by cases q), fun _ => ⟨rfl, rfl⟩⟩ hrow)⟩)
            · have c_38 : ¬ E1.length ≤ 1 := fun h9 => c_38 ((nI_leI (a := E1.length) (b := 1) (by omega) (by decide)).mpr h9)
              obtain ⟨a, hra⟩ : ∃ a, r1 = some a := by
                cases r1 with
                | none => rw [show E1 = [] from hr1] at c_38; exact absurd (Nat.zero_le 1) c_38
                | some a => exact ⟨a, rfl⟩
              subst hra
              have hl : lv_has ls 6 [(4, .int (nI d)), (3, .ref a), (0, .ref x), (1, .int v0), (2, .int (nI kn))] := hl
              have hp2 := prU_2 (n := n1) (k := kn) (a := a) (M := M1) (E := E1) c_38
              refine lv_iload_n hx hb dX3_prove_41 rfl (lv_at hl 4 rfl) ?_
              refine lv_iload hx hb dX3_prove_42 (lv_at hl 0 rfl) ?_
              refine hp_ci (hp_runS (np := 2) (k := 1) (mc := 0) (ms := 0) (As := [.int (nI kn), .int (nI d)]) (rest := []) EE hm hS (c_X3_bitAt l g M1 (nI kn) (nI d)) ms_X3_bitAt wt_X3_bitAt wl_X3_83 rfl hl.1 rfl (Nat.le_of_ble_eq_true rfl) dX3_prove_44 ⟨Nat.le_of_ble_eq_true rfl, Nat.le_of_ble_eq_true rfl⟩ ⟨(by show uProve M kf nw σ v0 k0 - prU (n1 + 1) M1 (some a) kn E1 + 0 ≤ uProve M kf nw σ v0 k0; omega), (by show 8 * (uProve M kf nw σ v0 k0 - prU (n1 + 1) M1 (some a) kn E1) + 0 ≤ 8 * (uProve M kf nw σ v0 k0); omega)⟩) hS (fun r23 Mx24 H locs hq25 hm hS => ?_)
              obtain ⟨hr9, h9⟩ := hq25
              rw [h9] at hm
              rw [bitA_n hkn (show d + n1 = 15 by omega)] at hr9
              subst hr9
              refine lv_istore (lv' := [(5, .int (bI (kn.testBit n1))), (4, .int (nI d)), (3, .ref a), (0, .ref x), (1, .int v0), (2, .int (nI kn))]) hx hb dX3_prove_47 hl (by decide) rfl (fun ls hl => ?_)
              refine lv_aload_n hx hb dX3_prove_49 rfl (lv_at hl 2 rfl) ?_
              refine lv_iload hx hb dX3_prove_50 (lv_at hl 1 rfl) ?_
              refine lv_iconst (v := 1) hx hb dX3_prove_52 (by decide) ?_
              refine lv_iload hx hb dX3_prove_53 (lv_at hl 0 rfl) ?_
              refine lv_isub hx hb dX3_prove_55 ?_
              rw [bI_not]
              refine hp_cq (hp_runS (np := 3) (k := 2) (mc := 0) (ms := 0) (As := [.ref a, .int (nI d), .int (bI (!(kn.testBit n1)))]) (rest := []) EE hm hS (c_X3_half2 l g M1 N Z1 hW1 a n1 d (!(kn.testBit n1)) E1 hr1 c_38) ms_X3_half wt_X3_half wl_X3_87 rfl hl.1 rfl (Nat.le_of_ble_eq_true rfl) dX3_prove_56 ⟨Nat.le_of_ble_eq_true rfl, Nat.le_of_ble_eq_true rfl⟩ ⟨(by show uProve M kf nw σ v0 k0 - prU (n1 + 1) M1 (some a) kn E1 + 0 ≤ uProve M kf nw σ v0 k0; omega), (by show 8 * (uProve M kf nw σ v0 k0 - prU (n1 + 1) M1 (some a) kn E1) + 0 ≤ 8 * (uProve M kf nw σ v0 k0); omega)⟩) hS (fun r26 Mx27 H locs hq28 hm hS => ?_)
              obtain ⟨hh9, h9⟩ := hq28
              rw [h9] at hm
              subst hh9
              refine lv_iload hx hb dX3_prove_59 (lv_at hl 1 rfl) ?_
              refine lv_iconst (v := 1) hx hb dX3_prove_61 (by decide) ?_
              refine lv_iadd hx hb dX3_prove_62 ?_
              rw [nI_1 d]
              refine lv_aload_n hx hb dX3_prove_63 rfl (lv_at hl 3 rfl) ?_
              refine hp_get (C := RX3) (T := TX3) (N := 6) (v := .ref h) EE hm e_x inh3 rfl 4 (by decide) wf_X3_33 rfl dX3_prove_64 ?_
              refine hp_cq (hp_runS (np := 3) (k := 5 + n1) (mc := udT n1 M1 (lfB M1 a (!(kn.testBit n1)))) (ms := 8 * (udT n1 M1 (lfB M1 a (!(kn.testBit n1))))) (As := [va_rf (lfB M1 a (!(kn.testBit n1))), .int (nI (d + 1)), .ref h]) (rest := []) EE hm hS (c_X3_digestOf l g N h nm ms sc sa n1 M1 Z1 fm1 fs1 fa1 (lfB M1 a (!(kn.testBit n1))) _ (d + 1) hW1 hH1 (hZn1 ms (Or.inr (Or.inl rfl))) (hZn1 sc (Or.inr (Or.inr (Or.inl rfl)))) (hZn1 sa (Or.inr (Or.inr (Or.inr (Or.inl rfl))))) (lfB_rt hW1 hr1 c_38 _) (by omega)) ms_X3_digestOf wt_X3_digestOf wl_X3_79 rfl hl.1 rfl (Nat.le_of_ble_eq_true rfl) dX3_prove_67 ⟨by show 5 + n1 + 1 ≤ 22; omega, by show 8 + (6 + 11) + 100 * (5 + n1) ≤ 100 * (22); omega⟩ ⟨(by show uProve M kf nw σ v0 k0 - prU (n1 + 1) M1 (some a) kn E1 + udT n1 M1 (lfB M1 a (!(kn.testBit n1))) ≤ uProve M kf nw σ v0 k0; omega), (by show 8 * (uProve M kf nw σ v0 k0 - prU (n1 + 1) M1 (some a) kn E1) + 8 * (udT n1 M1 (lfB M1 a (!(kn.testBit n1)))) ≤ 8 * (uProve M kf nw σ v0 k0); omega)⟩) hS (fun r29 Mx30 H locs hq31 hm hS => ?_)
              obtain ⟨Z2, fm2, fs2, fa2, b2, f2, hb2, hW2, hH2, e_b2, hf2, hbz, hD2⟩ := hq31
              subst hb2
              have hD20 := hD2
              obtain ⟨hC2, hR2⟩ := CX.dg hC1 hW2 hH2 hD2
              obtain ⟨-, -, e_x, e_kp, e_pf, e_bs, e_br, e_fo, hDA2, hZn2, -, hvs2, hnw2, -⟩ := id hC2
              have hna : ¬ under N n1 (spl n1 (!(kn.testBit n1)) E1) a := fun ⟨n8, E8, h81, h82, h83⟩ => by
                obtain ⟨n7, h71, h72, h73⟩ := hr1
                rw [h71] at h81; cases h81
                have h74 := h73 (by omega)
                have h75 := h83 (by omega)
                omega
              have hMa : Mx30 a = M1 a := by
                obtain ⟨n7, h71, h72, h73⟩ := id hr1
                obtain ⟨ky, vl, z, o, dg, q1, -⟩ := hW1.1 a _ _ h71
                rw [q1]
                exact hD20.2.2.1 a _ q1 (nd_ne hW1 h71 hH1.2.1) (nd_ne hW1 h71 hH1.2.2.1) (nd_ne hW1 h71 hH1.2.2.2.1) hna
              have hlfB : lfB Mx30 a (kn.testBit n1) = lfB M1 a (kn.testBit n1) := lfB_same hMa
              have hrB := lfB_rt hW1 hr1 c_38 (kn.testBit n1)
              have hprE : prU n1 Mx30 (lfB M1 a (kn.testBit n1)) kn (spl n1 (kn.testBit n1) E1) = prU n1 M1 (lfB M1 a (kn.testBit n1)) kn (spl n1 (kn.testBit n1) E1) := prU_eq hW1 kn n1 _ _ hrB (fun q8 hq8 => by
                obtain ⟨n8, E8, h81, h82, h83⟩ := hq8
                obtain ⟨ky8, vl8, z8, o8, dg8, h84, -, -, h85⟩ := hW1.1 q8 n8 E8 h81
                have hne8 : E8 ≠ [] := by rcases h85 with ⟨k8, h86, -⟩ | ⟨m8, -, -, h86, -⟩ <;> intro h87 <;> rw [h87] at h86 <;> simp at h86
                rw [hD20.2.2.1 q8 _ h84 (nd_ne hW1 h81 hH1.2.1) (nd_ne hW1 h81 hH1.2.2.1) (nd_ne hW1 h81 hH1.2.2.2.1) (fun ⟨n7, E7, h71, h72, _⟩ => by
                  rw [h81] at h71; cases h71
                  obtain ⟨x8, hx8⟩ := List.exists_mem_of_ne_nil E8 hne8
                  have h91 := (spl_mem.mp (h72 x8 hx8)).2
                  rw [(spl_mem.mp (h82 x8 hx8)).2] at h91
                  cases hb91 : kn.testBit n1 <;> rw [hb91] at h91 <;> cases h91), h84])
              refine lv_aload_n hx hb dX3_prove_70 rfl (lv_at hl 3 rfl) ?_
              refine hp_get (C := RX3) (T := TX3) (N := 6) (v := .ref pf) EE hm e_x inh3 rfl 3 (by decide) wf_X3_26 rfl dX3_prove_71 ?_
              refine hp_get (C := RX2) (T := TX2) (N := 5) (v := .ref bs) EE hm e_pf inh2 rfl 0 (by decide) wf_X3_91 rfl dX3_prove_74 ?_
              have e_b := e_br d (by omega)
              refine lv_iload hx hb dX3_prove_77 (lv_at hl 1 rfl) ?_
              refine hp_aaldRN EE hm e_bs d rfl (by omega) (by decide) dX3_prove_79 ?_
              refine hp_cv (hp_runS (np := 2) (k := 1) (mc := 0) (ms := 0) (As := [.ref b2, .ref (br d)]) (rest := []) EE hm hS (c_X3_copyWords l g Mx30 b2 (br d) f2 (rv1 d) e_b2 e_b (fun t => hbz.elim (fun h6 => (hDA.2.2.2.2.1 d (by omega)).1 (t ▸ h6)) (fun h6 => h6 (by rw [t]; exact hZn2 _ (Or.inr (Or.inr (Or.inr (Or.inr (Or.inr ⟨d, by omega, rfl⟩)))))))) ) ms_X3_copyWords wt_X3_copyWords wl_X3_95 rfl hl.1 rfl (Nat.le_of_ble_eq_true rfl) dX3_prove_80 ⟨Nat.le_of_ble_eq_true rfl, Nat.le_of_ble_eq_true rfl⟩ ⟨(by show uProve M kf nw σ v0 k0 - prU (n1 + 1) M1 (some a) kn E1 + (udT n1 M1 (lfB M1 a (!(kn.testBit n1)))) + 0 ≤ uProve M kf nw σ v0 k0; omega), (by show 8 * (uProve M kf nw σ v0 k0 - prU (n1 + 1) M1 (some a) kn E1) + (8 * (udT n1 M1 (lfB M1 a (!(kn.testBit n1))))) + 0 ≤ 8 * (uProve M kf nw σ v0 k0); omega)⟩) hS (fun Mx32 H locs hq33 hm hS => ?_)
              obtain ⟨f3, e_3, hfr3, hf3⟩ := hq33
              obtain ⟨hC4, hR4⟩ := CX.row hC2 (by omega) e_3 hfr3
              obtain ⟨hW4, -, e_x, e_kp, e_pf, e_bs, e_br, e_fo, -, -, -, -, -, -⟩ := id hC4
              have hnb : ∀ q y, N q = some y → q ≠ br d := fun q y hy => nd_ne hW2 hy e_b
              have hlfB : lfB Mx32 a (kn.testBit n1) = lfB M1 a (kn.testBit n1) := by
                obtain ⟨n7, h71, -⟩ := id hr1
                exact lfB_same ((hfr3 a (hnb a _ h71)).trans hMa)
              have hprF : prU n1 Mx32 (lfB M1 a (kn.testBit n1)) kn (spl n1 (kn.testBit n1) E1) = prU n1 Mx30 (lfB M1 a (kn.testBit n1)) kn (spl n1 (kn.testBit n1) E1) := prU_eq hW2 kn n1 _ _ hrB (fun q8 hq8 => by
                obtain ⟨n8, E8, h81, -⟩ := hq8
                exact hfr3 q8 (hnb q8 _ h81))
              refine lv_aload_n hx hb dX3_prove_83 rfl (lv_at hl 2 rfl) ?_
              refine lv_iload hx hb dX3_prove_84 (lv_at hl 1 rfl) ?_
              refine lv_iload hx hb dX3_prove_86 (lv_at hl 0 rfl) ?_
              refine hp_cq (hp_runS (np := 3) (k := 2) (mc := 0) (ms := 0) (As := [.ref a, .int (nI d), .int (bI (kn.testBit n1))]) (rest := []) EE hm hS (c_X3_half2 l g Mx32 N Z2 hW4 a n1 d (kn.testBit n1) E1 hr1 c_38) ms_X3_half wt_X3_half wl_X3_87 rfl hl.1 rfl (Nat.le_of_ble_eq_true rfl) dX3_prove_88 ⟨Nat.le_of_ble_eq_true rfl, Nat.le_of_ble_eq_true rfl⟩ ⟨(by show uProve M kf nw σ v0 k0 - prU (n1 + 1) M1 (some a) kn E1 + (udT n1 M1 (lfB M1 a (!(kn.testBit n1)))) + 0 ≤ uProve M kf nw σ v0 k0; omega), (by show 8 * (uProve M kf nw σ v0 k0 - prU (n1 + 1) M1 (some a) kn E1) + (8 * (udT n1 M1 (lfB M1 a (!(kn.testBit n1))))) + 0 ≤ 8 * (uProve M kf nw σ v0 k0); omega)⟩) hS (fun r34 Mx35 H locs hq36 hm hS => ?_)
              obtain ⟨hh9, h9⟩ := hq36
              rw [h9] at hm
              subst hh9
              rw [hlfB]
              refine hq_astore_n (lv' := [(3, va_rf (lfB M1 a (kn.testBit n1))), (5, .int (bI (kn.testBit n1))), (4, .int (nI d)), (0, .ref x), (1, .int v0), (2, .int (nI kn))]) hx hb dX3_prove_91 rfl hl (by decide) rfl (fun ls hl => ?_)
              refine lv_iinc (v := nI (d + 1)) (lv' := [(4, .int (nI (d + 1))), (3, va_rf (lfB M1 a (kn.testBit n1))), (5, .int (bI (kn.testBit n1))), (0, .ref x), (1, .int v0), (2, .int (nI kn))]) hx hb dX3_prove_92 hl (k := 2) rfl (nI_1 _) (by decide) (by simp [cat_rf]) (fun ls hl => ?_)
              refine lv_goto (tgt := 26) hx hb dX3_prove_95 (by decide) ?_
              refine W.widen (k := uProve M kf nw σ v0 k0 - prU n1 Mx32 (lfB M1 a (kn.testBit n1)) kn (spl n1 (kn.testBit n1) E1)) (n := 8 * (uProve M kf nw σ v0 k0 - prU n1 Mx32 (lfB M1 a (kn.testBit n1)) kn (spl n1 (kn.testBit n1) E1))) (by omega) (by omega) ?_
              refine ih (d + 1) n1 _ Z2 fm2 fs2 fa2 _ _ _ H locs ls (by omega) (by omega) hC4 hrB (by omega) (hR1.tr (hR2.tr hR4 (Nat.le_refl _)) (by omega)) (by show _ = spl (15 - d) (kn.testBit (15 - d)) (way kn (mapV σ v0) d); rw [show 15 - d = n1 by omega, ← hwy]) (fun i hi j hj => ?_) (by rw [← hen, endE_2 (by omega)]) (by have h8 := prN_2 (n := n1) (k := kn) (E := E1) (by omega); omega) hm hS (lv_sub hl [0, 1, 3, 4, 5] rfl)
              show (if i = d then f3 else rv1 i) j = _
              by_cases t : i = d
              · rw [if_pos t, hf3 j hj, hf2 j hj, t]; unfold sibV; rw [show 15 - d = n1 by omega, ← hwy]
              · rw [if_neg t]; exact hrow i (by omega) j hj
      have hpu0 : prU 16 M r7 kn (mapV σ v0) = uProve M kf nw σ v0 k0 := by rw [hut, hro]
      refine W.widen (k := uProve M kf nw σ v0 k0 - prU 16 M r7 kn (mapV σ v0)) (n := 8 * (uProve M kf nw σ v0 k0 - prU 16 M r7 kn (mapV σ v0))) (Nat.zero_le _) (Nat.zero_le _) ?_
      exact lp 17 0 16 M Z fm fs fa rv r7 (mapV σ v0) H locs ls (by omega) (by omega) (CX.rows hC0) hrt (by omega) (by rw [hpu0, Nat.sub_self]; exact CR.rf) rfl (fun i hi => absurd hi (Nat.not_lt_zero i)) rfl (by omega) hm hS (lv_sub hl [0, 1, 2, 3, 4] rfl)
    · have c_12 := bI_f c_12
      refine lv_iconst (v := (-1)) hx hb dX3_prove_15 (by decide) ?_
      exact ret dX3_prove_16 na_i hm hS (by omega) (by omega) (⟨by unfold sProve; first | (rw [c_5]; rfl) | (rw [c_5, c_12]; rfl), by unfold uProve sProve; first | (rw [c_5]; exact CP.rf hC0) | (rw [c_5, c_12]; exact CP.rf hC0)⟩)
end
section
/-! the reference: one object with rows of numbers -/
def AR : List Nat := [0, 1, 2, 3, 4, 5, 8, 9, 10, 11, 12, 13, 14, 16, 17, 18, 20]
def rl (k : Nat) : Nat := (#[64, 8, 18300, 18300, 61, 488, 0, 0, 128, 64, 8, 300, 300, 300, 2400, 0, 17, 17, 136, 0, 128] : Array Nat).getD k 0
def rF (ad : Nat → Nat) (V : Nat → Int32) : List Value := [.ref (ad 0), .ref (ad 1), .ref (ad 2), .ref (ad 3), .ref (ad 4), .ref (ad 5), .int (V 6), .int (V 7), .ref (ad 8), .ref (ad 9), .ref (ad 10), .ref (ad 11), .ref (ad 12), .ref (ad 13), .ref (ad 14), .int (V 15), .ref (ad 16), .ref (ad 17), .ref (ad 18), .int (V 19), .ref (ad 20), .int (V 21), .int (V 22), .int (V 23)]
def RS (g : hG) (M : hM) (y : Nat) (ad : Nat → Nat) (S : Nat → Nat → Int32) (V : Nat → Int32) : Prop := M y = some (.inr (4, rF ad V)) ∧ (∀ k, k ∈ AR → M (ad k) = some (aI g (rl k) (S k))) ∧ ∀ i j, i ∈ AR → j ∈ AR → ad i = ad j → i = j
def rO (y : Nat) (ad : Nat → Nat) (q : Nat) : Prop := q = y ∨ ∃ k, k ∈ AR ∧ q = ad k
def sU (S : Nat → Nat → Int32) (k i : Nat) (v : Int32) : Nat → Nat → Int32 := fun k1 => if k1 = k then upd (S k) i v else S k1
def vU (V : Nat → Int32) (k : Nat) (v : Int32) : Nat → Int32 := fun k1 => if k1 = k then v else V k1
theorem sU_o {S : Nat → Nat → Int32} {k i k1 : Nat} {v : Int32} (h : k1 ≠ k) : sU S k i v k1 = S k1 := if_neg h
theorem sU_s {S : Nat → Nat → Int32} {k i : Nat} {v : Int32} : sU S k i v k = upd (S k) i v := if_pos rfl
theorem sU_i {S : Nat → Nat → Int32} {k i : Nat} {v : Int32} : sU S k i v k i = v := by rw [sU_s, pk_us]
theorem sU_n {S : Nat → Nat → Int32} {k i j : Nat} {v : Int32} (h : j ≠ i) : sU S k i v k j = S k j := by rw [sU_s, pk_un h]
theorem vU_s {V : Nat → Int32} {k : Nat} {v : Int32} : vU V k v k = v := if_pos rfl
theorem vU_o {V : Nat → Int32} {k k1 : Nat} {v : Int32} (h : k1 ≠ k) : vU V k v k1 = V k1 := if_neg h
theorem RS.st {g : hG} {M M9 : hM} {y : Nat} {ad : Nat → Nat} {S : Nat → Nat → Int32} {V : Nat → Int32} (h : RS g M y ad S V) {k i : Nat} {v : Int32} (hk : k ∈ AR) (e : M9 (ad k) = some (aI g (rl k) (upd (S k) i v))) (hf : ∀ q, q ≠ ad k → M9 q = M q) : RS g M9 y ad (sU S k i v) V := by
  obtain ⟨h1, h2, h3⟩ := h
  refine ⟨(hf y (ne_lk h1 (h2 k hk) (by simp))).trans h1, fun k1 hk1 => ?_, h3⟩
  by_cases t : k1 = k
  · subst t; rw [sU_s]; exact e
  · rw [sU_o t, hf _ (fun z => t (h3 k1 k hk1 hk z))]; exact h2 k1 hk1
theorem RS.pt {g : hG} {M M9 : hM} {y : Nat} {ad : Nat → Nat} {S : Nat → Nat → Int32} {V V9 : Nat → Int32} (h : RS g M y ad S V) (e : M9 y = some (.inr (4, rF ad V9))) (hf : ∀ q, q ≠ y → M9 q = M q) : RS g M9 y ad S V9 := by
  obtain ⟨h1, h2, h3⟩ := h
  exact ⟨e, fun k1 hk1 => (hf _ (Ne.symm (ne_lk h1 (h2 k1 hk1) (by simp)))).trans (h2 k1 hk1), h3⟩
section HR
variable {p : Program} {l : Launch} {e : Env} {R : Room} {s : State} {m : MethodId} {args : Array Value} {below : List Frame} {meth : Method} {c : Code} {H : Heap} {locs : List Loc} {cells slots : Nat} {Q : State → Prop}
variable {cc : ByteArray} {pc : Nat} {ls : Array Slot} {rest : List Value} {g : hG} {M M0 : hM} {own : String} {nL y : Nat} {ad : Nat → Nat} {S : Nat → Nat → Int32} {V : Nat → Int32}
theorem hr_get (E : hE p c cc nL s args m own g) (hm : hp g M H) (hR : RS g M y ad S V) {index : Nat} (k : Nat) (hk : k < 24) (hlink : Cond.fieldLink own index (TX4 k).1 (TX4 k).2.1 (TX4 k).2.2.1 ∈ hT) {v : Value} (hv : (rF ad V)[k]? = some v) (hdg : decode cc pc = .ok (.getfield index, 3))
    (kk : W p l e R s m args below meth c H locs cells slots Q (F0 m (pc + 3) ls (v :: rest))) : W p l e R s m args below meth c H locs cells slots Q (F0 m pc ls (.ref y :: rest)) :=
  hp_get (C := RX4) (T := TX4) (N := 24) E hm hR.1 inh4 rfl k hk hlink hv hdg kk
theorem hr_ald (E : hE p c cc nL s args m own g) (hm : hp g M H) (hR : RS g M y ad S V) {x : Int32} (k i : Nat) (hk : k ∈ AR) (hi : x = nI i) (hlt : i < rl k) (hn : rl k < 2 ^ 31) (hdg : decode cc pc = .ok (.iaload, 1))
    (kk : W p l e R s m args below meth c H locs cells slots Q (F0 m (pc + 1) ls (.int (S k i) :: rest))) : W p l e R s m args below meth c H locs cells slots Q (F0 m pc ls (.int x :: .ref (ad k) :: rest)) :=
  hp_ialdN E hm (hR.2.1 k hk) i hi hlt hn hdg kk
theorem hr_ast (E : hE p c cc nL s args m own g) (hm : hp g M H) (hS : va_S (hA g) s.heap H locs) (hR : RS g M y ad S V) (hF : ∀ q, ¬ rO y ad q → M q = M0 q) {x v : Int32} (k i : Nat) (hk : k ∈ AR) (hi : x = nI i) (hlt : i < rl k) (hn : rl k < 2 ^ 31) (hdg : decode cc pc = .ok (.iastore, 1))
    (kk : ∀ (H1 : Heap) (locs1 : List Loc) (M1 : hM), hp g M1 H1 → va_S (hA g) s.heap H1 locs1 → RS g M1 y ad (sU S k i v) V → (∀ q, ¬ rO y ad q → M1 q = M0 q) → W p l e R s m args below meth c H1 locs1 cells slots Q (F0 m (pc + 1) ls rest)) : W p l e R s m args below meth c H locs cells slots Q (F0 m pc ls (.int v :: .int x :: .ref (ad k) :: rest)) := by
  refine hp_iastN E hm hS (hR.2.1 k hk) i hi hlt hn hdg (fun H1 locs1 hm1 hS1 => kk H1 locs1 _ hm1 hS1 (hR.st hk up_eq (fun q hq => up_ne hq)) (fun q hq => ?_))
  rw [up_ne (fun t => hq (Or.inr ⟨k, hk, t⟩))]
  exact hF q hq
theorem hr_put (E : hE p c cc nL s args m own g) (hm : hp g M H) (hS : va_S (hA g) s.heap H locs) (hR : RS g M y ad S V) (hF : ∀ q, ¬ rO y ad q → M q = M0 q) {index : Nat} {v : Int32} {ty : FieldType} (V9 : Nat → Int32) (k : Nat) (hk : k < 24) (hlink : Cond.fieldLink own index (TX4 k).1 (TX4 k).2.1 (TX4 k).2.2.1 ∈ hT) (hfin : (TX4 k).2.2.2 = false) (hd : parseFieldDescriptor (TX4 k).2.2.1 = some ty) (hn : narrow ty (.int v) = .int v) (hfit : fits ty (.int v) = true) (hv : (rF ad V).set k (.int v) = rF ad V9) (hdg : decode cc pc = .ok (.putfield index, 3))
    (kk : ∀ (H1 : Heap) (locs1 : List Loc) (M1 : hM), hp g M1 H1 → va_S (hA g) s.heap H1 locs1 → RS g M1 y ad S V9 → (∀ q, ¬ rO y ad q → M1 q = M0 q) → W p l e R s m args below meth c H1 locs1 cells slots Q (F0 m (pc + 3) ls rest)) : W p l e R s m args below meth c H locs cells slots Q (F0 m pc ls (.int v :: .ref y :: rest)) := by
  refine hp_put (C := RX4) (T := TX4) (N := 24) E hm hS hR.1 inh4 tyX4 tyX4_ok nmX4 rfl k hk hlink hfin hd hn hfit hk hdg (fun H1 locs1 hm1 hS1 => kk H1 locs1 _ hm1 hS1 (hR.pt (by rw [up_eq, hv]) (fun q hq => up_ne hq)) (fun q hq => ?_))
  rw [up_ne (fun t => hq (Or.inl t))]
  exact hF q hq
end HR
/-- a row of the map: E in the rows 2 (keys), 3 (values), 4 (sizes) -/
def rowE (S : Nat → Nat → Int32) (r : Nat) (E : En) : Prop := S 4 r = nI E.length ∧ ∀ j (h : j < E.length), S 2 (300 * r + j) = nI (E[j]).1 ∧ S 3 (300 * r + j) = (E[j]).2
/-- the reference's world with the state σ -/
def RW (g : hG) (M : hM) (y : Nat) (ad : Nat → Nat) (S : Nat → Nat → Int32) (V : Nat → Int32) (σ : cSt) : Prop :=
  RS g M y ad S V ∧ sOK σ ∧ (∀ j, j < 64 → S 0 j = kRound j) ∧ (∀ j, j < 8 → S 1 j = kStart j) ∧ V 6 = nI (sKc σ) ∧ (∀ j, j < sKc σ → rowE S j (sVs σ j)) ∧ rowE S 60 (sNow σ) ∧ (∀ j, j < sKc σ → ∀ i, i < 8 → S 5 (8 * j + i) = dgF 16 (sVs σ j) i) ∧ (∃ kw, V 7 = bI kw ∧ (kw = true → ∀ i, i < 8 → S 5 (8 * 60 + i) = dgF 16 (sNow σ) i)) ∧ V 19 = nI (sPl σ) ∧ V 21 = bI (sPe σ) ∧ V 22 = sPk σ ∧ V 23 = sPv σ ∧ ∀ i, i < sPl σ → ∀ j, j < 8 → S 20 (8 * i + j) = sSb σ i j
/-- behind a call of the reference -/
def RP (g : hG) (M : hM) (y : Nat) (ad : Nat → Nat) (M9 : hM) (σ9 : cSt) : Prop := ∃ S9 V9, RW g M9 y ad S9 V9 σ9 ∧ ∀ q, ¬ rO y ad q → M9 q = M q
theorem RP.rf {g : hG} {M : hM} {y : Nat} {ad : Nat → Nat} {S : Nat → Nat → Int32} {V : Nat → Int32} {σ : cSt} (h : RW g M y ad S V σ) : RP g M y ad M σ := ⟨S, V, h, fun _ _ => rfl⟩
end
section
theorem add_n {x y : Int32} {a b : Nat} (h : x = nI a) (h2 : y = nI b) : x + y = nI (a + b) := by rw [h, h2]; exact nI_add a b
theorem mul_n {x y : Int32} {a b : Nat} (h : x = nI a) (h2 : y = nI b) : x * y = nI (a * b) := by rw [h, h2]; exact pk_mul a b
theorem sub_n {x y : Int32} {a b : Nat} (h : x = nI a) (h2 : y = nI b) (hb : b ≤ a) : x - y = nI (a - b) := by rw [h, h2]; exact pk_sub hb
theorem inc_n {x : Int32} {a : Nat} (h : x = nI a) : x + 1 = nI (a + 1) := by rw [h]; exact nI_1 a
theorem leN {x y : Int32} {a b : Nat} (h : x = nI a) (h2 : y = nI b) (ha : a < 2 ^ 31) (hb : b < 2 ^ 31) : x ≤ y ↔ a ≤ b := by rw [h, h2]; exact nI_leI ha hb
theorem ltN {x y : Int32} {a b : Nat} (h : x = nI a) (h2 : y = nI b) (ha : a < 2 ^ 31) (hb : b < 2 ^ 31) : x < y ↔ a < b := by rw [h, h2]; exact nI_ltI ha hb
theorem eqN {x y : Int32} {a b : Nat} (h : x = nI a) (h2 : y = nI b) (ha : a < 2 ^ 31) (hb : b < 2 ^ 31) : x = y ↔ a = b := by rw [h, h2]; exact nI_eq ha hb
set_option maxHeartbeats 4000000 in
set_option maxRecDepth 100000 in
theorem c_X4_isVersion (l : Launch) (g : hG) (M : hM) (y : Nat) (ad : Nat → Nat) (S : Nat → Nat → Int32) (V : Nat → Int32) (σ : cSt) (hw : RW g M y ad S V σ) (v0 : Int32) : Ci l g yX4_isVersion cX4_isVersion 2 .boolean 1 0 0 [.ref y, .int v0] M (fun r M9 => r = bI (isV σ v0) ∧ M9 = M) := by
  obtain ⟨hR, ⟨hkc, hvg, hgn, hpl, hpk⟩, hk0, hk1, hv6, hrows, hnow, hdv, ⟨kw, hv7, hdn⟩, hv19, hv21, hv22, hv23, hsb⟩ := id hw
  refine hp_startI (by decide) (by exact Nat.le_of_ble_eq_true rfl) ?_
  intro p e s m below meth c Q H locs ls EE hnm ret hm hS hl
  have hx := EE.1
  have hb := EE.2.1
  have hown := EE.2.2.2.1
  have hts := EE.2.2.2.2.1
  have hl : lv_has ls 2 [(0, .ref y), (1, .int v0)] := hl
  have hF : ∀ q, ¬ rO y ad q → M q = M q := fun _ _ => rfl
  refine lv_iload_n hx hb dX4_isVersion_0 rfl (lv_at hl 1 rfl) ?_
  refine lv_iconst (v := (-1)) hx hb dX4_isVersion_1 (by decide) ?_
  refine lv_icmp_lt (tgt := 17) hx hb dX4_isVersion_2 (by decide) (fun c_2 => ?_) (fun c_2 => ?_)
  · refine lv_iconst (v := 0) hx hb dX4_isVersion_17 (by decide) ?_
    exact ret dX4_isVersion_18 na_0 hm hS (Nat.le_of_ble_eq_true rfl) (Nat.le_of_ble_eq_true rfl) (⟨by first | (rw [isV_a c_2]; rfl) | (rw [hv6] at c_10; first | (rw [isV_b c_10]; rfl) | (rw [isV_c c_2 c_10]; rfl)), rfl⟩)
  · refine lv_iload_n hx hb dX4_isVersion_5 rfl (lv_at hl 1 rfl) ?_
    refine lv_aload_n hx hb dX4_isVersion_6 rfl (lv_at hl 0 rfl) ?_
    refine hr_get EE hm hR 6 (by decide) wf_X4_134 (v := .int (V 6)) rfl dX4_isVersion_7 ?_
    refine lv_icmp_ge (tgt := 17) hx hb dX4_isVersion_10 (by decide) (fun c_10 => ?_) (fun c_10 => ?_)
    · refine lv_iconst (v := 0) hx hb dX4_isVersion_17 (by decide) ?_
      exact ret dX4_isVersion_18 na_0 hm hS (Nat.le_of_ble_eq_true rfl) (Nat.le_of_ble_eq_true rfl) (⟨by first | (rw [isV_a c_2]; rfl) | (rw [hv6] at c_10; first | (rw [isV_b c_10]; rfl) | (rw [isV_c c_2 c_10]; rfl)), rfl⟩)
    · refine lv_iconst (v := 1) hx hb dX4_isVersion_13 (by decide) ?_
      refine lv_goto (tgt := 18) hx hb dX4_isVersion_14 (by decide) ?_
      exact ret dX4_isVersion_18 na_1 hm hS (Nat.le_of_ble_eq_true rfl) (Nat.le_of_ble_eq_true rfl) (⟨by first | (rw [isV_a c_2]; rfl) | (rw [hv6] at c_10; first | (rw [isV_b c_10]; rfl) | (rw [isV_c c_2 c_10]; rfl)), rfl⟩)
set_option maxHeartbeats 4000000 in
set_option maxRecDepth 100000 in
theorem c_X4_siblings (l : Launch) (g : hG) (M : hM) (y : Nat) (ad : Nat → Nat) (S : Nat → Nat → Int32) (V : Nat → Int32) (σ : cSt) (hw : RW g M y ad S V σ) : Ci l g yX4_siblings cX4_siblings 1 .int 1 0 0 [.ref y] M (fun r M9 => r = nI (sPl σ) ∧ M9 = M) := by
  obtain ⟨hR, ⟨hkc, hvg, hgn, hpl, hpk⟩, hk0, hk1, hv6, hrows, hnow, hdv, ⟨kw, hv7, hdn⟩, hv19, hv21, hv22, hv23, hsb⟩ := id hw
  refine hp_startI (by decide) (by exact Nat.le_of_ble_eq_true rfl) ?_
  intro p e s m below meth c Q H locs ls EE hnm ret hm hS hl
  have hx := EE.1
  have hb := EE.2.1
  have hown := EE.2.2.2.1
  have hts := EE.2.2.2.2.1
  have hl : lv_has ls 1 [(0, .ref y)] := hl
  have hF : ∀ q, ¬ rO y ad q → M q = M q := fun _ _ => rfl
  refine lv_aload_n hx hb dX4_siblings_0 rfl (lv_at hl 0 rfl) ?_
  refine hr_get EE hm hR 19 (by decide) wf_X4_208 (v := .int (V 19)) rfl dX4_siblings_1 ?_
  exact ret dX4_siblings_4 na_i hm hS (Nat.le_of_ble_eq_true rfl) (Nat.le_of_ble_eq_true rfl) (⟨hv19, rfl⟩)
set_option maxHeartbeats 4000000 in
set_option maxRecDepth 100000 in
theorem c_X4_versions (l : Launch) (g : hG) (M : hM) (y : Nat) (ad : Nat → Nat) (S : Nat → Nat → Int32) (V : Nat → Int32) (σ : cSt) (hw : RW g M y ad S V σ) : Ci l g yX4_versions cX4_versions 1 .int 1 0 0 [.ref y] M (fun r M9 => r = nI (sKc σ) ∧ M9 = M) := by
  obtain ⟨hR, ⟨hkc, hvg, hgn, hpl, hpk⟩, hk0, hk1, hv6, hrows, hnow, hdv, ⟨kw, hv7, hdn⟩, hv19, hv21, hv22, hv23, hsb⟩ := id hw
  refine hp_startI (by decide) (by exact Nat.le_of_ble_eq_true rfl) ?_
  intro p e s m below meth c Q H locs ls EE hnm ret hm hS hl
  have hx := EE.1
  have hb := EE.2.1
  have hown := EE.2.2.2.1
  have hts := EE.2.2.2.2.1
  have hl : lv_has ls 1 [(0, .ref y)] := hl
  have hF : ∀ q, ¬ rO y ad q → M q = M q := fun _ _ => rfl
  refine lv_aload_n hx hb dX4_versions_0 rfl (lv_at hl 0 rfl) ?_
  refine hr_get EE hm hR 6 (by decide) wf_X4_134 (v := .int (V 6)) rfl dX4_versions_1 ?_
  exact ret dX4_versions_4 na_i hm hS (Nat.le_of_ble_eq_true rfl) (Nat.le_of_ble_eq_true rfl) (⟨hv6, rfl⟩)
theorem isSW {a b : Bool} {x : Int32} (h : x = bI a) (h2 : a = b) : x = bI b := by rw [h, h2]
set_option maxHeartbeats 4000000 in
set_option maxRecDepth 100000 in
theorem c_X4_isSibling (l : Launch) (g : hG) (M : hM) (y : Nat) (ad : Nat → Nat) (S : Nat → Nat → Int32) (V : Nat → Int32) (σ : cSt) (hw : RW g M y ad S V σ) (k0 i0 : Int32) : Ci l g yX4_isSibling cX4_isSibling 3 .boolean 1 0 0 [.ref y, .int k0, .int i0] M (fun r M9 => r = bI (isS σ k0 && isW i0) ∧ M9 = M) := by
  obtain ⟨hR, ⟨hkc, hvg, hgn, hpl, hpk⟩, hk0, hk1, hv6, hrows, hnow, hdv, ⟨kw, hv7, hdn⟩, hv19, hv21, hv22, hv23, hsb⟩ := id hw
  refine hp_startI (by decide) (by exact Nat.le_of_ble_eq_true rfl) ?_
  intro p e s m below meth c Q H locs ls EE hnm ret hm hS hl
  have hx := EE.1
  have hb := EE.2.1
  have hown := EE.2.2.2.1
  have hts := EE.2.2.2.2.1
  have hl : lv_has ls 3 [(0, .ref y), (1, .int k0), (2, .int i0)] := hl
  have hF : ∀ q, ¬ rO y ad q → M q = M q := fun _ _ => rfl
  refine lv_iload_n hx hb dX4_isSibling_0 rfl (lv_at hl 1 rfl) ?_
  refine lv_if_lt (tgt := 26) hx hb dX4_isSibling_1 (by decide) (fun c_1 => ?_) (fun c_1 => ?_)
  · refine lv_iconst (v := 0) hx hb dX4_isSibling_26 (by decide) ?_
    exact ret dX4_isSibling_27 na_0 hm hS (Nat.le_of_ble_eq_true rfl) (Nat.le_of_ble_eq_true rfl) (⟨by first | (rw [isS_a c_1]; rfl) | (rw [hv19] at c_9; rw [isS_b c_9]; rfl) | (rw [isW_a c_13, Bool.and_false]; rfl) | (rw [isW_b c_19, Bool.and_false]; rfl) | (rw [hv19] at c_9; rw [isS_c c_1 c_9, isW_c c_13 c_19]; rfl), rfl⟩)
  · refine lv_iload_n hx hb dX4_isSibling_4 rfl (lv_at hl 1 rfl) ?_
    refine lv_aload_n hx hb dX4_isSibling_5 rfl (lv_at hl 0 rfl) ?_
    refine hr_get EE hm hR 19 (by decide) wf_X4_208 (v := .int (V 19)) rfl dX4_isSibling_6 ?_
    refine lv_icmp_ge (tgt := 26) hx hb dX4_isSibling_9 (by decide) (fun c_9 => ?_) (fun c_9 => ?_)
    · refine lv_iconst (v := 0) hx hb dX4_isSibling_26 (by decide) ?_
      exact ret dX4_isSibling_27 na_0 hm hS (Nat.le_of_ble_eq_true rfl) (Nat.le_of_ble_eq_true rfl) (⟨by first | (rw [isS_a c_1]; rfl) | (rw [hv19] at c_9; rw [isS_b c_9]; rfl) | (rw [isW_a c_13, Bool.and_false]; rfl) | (rw [isW_b c_19, Bool.and_false]; rfl) | (rw [hv19] at c_9; rw [isS_c c_1 c_9, isW_c c_13 c_19]; rfl), rfl⟩)
    · refine lv_iload_n hx hb dX4_isSibling_12 rfl (lv_at hl 2 rfl) ?_
      refine lv_if_lt (tgt := 26) hx hb dX4_isSibling_13 (by decide) (fun c_13 => ?_) (fun c_13 => ?_)
      · refine lv_iconst (v := 0) hx hb dX4_isSibling_26 (by decide) ?_
        exact ret dX4_isSibling_27 na_0 hm hS (Nat.le_of_ble_eq_true rfl) (Nat.le_of_ble_eq_true rfl) (⟨by first | (rw [isS_a c_1]; rfl) | (rw [hv19] at c_9; rw [isS_b c_9]; rfl) | (rw [isW_a c_13, Bool.and_false]; rfl) | (rw [isW_b c_19, Bool.and_false]; rfl) | (rw [hv19] at c_9; rw [isS_c c_1 c_9, isW_c c_13 c_19]; rfl), rfl⟩)
      · refine lv_iload_n hx hb dX4_isSibling_16 rfl (lv_at hl 2 rfl) ?_
        refine lv_bipush (v := 8) hx hb dX4_isSibling_17 (by decide) ?_
        refine lv_icmp_ge (tgt := 26) hx hb dX4_isSibling_19 (by decide) (fun c_19 => ?_) (fun c_19 => ?_)
        · refine lv_iconst (v := 0) hx hb dX4_isSibling_26 (by decide) ?_
          exact ret dX4_isSibling_27 na_0 hm hS (Nat.le_of_ble_eq_true rfl) (Nat.le_of_ble_eq_true rfl) (⟨by first | (rw [isS_a c_1]; rfl) | (rw [hv19] at c_9; rw [isS_b c_9]; rfl) | (rw [isW_a c_13, Bool.and_false]; rfl) | (rw [isW_b c_19, Bool.and_false]; rfl) | (rw [hv19] at c_9; rw [isS_c c_1 c_9, isW_c c_13 c_19]; rfl), rfl⟩)
        · refine lv_iconst (v := 1) hx hb dX4_isSibling_22 (by decide) ?_
          refine lv_goto (tgt := 27) hx hb dX4_isSibling_23 (by decide) ?_
          exact ret dX4_isSibling_27 na_1 hm hS (Nat.le_of_ble_eq_true rfl) (Nat.le_of_ble_eq_true rfl) (⟨by first | (rw [isS_a c_1]; rfl) | (rw [hv19] at c_9; rw [isS_b c_9]; rfl) | (rw [isW_a c_13, Bool.and_false]; rfl) | (rw [isW_b c_19, Bool.and_false]; rfl) | (rw [hv19] at c_9; rw [isS_c c_1 c_9, isW_c c_13 c_19]; rfl), rfl⟩)
theorem rowO_nat {σ : cSt} {v : Int32} (hk : sKc σ ≤ 60) (h : isV σ v = true) : ∃ r, r < 61 ∧ rowO v = nI r ∧ ((r = 60 ∧ mapV σ v = sNow σ) ∨ (r < sKc σ ∧ mapV σ v = sVs σ r)) := by
  rcases isV_nat hk h with ⟨h1, h2⟩ | ⟨j, h1, h2, h3⟩
  · exact ⟨60, by decide, by rw [h1]; decide, Or.inl ⟨rfl, h2⟩⟩
  · refine ⟨j, by omega, ?_, Or.inr ⟨h1, h3⟩⟩
    unfold rowO
    rw [if_pos (by rw [h2]; exact nI_pos' (by omega)), h2]
theorem row_of {g : hG} {M : hM} {y : Nat} {ad : Nat → Nat} {S : Nat → Nat → Int32} {V : Nat → Int32} {σ : cSt} (hw : RW g M y ad S V σ) {r : Nat} {v : Int32} (h : (r = 60 ∧ mapV σ v = sNow σ) ∨ (r < sKc σ ∧ mapV σ v = sVs σ r)) : rowE S r (mapV σ v) := by
  obtain ⟨hR, hok, hk0, hk1, hv6, hrows, hnow, -⟩ := hw
  rcases h with ⟨h1, h2⟩ | ⟨h1, h2⟩
  · rw [h1, h2]; exact hnow
  · rw [h2]; exact hrows r h1
set_option maxHeartbeats 4000000 in
set_option maxRecDepth 100000 in
theorem c_X4_size (l : Launch) (g : hG) (M : hM) (y : Nat) (ad : Nat → Nat) (S : Nat → Nat → Int32) (V : Nat → Int32) (σ : cSt) (hw : RW g M y ad S V σ) (v0 : Int32) : Ci l g yX4_size cX4_size 2 .int 2 0 0 [.ref y, .int v0] M (fun r M9 => r = rSize σ v0 ∧ M9 = M) := by
  obtain ⟨hR, ⟨hkc, hvg, hgn, hpl, hpk⟩, hk0, hk1, hv6, hrows, hnow, hdv, ⟨kw, hv7, hdn⟩, hv19, hv21, hv22, hv23, hsb⟩ := id hw
  refine hp_startI (by decide) (by exact Nat.le_of_ble_eq_true rfl) ?_
  intro p e s m below meth c Q H locs ls EE hnm ret hm hS hl
  have hx := EE.1
  have hb := EE.2.1
  have hown := EE.2.2.2.1
  have hts := EE.2.2.2.2.1
  have hl : lv_has ls 2 [(0, .ref y), (1, .int v0)] := hl
  have hF : ∀ q, ¬ rO y ad q → M q = M q := fun _ _ => rfl
  refine lv_aload_n hx hb dX4_size_0 rfl (lv_at hl 0 rfl) ?_
  refine lv_iload_n hx hb dX4_size_1 rfl (lv_at hl 1 rfl) ?_
  refine hp_ci (hp_runV (C := RX4) (T := TX4) (N := 24) (np := 1) (k := 1) (mc := 0) (ms := 0) (As := [.int v0]) (rest := []) EE hm hS (c_X4_isVersion l g M y ad S V σ hw v0) ms_X4_isVersion wi_X4_isVersion ws_X4_isVersion wl_X4_193 hR.1 rfl rfl hl.1 rfl (Nat.le_of_ble_eq_true rfl) dX4_size_2 ⟨Nat.le_of_ble_eq_true rfl, Nat.le_of_ble_eq_true rfl⟩ ⟨(Nat.le_of_ble_eq_true rfl), (Nat.le_of_ble_eq_true rfl)⟩) hS (fun r1 Mx2 H locs hq3 hm hS => ?_)
  obtain ⟨rfl, h9⟩ := hq3
  rw [h9] at hm
  refine lv_if_eq (tgt := 20) hx hb dX4_size_5 (by decide) (fun c_5 => ?_) (fun c_5 => ?_)
  · have c_5 := bI_f c_5
    refine lv_iconst (v := (-1)) hx hb dX4_size_20 (by decide) ?_
    exact ret dX4_size_21 na_i hm hS (Nat.le_of_ble_eq_true rfl) (Nat.le_of_ble_eq_true rfl) (⟨by unfold rSize; rw [c_5]; rfl, rfl⟩)
  · have c_5 := bI_t c_5
    obtain ⟨r0, hr0, hro, hrc⟩ := rowO_nat hkc c_5
    have hrow := row_of hw hrc
    refine lv_aload_n hx hb dX4_size_8 rfl (lv_at hl 0 rfl) ?_
    refine hr_get EE hm hR 4 (by decide) wf_X4_94 (v := .ref (ad 4)) rfl dX4_size_9 ?_
    refine lv_iload_n hx hb dX4_size_12 rfl (lv_at hl 1 rfl) ?_
    refine hp_ci (hp_runS (np := 1) (k := 1) (mc := 0) (ms := 0) (As := [.int v0]) (rest := [.ref (ad 4)]) EE hm hS (c_X4_rowOf l g M v0) ms_X4_rowOf wt_X4_rowOf wl_X4_198 rfl hl.1 rfl (Nat.le_of_ble_eq_true rfl) dX4_size_13 ⟨Nat.le_of_ble_eq_true rfl, Nat.le_of_ble_eq_true rfl⟩ ⟨(Nat.le_of_ble_eq_true rfl), (Nat.le_of_ble_eq_true rfl)⟩) hS (fun r4 Mx5 H locs hq6 hm hS => ?_)
    obtain ⟨rfl, h9⟩ := hq6
    rw [h9] at hm
    refine hr_ald EE hm hR 4 r0 (by decide) hro (by show r0 < 61; omega) (by decide) dX4_size_16 ?_
    refine lv_goto (tgt := 21) hx hb dX4_size_17 (by decide) ?_
    exact ret dX4_size_21 na_i hm hS (Nat.le_of_ble_eq_true rfl) (Nat.le_of_ble_eq_true rfl) (⟨by unfold rSize; rw [c_5, hrow.1]; rfl, rfl⟩)
set_option maxHeartbeats 4000000 in
set_option maxRecDepth 100000 in
theorem c_X4_sibling (l : Launch) (g : hG) (M : hM) (y : Nat) (ad : Nat → Nat) (S : Nat → Nat → Int32) (V : Nat → Int32) (σ : cSt) (hw : RW g M y ad S V σ) (k0 i0 : Int32) : Ci l g yX4_sibling cX4_sibling 3 .int 2 0 0 [.ref y, .int k0, .int i0] M (fun r M9 => r = rSib σ k0 i0 ∧ M9 = M) := by
  obtain ⟨hR, ⟨hkc, hvg, hgn, hpl, hpk⟩, hk0, hk1, hv6, hrows, hnow, hdv, ⟨kw, hv7, hdn⟩, hv19, hv21, hv22, hv23, hsb⟩ := id hw
  refine hp_startI (by decide) (by exact Nat.le_of_ble_eq_true rfl) ?_
  intro p e s m below meth c Q H locs ls EE hnm ret hm hS hl
  have hx := EE.1
  have hb := EE.2.1
  have hown := EE.2.2.2.1
  have hts := EE.2.2.2.2.1
  have hl : lv_has ls 3 [(0, .ref y), (1, .int k0), (2, .int i0)] := hl
  have hF : ∀ q, ¬ rO y ad q → M q = M q := fun _ _ => rfl
  refine lv_aload_n hx hb dX4_sibling_0 rfl (lv_at hl 0 rfl) ?_
  refine lv_iload_n hx hb dX4_sibling_1 rfl (lv_at hl 1 rfl) ?_
  refine lv_iload_n hx hb dX4_sibling_2 rfl (lv_at hl 2 rfl) ?_
  refine hp_ci (hp_runV (C := RX4) (T := TX4) (N := 24) (np := 2) (k := 1) (mc := 0) (ms := 0) (As := [.int k0, .int i0]) (rest := []) EE hm hS (c_X4_isSibling l g M y ad S V σ hw k0 i0) ms_X4_isSibling wi_X4_isSibling ws_X4_isSibling wl_X4_220 hR.1 rfl rfl hl.1 rfl (Nat.le_of_ble_eq_true rfl) dX4_sibling_3 ⟨Nat.le_of_ble_eq_true rfl, Nat.le_of_ble_eq_true rfl⟩ ⟨(Nat.le_of_ble_eq_true rfl), (Nat.le_of_ble_eq_true rfl)⟩) hS (fun r1 Mx2 H locs hq3 hm hS => ?_)
  obtain ⟨rfl, h9⟩ := hq3
  rw [h9] at hm
  refine lv_if_eq (tgt := 23) hx hb dX4_sibling_6 (by decide) (fun c_6 => ?_) (fun c_6 => ?_)
  · have c_6 := bI_f c_6
    refine lv_iconst (v := 0) hx hb dX4_sibling_23 (by decide) ?_
    exact ret dX4_sibling_24 na_i hm hS (Nat.le_of_ble_eq_true rfl) (Nat.le_of_ble_eq_true rfl) (⟨by unfold rSib; rw [c_6]; rfl, rfl⟩)
  · have c_6 := bI_t c_6
    rw [Bool.and_eq_true] at c_6
    obtain ⟨i, hi, hie⟩ := isS_nat hpl c_6.1
    obtain ⟨j, hj, hje⟩ := isW_nat c_6.2
    refine lv_aload_n hx hb dX4_sibling_9 rfl (lv_at hl 0 rfl) ?_
    refine hr_get EE hm hR 20 (by decide) wf_X4_130 (v := .ref (ad 20)) rfl dX4_sibling_10 ?_
    refine lv_bipush (v := 8) hx hb dX4_sibling_13 (by decide) ?_
    refine lv_iload_n hx hb dX4_sibling_15 rfl (lv_at hl 1 rfl) ?_
    refine lv_imul hx hb dX4_sibling_16 ?_
    refine lv_iload_n hx hb dX4_sibling_17 rfl (lv_at hl 2 rfl) ?_
    refine lv_iadd hx hb dX4_sibling_18 ?_
    refine hr_ald EE hm hR 20 ((8 * i) + j) (by decide) (add_n (mul_n rfl hie) hje) (by show (8 * i) + j < 128; omega) (by decide) dX4_sibling_19 ?_
    refine lv_goto (tgt := 24) hx hb dX4_sibling_20 (by decide) ?_
    exact ret dX4_sibling_24 na_i hm hS (Nat.le_of_ble_eq_true rfl) (Nat.le_of_ble_eq_true rfl) (⟨by unfold rSib; rw [c_6.1, c_6.2, hie, hje, nI_clamp (by omega), nI_clamp (by omega)]; exact hsb i hi j hj, rfl⟩)
end
