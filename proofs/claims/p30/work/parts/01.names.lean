/-! ===== BEGIN words of one list among another's, by their places ===== -/
theorem goodIn_r {big : List Cond} (ws : List Cond) (ps : List Nat) (hp : ws = ps.filterMap (fun i => big[i]?)) (h : ws.all goodWord = true) : GoodIn big ws := by
  intro w hw
  have h1 := List.all_eq_true.mp h w hw
  rw [hp] at hw
  obtain ⟨i, -, hi⟩ := List.mem_filterMap.mp hw
  have hm : w ∈ big := by first | exact List.mem_of_getElem? hi | exact List.getElem?_mem hi
  exact ⟨hm, good_of_word h1⟩
theorem goodIn_app {big a b : List Cond} (ha : GoodIn big a) (hb : GoodIn big b) : GoodIn big (a ++ b) := fun w h => (List.mem_append.mp h).elim (ha w) (hb w)
theorem goodIn_ca {big a b : List Cond} {c : Cond} (ha : GoodIn big (c :: a)) (hb : GoodIn big b) : GoodIn big (c :: (a ++ b)) := fun w h => (List.mem_cons.mp h).elim (fun e => ha w (List.mem_cons.mpr (Or.inl e))) (fun h => (List.mem_append.mp h).elim (fun h => ha w (List.mem_cons.mpr (Or.inr h))) (hb w))
theorem goodIn_sub {big ws : List Cond} (hm : ∀ w ∈ ws, w ∈ big) (h : ws.all goodWord = true) : GoodIn big ws := fun w hw => ⟨hm w hw, good_of_word (List.all_eq_true.mp h w hw)⟩
/-! ===== END ===== -/

/-! ===== BEGIN printed: names, fields, word lists, decode rows ===== -/
def RX0 : String := "CoreRope$History"
def TX0 : u_T := fun k => match k with
  | 0 => ("CoreRope$History", "states", "[LCoreRope$Rope;", true)
  | 1 => ("CoreRope$History", "oldest", "I", false)
  | _ => ("CoreRope$History", "size", "I", false)
def tyX0 : Nat → FieldType := fun k => match k with
  | 0 => .array (.object "CoreRope$Rope")
  | 1 => .int
  | _ => .int
abbrev wsX00 : List Cond := u_ws RX0 TX0 3
theorem nmX0 : ∀ a, a < 3 → ∀ b, b < 3 → a ≠ b → (TX0 a).2.1 ≠ (TX0 b).2.1 := by decide +kernel
theorem tyX0_ok : ∀ k, k < 3 → parseFieldDescriptor (TX0 k).2.2.1 = some (tyX0 k) := by decide +kernel
abbrev cX0_init : ByteArray := prog_2_method_1_code
def yX0_init : MethodName := ⟨RX0, "<init>", "()V"⟩
abbrev cX0_isEmpty : ByteArray := prog_2_method_2_code
def yX0_isEmpty : MethodName := ⟨RX0, "isEmpty", "()Z"⟩
abbrev cX0_keep : ByteArray := prog_2_method_3_code
def yX0_keep : MethodName := ⟨RX0, "keep", "(LCoreRope$Rope;)V"⟩
abbrev cX0_restore : ByteArray := prog_2_method_4_code
def yX0_restore : MethodName := ⟨RX0, "restore", "(LCoreRope$Rope;)I"⟩
def RX1 : String := "CoreRope$Rope"
def TX1 : u_T := fun k => match k with
  | 0 => ("CoreRope$Rope", "rings", "I", false)
  | 1 => ("CoreRope$Rope", "bits", "I", false)
  | 2 => ("CoreRope$Rope", "sets", "I", false)
  | 3 => ("CoreRope$Rope", "ones", "[I", true)
  | 4 => ("CoreRope$Rope", "wrongWeaves", "[I", true)
  | 5 => ("CoreRope$Rope", "crossed", "[I", true)
  | _ => ("CoreRope$Rope", "patches", "[I", true)
def tyX1 : Nat → FieldType := fun k => match k with
  | 0 => .int
  | 1 => .int
  | 2 => .int
  | 3 => .array .int
  | 4 => .array .int
  | 5 => .array .int
  | _ => .array .int
abbrev wsX10 : List Cond := u_ws RX1 TX1 7
theorem nmX1 : ∀ a, a < 7 → ∀ b, b < 7 → a ≠ b → (TX1 a).2.1 ≠ (TX1 b).2.1 := by decide +kernel
theorem tyX1_ok : ∀ k, k < 7 → parseFieldDescriptor (TX1 k).2.2.1 = some (tyX1 k) := by decide +kernel
abbrev cX1_init : ByteArray := prog_3_method_1_code
def yX1_init : MethodName := ⟨RX1, "<init>", "()V"⟩
abbrev cX1_start : ByteArray := prog_3_method_2_code
def yX1_start : MethodName := ⟨RX1, "start", "(III)V"⟩
abbrev cX1_become : ByteArray := prog_3_method_3_code
def yX1_become : MethodName := ⟨RX1, "become", "(LCoreRope$Rope;)V"⟩
abbrev cX1_addresses : ByteArray := prog_3_method_4_code
def yX1_addresses : MethodName := ⟨RX1, "addresses", "()I"⟩
abbrev cX1_wires : ByteArray := prog_3_method_5_code
def yX1_wires : MethodName := ⟨RX1, "wires", "()I"⟩
abbrev cX1_highestWord : ByteArray := prog_3_method_6_code
def yX1_highestWord : MethodName := ⟨RX1, "highestWord", "()I"⟩
abbrev cX1_hasRing : ByteArray := prog_3_method_7_code
def yX1_hasRing : MethodName := ⟨RX1, "hasRing", "(I)Z"⟩
abbrev cX1_hasWire : ByteArray := prog_3_method_8_code
def yX1_hasWire : MethodName := ⟨RX1, "hasWire", "(I)Z"⟩
abbrev cX1_hasAddress : ByteArray := prog_3_method_9_code
def yX1_hasAddress : MethodName := ⟨RX1, "hasAddress", "(I)Z"⟩
abbrev cX1_fits : ByteArray := prog_3_method_10_code
def yX1_fits : MethodName := ⟨RX1, "fits", "(I)Z"⟩
abbrev cX1_ringOf : ByteArray := prog_3_method_11_code
def yX1_ringOf : MethodName := ⟨RX1, "ringOf", "(I)I"⟩
abbrev cX1_setOf : ByteArray := prog_3_method_12_code
def yX1_setOf : MethodName := ⟨RX1, "setOf", "(I)I"⟩
abbrev cX1_senseWire : ByteArray := prog_3_method_13_code
def yX1_senseWire : MethodName := ⟨RX1, "senseWire", "(II)I"⟩
abbrev cX1_number : ByteArray := prog_3_method_14_code
def yX1_number : MethodName := ⟨RX1, "number", "(I)I"⟩
abbrev cX1_crossedWires : ByteArray := prog_3_method_15_code
def yX1_crossedWires : MethodName := ⟨RX1, "crossedWires", "()I"⟩
abbrev cX1_wrongWeaveCount : ByteArray := prog_3_method_16_code
def yX1_wrongWeaveCount : MethodName := ⟨RX1, "wrongWeaveCount", "()I"⟩
abbrev cX1_wholeCost : ByteArray := prog_3_method_17_code
def yX1_wholeCost : MethodName := ⟨RX1, "wholeCost", "()I"⟩
abbrev cX1_putBit : ByteArray := prog_3_method_18_code
def yX1_putBit : MethodName := ⟨RX1, "putBit", "(III)V"⟩
abbrev cX1_codeOf : ByteArray := prog_3_method_19_code
def yX1_codeOf : MethodName := ⟨RX1, "codeOf", "(I)I"⟩
abbrev cX1_putCode : ByteArray := prog_3_method_20_code
def yX1_putCode : MethodName := ⟨RX1, "putCode", "(II)V"⟩
abbrev cX1_ringWithCode : ByteArray := prog_3_method_21_code
def yX1_ringWithCode : MethodName := ⟨RX1, "ringWithCode", "(I)I"⟩
abbrev cX1_wordAt : ByteArray := prog_3_method_22_code
def yX1_wordAt : MethodName := ⟨RX1, "wordAt", "(I)I"⟩
abbrev cX1_putWord : ByteArray := prog_3_method_23_code
def yX1_putWord : MethodName := ⟨RX1, "putWord", "(II)V"⟩
abbrev cX1_turn : ByteArray := prog_3_method_24_code
def yX1_turn : MethodName := ⟨RX1, "turn", "(I)I"⟩
abbrev cX1_spoilOrMend : ByteArray := prog_3_method_25_code
def yX1_spoilOrMend : MethodName := ⟨RX1, "spoilOrMend", "(II)I"⟩
abbrev cX1_rightWeave : ByteArray := prog_3_method_26_code
def yX1_rightWeave : MethodName := ⟨RX1, "rightWeave", "(I)I"⟩
abbrev cX1_goesThrough : ByteArray := prog_3_method_27_code
def yX1_goesThrough : MethodName := ⟨RX1, "goesThrough", "(II)I"⟩
abbrev cX1_costOf : ByteArray := prog_3_method_28_code
def yX1_costOf : MethodName := ⟨RX1, "costOf", "(I)I"⟩
abbrev cX1_makeCheap : ByteArray := prog_3_method_29_code
def yX1_makeCheap : MethodName := ⟨RX1, "makeCheap", "()I"⟩
abbrev cX1_pickedBy : ByteArray := prog_3_method_30_code
def yX1_pickedBy : MethodName := ⟨RX1, "pickedBy", "(I)I"⟩
abbrev cX1_bitFrom : ByteArray := prog_3_method_31_code
def yX1_bitFrom : MethodName := ⟨RX1, "bitFrom", "(III)I"⟩
abbrev cX1_rawBits : ByteArray := prog_3_method_32_code
def yX1_rawBits : MethodName := ⟨RX1, "rawBits", "(I)I"⟩
abbrev cX1_rightBits : ByteArray := prog_3_method_33_code
def yX1_rightBits : MethodName := ⟨RX1, "rightBits", "(II)I"⟩
abbrev cX1_rawWord : ByteArray := prog_3_method_34_code
def yX1_rawWord : MethodName := ⟨RX1, "rawWord", "(I)I"⟩
abbrev cX1_wordRead : ByteArray := prog_3_method_35_code
def yX1_wordRead : MethodName := ⟨RX1, "wordRead", "(I)I"⟩
abbrev cX1_parityIsRight : ByteArray := prog_3_method_36_code
def yX1_parityIsRight : MethodName := ⟨RX1, "parityIsRight", "(I)Z"⟩
abbrev cX1_wrongAddresses : ByteArray := prog_3_method_37_code
def yX1_wrongAddresses : MethodName := ⟨RX1, "wrongAddresses", "(I)I"⟩
abbrev cX1_isWrong : ByteArray := prog_3_method_38_code
def yX1_isWrong : MethodName := ⟨RX1, "isWrong", "(II)Z"⟩
abbrev cX1_isMisread : ByteArray := prog_3_method_39_code
def yX1_isMisread : MethodName := ⟨RX1, "isMisread", "(I)Z"⟩
abbrev cX1_explanation : ByteArray := prog_3_method_40_code
def yX1_explanation : MethodName := ⟨RX1, "explanation", "(I)I"⟩
abbrev cX1_strayRings : ByteArray := prog_3_method_41_code
def yX1_strayRings : MethodName := ⟨RX1, "strayRings", "()I"⟩
abbrev cX1_isExplainedBy : ByteArray := prog_3_method_42_code
def yX1_isExplainedBy : MethodName := ⟨RX1, "isExplainedBy", "(III)Z"⟩
abbrev cX1_inhibitExplains : ByteArray := prog_3_method_43_code
def yX1_inhibitExplains : MethodName := ⟨RX1, "inhibitExplains", "(III)Z"⟩
abbrev cX1_senseExplains : ByteArray := prog_3_method_44_code
def yX1_senseExplains : MethodName := ⟨RX1, "senseExplains", "(III)Z"⟩
abbrev cX1_patchAt : ByteArray := prog_3_method_45_code
def yX1_patchAt : MethodName := ⟨RX1, "patchAt", "(I)I"⟩
abbrev cX1_putPatch : ByteArray := prog_3_method_46_code
def yX1_putPatch : MethodName := ⟨RX1, "putPatch", "(II)V"⟩
abbrev cX1_patchCount : ByteArray := prog_3_method_47_code
def yX1_patchCount : MethodName := ⟨RX1, "patchCount", "()I"⟩
abbrev cX1_mendPatches : ByteArray := prog_3_method_48_code
def yX1_mendPatches : MethodName := ⟨RX1, "mendPatches", "()V"⟩
abbrev cX1_addPatches : ByteArray := prog_3_method_49_code
def yX1_addPatches : MethodName := ⟨RX1, "addPatches", "()V"⟩
abbrev cX1_hash : ByteArray := prog_3_method_50_code
def yX1_hash : MethodName := ⟨RX1, "hash", "()J"⟩
def RX2 : String := "CoreRope$Text"
def TX2 : u_T := fun k => match k with
  | 0 => ("CoreRope$Text", "bytes", "[I", true)
  | 1 => ("CoreRope$Text", "length", "I", false)
  | 2 => ("CoreRope$Text", "words", "[I", true)
  | _ => ("CoreRope$Text", "found", "I", false)
def tyX2 : Nat → FieldType := fun k => match k with
  | 0 => .array .int
  | 1 => .int
  | 2 => .array .int
  | _ => .int
abbrev wsX20 : List Cond := u_ws RX2 TX2 4
theorem nmX2 : ∀ a, a < 4 → ∀ b, b < 4 → a ≠ b → (TX2 a).2.1 ≠ (TX2 b).2.1 := by decide +kernel
theorem tyX2_ok : ∀ k, k < 4 → parseFieldDescriptor (TX2 k).2.2.1 = some (tyX2 k) := by decide +kernel
abbrev cX2_init : ByteArray := prog_4_method_1_code
def yX2_init : MethodName := ⟨RX2, "<init>", "()V"⟩
abbrev cX2_wordsFound : ByteArray := prog_4_method_5_code
def yX2_wordsFound : MethodName := ⟨RX2, "wordsFound", "()I"⟩
abbrev cX2_wordFound : ByteArray := prog_4_method_6_code
def yX2_wordFound : MethodName := ⟨RX2, "wordFound", "(I)I"⟩
abbrev cX2_scan : ByteArray := prog_4_method_7_code
def yX2_scan : MethodName := ⟨RX2, "scan", "(II)I"⟩
def RX3 : String := "CoreRope"
def TX3 : u_T := fun k => match k with
  | 0 => ("CoreRope", "rope", "LCoreRope$Rope;", true)
  | 1 => ("CoreRope", "history", "LCoreRope$History;", true)
  | _ => ("CoreRope", "text", "LCoreRope$Text;", true)
def tyX3 : Nat → FieldType := fun k => match k with
  | 0 => .object "CoreRope$Rope"
  | 1 => .object "CoreRope$History"
  | _ => .object "CoreRope$Text"
abbrev wsX30 : List Cond := u_ws RX3 TX3 3
theorem nmX3 : ∀ a, a < 3 → ∀ b, b < 3 → a ≠ b → (TX3 a).2.1 ≠ (TX3 b).2.1 := by decide +kernel
theorem tyX3_ok : ∀ k, k < 3 → parseFieldDescriptor (TX3 k).2.2.1 = some (tyX3 k) := by decide +kernel
abbrev cX3_init : ByteArray := prog_1_method_1_code
def yX3_init : MethodName := ⟨RX3, "<init>", "()V"⟩
abbrev cX3_begin : ByteArray := prog_1_method_2_code
def yX3_begin : MethodName := ⟨RX3, "begin", "(III)I"⟩
abbrev cX3_count : ByteArray := prog_1_method_3_code
def yX3_count : MethodName := ⟨RX3, "count", "(I)I"⟩
abbrev cX3_setCode : ByteArray := prog_1_method_4_code
def yX3_setCode : MethodName := ⟨RX3, "setCode", "(II)I"⟩
abbrev cX3_code : ByteArray := prog_1_method_5_code
def yX3_code : MethodName := ⟨RX3, "code", "(I)I"⟩
abbrev cX3_weave : ByteArray := prog_1_method_6_code
def yX3_weave : MethodName := ⟨RX3, "weave", "(II)I"⟩
abbrev cX3_word : ByteArray := prog_1_method_7_code
def yX3_word : MethodName := ⟨RX3, "word", "(I)I"⟩
abbrev cX3_cross : ByteArray := prog_1_method_8_code
def yX3_cross : MethodName := ⟨RX3, "cross", "(I)I"⟩
abbrev cX3_through : ByteArray := prog_1_method_9_code
def yX3_through : MethodName := ⟨RX3, "through", "(II)I"⟩
abbrev cX3_cost : ByteArray := prog_1_method_10_code
def yX3_cost : MethodName := ⟨RX3, "cost", "(I)I"⟩
abbrev cX3_economize : ByteArray := prog_1_method_11_code
def yX3_economize : MethodName := ⟨RX3, "economize", "()I"⟩
abbrev cX3_picked : ByteArray := prog_1_method_12_code
def yX3_picked : MethodName := ⟨RX3, "picked", "(I)I"⟩
abbrev cX3_read : ByteArray := prog_1_method_13_code
def yX3_read : MethodName := ⟨RX3, "read", "(I)I"⟩
abbrev cX3_readRaw : ByteArray := prog_1_method_14_code
def yX3_readRaw : MethodName := ⟨RX3, "readRaw", "(I)I"⟩
abbrev cX3_parity : ByteArray := prog_1_method_15_code
def yX3_parity : MethodName := ⟨RX3, "parity", "(I)I"⟩
abbrev cX3_wrong : ByteArray := prog_1_method_16_code
def yX3_wrong : MethodName := ⟨RX3, "wrong", "(I)I"⟩
abbrev cX3_spoil : ByteArray := prog_1_method_17_code
def yX3_spoil : MethodName := ⟨RX3, "spoil", "(II)I"⟩
abbrev cX3_explains : ByteArray := prog_1_method_18_code
def yX3_explains : MethodName := ⟨RX3, "explains", "(I)I"⟩
abbrev cX3_patch : ByteArray := prog_1_method_19_code
def yX3_patch : MethodName := ⟨RX3, "patch", "(II)I"⟩
abbrev cX3_unpatch : ByteArray := prog_1_method_20_code
def yX3_unpatch : MethodName := ⟨RX3, "unpatch", "(I)I"⟩
abbrev cX3_patchAll : ByteArray := prog_1_method_21_code
def yX3_patchAll : MethodName := ⟨RX3, "patchAll", "()I"⟩
abbrev cX3_patchOf : ByteArray := prog_1_method_22_code
def yX3_patchOf : MethodName := ⟨RX3, "patchOf", "(I)I"⟩
abbrev cX3_undo : ByteArray := prog_1_method_23_code
def yX3_undo : MethodName := ⟨RX3, "undo", "()I"⟩
abbrev cX3_load : ByteArray := prog_1_method_27_code
def yX3_load : MethodName := ⟨RX3, "load", "()I"⟩
abbrev cX3_digest : ByteArray := prog_1_method_28_code
def yX3_digest : MethodName := ⟨RX3, "digest", "()J"⟩
def RX4 : String := "CoreRopeModel"
def TX4 : u_T := fun k => match k with
  | _ => ("", "", "", false)
def tyX4 : Nat → FieldType := fun k => match k with
  | _ => .int
abbrev wsX40 : List Cond := u_ws RX4 TX4 0
theorem nmX4 : ∀ a, a < 0 → ∀ b, b < 0 → a ≠ b → (TX4 a).2.1 ≠ (TX4 b).2.1 := by decide +kernel
theorem tyX4_ok : ∀ k, k < 0 → parseFieldDescriptor (TX4 k).2.2.1 = some (tyX4 k) := by decide +kernel
def RJ6 : String := "java/lang/Integer"
def TJ6 : u_T := fun k => match k with
  | _ => ("", "", "", false)
def tyJ6 : Nat → FieldType := fun k => match k with
  | _ => .int
abbrev wsJ60 : List Cond := u_ws RJ6 TJ6 0
theorem nmJ6 : ∀ a, a < 0 → ∀ b, b < 0 → a ≠ b → (TJ6 a).2.1 ≠ (TJ6 b).2.1 := by decide +kernel
theorem tyJ6_ok : ∀ k, k < 0 → parseFieldDescriptor (TJ6 k).2.2.1 = some (tyJ6 k) := by decide +kernel
abbrev cJ6_bitCount_0f7a4 : ByteArray := prog_7_method_49_code
def yJ6_bitCount_0f7a4 : MethodName := ⟨RJ6, "bitCount", "(I)I"⟩
def RJ10 : String := "java/lang/System"
def TJ10 : u_T := fun k => match k with
  | _ => ("", "", "", false)
def tyJ10 : Nat → FieldType := fun k => match k with
  | _ => .int
abbrev wsJ100 : List Cond := u_ws RJ10 TJ10 0
theorem nmJ10 : ∀ a, a < 0 → ∀ b, b < 0 → a ≠ b → (TJ10 a).2.1 ≠ (TJ10 b).2.1 := by decide +kernel
theorem tyJ10_ok : ∀ k, k < 0 → parseFieldDescriptor (TJ10 k).2.2.1 = some (tyJ10 k) := by decide +kernel
def RL : String := "CoreRopeLaw"
abbrev cL_cell : ByteArray := method_2_code
def yL_cell : MethodName := ⟨RL, "cell", "([II)I"⟩
abbrev cL_low : ByteArray := method_3_code
def yL_low : MethodName := ⟨RL, "low", "(II)I"⟩
abbrev cL_ones : ByteArray := method_4_code
def yL_ones : MethodName := ⟨RL, "ones", "(I)I"⟩
abbrev cL_isSound : ByteArray := method_5_code
def yL_isSound : MethodName := ⟨RL, "isSound", "(LCoreRope;)Z"⟩
abbrev cL_changes : ByteArray := method_6_code
def yL_changes : MethodName := ⟨RL, "changes", "(LCoreRope;I)I"⟩
abbrev cL_law : ByteArray := code
def yL_law : MethodName := ⟨RL, "law", "([I)Z"⟩
abbrev cL_isCrossed : ByteArray := method_8_code
def yL_isCrossed : MethodName := ⟨RL, "isCrossed", "(LCoreRope;I)Z"⟩
abbrev vwCl : List vw_C := [(RX0, TX0, 3), (RX1, TX1, 7), (RX2, TX2, 4), (RX3, TX3, 3)]
/-- the words of the tables that a callee may take from its caller -/
def nT : List Cond := lw_tbl.filter goodWord
set_option maxRecDepth 20000 in
theorem inX0 : ∀ w ∈ wsX00, w ∈ nT := fun w h => List.mem_filter.mpr ⟨(show ∀ w ∈ wsX00, w ∈ lw_tbl by decide +kernel) w h, (show ∀ w ∈ wsX00, goodWord w = true by decide +kernel) w h⟩
set_option maxRecDepth 20000 in
theorem inX1 : ∀ w ∈ wsX10, w ∈ nT := fun w h => List.mem_filter.mpr ⟨(show ∀ w ∈ wsX10, w ∈ lw_tbl by decide +kernel) w h, (show ∀ w ∈ wsX10, goodWord w = true by decide +kernel) w h⟩
set_option maxRecDepth 20000 in
theorem inX2 : ∀ w ∈ wsX20, w ∈ nT := fun w h => List.mem_filter.mpr ⟨(show ∀ w ∈ wsX20, w ∈ lw_tbl by decide +kernel) w h, (show ∀ w ∈ wsX20, goodWord w = true by decide +kernel) w h⟩
set_option maxRecDepth 20000 in
theorem inX3 : ∀ w ∈ wsX30, w ∈ nT := fun w h => List.mem_filter.mpr ⟨(show ∀ w ∈ wsX30, w ∈ lw_tbl by decide +kernel) w h, (show ∀ w ∈ wsX30, goodWord w = true by decide +kernel) w h⟩
