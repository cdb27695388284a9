-- ===== PART A: goes FIRST, ahead of the names: the tables' words, and 'selects' of the private methods out of them =====
/-- a private method of a class that the tables say can be made, by its rows of tables_1 -/
def lw_okq (q : MethodName × Nat) : Prop := (q.1.cls ≠ "java/lang/invoke/MethodHandle" ∧ q.1.cls ≠ "java/lang/invoke/VarHandle") ∧ Cond.instantiable q.1.cls q.2 ∈ tables_1 ∧ Cond.privateMethod q.1 ∈ tables_1 ∧ Cond.instanceMethod q.1 ∈ tables_1
theorem lw_p0 : lw_okq (⟨"StrawDraws", "mostOverloaded", "()I"⟩, 8) := ⟨⟨by decide +kernel, by decide +kernel⟩, List.mem_of_getElem? (i := 12) (by decide +kernel), List.mem_of_getElem? (i := 220) (by decide +kernel), List.mem_of_getElem? (i := 221) (by decide +kernel)⟩
theorem lw_p1 : lw_okq (⟨"StrawDraws", "fairShare", "(ILStrawDraws$Layout;I)I"⟩, 8) := ⟨⟨by decide +kernel, by decide +kernel⟩, List.mem_of_getElem? (i := 12) (by decide +kernel), List.mem_of_getElem? (i := 225) (by decide +kernel), List.mem_of_getElem? (i := 226) (by decide +kernel)⟩
theorem lw_p2 : lw_okq (⟨"StrawDraws", "buildServer", "(II)I"⟩, 8) := ⟨⟨by decide +kernel, by decide +kernel⟩, List.mem_of_getElem? (i := 12) (by decide +kernel), List.mem_of_getElem? (i := 248) (by decide +kernel), List.mem_of_getElem? (i := 249) (by decide +kernel)⟩
theorem lw_p3 : lw_okq (⟨"StrawDraws", "findMoves", "()I"⟩, 8) := ⟨⟨by decide +kernel, by decide +kernel⟩, List.mem_of_getElem? (i := 12) (by decide +kernel), List.mem_of_getElem? (i := 258) (by decide +kernel), List.mem_of_getElem? (i := 259) (by decide +kernel)⟩
theorem lw_p4 : lw_okq (⟨"StrawDraws", "layAll", "(LStrawDraws$Layout;)V"⟩, 8) := ⟨⟨by decide +kernel, by decide +kernel⟩, List.mem_of_getElem? (i := 12) (by decide +kernel), List.mem_of_getElem? (i := 262) (by decide +kernel), List.mem_of_getElem? (i := 263) (by decide +kernel)⟩
theorem lw_p5 : lw_okq (⟨"StrawDraws$Straws", "highest", "(LStrawDraws$State;II)I"⟩, 2) := ⟨⟨by decide +kernel, by decide +kernel⟩, List.mem_of_getElem? (i := 106) (by decide +kernel), List.mem_of_getElem? (i := 294) (by decide +kernel), List.mem_of_getElem? (i := 295) (by decide +kernel)⟩
theorem lw_p6 : lw_okq (⟨"StrawDraws", "recorded", "(I)I"⟩, 8) := ⟨⟨by decide +kernel, by decide +kernel⟩, List.mem_of_getElem? (i := 12) (by decide +kernel), List.mem_of_getElem? (i := 313) (by decide +kernel), List.mem_of_getElem? (i := 314) (by decide +kernel)⟩
theorem lw_p7 : lw_okq (⟨"StrawDraws", "keepObject", "(I)I"⟩, 8) := ⟨⟨by decide +kernel, by decide +kernel⟩, List.mem_of_getElem? (i := 12) (by decide +kernel), List.mem_of_getElem? (i := 332) (by decide +kernel), List.mem_of_getElem? (i := 333) (by decide +kernel)⟩
theorem lw_p8 : lw_okq (⟨"StrawDraws", "weightError", "(II)I"⟩, 8) := ⟨⟨by decide +kernel, by decide +kernel⟩, List.mem_of_getElem? (i := 12) (by decide +kernel), List.mem_of_getElem? (i := 371) (by decide +kernel), List.mem_of_getElem? (i := 372) (by decide +kernel)⟩
theorem lw_p9 : lw_okq (⟨"StrawDraws", "changeWeight", "(II)I"⟩, 8) := ⟨⟨by decide +kernel, by decide +kernel⟩, List.mem_of_getElem? (i := 12) (by decide +kernel), List.mem_of_getElem? (i := 386) (by decide +kernel), List.mem_of_getElem? (i := 387) (by decide +kernel)⟩
theorem lw_p10 : lw_okq (⟨"StrawDraws", "changeDown", "(IZ)I"⟩, 8) := ⟨⟨by decide +kernel, by decide +kernel⟩, List.mem_of_getElem? (i := 12) (by decide +kernel), List.mem_of_getElem? (i := 397) (by decide +kernel), List.mem_of_getElem? (i := 398) (by decide +kernel)⟩
theorem lw_p11 : lw_okq (⟨"StrawDraws", "changeSetting", "(II)I"⟩, 8) := ⟨⟨by decide +kernel, by decide +kernel⟩, List.mem_of_getElem? (i := 12) (by decide +kernel), List.mem_of_getElem? (i := 413) (by decide +kernel), List.mem_of_getElem? (i := 414) (by decide +kernel)⟩
theorem lw_p12 : lw_okq (⟨"StrawDraws", "changePin", "(II)I"⟩, 8) := ⟨⟨by decide +kernel, by decide +kernel⟩, List.mem_of_getElem? (i := 12) (by decide +kernel), List.mem_of_getElem? (i := 425) (by decide +kernel), List.mem_of_getElem? (i := 426) (by decide +kernel)⟩
theorem lw_p13 : lw_okq (⟨"StrawDraws", "changeRack", "(II)I"⟩, 8) := ⟨⟨by decide +kernel, by decide +kernel⟩, List.mem_of_getElem? (i := 12) (by decide +kernel), List.mem_of_getElem? (i := 438) (by decide +kernel), List.mem_of_getElem? (i := 439) (by decide +kernel)⟩
def lw_privs_1 : List (MethodName × Nat) := [(⟨"StrawDraws", "mostOverloaded", "()I"⟩, 8), (⟨"StrawDraws", "fairShare", "(ILStrawDraws$Layout;I)I"⟩, 8), (⟨"StrawDraws", "buildServer", "(II)I"⟩, 8), (⟨"StrawDraws", "findMoves", "()I"⟩, 8), (⟨"StrawDraws", "layAll", "(LStrawDraws$Layout;)V"⟩, 8), (⟨"StrawDraws$Straws", "highest", "(LStrawDraws$State;II)I"⟩, 2), (⟨"StrawDraws", "recorded", "(I)I"⟩, 8), (⟨"StrawDraws", "keepObject", "(I)I"⟩, 8), (⟨"StrawDraws", "weightError", "(II)I"⟩, 8), (⟨"StrawDraws", "changeWeight", "(II)I"⟩, 8), (⟨"StrawDraws", "changeDown", "(IZ)I"⟩, 8), (⟨"StrawDraws", "changeSetting", "(II)I"⟩, 8), (⟨"StrawDraws", "changePin", "(II)I"⟩, 8), (⟨"StrawDraws", "changeRack", "(II)I"⟩, 8)]
theorem lw_r1 : ∀ q ∈ lw_privs_1, lw_okq q := List.forall_mem_cons.mpr ⟨lw_p0, List.forall_mem_cons.mpr ⟨lw_p1, List.forall_mem_cons.mpr ⟨lw_p2, List.forall_mem_cons.mpr ⟨lw_p3, List.forall_mem_cons.mpr ⟨lw_p4, List.forall_mem_cons.mpr ⟨lw_p5, List.forall_mem_cons.mpr ⟨lw_p6, List.forall_mem_cons.mpr ⟨lw_p7, List.forall_mem_cons.mpr ⟨lw_p8, List.forall_mem_cons.mpr ⟨lw_p9, List.forall_mem_cons.mpr ⟨lw_p10, List.forall_mem_cons.mpr ⟨lw_p11, List.forall_mem_cons.mpr ⟨lw_p12, List.forall_mem_cons.mpr ⟨lw_p13, fun _ h => absurd h List.not_mem_nil⟩⟩⟩⟩⟩⟩⟩⟩⟩⟩⟩⟩⟩⟩
def lw_privs : List (MethodName × Nat) := lw_privs_1
def lw_tbl : List Cond := k2_sels lw_privs ++ tables_1
theorem lw_privs_ok : ∀ q ∈ lw_privs, lw_okq q := lw_r1
-- ===== end of PART A
def RX0 : String := "StrawDraws$History"
def TX0 : u_T := fun k => match k with
  | 0 => ("StrawDraws$History", "states", "[LStrawDraws$State;", true)
  | 1 => ("StrawDraws$History", "oldest", "I", false)
  | _ => ("StrawDraws$History", "size", "I", false)
def tyX0 : Nat → FieldType := fun k => match k with
  | 0 => .array (.object "StrawDraws$State")
  | 1 => .int
  | _ => .int
theorem nmX0 : ∀ a, a < 3 → ∀ b, b < 3 → a ≠ b → (TX0 a).2.1 ≠ (TX0 b).2.1 := by decide +kernel
theorem tyX0_ok : ∀ k, k < 3 → parseFieldDescriptor (TX0 k).2.2.1 = some (tyX0 k) := by decide +kernel
abbrev cX0_init : ByteArray := prog_2_method_1_code
def yX0_init : MethodName := ⟨RX0, "<init>", "()V"⟩
abbrev cX0_draft : ByteArray := prog_2_method_2_code
def yX0_draft : MethodName := ⟨RX0, "draft", "(LStrawDraws$State;)V"⟩
abbrev cX0_keepDraft : ByteArray := prog_2_method_3_code
def yX0_keepDraft : MethodName := ⟨RX0, "keepDraft", "()V"⟩
abbrev cX0_takeLatest : ByteArray := prog_2_method_4_code
def yX0_takeLatest : MethodName := ⟨RX0, "takeLatest", "(LStrawDraws$State;)V"⟩
def RX1 : String := "StrawDraws$Layout"
def TX1 : u_T := fun k => match k with
  | 0 => ("StrawDraws$Layout", "copies", "[I", true)
  | 1 => ("StrawDraws$Layout", "servers", "[I", true)
  | 2 => ("StrawDraws$Layout", "load", "[I", true)
  | _ => ("StrawDraws$Layout", "total", "I", false)
def tyX1 : Nat → FieldType := fun k => match k with
  | 0 => .array .int
  | 1 => .array .int
  | 2 => .array .int
  | _ => .int
theorem nmX1 : ∀ a, a < 4 → ∀ b, b < 4 → a ≠ b → (TX1 a).2.1 ≠ (TX1 b).2.1 := by decide +kernel
theorem tyX1_ok : ∀ k, k < 4 → parseFieldDescriptor (TX1 k).2.2.1 = some (tyX1 k) := by decide +kernel
abbrev cX1_init : ByteArray := prog_3_method_1_code
def yX1_init : MethodName := ⟨RX1, "<init>", "()V"⟩
abbrev cX1_clear : ByteArray := prog_3_method_2_code
def yX1_clear : MethodName := ⟨RX1, "clear", "()V"⟩
abbrev cX1_add : ByteArray := prog_3_method_3_code
def yX1_add : MethodName := ⟨RX1, "add", "(II)V"⟩
abbrev cX1_serverOf : ByteArray := prog_3_method_4_code
def yX1_serverOf : MethodName := ⟨RX1, "serverOf", "(II)I"⟩
abbrev cX1_serversOf : ByteArray := prog_3_method_5_code
def yX1_serversOf : MethodName := ⟨RX1, "serversOf", "(I)I"⟩
abbrev cX1_firstCopies : ByteArray := prog_3_method_6_code
def yX1_firstCopies : MethodName := ⟨RX1, "firstCopies", "(II)I"⟩
abbrev cX1_rowsBelow : ByteArray := prog_3_method_7_code
def yX1_rowsBelow : MethodName := ⟨RX1, "rowsBelow", "(II)I"⟩
def RX2 : String := "StrawDraws$Pad"
def TX2 : u_T := fun k => match k with
  | 0 => ("StrawDraws$Pad", "signs", "[C", true)
  | 1 => ("StrawDraws$Pad", "length", "I", false)
  | 2 => ("StrawDraws$Pad", "at", "I", false)
  | 3 => ("StrawDraws$Pad", "kind", "C", false)
  | 4 => ("StrawDraws$Pad", "first", "I", false)
  | _ => ("StrawDraws$Pad", "second", "I", false)
def tyX2 : Nat → FieldType := fun k => match k with
  | 0 => .array .char
  | 1 => .int
  | 2 => .int
  | 3 => .char
  | 4 => .int
  | _ => .int
theorem nmX2 : ∀ a, a < 6 → ∀ b, b < 6 → a ≠ b → (TX2 a).2.1 ≠ (TX2 b).2.1 := by decide +kernel
theorem tyX2_ok : ∀ k, k < 6 → parseFieldDescriptor (TX2 k).2.2.1 = some (tyX2 k) := by decide +kernel
abbrev cX2_init : ByteArray := prog_4_method_1_code
def yX2_init : MethodName := ⟨RX2, "<init>", "()V"⟩
def RX3 : String := "StrawDraws$State"
def TX3 : u_T := fun k => match k with
  | 0 => ("StrawDraws$State", "copies", "I", false)
  | 1 => ("StrawDraws$State", "salt", "I", false)
  | 2 => ("StrawDraws$State", "servers", "I", false)
  | 3 => ("StrawDraws$State", "rack", "[I", true)
  | 4 => ("StrawDraws$State", "weight", "[I", true)
  | 5 => ("StrawDraws$State", "isDown", "[Z", true)
  | 6 => ("StrawDraws$State", "objects", "I", false)
  | 7 => ("StrawDraws$State", "object", "[I", true)
  | 8 => ("StrawDraws$State", "pinnedTo", "[I", true)
  | 9 => ("StrawDraws$State", "moves", "I", false)
  | 10 => ("StrawDraws$State", "moved", "[I", true)
  | 11 => ("StrawDraws$State", "movedFrom", "[I", true)
  | _ => ("StrawDraws$State", "movedTo", "[I", true)
def tyX3 : Nat → FieldType := fun k => match k with
  | 0 => .int
  | 1 => .int
  | 2 => .int
  | 3 => .array .int
  | 4 => .array .int
  | 5 => .array .boolean
  | 6 => .int
  | 7 => .array .int
  | 8 => .array .int
  | 9 => .int
  | 10 => .array .int
  | 11 => .array .int
  | _ => .array .int
theorem nmX3 : ∀ a, a < 13 → ∀ b, b < 13 → a ≠ b → (TX3 a).2.1 ≠ (TX3 b).2.1 := by decide +kernel
theorem tyX3_ok : ∀ k, k < 13 → parseFieldDescriptor (TX3 k).2.2.1 = some (tyX3 k) := by decide +kernel
abbrev cX3_init : ByteArray := prog_5_method_1_code
def yX3_init : MethodName := ⟨RX3, "<init>", "()V"⟩
abbrev cX3_copyFrom : ByteArray := prog_5_method_2_code
def yX3_copyFrom : MethodName := ⟨RX3, "copyFrom", "(LStrawDraws$State;)V"⟩
abbrev cX3_hasServer : ByteArray := prog_5_method_3_code
def yX3_hasServer : MethodName := ⟨RX3, "hasServer", "(I)Z"⟩
abbrev cX3_takesPart : ByteArray := prog_5_method_4_code
def yX3_takesPart : MethodName := ⟨RX3, "takesPart", "(I)Z"⟩
abbrev cX3_serversTakingPart : ByteArray := prog_5_method_5_code
def yX3_serversTakingPart : MethodName := ⟨RX3, "serversTakingPart", "()I"⟩
abbrev cX3_weightsTogether : ByteArray := prog_5_method_6_code
def yX3_weightsTogether : MethodName := ⟨RX3, "weightsTogether", "()I"⟩
abbrev cX3_pinsTo : ByteArray := prog_5_method_7_code
def yX3_pinsTo : MethodName := ⟨RX3, "pinsTo", "(I)I"⟩
abbrev cX3_rowOf : ByteArray := prog_5_method_8_code
def yX3_rowOf : MethodName := ⟨RX3, "rowOf", "(I)I"⟩
abbrev cX3_insert : ByteArray := prog_5_method_9_code
def yX3_insert : MethodName := ⟨RX3, "insert", "(I)I"⟩
abbrev cX3_addMoves : ByteArray := prog_5_method_11_code
def yX3_addMoves : MethodName := ⟨RX3, "addMoves", "(III)V"⟩
abbrev cX3_nthServer : ByteArray := prog_5_method_12_code
def yX3_nthServer : MethodName := ⟨RX3, "nthServer", "(II)I"⟩
def RX4 : String := "StrawDraws$Straws"
def TX4 : u_T := fun k => match k with
  | 0 => ("StrawDraws$Straws", "length", "[I", true)
  | _ => ("StrawDraws$Straws", "drawnFor", "[I", true)
def tyX4 : Nat → FieldType := fun k => match k with
  | 0 => .array .int
  | _ => .array .int
theorem nmX4 : ∀ a, a < 2 → ∀ b, b < 2 → a ≠ b → (TX4 a).2.1 ≠ (TX4 b).2.1 := by decide +kernel
theorem tyX4_ok : ∀ k, k < 2 → parseFieldDescriptor (TX4 k).2.2.1 = some (tyX4 k) := by decide +kernel
abbrev cX4_init : ByteArray := prog_6_method_1_code
def yX4_init : MethodName := ⟨RX4, "<init>", "()V"⟩
abbrev cX4_draw : ByteArray := prog_6_method_2_code
def yX4_draw : MethodName := ⟨RX4, "draw", "(LStrawDraws$State;II)V"⟩
abbrev cX4_lay : ByteArray := prog_6_method_3_code
def yX4_lay : MethodName := ⟨RX4, "lay", "(LStrawDraws$State;IILStrawDraws$Layout;)V"⟩
abbrev cX4_highest : ByteArray := prog_6_method_4_code
def yX4_highest : MethodName := ⟨RX4, "highest", "(LStrawDraws$State;II)I"⟩
abbrev cX4_longest : ByteArray := prog_6_method_5_code
def yX4_longest : MethodName := ⟨RX4, "longest", "(III)I"⟩
abbrev cX4_stir : ByteArray := prog_6_method_6_code
def yX4_stir : MethodName := ⟨RX4, "stir", "(I)I"⟩
def RX5 : String := "StrawDraws"
def TX5 : u_T := fun k => match k with
  | 0 => ("StrawDraws", "now", "LStrawDraws$State;", true)
  | 1 => ("StrawDraws", "history", "LStrawDraws$History;", true)
  | 2 => ("StrawDraws", "slots", "[LStrawDraws$State;", true)
  | 3 => ("StrawDraws", "isSaved", "[Z", true)
  | 4 => ("StrawDraws", "straws", "LStrawDraws$Straws;", true)
  | 5 => ("StrawDraws", "pad", "LStrawDraws$Pad;", true)
  | 6 => ("StrawDraws", "places", "LStrawDraws$Layout;", false)
  | _ => ("StrawDraws", "tried", "LStrawDraws$Layout;", false)
def tyX5 : Nat → FieldType := fun k => match k with
  | 0 => .object "StrawDraws$State"
  | 1 => .object "StrawDraws$History"
  | 2 => .array (.object "StrawDraws$State")
  | 3 => .array .boolean
  | 4 => .object "StrawDraws$Straws"
  | 5 => .object "StrawDraws$Pad"
  | 6 => .object "StrawDraws$Layout"
  | _ => .object "StrawDraws$Layout"
theorem nmX5 : ∀ a, a < 8 → ∀ b, b < 8 → a ≠ b → (TX5 a).2.1 ≠ (TX5 b).2.1 := by decide +kernel
theorem tyX5_ok : ∀ k, k < 8 → parseFieldDescriptor (TX5 k).2.2.1 = some (tyX5 k) := by decide +kernel
abbrev cX5_init : ByteArray := prog_1_method_1_code
def yX5_init : MethodName := ⟨RX5, "<init>", "()V"⟩
abbrev cX5_set : ByteArray := prog_1_method_2_code
def yX5_set : MethodName := ⟨RX5, "set", "(II)I"⟩
abbrev cX5_server : ByteArray := prog_1_method_3_code
def yX5_server : MethodName := ⟨RX5, "server", "(II)I"⟩
abbrev cX5_weigh : ByteArray := prog_1_method_4_code
def yX5_weigh : MethodName := ⟨RX5, "weigh", "(II)I"⟩
abbrev cX5_toRack : ByteArray := prog_1_method_5_code
def yX5_toRack : MethodName := ⟨RX5, "toRack", "(II)I"⟩
abbrev cX5_down : ByteArray := prog_1_method_6_code
def yX5_down : MethodName := ⟨RX5, "down", "(IZ)I"⟩
abbrev cX5_store : ByteArray := prog_1_method_7_code
def yX5_store : MethodName := ⟨RX5, "store", "(I)I"⟩
abbrev cX5_pin : ByteArray := prog_1_method_9_code
def yX5_pin : MethodName := ⟨RX5, "pin", "(II)I"⟩
abbrev cX5_ofServer : ByteArray := prog_1_method_10_code
def yX5_ofServer : MethodName := ⟨RX5, "ofServer", "(II)I"⟩
abbrev cX5_place : ByteArray := prog_1_method_11_code
def yX5_place : MethodName := ⟨RX5, "place", "(II)I"⟩
abbrev cX5_straw : ByteArray := prog_1_method_12_code
def yX5_straw : MethodName := ⟨RX5, "straw", "(II)I"⟩
abbrev cX5_move : ByteArray := prog_1_method_13_code
def yX5_move : MethodName := ⟨RX5, "move", "(II)I"⟩
abbrev cX5_object : ByteArray := prog_1_method_14_code
def yX5_object : MethodName := ⟨RX5, "object", "(II)I"⟩
abbrev cX5_count : ByteArray := prog_1_method_15_code
def yX5_count : MethodName := ⟨RX5, "count", "(I)I"⟩
abbrev cX5_movesIf : ByteArray := prog_1_method_16_code
def yX5_movesIf : MethodName := ⟨RX5, "movesIf", "(II)I"⟩
abbrev cX5_lostWith : ByteArray := prog_1_method_17_code
def yX5_lostWith : MethodName := ⟨RX5, "lostWith", "(II)I"⟩
abbrev cX5_undo : ByteArray := prog_1_method_23_code
def yX5_undo : MethodName := ⟨RX5, "undo", "()I"⟩
abbrev cX5_changeSetting : ByteArray := prog_1_method_26_code
def yX5_changeSetting : MethodName := ⟨RX5, "changeSetting", "(II)I"⟩
abbrev cX5_buildServer : ByteArray := prog_1_method_27_code
def yX5_buildServer : MethodName := ⟨RX5, "buildServer", "(II)I"⟩
abbrev cX5_changeWeight : ByteArray := prog_1_method_28_code
def yX5_changeWeight : MethodName := ⟨RX5, "changeWeight", "(II)I"⟩
abbrev cX5_changeRack : ByteArray := prog_1_method_29_code
def yX5_changeRack : MethodName := ⟨RX5, "changeRack", "(II)I"⟩
abbrev cX5_changeDown : ByteArray := prog_1_method_30_code
def yX5_changeDown : MethodName := ⟨RX5, "changeDown", "(IZ)I"⟩
abbrev cX5_keepObject : ByteArray := prog_1_method_31_code
def yX5_keepObject : MethodName := ⟨RX5, "keepObject", "(I)I"⟩
abbrev cX5_changePin : ByteArray := prog_1_method_33_code
def yX5_changePin : MethodName := ⟨RX5, "changePin", "(II)I"⟩
abbrev cX5_recorded : ByteArray := prog_1_method_35_code
def yX5_recorded : MethodName := ⟨RX5, "recorded", "(I)I"⟩
abbrev cX5_weightError : ByteArray := prog_1_method_36_code
def yX5_weightError : MethodName := ⟨RX5, "weightError", "(II)I"⟩
abbrev cX5_isWeight : ByteArray := prog_1_method_37_code
def yX5_isWeight : MethodName := ⟨RX5, "isWeight", "(I)Z"⟩
abbrev cX5_isRack : ByteArray := prog_1_method_38_code
def yX5_isRack : MethodName := ⟨RX5, "isRack", "(I)Z"⟩
abbrev cX5_layAll : ByteArray := prog_1_method_39_code
def yX5_layAll : MethodName := ⟨RX5, "layAll", "(LStrawDraws$Layout;)V"⟩
abbrev cX5_findMoves : ByteArray := prog_1_method_40_code
def yX5_findMoves : MethodName := ⟨RX5, "findMoves", "()I"⟩
abbrev cX5_fairShare : ByteArray := prog_1_method_41_code
def yX5_fairShare : MethodName := ⟨RX5, "fairShare", "(ILStrawDraws$Layout;I)I"⟩
abbrev cX5_mostOverloaded : ByteArray := prog_1_method_43_code
def yX5_mostOverloaded : MethodName := ⟨RX5, "mostOverloaded", "()I"⟩
def RX6 : String := "StrawDrawsModel"
def TX6 : u_T := fun k => match k with
  | _ => ("", "", "", false)
def tyX6 : Nat → FieldType := fun k => match k with
  | _ => .int
theorem nmX6 : ∀ a, a < 0 → ∀ b, b < 0 → a ≠ b → (TX6 a).2.1 ≠ (TX6 b).2.1 := by decide +kernel
theorem tyX6_ok : ∀ k, k < 0 → parseFieldDescriptor (TX6 k).2.2.1 = some (tyX6 k) := by decide +kernel
def RJ6 : String := "java/lang/Integer"
def TJ6 : u_T := fun k => match k with
  | _ => ("", "", "", false)
def tyJ6 : Nat → FieldType := fun k => match k with
  | _ => .int
theorem nmJ6 : ∀ a, a < 0 → ∀ b, b < 0 → a ≠ b → (TJ6 a).2.1 ≠ (TJ6 b).2.1 := by decide +kernel
theorem tyJ6_ok : ∀ k, k < 0 → parseFieldDescriptor (TJ6 k).2.2.1 = some (tyJ6 k) := by decide +kernel
abbrev cJ6_bitCount_0f7a4 : ByteArray := prog_9_method_49_code
def yJ6_bitCount_0f7a4 : MethodName := ⟨RJ6, "bitCount", "(I)I"⟩
def RJ9 : String := "java/lang/Math"
def TJ9 : u_T := fun k => match k with
  | _ => ("", "", "", false)
def tyJ9 : Nat → FieldType := fun k => match k with
  | _ => .int
theorem nmJ9 : ∀ a, a < 0 → ∀ b, b < 0 → a ≠ b → (TJ9 a).2.1 ≠ (TJ9 b).2.1 := by decide +kernel
theorem tyJ9_ok : ∀ k, k < 0 → parseFieldDescriptor (TJ9 k).2.2.1 = some (tyJ9 k) := by decide +kernel
abbrev cJ9_max_7cf53 : ByteArray := prog_10_method_65_code
def yJ9_max_7cf53 : MethodName := ⟨RJ9, "max", "(II)I"⟩
def RJ10 : String := "java/lang/System"
def TJ10 : u_T := fun k => match k with
  | _ => ("", "", "", false)
def tyJ10 : Nat → FieldType := fun k => match k with
  | _ => .int
theorem nmJ10 : ∀ a, a < 0 → ∀ b, b < 0 → a ≠ b → (TJ10 a).2.1 ≠ (TJ10 b).2.1 := by decide +kernel
theorem tyJ10_ok : ∀ k, k < 0 → parseFieldDescriptor (TJ10 k).2.2.1 = some (tyJ10 k) := by decide +kernel
def RJ7 : String := "java/util/Arrays"
def TJ7 : u_T := fun k => match k with
  | _ => ("", "", "", false)
def tyJ7 : Nat → FieldType := fun k => match k with
  | _ => .int
theorem nmJ7 : ∀ a, a < 0 → ∀ b, b < 0 → a ≠ b → (TJ7 a).2.1 ≠ (TJ7 b).2.1 := by decide +kernel
theorem tyJ7_ok : ∀ k, k < 0 → parseFieldDescriptor (TJ7 k).2.2.1 = some (tyJ7 k) := by decide +kernel
abbrev cJ7_fill_53178 : ByteArray := prog_12_method_103_code
def yJ7_fill_53178 : MethodName := ⟨RJ7, "fill", "([II)V"⟩
def RL : String := "StrawDrawsLaw"
abbrev cL_cell : ByteArray := method_2_code
def yL_cell : MethodName := ⟨RL, "cell", "([II)I"⟩
abbrev cL_up : ByteArray := method_3_code
def yL_up : MethodName := ⟨RL, "up", "(II)I"⟩
abbrev cL_areTo : ByteArray := method_4_code
def yL_areTo : MethodName := ⟨RL, "areTo", "(LStrawDraws;II)Z"⟩
abbrev cL_isWeighed : ByteArray := method_5_code
def yL_isWeighed : MethodName := ⟨RL, "isWeighed", "(LStrawDraws;II)Z"⟩
abbrev cL_isDown : ByteArray := method_6_code
def yL_isDown : MethodName := ⟨RL, "isDown", "(LStrawDraws;I)Z"⟩
abbrev cL_isStep : ByteArray := method_7_code
def yL_isStep : MethodName := ⟨RL, "isStep", "(LStrawDraws;I)Z"⟩
abbrev cL_areKept : ByteArray := method_8_code
def yL_areKept : MethodName := ⟨RL, "areKept", "(LStrawDraws;)Z"⟩
abbrev cL_law : ByteArray := code
def yL_law : MethodName := ⟨RL, "law", "([I)Z"⟩
def zO : List String := [RX0, RX1, RX2, RX3, RX4, RX5, RX6, RJ6, RJ7, RL]
abbrev zcl : List vw_C := [(RX0, TX0, 3), (RX1, TX1, 4), (RX2, TX2, 6), (RX3, TX3, 13), (RX4, TX4, 2), (RX5, TX5, 8)]
def zTT (c : Nat) : u_T := match c with
  | 0 => TX0
  | 1 => TX1
  | 2 => TX2
  | 3 => TX3
  | 4 => TX4
  | 5 => TX5
  | _ => TX6
def ztt (c : Nat) : Nat → FieldType := match c with
  | 0 => tyX0
  | 1 => tyX1
  | 2 => tyX2
  | 3 => tyX3
  | 4 => tyX4
  | 5 => tyX5
  | _ => tyX6
def zNF (c : Nat) : Nat := match c with
  | 0 => 3
  | 1 => 4
  | 2 => 6
  | 3 => 13
  | 4 => 2
  | 5 => 8
  | _ => 0
abbrev zM_t : Type := MethodName × ByteArray × Nat × Option FieldType × Nat × Nat × Nat × Nat
def zM : List zM_t := [
  (yX0_init, cX0_init, 2, none, 0, 0, 2, 46),
  (yX0_draft, cX0_draft, 2, none, 0, 1, 2, 47),
  (yX0_keepDraft, cX0_keepDraft, 1, none, 0, 0, 0, 0),
  (yX0_takeLatest, cX0_takeLatest, 2, none, 0, 1, 2, 47),
  (yX1_init, cX1_init, 1, none, 1, 0, 1, 26),
  (yX1_clear, cX1_clear, 1, none, 1, 0, 1, 23),
  (yX1_add, cX1_add, 3, none, 1, 2, 0, 0),
  (yX1_serverOf, cX1_serverOf, 3, (some .int), 1, 2, 0, 0),
  (yX1_serversOf, cX1_serversOf, 4, (some .int), 1, 1, 0, 0),
  (yX1_firstCopies, cX1_firstCopies, 5, (some .int), 1, 2, 1, 22),
  (yX1_rowsBelow, cX1_rowsBelow, 5, (some .int), 1, 2, 0, 0),
  (yX2_init, cX2_init, 1, none, 2, 0, 1, 26),
  (yX3_init, cX3_init, 1, none, 3, 0, 1, 26),
  (yX3_copyFrom, cX3_copyFrom, 2, none, 3, 1, 1, 26),
  (yX3_hasServer, cX3_hasServer, 2, (some .boolean), 3, 1, 0, 0),
  (yX3_takesPart, cX3_takesPart, 2, (some .boolean), 3, 1, 0, 0),
  (yX3_serversTakingPart, cX3_serversTakingPart, 3, (some .int), 3, 0, 1, 21),
  (yX3_weightsTogether, cX3_weightsTogether, 3, (some .int), 3, 0, 1, 21),
  (yX3_pinsTo, cX3_pinsTo, 4, (some .int), 3, 1, 0, 0),
  (yX3_rowOf, cX3_rowOf, 3, (some .int), 3, 1, 0, 0),
  (yX3_insert, cX3_insert, 3, (some .int), 3, 1, 0, 0),
  (yX3_addMoves, cX3_addMoves, 7, none, 3, 3, 1, 23),
  (yX3_nthServer, cX3_nthServer, 4, (some .int), 3, 2, 0, 0),
  (yX4_init, cX4_init, 1, none, 4, 0, 1, 26),
  (yX4_draw, cX4_draw, 9, none, 4, 3, 2, 51),
  (yX4_lay, cX4_lay, 9, none, 4, 4, 2, 48),
  (yX4_highest, cX4_highest, 8, (some .int), 4, 3, 1, 21),
  (yX4_longest, cX4_longest, 6, (some .int), 4, 3, 1, 26),
  (yX4_stir, cX4_stir, 1, (some .int), 4, 1, 0, 0),
  (yX5_init, cX5_init, 2, none, 5, 0, 3, 67),
  (yX5_set, cX5_set, 3, (some .int), 5, 2, 6, 146),
  (yX5_server, cX5_server, 3, (some .int), 5, 2, 6, 147),
  (yX5_weigh, cX5_weigh, 3, (some .int), 5, 2, 6, 147),
  (yX5_toRack, cX5_toRack, 3, (some .int), 5, 2, 6, 146),
  (yX5_down, cX5_down, 3, (some .int), 5, 2, 6, 146),
  (yX5_store, cX5_store, 2, (some .int), 5, 1, 5, 123),
  (yX5_pin, cX5_pin, 3, (some .int), 5, 2, 6, 147),
  (yX5_ofServer, cX5_ofServer, 3, (some .int), 5, 2, 2, 46),
  (yX5_place, cX5_place, 4, (some .int), 5, 2, 3, 79),
  (yX5_straw, cX5_straw, 3, (some .int), 5, 2, 2, 51),
  (yX5_move, cX5_move, 3, (some .int), 5, 2, 0, 0),
  (yX5_object, cX5_object, 3, (some .int), 5, 2, 0, 0),
  (yX5_count, cX5_count, 2, (some .int), 5, 1, 3, 69),
  (yX5_movesIf, cX5_movesIf, 9, (some .int), 5, 2, 4, 101),
  (yX5_lostWith, cX5_lostWith, 6, (some .int), 5, 2, 1, 23),
  (yX5_undo, cX5_undo, 1, (some .int), 5, 0, 4, 101),
  (yX5_changeSetting, cX5_changeSetting, 3, (some .int), 5, 2, 5, 124),
  (yX5_buildServer, cX5_buildServer, 4, (some .int), 5, 2, 5, 124),
  (yX5_changeWeight, cX5_changeWeight, 4, (some .int), 5, 2, 5, 124),
  (yX5_changeRack, cX5_changeRack, 3, (some .int), 5, 2, 5, 124),
  (yX5_changeDown, cX5_changeDown, 3, (some .int), 5, 2, 5, 124),
  (yX5_keepObject, cX5_keepObject, 3, (some .int), 5, 1, 4, 101),
  (yX5_changePin, cX5_changePin, 4, (some .int), 5, 2, 5, 124),
  (yX5_recorded, cX5_recorded, 2, (some .int), 5, 1, 1, 20),
  (yX5_weightError, cX5_weightError, 3, (some .int), 5, 2, 1, 21),
  (yX5_isWeight, cX5_isWeight, 1, (some .boolean), 5, 1, 0, 0),
  (yX5_isRack, cX5_isRack, 1, (some .boolean), 5, 1, 0, 0),
  (yX5_layAll, cX5_layAll, 3, none, 5, 1, 3, 79),
  (yX5_findMoves, cX5_findMoves, 4, (some .int), 5, 0, 4, 101),
  (yX5_fairShare, cX5_fairShare, 4, (some .int), 5, 3, 1, 21),
  (yX5_mostOverloaded, cX5_mostOverloaded, 6, (some .int), 5, 0, 2, 44),
  (yJ6_bitCount_0f7a4, cJ6_bitCount_0f7a4, 1, (some .int), 7, 1, 0, 0),
  (yJ7_fill_53178, cJ7_fill_53178, 4, none, 8, 2, 0, 0),
  (yL_cell, cL_cell, 2, (some .int), 9, 2, 0, 0),
  (yL_up, cL_up, 2, (some .int), 9, 2, 0, 0),
  (yL_areTo, cL_areTo, 6, (some .boolean), 9, 3, 4, 90),
  (yL_isWeighed, cL_isWeighed, 6, (some .boolean), 9, 3, 7, 169),
  (yL_isDown, cL_isDown, 5, (some .boolean), 9, 2, 7, 168),
  (yL_isStep, cL_isStep, 9, (some .boolean), 9, 2, 8, 194),
  (yL_areKept, cL_areKept, 15, (some .boolean), 9, 1, 4, 102),
  (yL_law, cL_law, 4, (some .boolean), 9, 1, 9, 222)]
def zmt (y : Nat) : zM_t := zM.getD y (yL_law, cL_law, 0, none, 0, 0, 0, 0)
def zname (y : Nat) : MethodName := (zmt y).1
def zcode (y : Nat) : ByteArray := (zmt y).2.1
def zmaxL (y : Nat) : Nat := (zmt y).2.2.1
def zret (y : Nat) : Option FieldType := (zmt y).2.2.2.1
def zown (y : Nat) : Nat := (zmt y).2.2.2.2.1
def zna (y : Nat) : Nat := (zmt y).2.2.2.2.2.1
def zfr (y : Nat) : Nat := (zmt y).2.2.2.2.2.2.1
def zlo (y : Nat) : Nat := (zmt y).2.2.2.2.2.2.2
def zOn (o : Nat) : String := zO.getD o RL
/-- fields: (own, pool entry), (number of the declaring one, place), where the word stands -/
def zFt : List ((Nat × Nat) × (Nat × Nat) × Nat) := [((0, 13), (0, 0), 108), ((0, 17), (0, 1), 109), ((0, 21), (0, 2), 110), ((1, 9), (1, 0), 165), ((1, 15), (1, 1), 167), ((1, 18), (1, 2), 168), ((1, 21), (1, 3), 170), ((2, 9), (2, 0), 138), ((2, 15), (2, 1), 139), ((2, 19), (2, 2), 141), ((2, 22), (2, 3), 142), ((2, 26), (2, 4), 143), ((2, 29), (2, 5), 144), ((3, 9), (3, 0), 39), ((3, 15), (3, 1), 42), ((3, 18), (3, 2), 45), ((3, 21), (3, 3), 48), ((3, 25), (3, 4), 51), ((3, 28), (3, 5), 54), ((3, 32), (3, 6), 56), ((3, 35), (3, 7), 58), ((3, 38), (3, 8), 60), ((3, 41), (3, 9), 62), ((3, 44), (3, 10), 64), ((3, 47), (3, 11), 66), ((3, 50), (3, 12), 68), ((4, 9), (4, 0), 125), ((4, 15), (4, 1), 126), ((4, 18), (3, 1), 43), ((4, 24), (3, 2), 46), ((4, 31), (3, 4), 52), ((4, 38), (3, 0), 40), ((4, 51), (3, 3), 49), ((5, 12), (5, 0), 181), ((5, 19), (5, 1), 182), ((5, 23), (5, 2), 183), ((5, 27), (5, 3), 184), ((5, 34), (5, 4), 185), ((5, 41), (5, 5), 186), ((5, 48), (5, 6), 187), ((5, 52), (5, 7), 188), ((5, 93), (3, 3), 50), ((5, 97), (3, 4), 53), ((5, 100), (3, 5), 55), ((5, 103), (1, 2), 169), ((5, 114), (3, 6), 57), ((5, 144), (3, 1), 44), ((5, 151), (3, 9), 63), ((5, 154), (3, 10), 65), ((5, 157), (3, 11), 67), ((5, 160), (3, 12), 69), ((5, 163), (3, 7), 59), ((5, 166), (3, 8), 61), ((5, 169), (1, 0), 166), ((5, 172), (3, 2), 47), ((5, 175), (1, 3), 171), ((5, 178), (3, 0), 41), ((5, 189), (2, 1), 140), ((5, 192), (0, 2), 111)]
/-- calls: (own, pool entry), (kind, number of the method), where the words stand: link, side, selects, initialised, code -/
def zCt : List ((Nat × Nat) × (Nat × Nat) × List Nat) := [
((0, 3), (4, 0), [104, 31, 0, 0, 32]), ((0, 24), (3, 12), [107, 36, 0, 16, 37]), ((0, 25), (0, 13), [254, 255, 256, 16, 257]), ((1, 3), (4, 0), [164, 31, 0, 0, 32]),
  ((1, 25), (1, 62), [283, 284, 0, 22, 285]), ((1, 31), (0, 7), [372, 373, 374, 20, 375]), ((2, 3), (4, 0), [137, 31, 0, 0, 32]), ((3, 3), (4, 0), [38, 31, 0, 0, 32]),
  ((3, 53), (5, 0), [258, 259, 260, 21, 0]), ((3, 59), (0, 15), [225, 226, 227, 16, 228]), ((3, 63), (1, 22), [323, 324, 0, 16, 325]), ((4, 3), (4, 0), [124, 31, 0, 0, 32]),
  ((4, 27), (0, 15), [290, 226, 227, 16, 228]), ((4, 34), (1, 27), [291, 292, 0, 18, 293]), ((4, 41), (0, 26), [307, 309, 5, 18, 310]), ((4, 45), (0, 6), [311, 312, 313, 20, 314]),
  ((4, 54), (1, 28), [294, 295, 0, 18, 296]), ((4, 59), (6, 0), [300, 301, 0, 23, 302]), ((5, 3), (4, 0), [30, 31, 0, 0, 32]), ((5, 11), (3, 12), [35, 36, 0, 16, 37]),
  ((5, 18), (2, 0), [101, 102, 0, 17, 103]), ((5, 33), (3, 23), [121, 122, 0, 18, 123]), ((5, 40), (3, 11), [134, 135, 0, 19, 136]), ((5, 47), (3, 4), [161, 162, 0, 20, 163]),
  ((5, 55), (0, 1), [250, 251, 252, 17, 253]), ((5, 59), (0, 46), [426, 428, 11, 15, 429]), ((5, 63), (0, 53), [326, 328, 6, 15, 329]), ((5, 67), (0, 47), [261, 263, 2, 15, 264]),
  ((5, 70), (0, 48), [399, 401, 9, 15, 402]), ((5, 73), (0, 49), [451, 453, 13, 15, 454]), ((5, 76), (0, 50), [410, 412, 10, 15, 413]), ((5, 80), (0, 51), [345, 347, 7, 15, 348]),
  ((5, 86), (0, 52), [438, 440, 12, 15, 441]), ((5, 89), (0, 14), [364, 365, 366, 16, 367]), ((5, 106), (0, 17), [229, 230, 231, 16, 232]), ((5, 110), (0, 59), [238, 240, 1, 15, 241]),
  ((5, 118), (0, 9), [368, 369, 370, 20, 371]), ((5, 121), (0, 18), [376, 377, 378, 16, 379]), ((5, 124), (0, 19), [349, 350, 351, 16, 352]), ((5, 127), (0, 7), [446, 373, 374, 20, 375]),
  ((5, 130), (0, 5), [279, 280, 281, 20, 282]), ((5, 133), (0, 24), [286, 287, 288, 18, 289]), ((5, 137), (0, 25), [303, 304, 305, 18, 306]), ((5, 141), (0, 15), [237, 226, 227, 16, 228]),
  ((5, 147), (1, 27), [462, 292, 0, 18, 293]), ((5, 180), (0, 10), [217, 218, 219, 20, 220]), ((5, 183), (0, 16), [221, 222, 223, 16, 224]), ((5, 186), (0, 60), [233, 235, 0, 15, 236]),
  ((5, 195), (0, 54), [384, 386, 8, 15, 387]), ((5, 198), (0, 57), [275, 277, 4, 15, 278]), ((5, 202), (0, 8), [315, 316, 317, 20, 318]), ((5, 205), (1, 61), [388, 389, 0, 24, 390]),
  ((5, 210), (6, 0), [394, 301, 0, 23, 302]), ((5, 244), (0, 3), [418, 419, 420, 17, 421]), ((5, 250), (0, 58), [271, 273, 3, 15, 274]), ((5, 253), (1, 56), [265, 266, 0, 15, 267]),
  ((5, 256), (1, 55), [268, 269, 0, 15, 270]), ((5, 259), (0, 20), [353, 354, 355, 16, 356]), ((5, 276), (0, 2), [330, 331, 332, 17, 333]), ((5, 279), (0, 21), [319, 320, 321, 16, 322]),
  ((9, 9), (0, 42), [213, 214, 215, 15, 216]), ((9, 15), (0, 40), [337, 338, 339, 15, 340]), ((9, 19), (0, 37), [360, 361, 362, 15, 363]), ((9, 22), (0, 43), [380, 381, 382, 15, 383]),
  ((9, 25), (0, 32), [395, 396, 397, 15, 398]), ((9, 28), (1, 65), [334, 335, 0, 14, 336]), ((9, 34), (0, 34), [406, 407, 408, 15, 409]), ((9, 38), (0, 45), [414, 415, 416, 15, 417]),
  ((9, 42), (1, 64), [242, 243, 0, 14, 244]), ((9, 45), (0, 31), [246, 247, 248, 15, 249]), ((9, 48), (0, 35), [341, 342, 343, 15, 344]), ((9, 51), (1, 66), [357, 358, 0, 14, 359]),
  ((9, 54), (1, 67), [403, 404, 0, 14, 405]), ((9, 58), (0, 30), [422, 423, 424, 15, 425]), ((9, 61), (0, 41), [430, 431, 432, 15, 433]), ((9, 64), (0, 36), [434, 435, 436, 15, 437]),
  ((9, 67), (0, 38), [442, 443, 444, 15, 445]), ((9, 70), (0, 33), [447, 448, 449, 15, 450]), ((9, 73), (0, 39), [458, 459, 460, 15, 461]), ((9, 76), (0, 44), [463, 464, 465, 15, 466]),
  ((9, 79), (2, 29), [27, 28, 0, 15, 29]), ((9, 80), (1, 63), [206, 207, 0, 14, 208]), ((9, 84), (1, 68), [210, 211, 0, 14, 212]), ((9, 87), (1, 69), [455, 456, 0, 14, 457])]
/-- new: (own, pool entry), number of the one made, where the words stand: link, instantiable, initialised -/
def zNt : List ((Nat × Nat) × Nat × List Nat) := [((9, 10), 5, [25, 26, 15]), ((5, 9), 3, [33, 34, 16]), ((5, 16), 0, [99, 100, 17]), ((0, 11), 3, [105, 34, 16]), ((5, 31), 4, [119, 120, 18]), ((5, 38), 2, [132, 133, 19]), ((5, 45), 1, [159, 160, 20])]
def zKt : List ((Nat × Nat) × Int32 × Nat) := [((9, 7), 786023723, 209), ((9, 8), 2147483647, 245), ((4, 65), 1103515245, 297), ((4, 66), 2147483647, 298), ((4, 58), 104729, 299), ((7, 265), 1431655765, 391), ((7, 266), 858993459, 392), ((7, 267), 252645135, 393)]
def zJt : List ((Nat × Nat) × Int64 × Nat) := []
def zAp : List Nat := [97, 98, 158]
-- arrayOver at 106, native at 260
