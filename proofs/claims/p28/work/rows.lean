section
-- ===== PART A: goes FIRST, ahead of the names: the tables' words, and 'selects' of the private methods out of them =====
/-- a private method of a class that the tables say can be made, by its rows of tables_1 -/
def lw_okq (q : MethodName × Nat) : Prop := (q.1.cls ≠ "java/lang/invoke/MethodHandle" ∧ q.1.cls ≠ "java/lang/invoke/VarHandle") ∧ Cond.instantiable q.1.cls q.2 ∈ tables_1 ∧ Cond.privateMethod q.1 ∈ tables_1 ∧ Cond.instanceMethod q.1 ∈ tables_1
theorem lw_p0 : lw_okq (⟨"SaltWedge", "recorded", "(I)I"⟩, 9) := ⟨⟨by decide +kernel, by decide +kernel⟩, List.mem_of_getElem? (i := 11) (by decide +kernel), List.mem_of_getElem? (i := 213) (by decide +kernel), List.mem_of_getElem? (i := 214) (by decide +kernel)⟩
theorem lw_p1 : lw_okq (⟨"SaltWedge$History", "dropOldest", "()V"⟩, 2) := ⟨⟨by decide +kernel, by decide +kernel⟩, List.mem_of_getElem? (i := 109) (by decide +kernel), List.mem_of_getElem? (i := 221) (by decide +kernel), List.mem_of_getElem? (i := 222) (by decide +kernel)⟩
theorem lw_p2 : lw_okq (⟨"SaltWedge$State", "pushWith", "(II)I"⟩, 6) := ⟨⟨by decide +kernel, by decide +kernel⟩, List.mem_of_getElem? (i := 19) (by decide +kernel), List.mem_of_getElem? (i := 345) (by decide +kernel), List.mem_of_getElem? (i := 346) (by decide +kernel)⟩
theorem lw_p3 : lw_okq (⟨"SaltWedge$Bed", "markFrom", "(II)I"⟩, 4) := ⟨⟨by decide +kernel, by decide +kernel⟩, List.mem_of_getElem? (i := 25) (by decide +kernel), List.mem_of_getElem? (i := 357) (by decide +kernel), List.mem_of_getElem? (i := 358) (by decide +kernel)⟩
theorem lw_p4 : lw_okq (⟨"SaltWedge$Wells", "turnOrRecover", "()V"⟩, 7) := ⟨⟨by decide +kernel, by decide +kernel⟩, List.mem_of_getElem? (i := 52) (by decide +kernel), List.mem_of_getElem? (i := 383) (by decide +kernel), List.mem_of_getElem? (i := 384) (by decide +kernel)⟩
theorem lw_p5 : lw_okq (⟨"SaltWedge$Bed", "offeredTo", "(III)I"⟩, 4) := ⟨⟨by decide +kernel, by decide +kernel⟩, List.mem_of_getElem? (i := 25) (by decide +kernel), List.mem_of_getElem? (i := 445) (by decide +kernel), List.mem_of_getElem? (i := 446) (by decide +kernel)⟩
def lw_privs_1 : List (MethodName × Nat) := [(⟨"SaltWedge", "recorded", "(I)I"⟩, 9), (⟨"SaltWedge$History", "dropOldest", "()V"⟩, 2), (⟨"SaltWedge$State", "pushWith", "(II)I"⟩, 6), (⟨"SaltWedge$Bed", "markFrom", "(II)I"⟩, 4), (⟨"SaltWedge$Wells", "turnOrRecover", "()V"⟩, 7), (⟨"SaltWedge$Bed", "offeredTo", "(III)I"⟩, 4)]
theorem lw_r1 : ∀ q ∈ lw_privs_1, lw_okq q := List.forall_mem_cons.mpr ⟨lw_p0, List.forall_mem_cons.mpr ⟨lw_p1, List.forall_mem_cons.mpr ⟨lw_p2, List.forall_mem_cons.mpr ⟨lw_p3, List.forall_mem_cons.mpr ⟨lw_p4, List.forall_mem_cons.mpr ⟨lw_p5, fun _ h => absurd h List.not_mem_nil⟩⟩⟩⟩⟩⟩
def lw_privs : List (MethodName × Nat) := lw_privs_1
def lw_tbl : List Cond := k2_sels lw_privs ++ tables_1
theorem lw_privs_ok : ∀ q ∈ lw_privs, lw_okq q := lw_r1
end
section
def RX0 : String := "SaltWedge$Bed"
def TX0 : u_T := fun k => match k with
  | 0 => ("SaltWedge$Bed", "depths", "[I", true)
  | 1 => ("SaltWedge$Bed", "sills", "[I", true)
  | 2 => ("SaltWedge$Bed", "heights", "[I", true)
  | _ => ("SaltWedge$Bed", "saltTides", "[I", true)
def tyX0 : Nat → FieldType := fun k => match k with
  | 0 => .array .int
  | 1 => .array .int
  | 2 => .array .int
  | _ => .array .int
abbrev wsX00 : List Cond := u_ws RX0 TX0 4
theorem nmX0 : ∀ a, a < 4 → ∀ b, b < 4 → a ≠ b → (TX0 a).2.1 ≠ (TX0 b).2.1 := by decide +kernel
theorem tyX0_ok : ∀ k, k < 4 → parseFieldDescriptor (TX0 k).2.2.1 = some (tyX0 k) := by decide +kernel
abbrev cX0_init : ByteArray := prog_2_method_1_code
def yX0_init : MethodName := ⟨RX0, "<init>", "()V"⟩
abbrev cX0_copyFrom : ByteArray := prog_2_method_2_code
def yX0_copyFrom : MethodName := ⟨RX0, "copyFrom", "(LSaltWedge$Bed;)V"⟩
abbrev cX0_deepen : ByteArray := prog_2_method_3_code
def yX0_deepen : MethodName := ⟨RX0, "deepen", "(II)I"⟩
abbrev cX0_raiseSill : ByteArray := prog_2_method_4_code
def yX0_raiseSill : MethodName := ⟨RX0, "raiseSill", "(II)I"⟩
abbrev cX0_markFrom : ByteArray := prog_2_method_5_code
def yX0_markFrom : MethodName := ⟨RX0, "markFrom", "(II)I"⟩
abbrev cX0_offeredTo : ByteArray := prog_2_method_6_code
def yX0_offeredTo : MethodName := ⟨RX0, "offeredTo", "(III)I"⟩
abbrev cX0_markOf : ByteArray := prog_2_method_7_code
def yX0_markOf : MethodName := ⟨RX0, "markOf", "(III)I"⟩
abbrev cX0_stopOf : ByteArray := prog_2_method_8_code
def yX0_stopOf : MethodName := ⟨RX0, "stopOf", "(II)I"⟩
abbrev cX0_reasonOf : ByteArray := prog_2_method_9_code
def yX0_reasonOf : MethodName := ⟨RX0, "reasonOf", "(III)I"⟩
abbrev cX0_bestCellFor : ByteArray := prog_2_method_10_code
def yX0_bestCellFor : MethodName := ⟨RX0, "bestCellFor", "(III)I"⟩
abbrev cX0_follow : ByteArray := prog_2_method_11_code
def yX0_follow : MethodName := ⟨RX0, "follow", "(III)V"⟩
abbrev cX0_moved : ByteArray := prog_2_method_12_code
def yX0_moved : MethodName := ⟨RX0, "moved", "(III)I"⟩
abbrev cX0_excess : ByteArray := prog_2_method_13_code
def yX0_excess : MethodName := ⟨RX0, "excess", "(II)I"⟩
abbrev cX0_greatestSaltCell : ByteArray := prog_2_method_14_code
def yX0_greatestSaltCell : MethodName := ⟨RX0, "greatestSaltCell", "()I"⟩
abbrev cX0_saltCells : ByteArray := prog_2_method_15_code
def yX0_saltCells : MethodName := ⟨RX0, "saltCells", "()I"⟩
abbrev cX0_sumOfHeights : ByteArray := prog_2_method_16_code
def yX0_sumOfHeights : MethodName := ⟨RX0, "sumOfHeights", "()I"⟩
def RX1 : String := "SaltWedge$History"
def TX1 : u_T := fun k => match k with
  | 0 => ("SaltWedge$History", "states", "[LSaltWedge$State;", true)
  | _ => ("SaltWedge$History", "size", "I", false)
def tyX1 : Nat → FieldType := fun k => match k with
  | 0 => .array (.object "SaltWedge$State")
  | _ => .int
abbrev wsX10 : List Cond := u_ws RX1 TX1 2
theorem nmX1 : ∀ a, a < 2 → ∀ b, b < 2 → a ≠ b → (TX1 a).2.1 ≠ (TX1 b).2.1 := by decide +kernel
theorem tyX1_ok : ∀ k, k < 2 → parseFieldDescriptor (TX1 k).2.2.1 = some (tyX1 k) := by decide +kernel
abbrev cX1_init : ByteArray := prog_3_method_1_code
def yX1_init : MethodName := ⟨RX1, "<init>", "()V"⟩
abbrev cX1_add : ByteArray := prog_3_method_2_code
def yX1_add : MethodName := ⟨RX1, "add", "(LSaltWedge$State;)V"⟩
abbrev cX1_dropOldest : ByteArray := prog_3_method_3_code
def yX1_dropOldest : MethodName := ⟨RX1, "dropOldest", "()V"⟩
abbrev cX1_takeLatest : ByteArray := prog_3_method_4_code
def yX1_takeLatest : MethodName := ⟨RX1, "takeLatest", "(LSaltWedge$State;)Z"⟩
def RX2 : String := "SaltWedge$Script"
def TX2 : u_T := fun k => match k with
  | 0 => ("SaltWedge$Script", "characters", "[C", true)
  | 1 => ("SaltWedge$Script", "length", "I", false)
  | 2 => ("SaltWedge$Script", "kinds", "[I", true)
  | 3 => ("SaltWedge$Script", "firsts", "[I", true)
  | 4 => ("SaltWedge$Script", "seconds", "[I", true)
  | 5 => ("SaltWedge$Script", "things", "I", false)
  | _ => ("SaltWedge$Script", "at", "I", false)
def tyX2 : Nat → FieldType := fun k => match k with
  | 0 => .array .char
  | 1 => .int
  | 2 => .array .int
  | 3 => .array .int
  | 4 => .array .int
  | 5 => .int
  | _ => .int
abbrev wsX20 : List Cond := u_ws RX2 TX2 7
theorem nmX2 : ∀ a, a < 7 → ∀ b, b < 7 → a ≠ b → (TX2 a).2.1 ≠ (TX2 b).2.1 := by decide +kernel
theorem tyX2_ok : ∀ k, k < 7 → parseFieldDescriptor (TX2 k).2.2.1 = some (tyX2 k) := by decide +kernel
abbrev cX2_init : ByteArray := prog_4_method_1_code
def yX2_init : MethodName := ⟨RX2, "<init>", "()V"⟩
def RX3 : String := "SaltWedge$State"
def TX3 : u_T := fun k => match k with
  | 0 => ("SaltWedge$State", "bed", "LSaltWedge$Bed;", true)
  | 1 => ("SaltWedge$State", "wells", "LSaltWedge$Wells;", true)
  | 2 => ("SaltWedge$State", "settings", "[I", true)
  | 3 => ("SaltWedge$State", "flow", "I", false)
  | 4 => ("SaltWedge$State", "tides", "I", false)
  | _ => ("SaltWedge$State", "farthest", "I", false)
def tyX3 : Nat → FieldType := fun k => match k with
  | 0 => .object "SaltWedge$Bed"
  | 1 => .object "SaltWedge$Wells"
  | 2 => .array .int
  | 3 => .int
  | 4 => .int
  | _ => .int
abbrev wsX30 : List Cond := u_ws RX3 TX3 6
theorem nmX3 : ∀ a, a < 6 → ∀ b, b < 6 → a ≠ b → (TX3 a).2.1 ≠ (TX3 b).2.1 := by decide +kernel
theorem tyX3_ok : ∀ k, k < 6 → parseFieldDescriptor (TX3 k).2.2.1 = some (tyX3 k) := by decide +kernel
abbrev cX3_init : ByteArray := prog_5_method_1_code
def yX3_init : MethodName := ⟨RX3, "<init>", "()V"⟩
abbrev cX3_copyFrom : ByteArray := prog_5_method_2_code
def yX3_copyFrom : MethodName := ⟨RX3, "copyFrom", "(LSaltWedge$State;)V"⟩
abbrev cX3_changeFlow : ByteArray := prog_5_method_3_code
def yX3_changeFlow : MethodName := ⟨RX3, "changeFlow", "(I)I"⟩
abbrev cX3_changeSetting : ByteArray := prog_5_method_4_code
def yX3_changeSetting : MethodName := ⟨RX3, "changeSetting", "(II)I"⟩
abbrev cX3_slope : ByteArray := prog_5_method_5_code
def yX3_slope : MethodName := ⟨RX3, "slope", "()I"⟩
abbrev cX3_pushOf : ByteArray := prog_5_method_6_code
def yX3_pushOf : MethodName := ⟨RX3, "pushOf", "(I)I"⟩
abbrev cX3_pushWith : ByteArray := prog_5_method_7_code
def yX3_pushWith : MethodName := ⟨RX3, "pushWith", "(II)I"⟩
abbrev cX3_letTidesCome : ByteArray := prog_5_method_8_code
def yX3_letTidesCome : MethodName := ⟨RX3, "letTidesCome", "(II)I"⟩
abbrev cX3_letOneTideCome : ByteArray := prog_5_method_9_code
def yX3_letOneTideCome : MethodName := ⟨RX3, "letOneTideCome", "(I)V"⟩
abbrev cX3_leastFlowFor : ByteArray := prog_5_method_10_code
def yX3_leastFlowFor : MethodName := ⟨RX3, "leastFlowFor", "(II)I"⟩
def RX4 : String := "SaltWedge$Wells"
def TX4 : u_T := fun k => match k with
  | 0 => ("SaltWedge$Wells", "cells", "[I", true)
  | 1 => ("SaltWedge$Wells", "rates", "[I", true)
  | 2 => ("SaltWedge$Wells", "salts", "[I", true)
  | 3 => ("SaltWedge$Wells", "resting", "[I", true)
  | 4 => ("SaltWedge$Wells", "drawn", "[I", true)
  | 5 => ("SaltWedge$Wells", "turned", "[I", true)
  | _ => ("SaltWedge$Wells", "number", "I", false)
def tyX4 : Nat → FieldType := fun k => match k with
  | 0 => .array .int
  | 1 => .array .int
  | 2 => .array .int
  | 3 => .array .int
  | 4 => .array .int
  | 5 => .array .int
  | _ => .int
abbrev wsX40 : List Cond := u_ws RX4 TX4 7
theorem nmX4 : ∀ a, a < 7 → ∀ b, b < 7 → a ≠ b → (TX4 a).2.1 ≠ (TX4 b).2.1 := by decide +kernel
theorem tyX4_ok : ∀ k, k < 7 → parseFieldDescriptor (TX4 k).2.2.1 = some (tyX4 k) := by decide +kernel
abbrev cX4_init : ByteArray := prog_6_method_1_code
def yX4_init : MethodName := ⟨RX4, "<init>", "()V"⟩
abbrev cX4_copyFrom : ByteArray := prog_6_method_2_code
def yX4_copyFrom : MethodName := ⟨RX4, "copyFrom", "(LSaltWedge$Wells;)V"⟩
abbrev cX4_has : ByteArray := prog_6_method_3_code
def yX4_has : MethodName := ⟨RX4, "has", "(I)Z"⟩
abbrev cX4_isResting : ByteArray := prog_6_method_4_code
def yX4_isResting : MethodName := ⟨RX4, "isResting", "(I)Z"⟩
abbrev cX4_beside : ByteArray := prog_6_method_5_code
def yX4_beside : MethodName := ⟨RX4, "beside", "(I)I"⟩
abbrev cX4_add : ByteArray := prog_6_method_6_code
def yX4_add : MethodName := ⟨RX4, "add", "(II)I"⟩
abbrev cX4_remove : ByteArray := prog_6_method_7_code
def yX4_remove : MethodName := ⟨RX4, "remove", "(I)I"⟩
abbrev cX4_closeGap : ByteArray := prog_6_method_8_code
def yX4_closeGap : MethodName := ⟨RX4, "closeGap", "([II)V"⟩
abbrev cX4_changeRate : ByteArray := prog_6_method_9_code
def yX4_changeRate : MethodName := ⟨RX4, "changeRate", "(II)I"⟩
abbrev cX4_isRate : ByteArray := prog_6_method_10_code
def yX4_isRate : MethodName := ⟨RX4, "isRate", "(I)Z"⟩
abbrev cX4_coneOf : ByteArray := prog_6_method_11_code
def yX4_coneOf : MethodName := ⟨RX4, "coneOf", "(I)I"⟩
abbrev cX4_drawFrom : ByteArray := prog_6_method_12_code
def yX4_drawFrom : MethodName := ⟨RX4, "drawFrom", "(LSaltWedge$Bed;)V"⟩
abbrev cX4_saltBehind : ByteArray := prog_6_method_13_code
def yX4_saltBehind : MethodName := ⟨RX4, "saltBehind", "(II)I"⟩
abbrev cX4_turnOrRecover : ByteArray := prog_6_method_14_code
def yX4_turnOrRecover : MethodName := ⟨RX4, "turnOrRecover", "()V"⟩
abbrev cX4_tell : ByteArray := prog_6_method_15_code
def yX4_tell : MethodName := ⟨RX4, "tell", "(II)I"⟩
abbrev cX4_sumOf : ByteArray := prog_6_method_16_code
def yX4_sumOf : MethodName := ⟨RX4, "sumOf", "([I)I"⟩
def RX5 : String := "SaltWedge"
def TX5 : u_T := fun k => match k with
  | 0 => ("SaltWedge", "now", "LSaltWedge$State;", true)
  | 1 => ("SaltWedge", "spare", "LSaltWedge$State;", true)
  | 2 => ("SaltWedge", "snapshot", "LSaltWedge$State;", true)
  | 3 => ("SaltWedge", "hasSnapshot", "Z", false)
  | 4 => ("SaltWedge", "history", "LSaltWedge$History;", true)
  | 5 => ("SaltWedge", "script", "LSaltWedge$Script;", true)
  | 6 => ("SaltWedge", "hasStop", "Z", false)
  | 7 => ("SaltWedge", "stopNumber", "I", false)
  | _ => ("SaltWedge", "stopError", "I", false)
def tyX5 : Nat → FieldType := fun k => match k with
  | 0 => .object "SaltWedge$State"
  | 1 => .object "SaltWedge$State"
  | 2 => .object "SaltWedge$State"
  | 3 => .boolean
  | 4 => .object "SaltWedge$History"
  | 5 => .object "SaltWedge$Script"
  | 6 => .boolean
  | 7 => .int
  | _ => .int
abbrev wsX50 : List Cond := u_ws RX5 TX5 9
theorem nmX5 : ∀ a, a < 9 → ∀ b, b < 9 → a ≠ b → (TX5 a).2.1 ≠ (TX5 b).2.1 := by decide +kernel
theorem tyX5_ok : ∀ k, k < 9 → parseFieldDescriptor (TX5 k).2.2.1 = some (tyX5 k) := by decide +kernel
abbrev cX5_init : ByteArray := prog_1_method_1_code
def yX5_init : MethodName := ⟨RX5, "<init>", "()V"⟩
abbrev cX5_dig : ByteArray := prog_1_method_2_code
def yX5_dig : MethodName := ⟨RX5, "dig", "(II)I"⟩
abbrev cX5_build : ByteArray := prog_1_method_3_code
def yX5_build : MethodName := ⟨RX5, "build", "(II)I"⟩
abbrev cX5_flow : ByteArray := prog_1_method_4_code
def yX5_flow : MethodName := ⟨RX5, "flow", "(I)I"⟩
abbrev cX5_set : ByteArray := prog_1_method_5_code
def yX5_set : MethodName := ⟨RX5, "set", "(II)I"⟩
abbrev cX5_sink : ByteArray := prog_1_method_6_code
def yX5_sink : MethodName := ⟨RX5, "sink", "(II)I"⟩
abbrev cX5_fillIn : ByteArray := prog_1_method_7_code
def yX5_fillIn : MethodName := ⟨RX5, "fillIn", "(I)I"⟩
abbrev cX5_setRate : ByteArray := prog_1_method_8_code
def yX5_setRate : MethodName := ⟨RX5, "setRate", "(II)I"⟩
abbrev cX5_tide : ByteArray := prog_1_method_9_code
def yX5_tide : MethodName := ⟨RX5, "tide", "(II)I"⟩
abbrev cX5_undo : ByteArray := prog_1_method_14_code
def yX5_undo : MethodName := ⟨RX5, "undo", "()I"⟩
abbrev cX5_keep : ByteArray := prog_1_method_15_code
def yX5_keep : MethodName := ⟨RX5, "keep", "()I"⟩
abbrev cX5_restore : ByteArray := prog_1_method_16_code
def yX5_restore : MethodName := ⟨RX5, "restore", "()I"⟩
abbrev cX5_cell : ByteArray := prog_1_method_17_code
def yX5_cell : MethodName := ⟨RX5, "cell", "(II)I"⟩
abbrev cX5_well : ByteArray := prog_1_method_18_code
def yX5_well : MethodName := ⟨RX5, "well", "(II)I"⟩
abbrev cX5_reach : ByteArray := prog_1_method_19_code
def yX5_reach : MethodName := ⟨RX5, "reach", "()I"⟩
abbrev cX5_mark : ByteArray := prog_1_method_20_code
def yX5_mark : MethodName := ⟨RX5, "mark", "(II)I"⟩
abbrev cX5_stopCell : ByteArray := prog_1_method_21_code
def yX5_stopCell : MethodName := ⟨RX5, "stopCell", "(I)I"⟩
abbrev cX5_reason : ByteArray := prog_1_method_22_code
def yX5_reason : MethodName := ⟨RX5, "reason", "(II)I"⟩
abbrev cX5_restsIn : ByteArray := prog_1_method_23_code
def yX5_restsIn : MethodName := ⟨RX5, "restsIn", "(II)I"⟩
abbrev cX5_leastFlow : ByteArray := prog_1_method_24_code
def yX5_leastFlow : MethodName := ⟨RX5, "leastFlow", "(II)I"⟩
abbrev cX5_bestSill : ByteArray := prog_1_method_25_code
def yX5_bestSill : MethodName := ⟨RX5, "bestSill", "(II)I"⟩
abbrev cX5_count : ByteArray := prog_1_method_26_code
def yX5_count : MethodName := ⟨RX5, "count", "(I)I"⟩
abbrev cX5_recorded : ByteArray := prog_1_method_27_code
def yX5_recorded : MethodName := ⟨RX5, "recorded", "(I)I"⟩
abbrev cX5_isCell : ByteArray := prog_1_method_31_code
def yX5_isCell : MethodName := ⟨RX5, "isCell", "(I)Z"⟩
abbrev cX5_isRise : ByteArray := prog_1_method_32_code
def yX5_isRise : MethodName := ⟨RX5, "isRise", "(I)Z"⟩
def RX6 : String := "SaltWedgeModel"
def TX6 : u_T := fun k => match k with
  | _ => ("", "", "", false)
def tyX6 : Nat → FieldType := fun k => match k with
  | _ => .int
abbrev wsX60 : List Cond := u_ws RX6 TX6 0
theorem nmX6 : ∀ a, a < 0 → ∀ b, b < 0 → a ≠ b → (TX6 a).2.1 ≠ (TX6 b).2.1 := by decide +kernel
theorem tyX6_ok : ∀ k, k < 0 → parseFieldDescriptor (TX6 k).2.2.1 = some (tyX6 k) := by decide +kernel
def RJ9 : String := "java/lang/Math"
def TJ9 : u_T := fun k => match k with
  | _ => ("", "", "", false)
def tyJ9 : Nat → FieldType := fun k => match k with
  | _ => .int
abbrev wsJ90 : List Cond := u_ws RJ9 TJ9 0
theorem nmJ9 : ∀ a, a < 0 → ∀ b, b < 0 → a ≠ b → (TJ9 a).2.1 ≠ (TJ9 b).2.1 := by decide +kernel
theorem tyJ9_ok : ∀ k, k < 0 → parseFieldDescriptor (TJ9 k).2.2.1 = some (tyJ9 k) := by decide +kernel
abbrev cJ9_max_7cf53 : ByteArray := prog_9_method_65_code
def yJ9_max_7cf53 : MethodName := ⟨RJ9, "max", "(II)I"⟩
abbrev cJ9_min_7cf53 : ByteArray := prog_9_method_69_code
def yJ9_min_7cf53 : MethodName := ⟨RJ9, "min", "(II)I"⟩
def RJ10 : String := "java/lang/System"
def TJ10 : u_T := fun k => match k with
  | _ => ("", "", "", false)
def tyJ10 : Nat → FieldType := fun k => match k with
  | _ => .int
abbrev wsJ100 : List Cond := u_ws RJ10 TJ10 0
theorem nmJ10 : ∀ a, a < 0 → ∀ b, b < 0 → a ≠ b → (TJ10 a).2.1 ≠ (TJ10 b).2.1 := by decide +kernel
theorem tyJ10_ok : ∀ k, k < 0 → parseFieldDescriptor (TJ10 k).2.2.1 = some (tyJ10 k) := by decide +kernel
def RJ7 : String := "java/util/Arrays"
def TJ7 : u_T := fun k => match k with
  | _ => ("", "", "", false)
def tyJ7 : Nat → FieldType := fun k => match k with
  | _ => .int
abbrev wsJ70 : List Cond := u_ws RJ7 TJ7 0
theorem nmJ7 : ∀ a, a < 0 → ∀ b, b < 0 → a ≠ b → (TJ7 a).2.1 ≠ (TJ7 b).2.1 := by decide +kernel
theorem tyJ7_ok : ∀ k, k < 0 → parseFieldDescriptor (TJ7 k).2.2.1 = some (tyJ7 k) := by decide +kernel
abbrev cJ7_fill_53178 : ByteArray := prog_11_method_103_code
def yJ7_fill_53178 : MethodName := ⟨RJ7, "fill", "([II)V"⟩
def RL : String := "SaltWedgeLaw"
abbrev cL_cell : ByteArray := method_2_code
def yL_cell : MethodName := ⟨RL, "cell", "([II)I"⟩
abbrev cL_low : ByteArray := method_3_code
def yL_low : MethodName := ⟨RL, "low", "(II)I"⟩
abbrev cL_act : ByteArray := method_4_code
def yL_act : MethodName := ⟨RL, "act", "(LSaltWedge;II)I"⟩
abbrev cL_bed : ByteArray := method_5_code
def yL_bed : MethodName := ⟨RL, "bed", "(LSaltWedge;)Z"⟩
abbrev cL_hangs : ByteArray := method_6_code
def yL_hangs : MethodName := ⟨RL, "hangs", "(LSaltWedge;)Z"⟩
abbrev cL_print : ByteArray := method_7_code
def yL_print : MethodName := ⟨RL, "print", "(LSaltWedge;)J"⟩
abbrev cL_comes : ByteArray := method_8_code
def yL_comes : MethodName := ⟨RL, "comes", "(LSaltWedge;I)Z"⟩
abbrev cL_keeps : ByteArray := method_9_code
def yL_keeps : MethodName := ⟨RL, "keeps", "(LSaltWedge;III)Z"⟩
abbrev cL_rests : ByteArray := method_10_code
def yL_rests : MethodName := ⟨RL, "rests", "(LSaltWedge;II)Z"⟩
abbrev cL_law : ByteArray := code
def yL_law : MethodName := ⟨RL, "law", "([I)Z"⟩
abbrev vwCl : List vw_C := [(RX0, TX0, 4), (RX1, TX1, 2), (RX2, TX2, 7), (RX3, TX3, 6), (RX4, TX4, 7), (RX5, TX5, 9)]
end
section
theorem dX0_init_0 : decode cX0_init 0 = .ok (.aload_n 0, 1) := by decide +kernel
theorem dX0_init_1 : decode cX0_init 1 = .ok (.invokespecial 3, 3) := by decide +kernel
theorem dX0_init_4 : decode cX0_init 4 = .ok (.aload_n 0, 1) := by decide +kernel
theorem dX0_init_5 : decode cX0_init 5 = .ok (.bipush 40, 2) := by decide +kernel
theorem dX0_init_7 : decode cX0_init 7 = .ok (.newarray .int, 2) := by decide +kernel
theorem dX0_init_9 : decode cX0_init 9 = .ok (.putfield 9, 3) := by decide +kernel
theorem dX0_init_12 : decode cX0_init 12 = .ok (.aload_n 0, 1) := by decide +kernel
theorem dX0_init_13 : decode cX0_init 13 = .ok (.bipush 40, 2) := by decide +kernel
theorem dX0_init_15 : decode cX0_init 15 = .ok (.newarray .int, 2) := by decide +kernel
theorem dX0_init_17 : decode cX0_init 17 = .ok (.putfield 15, 3) := by decide +kernel
theorem dX0_init_20 : decode cX0_init 20 = .ok (.aload_n 0, 1) := by decide +kernel
theorem dX0_init_21 : decode cX0_init 21 = .ok (.bipush 40, 2) := by decide +kernel
theorem dX0_init_23 : decode cX0_init 23 = .ok (.newarray .int, 2) := by decide +kernel
theorem dX0_init_25 : decode cX0_init 25 = .ok (.putfield 18, 3) := by decide +kernel
theorem dX0_init_28 : decode cX0_init 28 = .ok (.aload_n 0, 1) := by decide +kernel
theorem dX0_init_29 : decode cX0_init 29 = .ok (.bipush 40, 2) := by decide +kernel
theorem dX0_init_31 : decode cX0_init 31 = .ok (.newarray .int, 2) := by decide +kernel
theorem dX0_init_33 : decode cX0_init 33 = .ok (.putfield 21, 3) := by decide +kernel
theorem dX0_init_36 : decode cX0_init 36 = .ok (.aload_n 0, 1) := by decide +kernel
theorem dX0_init_37 : decode cX0_init 37 = .ok (.getfield 9, 3) := by decide +kernel
theorem dX0_init_40 : decode cX0_init 40 = .ok (.bipush 20, 2) := by decide +kernel
theorem dX0_init_42 : decode cX0_init 42 = .ok (.invokestatic 24, 3) := by decide +kernel
theorem dX0_init_45 : decode cX0_init 45 = .ok (.return_, 1) := by decide +kernel
theorem dX0_copyFrom_0 : decode cX0_copyFrom 0 = .ok (.aload_n 1, 1) := by decide +kernel
theorem dX0_copyFrom_1 : decode cX0_copyFrom 1 = .ok (.getfield 9, 3) := by decide +kernel
theorem dX0_copyFrom_4 : decode cX0_copyFrom 4 = .ok (.iconst 0, 1) := by decide +kernel
theorem dX0_copyFrom_5 : decode cX0_copyFrom 5 = .ok (.aload_n 0, 1) := by decide +kernel
theorem dX0_copyFrom_6 : decode cX0_copyFrom 6 = .ok (.getfield 9, 3) := by decide +kernel
theorem dX0_copyFrom_9 : decode cX0_copyFrom 9 = .ok (.iconst 0, 1) := by decide +kernel
theorem dX0_copyFrom_10 : decode cX0_copyFrom 10 = .ok (.bipush 40, 2) := by decide +kernel
theorem dX0_copyFrom_12 : decode cX0_copyFrom 12 = .ok (.invokestatic 30, 3) := by decide +kernel
theorem dX0_copyFrom_15 : decode cX0_copyFrom 15 = .ok (.aload_n 1, 1) := by decide +kernel
theorem dX0_copyFrom_16 : decode cX0_copyFrom 16 = .ok (.getfield 15, 3) := by decide +kernel
theorem dX0_copyFrom_19 : decode cX0_copyFrom 19 = .ok (.iconst 0, 1) := by decide +kernel
theorem dX0_copyFrom_20 : decode cX0_copyFrom 20 = .ok (.aload_n 0, 1) := by decide +kernel
theorem dX0_copyFrom_21 : decode cX0_copyFrom 21 = .ok (.getfield 15, 3) := by decide +kernel
theorem dX0_copyFrom_24 : decode cX0_copyFrom 24 = .ok (.iconst 0, 1) := by decide +kernel
theorem dX0_copyFrom_25 : decode cX0_copyFrom 25 = .ok (.bipush 40, 2) := by decide +kernel
theorem dX0_copyFrom_27 : decode cX0_copyFrom 27 = .ok (.invokestatic 30, 3) := by decide +kernel
theorem dX0_copyFrom_30 : decode cX0_copyFrom 30 = .ok (.aload_n 1, 1) := by decide +kernel
theorem dX0_copyFrom_31 : decode cX0_copyFrom 31 = .ok (.getfield 18, 3) := by decide +kernel
theorem dX0_copyFrom_34 : decode cX0_copyFrom 34 = .ok (.iconst 0, 1) := by decide +kernel
theorem dX0_copyFrom_35 : decode cX0_copyFrom 35 = .ok (.aload_n 0, 1) := by decide +kernel
theorem dX0_copyFrom_36 : decode cX0_copyFrom 36 = .ok (.getfield 18, 3) := by decide +kernel
theorem dX0_copyFrom_39 : decode cX0_copyFrom 39 = .ok (.iconst 0, 1) := by decide +kernel
theorem dX0_copyFrom_40 : decode cX0_copyFrom 40 = .ok (.bipush 40, 2) := by decide +kernel
theorem dX0_copyFrom_42 : decode cX0_copyFrom 42 = .ok (.invokestatic 30, 3) := by decide +kernel
theorem dX0_copyFrom_45 : decode cX0_copyFrom 45 = .ok (.aload_n 1, 1) := by decide +kernel
theorem dX0_copyFrom_46 : decode cX0_copyFrom 46 = .ok (.getfield 21, 3) := by decide +kernel
theorem dX0_copyFrom_49 : decode cX0_copyFrom 49 = .ok (.iconst 0, 1) := by decide +kernel
theorem dX0_copyFrom_50 : decode cX0_copyFrom 50 = .ok (.aload_n 0, 1) := by decide +kernel
theorem dX0_copyFrom_51 : decode cX0_copyFrom 51 = .ok (.getfield 21, 3) := by decide +kernel
theorem dX0_copyFrom_54 : decode cX0_copyFrom 54 = .ok (.iconst 0, 1) := by decide +kernel
theorem dX0_copyFrom_55 : decode cX0_copyFrom 55 = .ok (.bipush 40, 2) := by decide +kernel
theorem dX0_copyFrom_57 : decode cX0_copyFrom 57 = .ok (.invokestatic 30, 3) := by decide +kernel
theorem dX0_copyFrom_60 : decode cX0_copyFrom 60 = .ok (.return_, 1) := by decide +kernel
theorem dX0_deepen_0 : decode cX0_deepen 0 = .ok (.iload_n 1, 1) := by decide +kernel
theorem dX0_deepen_1 : decode cX0_deepen 1 = .ok (.invokestatic 36, 3) := by decide +kernel
theorem dX0_deepen_4 : decode cX0_deepen 4 = .ok (.ifCond .ne 5, 3) := by decide +kernel
theorem dX0_deepen_7 : decode cX0_deepen 7 = .ok (.iconst (-1), 1) := by decide +kernel
theorem dX0_deepen_8 : decode cX0_deepen 8 = .ok (.ireturn, 1) := by decide +kernel
theorem dX0_deepen_9 : decode cX0_deepen 9 = .ok (.iload_n 2, 1) := by decide +kernel
theorem dX0_deepen_10 : decode cX0_deepen 10 = .ok (.iconst 1, 1) := by decide +kernel
theorem dX0_deepen_11 : decode cX0_deepen 11 = .ok (.if_icmp .lt 9, 3) := by decide +kernel
theorem dX0_deepen_14 : decode cX0_deepen 14 = .ok (.iload_n 2, 1) := by decide +kernel
theorem dX0_deepen_15 : decode cX0_deepen 15 = .ok (.bipush 60, 2) := by decide +kernel
theorem dX0_deepen_17 : decode cX0_deepen 17 = .ok (.if_icmp .le 6, 3) := by decide +kernel
theorem dX0_deepen_20 : decode cX0_deepen 20 = .ok (.bipush (-2), 2) := by decide +kernel
theorem dX0_deepen_22 : decode cX0_deepen 22 = .ok (.ireturn, 1) := by decide +kernel
theorem dX0_deepen_23 : decode cX0_deepen 23 = .ok (.aload_n 0, 1) := by decide +kernel
theorem dX0_deepen_24 : decode cX0_deepen 24 = .ok (.getfield 18, 3) := by decide +kernel
theorem dX0_deepen_27 : decode cX0_deepen 27 = .ok (.iload_n 1, 1) := by decide +kernel
theorem dX0_deepen_28 : decode cX0_deepen 28 = .ok (.iaload, 1) := by decide +kernel
theorem dX0_deepen_29 : decode cX0_deepen 29 = .ok (.iload_n 2, 1) := by decide +kernel
theorem dX0_deepen_30 : decode cX0_deepen 30 = .ok (.if_icmp .gt 13, 3) := by decide +kernel
theorem dX0_deepen_33 : decode cX0_deepen 33 = .ok (.aload_n 0, 1) := by decide +kernel
theorem dX0_deepen_34 : decode cX0_deepen 34 = .ok (.getfield 15, 3) := by decide +kernel
theorem dX0_deepen_37 : decode cX0_deepen 37 = .ok (.iload_n 1, 1) := by decide +kernel
theorem dX0_deepen_38 : decode cX0_deepen 38 = .ok (.iaload, 1) := by decide +kernel
theorem dX0_deepen_39 : decode cX0_deepen 39 = .ok (.iload_n 2, 1) := by decide +kernel
theorem dX0_deepen_40 : decode cX0_deepen 40 = .ok (.if_icmp .le 6, 3) := by decide +kernel
theorem dX0_deepen_43 : decode cX0_deepen 43 = .ok (.bipush (-4), 2) := by decide +kernel
theorem dX0_deepen_45 : decode cX0_deepen 45 = .ok (.ireturn, 1) := by decide +kernel
theorem dX0_deepen_46 : decode cX0_deepen 46 = .ok (.aload_n 0, 1) := by decide +kernel
theorem dX0_deepen_47 : decode cX0_deepen 47 = .ok (.getfield 9, 3) := by decide +kernel
theorem dX0_deepen_50 : decode cX0_deepen 50 = .ok (.iload_n 1, 1) := by decide +kernel
theorem dX0_deepen_51 : decode cX0_deepen 51 = .ok (.iaload, 1) := by decide +kernel
theorem dX0_deepen_52 : decode cX0_deepen 52 = .ok (.istore_n 3, 1) := by decide +kernel
theorem dX0_deepen_53 : decode cX0_deepen 53 = .ok (.aload_n 0, 1) := by decide +kernel
theorem dX0_deepen_54 : decode cX0_deepen 54 = .ok (.getfield 9, 3) := by decide +kernel
theorem dX0_deepen_57 : decode cX0_deepen 57 = .ok (.iload_n 1, 1) := by decide +kernel
theorem dX0_deepen_58 : decode cX0_deepen 58 = .ok (.iload_n 2, 1) := by decide +kernel
theorem dX0_deepen_59 : decode cX0_deepen 59 = .ok (.iastore, 1) := by decide +kernel
theorem dX0_deepen_60 : decode cX0_deepen 60 = .ok (.iload_n 3, 1) := by decide +kernel
theorem dX0_deepen_61 : decode cX0_deepen 61 = .ok (.iload_n 2, 1) := by decide +kernel
theorem dX0_deepen_62 : decode cX0_deepen 62 = .ok (.if_icmp .ne 8, 3) := by decide +kernel
theorem dX0_deepen_65 : decode cX0_deepen 65 = .ok (.bipush (-5), 2) := by decide +kernel
theorem dX0_deepen_67 : decode cX0_deepen 67 = .ok (.goto 4, 3) := by decide +kernel
theorem dX0_deepen_70 : decode cX0_deepen 70 = .ok (.iload_n 3, 1) := by decide +kernel
theorem dX0_deepen_71 : decode cX0_deepen 71 = .ok (.ireturn, 1) := by decide +kernel
theorem dX0_raiseSill_0 : decode cX0_raiseSill 0 = .ok (.iload_n 1, 1) := by decide +kernel
theorem dX0_raiseSill_1 : decode cX0_raiseSill 1 = .ok (.invokestatic 36, 3) := by decide +kernel
theorem dX0_raiseSill_4 : decode cX0_raiseSill 4 = .ok (.ifCond .ne 5, 3) := by decide +kernel
theorem dX0_raiseSill_7 : decode cX0_raiseSill 7 = .ok (.iconst (-1), 1) := by decide +kernel
theorem dX0_raiseSill_8 : decode cX0_raiseSill 8 = .ok (.ireturn, 1) := by decide +kernel
theorem dX0_raiseSill_9 : decode cX0_raiseSill 9 = .ok (.iload_n 2, 1) := by decide +kernel
theorem dX0_raiseSill_10 : decode cX0_raiseSill 10 = .ok (.ifCond .lt 9, 3) := by decide +kernel
theorem dX0_raiseSill_13 : decode cX0_raiseSill 13 = .ok (.iload_n 2, 1) := by decide +kernel
theorem dX0_raiseSill_14 : decode cX0_raiseSill 14 = .ok (.bipush 60, 2) := by decide +kernel
theorem dX0_raiseSill_16 : decode cX0_raiseSill 16 = .ok (.if_icmp .le 6, 3) := by decide +kernel
theorem dX0_raiseSill_19 : decode cX0_raiseSill 19 = .ok (.bipush (-2), 2) := by decide +kernel
theorem dX0_raiseSill_21 : decode cX0_raiseSill 21 = .ok (.ireturn, 1) := by decide +kernel
theorem dX0_raiseSill_22 : decode cX0_raiseSill 22 = .ok (.iload_n 2, 1) := by decide +kernel
theorem dX0_raiseSill_23 : decode cX0_raiseSill 23 = .ok (.aload_n 0, 1) := by decide +kernel
theorem dX0_raiseSill_24 : decode cX0_raiseSill 24 = .ok (.getfield 9, 3) := by decide +kernel
theorem dX0_raiseSill_27 : decode cX0_raiseSill 27 = .ok (.iload_n 1, 1) := by decide +kernel
theorem dX0_raiseSill_28 : decode cX0_raiseSill 28 = .ok (.iaload, 1) := by decide +kernel
theorem dX0_raiseSill_29 : decode cX0_raiseSill 29 = .ok (.if_icmp .le 6, 3) := by decide +kernel
theorem dX0_raiseSill_32 : decode cX0_raiseSill 32 = .ok (.bipush (-4), 2) := by decide +kernel
theorem dX0_raiseSill_34 : decode cX0_raiseSill 34 = .ok (.ireturn, 1) := by decide +kernel
theorem dX0_raiseSill_35 : decode cX0_raiseSill 35 = .ok (.aload_n 0, 1) := by decide +kernel
theorem dX0_raiseSill_36 : decode cX0_raiseSill 36 = .ok (.getfield 15, 3) := by decide +kernel
theorem dX0_raiseSill_39 : decode cX0_raiseSill 39 = .ok (.iload_n 1, 1) := by decide +kernel
theorem dX0_raiseSill_40 : decode cX0_raiseSill 40 = .ok (.iaload, 1) := by decide +kernel
theorem dX0_raiseSill_41 : decode cX0_raiseSill 41 = .ok (.istore_n 3, 1) := by decide +kernel
theorem dX0_raiseSill_42 : decode cX0_raiseSill 42 = .ok (.aload_n 0, 1) := by decide +kernel
theorem dX0_raiseSill_43 : decode cX0_raiseSill 43 = .ok (.getfield 15, 3) := by decide +kernel
theorem dX0_raiseSill_46 : decode cX0_raiseSill 46 = .ok (.iload_n 1, 1) := by decide +kernel
theorem dX0_raiseSill_47 : decode cX0_raiseSill 47 = .ok (.iload_n 2, 1) := by decide +kernel
theorem dX0_raiseSill_48 : decode cX0_raiseSill 48 = .ok (.iastore, 1) := by decide +kernel
theorem dX0_raiseSill_49 : decode cX0_raiseSill 49 = .ok (.iload_n 3, 1) := by decide +kernel
theorem dX0_raiseSill_50 : decode cX0_raiseSill 50 = .ok (.iload_n 2, 1) := by decide +kernel
theorem dX0_raiseSill_51 : decode cX0_raiseSill 51 = .ok (.if_icmp .ne 8, 3) := by decide +kernel
theorem dX0_raiseSill_54 : decode cX0_raiseSill 54 = .ok (.bipush (-5), 2) := by decide +kernel
theorem dX0_raiseSill_56 : decode cX0_raiseSill 56 = .ok (.goto 4, 3) := by decide +kernel
theorem dX0_raiseSill_59 : decode cX0_raiseSill 59 = .ok (.iload_n 3, 1) := by decide +kernel
theorem dX0_raiseSill_60 : decode cX0_raiseSill 60 = .ok (.ireturn, 1) := by decide +kernel
theorem dX0_markFrom_0 : decode cX0_markFrom 0 = .ok (.iload_n 1, 1) := by decide +kernel
theorem dX0_markFrom_1 : decode cX0_markFrom 1 = .ok (.invokestatic 36, 3) := by decide +kernel
theorem dX0_markFrom_4 : decode cX0_markFrom 4 = .ok (.ifCond .eq 13, 3) := by decide +kernel
theorem dX0_markFrom_7 : decode cX0_markFrom 7 = .ok (.iload_n 2, 1) := by decide +kernel
theorem dX0_markFrom_8 : decode cX0_markFrom 8 = .ok (.aload_n 0, 1) := by decide +kernel
theorem dX0_markFrom_9 : decode cX0_markFrom 9 = .ok (.getfield 15, 3) := by decide +kernel
theorem dX0_markFrom_12 : decode cX0_markFrom 12 = .ok (.iload_n 1, 1) := by decide +kernel
theorem dX0_markFrom_13 : decode cX0_markFrom 13 = .ok (.iaload, 1) := by decide +kernel
theorem dX0_markFrom_14 : decode cX0_markFrom 14 = .ok (.if_icmp .gt 5, 3) := by decide +kernel
theorem dX0_markFrom_17 : decode cX0_markFrom 17 = .ok (.iconst 0, 1) := by decide +kernel
theorem dX0_markFrom_18 : decode cX0_markFrom 18 = .ok (.ireturn, 1) := by decide +kernel
theorem dX0_markFrom_19 : decode cX0_markFrom 19 = .ok (.iload_n 2, 1) := by decide +kernel
theorem dX0_markFrom_20 : decode cX0_markFrom 20 = .ok (.aload_n 0, 1) := by decide +kernel
theorem dX0_markFrom_21 : decode cX0_markFrom 21 = .ok (.getfield 9, 3) := by decide +kernel
theorem dX0_markFrom_24 : decode cX0_markFrom 24 = .ok (.iload_n 1, 1) := by decide +kernel
theorem dX0_markFrom_25 : decode cX0_markFrom 25 = .ok (.iaload, 1) := by decide +kernel
theorem dX0_markFrom_26 : decode cX0_markFrom 26 = .ok (.invokestatic 40, 3) := by decide +kernel
theorem dX0_markFrom_29 : decode cX0_markFrom 29 = .ok (.ireturn, 1) := by decide +kernel
theorem dX0_offeredTo_0 : decode cX0_offeredTo 0 = .ok (.iload_n 2, 1) := by decide +kernel
theorem dX0_offeredTo_1 : decode cX0_offeredTo 1 = .ok (.istore 4, 2) := by decide +kernel
theorem dX0_offeredTo_3 : decode cX0_offeredTo 3 = .ok (.iconst 0, 1) := by decide +kernel
theorem dX0_offeredTo_4 : decode cX0_offeredTo 4 = .ok (.istore 5, 2) := by decide +kernel
theorem dX0_offeredTo_6 : decode cX0_offeredTo 6 = .ok (.iload 5, 2) := by decide +kernel
theorem dX0_offeredTo_8 : decode cX0_offeredTo 8 = .ok (.iload_n 1, 1) := by decide +kernel
theorem dX0_offeredTo_9 : decode cX0_offeredTo 9 = .ok (.if_icmp .ge 28, 3) := by decide +kernel
theorem dX0_offeredTo_12 : decode cX0_offeredTo 12 = .ok (.iload 5, 2) := by decide +kernel
theorem dX0_offeredTo_14 : decode cX0_offeredTo 14 = .ok (.bipush 40, 2) := by decide +kernel
theorem dX0_offeredTo_16 : decode cX0_offeredTo 16 = .ok (.if_icmp .ge 21, 3) := by decide +kernel
theorem dX0_offeredTo_19 : decode cX0_offeredTo 19 = .ok (.aload_n 0, 1) := by decide +kernel
theorem dX0_offeredTo_20 : decode cX0_offeredTo 20 = .ok (.iload 5, 2) := by decide +kernel
theorem dX0_offeredTo_22 : decode cX0_offeredTo 22 = .ok (.iload 4, 2) := by decide +kernel
theorem dX0_offeredTo_24 : decode cX0_offeredTo 24 = .ok (.invokevirtual 46, 3) := by decide +kernel
theorem dX0_offeredTo_27 : decode cX0_offeredTo 27 = .ok (.iload_n 3, 1) := by decide +kernel
theorem dX0_offeredTo_28 : decode cX0_offeredTo 28 = .ok (.isub, 1) := by decide +kernel
theorem dX0_offeredTo_29 : decode cX0_offeredTo 29 = .ok (.istore 4, 2) := by decide +kernel
theorem dX0_offeredTo_31 : decode cX0_offeredTo 31 = .ok (.iinc 5 1, 3) := by decide +kernel
theorem dX0_offeredTo_34 : decode cX0_offeredTo 34 = .ok (.goto (-28), 3) := by decide +kernel
theorem dX0_offeredTo_37 : decode cX0_offeredTo 37 = .ok (.iload 4, 2) := by decide +kernel
theorem dX0_offeredTo_39 : decode cX0_offeredTo 39 = .ok (.ireturn, 1) := by decide +kernel
theorem dX0_markOf_0 : decode cX0_markOf 0 = .ok (.aload_n 0, 1) := by decide +kernel
theorem dX0_markOf_1 : decode cX0_markOf 1 = .ok (.iload_n 1, 1) := by decide +kernel
theorem dX0_markOf_2 : decode cX0_markOf 2 = .ok (.aload_n 0, 1) := by decide +kernel
theorem dX0_markOf_3 : decode cX0_markOf 3 = .ok (.iload_n 1, 1) := by decide +kernel
theorem dX0_markOf_4 : decode cX0_markOf 4 = .ok (.iload_n 2, 1) := by decide +kernel
theorem dX0_markOf_5 : decode cX0_markOf 5 = .ok (.iload_n 3, 1) := by decide +kernel
theorem dX0_markOf_6 : decode cX0_markOf 6 = .ok (.invokevirtual 49, 3) := by decide +kernel
theorem dX0_markOf_9 : decode cX0_markOf 9 = .ok (.invokevirtual 46, 3) := by decide +kernel
theorem dX0_markOf_12 : decode cX0_markOf 12 = .ok (.ireturn, 1) := by decide +kernel
theorem dX0_stopOf_0 : decode cX0_stopOf 0 = .ok (.iload_n 1, 1) := by decide +kernel
theorem dX0_stopOf_1 : decode cX0_stopOf 1 = .ok (.istore_n 3, 1) := by decide +kernel
theorem dX0_stopOf_2 : decode cX0_stopOf 2 = .ok (.iconst 0, 1) := by decide +kernel
theorem dX0_stopOf_3 : decode cX0_stopOf 3 = .ok (.istore 4, 2) := by decide +kernel
theorem dX0_stopOf_5 : decode cX0_stopOf 5 = .ok (.iload 4, 2) := by decide +kernel
theorem dX0_stopOf_7 : decode cX0_stopOf 7 = .ok (.bipush 40, 2) := by decide +kernel
theorem dX0_stopOf_9 : decode cX0_stopOf 9 = .ok (.if_icmp .ge 31, 3) := by decide +kernel
theorem dX0_stopOf_12 : decode cX0_stopOf 12 = .ok (.aload_n 0, 1) := by decide +kernel
theorem dX0_stopOf_13 : decode cX0_stopOf 13 = .ok (.iload 4, 2) := by decide +kernel
theorem dX0_stopOf_15 : decode cX0_stopOf 15 = .ok (.iload_n 3, 1) := by decide +kernel
theorem dX0_stopOf_16 : decode cX0_stopOf 16 = .ok (.invokevirtual 46, 3) := by decide +kernel
theorem dX0_stopOf_19 : decode cX0_stopOf 19 = .ok (.istore 5, 2) := by decide +kernel
theorem dX0_stopOf_21 : decode cX0_stopOf 21 = .ok (.iload 5, 2) := by decide +kernel
theorem dX0_stopOf_23 : decode cX0_stopOf 23 = .ok (.ifCond .ne 6, 3) := by decide +kernel
theorem dX0_stopOf_26 : decode cX0_stopOf 26 = .ok (.iload 4, 2) := by decide +kernel
theorem dX0_stopOf_28 : decode cX0_stopOf 28 = .ok (.ireturn, 1) := by decide +kernel
theorem dX0_stopOf_29 : decode cX0_stopOf 29 = .ok (.iload 5, 2) := by decide +kernel
theorem dX0_stopOf_31 : decode cX0_stopOf 31 = .ok (.iload_n 2, 1) := by decide +kernel
theorem dX0_stopOf_32 : decode cX0_stopOf 32 = .ok (.isub, 1) := by decide +kernel
theorem dX0_stopOf_33 : decode cX0_stopOf 33 = .ok (.istore_n 3, 1) := by decide +kernel
theorem dX0_stopOf_34 : decode cX0_stopOf 34 = .ok (.iinc 4 1, 3) := by decide +kernel
theorem dX0_stopOf_37 : decode cX0_stopOf 37 = .ok (.goto (-32), 3) := by decide +kernel
theorem dX0_stopOf_40 : decode cX0_stopOf 40 = .ok (.bipush 40, 2) := by decide +kernel
theorem dX0_stopOf_42 : decode cX0_stopOf 42 = .ok (.ireturn, 1) := by decide +kernel
theorem dX0_reasonOf_0 : decode cX0_reasonOf 0 = .ok (.aload_n 0, 1) := by decide +kernel
theorem dX0_reasonOf_1 : decode cX0_reasonOf 1 = .ok (.iload_n 2, 1) := by decide +kernel
theorem dX0_reasonOf_2 : decode cX0_reasonOf 2 = .ok (.iload_n 3, 1) := by decide +kernel
theorem dX0_reasonOf_3 : decode cX0_reasonOf 3 = .ok (.invokevirtual 53, 3) := by decide +kernel
theorem dX0_reasonOf_6 : decode cX0_reasonOf 6 = .ok (.istore 4, 2) := by decide +kernel
theorem dX0_reasonOf_8 : decode cX0_reasonOf 8 = .ok (.iload_n 1, 1) := by decide +kernel
theorem dX0_reasonOf_9 : decode cX0_reasonOf 9 = .ok (.iload 4, 2) := by decide +kernel
theorem dX0_reasonOf_11 : decode cX0_reasonOf 11 = .ok (.if_icmp .ge 5, 3) := by decide +kernel
theorem dX0_reasonOf_14 : decode cX0_reasonOf 14 = .ok (.iconst 0, 1) := by decide +kernel
theorem dX0_reasonOf_15 : decode cX0_reasonOf 15 = .ok (.ireturn, 1) := by decide +kernel
theorem dX0_reasonOf_16 : decode cX0_reasonOf 16 = .ok (.iload_n 2, 1) := by decide +kernel
theorem dX0_reasonOf_17 : decode cX0_reasonOf 17 = .ok (.ifCond .gt 5, 3) := by decide +kernel
theorem dX0_reasonOf_20 : decode cX0_reasonOf 20 = .ok (.iconst 1, 1) := by decide +kernel
theorem dX0_reasonOf_21 : decode cX0_reasonOf 21 = .ok (.ireturn, 1) := by decide +kernel
theorem dX0_reasonOf_22 : decode cX0_reasonOf 22 = .ok (.aload_n 0, 1) := by decide +kernel
theorem dX0_reasonOf_23 : decode cX0_reasonOf 23 = .ok (.iload 4, 2) := by decide +kernel
theorem dX0_reasonOf_25 : decode cX0_reasonOf 25 = .ok (.iload_n 2, 1) := by decide +kernel
theorem dX0_reasonOf_26 : decode cX0_reasonOf 26 = .ok (.iload_n 3, 1) := by decide +kernel
theorem dX0_reasonOf_27 : decode cX0_reasonOf 27 = .ok (.invokevirtual 49, 3) := by decide +kernel
theorem dX0_reasonOf_30 : decode cX0_reasonOf 30 = .ok (.ifCond .le 7, 3) := by decide +kernel
theorem dX0_reasonOf_33 : decode cX0_reasonOf 33 = .ok (.iconst 2, 1) := by decide +kernel
theorem dX0_reasonOf_34 : decode cX0_reasonOf 34 = .ok (.goto 4, 3) := by decide +kernel
theorem dX0_reasonOf_37 : decode cX0_reasonOf 37 = .ok (.iconst 3, 1) := by decide +kernel
theorem dX0_reasonOf_38 : decode cX0_reasonOf 38 = .ok (.ireturn, 1) := by decide +kernel
theorem dX0_bestCellFor_0 : decode cX0_bestCellFor 0 = .ok (.iload_n 2, 1) := by decide +kernel
theorem dX0_bestCellFor_1 : decode cX0_bestCellFor 1 = .ok (.istore 4, 2) := by decide +kernel
theorem dX0_bestCellFor_3 : decode cX0_bestCellFor 3 = .ok (.iconst 0, 1) := by decide +kernel
theorem dX0_bestCellFor_4 : decode cX0_bestCellFor 4 = .ok (.istore 5, 2) := by decide +kernel
theorem dX0_bestCellFor_6 : decode cX0_bestCellFor 6 = .ok (.iload 5, 2) := by decide +kernel
theorem dX0_bestCellFor_8 : decode cX0_bestCellFor 8 = .ok (.bipush 40, 2) := by decide +kernel
theorem dX0_bestCellFor_10 : decode cX0_bestCellFor 10 = .ok (.if_icmp .ge 64, 3) := by decide +kernel
theorem dX0_bestCellFor_13 : decode cX0_bestCellFor 13 = .ok (.aload_n 0, 1) := by decide +kernel
theorem dX0_bestCellFor_14 : decode cX0_bestCellFor 14 = .ok (.iload 5, 2) := by decide +kernel
theorem dX0_bestCellFor_16 : decode cX0_bestCellFor 16 = .ok (.iload 4, 2) := by decide +kernel
theorem dX0_bestCellFor_18 : decode cX0_bestCellFor 18 = .ok (.invokevirtual 46, 3) := by decide +kernel
theorem dX0_bestCellFor_21 : decode cX0_bestCellFor 21 = .ok (.istore 6, 2) := by decide +kernel
theorem dX0_bestCellFor_23 : decode cX0_bestCellFor 23 = .ok (.iload 6, 2) := by decide +kernel
theorem dX0_bestCellFor_25 : decode cX0_bestCellFor 25 = .ok (.ifCond .ne 6, 3) := by decide +kernel
theorem dX0_bestCellFor_28 : decode cX0_bestCellFor 28 = .ok (.bipush (-5), 2) := by decide +kernel
theorem dX0_bestCellFor_30 : decode cX0_bestCellFor 30 = .ok (.ireturn, 1) := by decide +kernel
theorem dX0_bestCellFor_31 : decode cX0_bestCellFor 31 = .ok (.iload 4, 2) := by decide +kernel
theorem dX0_bestCellFor_33 : decode cX0_bestCellFor 33 = .ok (.iload_n 1, 1) := by decide +kernel
theorem dX0_bestCellFor_34 : decode cX0_bestCellFor 34 = .ok (.if_icmp .gt 28, 3) := by decide +kernel
theorem dX0_bestCellFor_37 : decode cX0_bestCellFor 37 = .ok (.aload_n 0, 1) := by decide +kernel
theorem dX0_bestCellFor_38 : decode cX0_bestCellFor 38 = .ok (.getfield 15, 3) := by decide +kernel
theorem dX0_bestCellFor_41 : decode cX0_bestCellFor 41 = .ok (.iload 5, 2) := by decide +kernel
theorem dX0_bestCellFor_43 : decode cX0_bestCellFor 43 = .ok (.iaload, 1) := by decide +kernel
theorem dX0_bestCellFor_44 : decode cX0_bestCellFor 44 = .ok (.iload_n 1, 1) := by decide +kernel
theorem dX0_bestCellFor_45 : decode cX0_bestCellFor 45 = .ok (.if_icmp .ge 17, 3) := by decide +kernel
theorem dX0_bestCellFor_48 : decode cX0_bestCellFor 48 = .ok (.aload_n 0, 1) := by decide +kernel
theorem dX0_bestCellFor_49 : decode cX0_bestCellFor 49 = .ok (.getfield 9, 3) := by decide +kernel
theorem dX0_bestCellFor_52 : decode cX0_bestCellFor 52 = .ok (.iload 5, 2) := by decide +kernel
theorem dX0_bestCellFor_54 : decode cX0_bestCellFor 54 = .ok (.iaload, 1) := by decide +kernel
theorem dX0_bestCellFor_55 : decode cX0_bestCellFor 55 = .ok (.iload_n 1, 1) := by decide +kernel
theorem dX0_bestCellFor_56 : decode cX0_bestCellFor 56 = .ok (.if_icmp .lt 6, 3) := by decide +kernel
theorem dX0_bestCellFor_59 : decode cX0_bestCellFor 59 = .ok (.iload 5, 2) := by decide +kernel
theorem dX0_bestCellFor_61 : decode cX0_bestCellFor 61 = .ok (.ireturn, 1) := by decide +kernel
theorem dX0_bestCellFor_62 : decode cX0_bestCellFor 62 = .ok (.iload 6, 2) := by decide +kernel
theorem dX0_bestCellFor_64 : decode cX0_bestCellFor 64 = .ok (.iload_n 3, 1) := by decide +kernel
theorem dX0_bestCellFor_65 : decode cX0_bestCellFor 65 = .ok (.isub, 1) := by decide +kernel
theorem dX0_bestCellFor_66 : decode cX0_bestCellFor 66 = .ok (.istore 4, 2) := by decide +kernel
theorem dX0_bestCellFor_68 : decode cX0_bestCellFor 68 = .ok (.iinc 5 1, 3) := by decide +kernel
theorem dX0_bestCellFor_71 : decode cX0_bestCellFor 71 = .ok (.goto (-65), 3) := by decide +kernel
theorem dX0_bestCellFor_74 : decode cX0_bestCellFor 74 = .ok (.bipush (-5), 2) := by decide +kernel
theorem dX0_bestCellFor_76 : decode cX0_bestCellFor 76 = .ok (.ireturn, 1) := by decide +kernel
theorem dX0_follow_0 : decode cX0_follow 0 = .ok (.iload_n 1, 1) := by decide +kernel
theorem dX0_follow_1 : decode cX0_follow 1 = .ok (.istore 4, 2) := by decide +kernel
theorem dX0_follow_3 : decode cX0_follow 3 = .ok (.iconst 0, 1) := by decide +kernel
theorem dX0_follow_4 : decode cX0_follow 4 = .ok (.istore 5, 2) := by decide +kernel
theorem dX0_follow_6 : decode cX0_follow 6 = .ok (.iload 5, 2) := by decide +kernel
theorem dX0_follow_8 : decode cX0_follow 8 = .ok (.bipush 40, 2) := by decide +kernel
theorem dX0_follow_10 : decode cX0_follow 10 = .ok (.if_icmp .ge 66, 3) := by decide +kernel
theorem dX0_follow_13 : decode cX0_follow 13 = .ok (.aload_n 0, 1) := by decide +kernel
theorem dX0_follow_14 : decode cX0_follow 14 = .ok (.iload 5, 2) := by decide +kernel
theorem dX0_follow_16 : decode cX0_follow 16 = .ok (.iload 4, 2) := by decide +kernel
theorem dX0_follow_18 : decode cX0_follow 18 = .ok (.invokevirtual 46, 3) := by decide +kernel
theorem dX0_follow_21 : decode cX0_follow 21 = .ok (.istore 6, 2) := by decide +kernel
theorem dX0_follow_23 : decode cX0_follow 23 = .ok (.aload_n 0, 1) := by decide +kernel
theorem dX0_follow_24 : decode cX0_follow 24 = .ok (.getfield 18, 3) := by decide +kernel
theorem dX0_follow_27 : decode cX0_follow 27 = .ok (.iload 5, 2) := by decide +kernel
theorem dX0_follow_29 : decode cX0_follow 29 = .ok (.aload_n 0, 1) := by decide +kernel
theorem dX0_follow_30 : decode cX0_follow 30 = .ok (.getfield 18, 3) := by decide +kernel
theorem dX0_follow_33 : decode cX0_follow 33 = .ok (.iload 5, 2) := by decide +kernel
theorem dX0_follow_35 : decode cX0_follow 35 = .ok (.iaload, 1) := by decide +kernel
theorem dX0_follow_36 : decode cX0_follow 36 = .ok (.iload 6, 2) := by decide +kernel
theorem dX0_follow_38 : decode cX0_follow 38 = .ok (.iload_n 3, 1) := by decide +kernel
theorem dX0_follow_39 : decode cX0_follow 39 = .ok (.invokestatic 56, 3) := by decide +kernel
theorem dX0_follow_42 : decode cX0_follow 42 = .ok (.iastore, 1) := by decide +kernel
theorem dX0_follow_43 : decode cX0_follow 43 = .ok (.aload_n 0, 1) := by decide +kernel
theorem dX0_follow_44 : decode cX0_follow 44 = .ok (.getfield 18, 3) := by decide +kernel
theorem dX0_follow_47 : decode cX0_follow 47 = .ok (.iload 5, 2) := by decide +kernel
theorem dX0_follow_49 : decode cX0_follow 49 = .ok (.iaload, 1) := by decide +kernel
theorem dX0_follow_50 : decode cX0_follow 50 = .ok (.ifCond .le 14, 3) := by decide +kernel
theorem dX0_follow_53 : decode cX0_follow 53 = .ok (.aload_n 0, 1) := by decide +kernel
theorem dX0_follow_54 : decode cX0_follow 54 = .ok (.getfield 21, 3) := by decide +kernel
theorem dX0_follow_57 : decode cX0_follow 57 = .ok (.iload 5, 2) := by decide +kernel
theorem dX0_follow_59 : decode cX0_follow 59 = .ok (.dup2, 1) := by decide +kernel
theorem dX0_follow_60 : decode cX0_follow 60 = .ok (.iaload, 1) := by decide +kernel
theorem dX0_follow_61 : decode cX0_follow 61 = .ok (.iconst 1, 1) := by decide +kernel
theorem dX0_follow_62 : decode cX0_follow 62 = .ok (.iadd, 1) := by decide +kernel
theorem dX0_follow_63 : decode cX0_follow 63 = .ok (.iastore, 1) := by decide +kernel
theorem dX0_follow_64 : decode cX0_follow 64 = .ok (.iload 6, 2) := by decide +kernel
theorem dX0_follow_66 : decode cX0_follow 66 = .ok (.iload_n 2, 1) := by decide +kernel
theorem dX0_follow_67 : decode cX0_follow 67 = .ok (.isub, 1) := by decide +kernel
theorem dX0_follow_68 : decode cX0_follow 68 = .ok (.istore 4, 2) := by decide +kernel
theorem dX0_follow_70 : decode cX0_follow 70 = .ok (.iinc 5 1, 3) := by decide +kernel
theorem dX0_follow_73 : decode cX0_follow 73 = .ok (.goto (-67), 3) := by decide +kernel
theorem dX0_follow_76 : decode cX0_follow 76 = .ok (.return_, 1) := by decide +kernel
theorem dX0_moved_0 : decode cX0_moved 0 = .ok (.iload_n 1, 1) := by decide +kernel
theorem dX0_moved_1 : decode cX0_moved 1 = .ok (.iload_n 0, 1) := by decide +kernel
theorem dX0_moved_2 : decode cX0_moved 2 = .ok (.if_icmp .le 11, 3) := by decide +kernel
theorem dX0_moved_5 : decode cX0_moved 5 = .ok (.iload_n 1, 1) := by decide +kernel
theorem dX0_moved_6 : decode cX0_moved 6 = .ok (.iload_n 0, 1) := by decide +kernel
theorem dX0_moved_7 : decode cX0_moved 7 = .ok (.iload_n 2, 1) := by decide +kernel
theorem dX0_moved_8 : decode cX0_moved 8 = .ok (.iadd, 1) := by decide +kernel
theorem dX0_moved_9 : decode cX0_moved 9 = .ok (.invokestatic 40, 3) := by decide +kernel
theorem dX0_moved_12 : decode cX0_moved 12 = .ok (.ireturn, 1) := by decide +kernel
theorem dX0_moved_13 : decode cX0_moved 13 = .ok (.iload_n 1, 1) := by decide +kernel
theorem dX0_moved_14 : decode cX0_moved 14 = .ok (.iload_n 0, 1) := by decide +kernel
theorem dX0_moved_15 : decode cX0_moved 15 = .ok (.iload_n 2, 1) := by decide +kernel
theorem dX0_moved_16 : decode cX0_moved 16 = .ok (.isub, 1) := by decide +kernel
theorem dX0_moved_17 : decode cX0_moved 17 = .ok (.invokestatic 59, 3) := by decide +kernel
theorem dX0_moved_20 : decode cX0_moved 20 = .ok (.ireturn, 1) := by decide +kernel
theorem dX0_excess_0 : decode cX0_excess 0 = .ok (.iload_n 1, 1) := by decide +kernel
theorem dX0_excess_1 : decode cX0_excess 1 = .ok (.invokestatic 36, 3) := by decide +kernel
theorem dX0_excess_4 : decode cX0_excess 4 = .ok (.ifCond .ne 5, 3) := by decide +kernel
theorem dX0_excess_7 : decode cX0_excess 7 = .ok (.iconst 0, 1) := by decide +kernel
theorem dX0_excess_8 : decode cX0_excess 8 = .ok (.ireturn, 1) := by decide +kernel
theorem dX0_excess_9 : decode cX0_excess 9 = .ok (.aload_n 0, 1) := by decide +kernel
theorem dX0_excess_10 : decode cX0_excess 10 = .ok (.getfield 18, 3) := by decide +kernel
theorem dX0_excess_13 : decode cX0_excess 13 = .ok (.iload_n 1, 1) := by decide +kernel
theorem dX0_excess_14 : decode cX0_excess 14 = .ok (.iaload, 1) := by decide +kernel
theorem dX0_excess_15 : decode cX0_excess 15 = .ok (.iload_n 2, 1) := by decide +kernel
theorem dX0_excess_16 : decode cX0_excess 16 = .ok (.iadd, 1) := by decide +kernel
theorem dX0_excess_17 : decode cX0_excess 17 = .ok (.aload_n 0, 1) := by decide +kernel
theorem dX0_excess_18 : decode cX0_excess 18 = .ok (.getfield 9, 3) := by decide +kernel
theorem dX0_excess_21 : decode cX0_excess 21 = .ok (.iload_n 1, 1) := by decide +kernel
theorem dX0_excess_22 : decode cX0_excess 22 = .ok (.iaload, 1) := by decide +kernel
theorem dX0_excess_23 : decode cX0_excess 23 = .ok (.aload_n 0, 1) := by decide +kernel
theorem dX0_excess_24 : decode cX0_excess 24 = .ok (.getfield 15, 3) := by decide +kernel
theorem dX0_excess_27 : decode cX0_excess 27 = .ok (.iload_n 1, 1) := by decide +kernel
theorem dX0_excess_28 : decode cX0_excess 28 = .ok (.iaload, 1) := by decide +kernel
theorem dX0_excess_29 : decode cX0_excess 29 = .ok (.isub, 1) := by decide +kernel
theorem dX0_excess_30 : decode cX0_excess 30 = .ok (.isub, 1) := by decide +kernel
theorem dX0_excess_31 : decode cX0_excess 31 = .ok (.ireturn, 1) := by decide +kernel
theorem dX0_greatestSaltCell_0 : decode cX0_greatestSaltCell 0 = .ok (.bipush 39, 2) := by decide +kernel
theorem dX0_greatestSaltCell_2 : decode cX0_greatestSaltCell 2 = .ok (.istore_n 1, 1) := by decide +kernel
theorem dX0_greatestSaltCell_3 : decode cX0_greatestSaltCell 3 = .ok (.iload_n 1, 1) := by decide +kernel
theorem dX0_greatestSaltCell_4 : decode cX0_greatestSaltCell 4 = .ok (.ifCond .lt 20, 3) := by decide +kernel
theorem dX0_greatestSaltCell_7 : decode cX0_greatestSaltCell 7 = .ok (.aload_n 0, 1) := by decide +kernel
theorem dX0_greatestSaltCell_8 : decode cX0_greatestSaltCell 8 = .ok (.getfield 18, 3) := by decide +kernel
theorem dX0_greatestSaltCell_11 : decode cX0_greatestSaltCell 11 = .ok (.iload_n 1, 1) := by decide +kernel
theorem dX0_greatestSaltCell_12 : decode cX0_greatestSaltCell 12 = .ok (.iaload, 1) := by decide +kernel
theorem dX0_greatestSaltCell_13 : decode cX0_greatestSaltCell 13 = .ok (.ifCond .le 5, 3) := by decide +kernel
theorem dX0_greatestSaltCell_16 : decode cX0_greatestSaltCell 16 = .ok (.iload_n 1, 1) := by decide +kernel
theorem dX0_greatestSaltCell_17 : decode cX0_greatestSaltCell 17 = .ok (.ireturn, 1) := by decide +kernel
theorem dX0_greatestSaltCell_18 : decode cX0_greatestSaltCell 18 = .ok (.iinc 1 (-1), 3) := by decide +kernel
theorem dX0_greatestSaltCell_21 : decode cX0_greatestSaltCell 21 = .ok (.goto (-18), 3) := by decide +kernel
theorem dX0_greatestSaltCell_24 : decode cX0_greatestSaltCell 24 = .ok (.bipush (-5), 2) := by decide +kernel
theorem dX0_greatestSaltCell_26 : decode cX0_greatestSaltCell 26 = .ok (.ireturn, 1) := by decide +kernel
theorem dX0_saltCells_0 : decode cX0_saltCells 0 = .ok (.iconst 0, 1) := by decide +kernel
theorem dX0_saltCells_1 : decode cX0_saltCells 1 = .ok (.istore_n 1, 1) := by decide +kernel
theorem dX0_saltCells_2 : decode cX0_saltCells 2 = .ok (.iconst 0, 1) := by decide +kernel
theorem dX0_saltCells_3 : decode cX0_saltCells 3 = .ok (.istore_n 2, 1) := by decide +kernel
theorem dX0_saltCells_4 : decode cX0_saltCells 4 = .ok (.iload_n 2, 1) := by decide +kernel
theorem dX0_saltCells_5 : decode cX0_saltCells 5 = .ok (.bipush 40, 2) := by decide +kernel
theorem dX0_saltCells_7 : decode cX0_saltCells 7 = .ok (.if_icmp .ge 21, 3) := by decide +kernel
theorem dX0_saltCells_10 : decode cX0_saltCells 10 = .ok (.aload_n 0, 1) := by decide +kernel
theorem dX0_saltCells_11 : decode cX0_saltCells 11 = .ok (.getfield 18, 3) := by decide +kernel
theorem dX0_saltCells_14 : decode cX0_saltCells 14 = .ok (.iload_n 2, 1) := by decide +kernel
theorem dX0_saltCells_15 : decode cX0_saltCells 15 = .ok (.iaload, 1) := by decide +kernel
theorem dX0_saltCells_16 : decode cX0_saltCells 16 = .ok (.ifCond .le 6, 3) := by decide +kernel
theorem dX0_saltCells_19 : decode cX0_saltCells 19 = .ok (.iinc 1 1, 3) := by decide +kernel
theorem dX0_saltCells_22 : decode cX0_saltCells 22 = .ok (.iinc 2 1, 3) := by decide +kernel
theorem dX0_saltCells_25 : decode cX0_saltCells 25 = .ok (.goto (-21), 3) := by decide +kernel
theorem dX0_saltCells_28 : decode cX0_saltCells 28 = .ok (.iload_n 1, 1) := by decide +kernel
theorem dX0_saltCells_29 : decode cX0_saltCells 29 = .ok (.ireturn, 1) := by decide +kernel
theorem dX0_sumOfHeights_0 : decode cX0_sumOfHeights 0 = .ok (.iconst 0, 1) := by decide +kernel
theorem dX0_sumOfHeights_1 : decode cX0_sumOfHeights 1 = .ok (.istore_n 1, 1) := by decide +kernel
theorem dX0_sumOfHeights_2 : decode cX0_sumOfHeights 2 = .ok (.iconst 0, 1) := by decide +kernel
theorem dX0_sumOfHeights_3 : decode cX0_sumOfHeights 3 = .ok (.istore_n 2, 1) := by decide +kernel
theorem dX0_sumOfHeights_4 : decode cX0_sumOfHeights 4 = .ok (.iload_n 2, 1) := by decide +kernel
theorem dX0_sumOfHeights_5 : decode cX0_sumOfHeights 5 = .ok (.bipush 40, 2) := by decide +kernel
theorem dX0_sumOfHeights_7 : decode cX0_sumOfHeights 7 = .ok (.if_icmp .ge 18, 3) := by decide +kernel
theorem dX0_sumOfHeights_10 : decode cX0_sumOfHeights 10 = .ok (.iload_n 1, 1) := by decide +kernel
theorem dX0_sumOfHeights_11 : decode cX0_sumOfHeights 11 = .ok (.aload_n 0, 1) := by decide +kernel
theorem dX0_sumOfHeights_12 : decode cX0_sumOfHeights 12 = .ok (.getfield 18, 3) := by decide +kernel
theorem dX0_sumOfHeights_15 : decode cX0_sumOfHeights 15 = .ok (.iload_n 2, 1) := by decide +kernel
theorem dX0_sumOfHeights_16 : decode cX0_sumOfHeights 16 = .ok (.iaload, 1) := by decide +kernel
theorem dX0_sumOfHeights_17 : decode cX0_sumOfHeights 17 = .ok (.iadd, 1) := by decide +kernel
theorem dX0_sumOfHeights_18 : decode cX0_sumOfHeights 18 = .ok (.istore_n 1, 1) := by decide +kernel
theorem dX0_sumOfHeights_19 : decode cX0_sumOfHeights 19 = .ok (.iinc 2 1, 3) := by decide +kernel
theorem dX0_sumOfHeights_22 : decode cX0_sumOfHeights 22 = .ok (.goto (-18), 3) := by decide +kernel
theorem dX0_sumOfHeights_25 : decode cX0_sumOfHeights 25 = .ok (.iload_n 1, 1) := by decide +kernel
theorem dX0_sumOfHeights_26 : decode cX0_sumOfHeights 26 = .ok (.ireturn, 1) := by decide +kernel
theorem dX1_init_0 : decode cX1_init 0 = .ok (.aload_n 0, 1) := by decide +kernel
theorem dX1_init_1 : decode cX1_init 1 = .ok (.invokespecial 3, 3) := by decide +kernel
theorem dX1_init_4 : decode cX1_init 4 = .ok (.aload_n 0, 1) := by decide +kernel
theorem dX1_init_5 : decode cX1_init 5 = .ok (.iconst 4, 1) := by decide +kernel
theorem dX1_init_6 : decode cX1_init 6 = .ok (.anewarray 9, 3) := by decide +kernel
theorem dX1_init_9 : decode cX1_init 9 = .ok (.putfield 11, 3) := by decide +kernel
theorem dX1_init_12 : decode cX1_init 12 = .ok (.iconst 0, 1) := by decide +kernel
theorem dX1_init_13 : decode cX1_init 13 = .ok (.istore_n 1, 1) := by decide +kernel
theorem dX1_init_14 : decode cX1_init 14 = .ok (.iload_n 1, 1) := by decide +kernel
theorem dX1_init_15 : decode cX1_init 15 = .ok (.iconst 4, 1) := by decide +kernel
theorem dX1_init_16 : decode cX1_init 16 = .ok (.if_icmp .ge 22, 3) := by decide +kernel
theorem dX1_init_19 : decode cX1_init 19 = .ok (.aload_n 0, 1) := by decide +kernel
theorem dX1_init_20 : decode cX1_init 20 = .ok (.getfield 11, 3) := by decide +kernel
theorem dX1_init_23 : decode cX1_init 23 = .ok (.iload_n 1, 1) := by decide +kernel
theorem dX1_init_24 : decode cX1_init 24 = .ok (.new 9, 3) := by decide +kernel
theorem dX1_init_27 : decode cX1_init 27 = .ok (.dup, 1) := by decide +kernel
theorem dX1_init_28 : decode cX1_init 28 = .ok (.invokespecial 17, 3) := by decide +kernel
theorem dX1_init_31 : decode cX1_init 31 = .ok (.aastore, 1) := by decide +kernel
theorem dX1_init_32 : decode cX1_init 32 = .ok (.iinc 1 1, 3) := by decide +kernel
theorem dX1_init_35 : decode cX1_init 35 = .ok (.goto (-21), 3) := by decide +kernel
theorem dX1_init_38 : decode cX1_init 38 = .ok (.return_, 1) := by decide +kernel
theorem dX1_add_0 : decode cX1_add 0 = .ok (.aload_n 0, 1) := by decide +kernel
theorem dX1_add_1 : decode cX1_add 1 = .ok (.getfield 18, 3) := by decide +kernel
theorem dX1_add_4 : decode cX1_add 4 = .ok (.iconst 4, 1) := by decide +kernel
theorem dX1_add_5 : decode cX1_add 5 = .ok (.if_icmp .lt 7, 3) := by decide +kernel
theorem dX1_add_8 : decode cX1_add 8 = .ok (.aload_n 0, 1) := by decide +kernel
theorem dX1_add_9 : decode cX1_add 9 = .ok (.invokevirtual 22, 3) := by decide +kernel
theorem dX1_add_12 : decode cX1_add 12 = .ok (.aload_n 0, 1) := by decide +kernel
theorem dX1_add_13 : decode cX1_add 13 = .ok (.getfield 18, 3) := by decide +kernel
theorem dX1_add_16 : decode cX1_add 16 = .ok (.ifCond .lt 11, 3) := by decide +kernel
theorem dX1_add_19 : decode cX1_add 19 = .ok (.aload_n 0, 1) := by decide +kernel
theorem dX1_add_20 : decode cX1_add 20 = .ok (.getfield 18, 3) := by decide +kernel
theorem dX1_add_23 : decode cX1_add 23 = .ok (.iconst 4, 1) := by decide +kernel
theorem dX1_add_24 : decode cX1_add 24 = .ok (.if_icmp .lt 4, 3) := by decide +kernel
theorem dX1_add_27 : decode cX1_add 27 = .ok (.return_, 1) := by decide +kernel
theorem dX1_add_28 : decode cX1_add 28 = .ok (.aload_n 0, 1) := by decide +kernel
theorem dX1_add_29 : decode cX1_add 29 = .ok (.getfield 11, 3) := by decide +kernel
theorem dX1_add_32 : decode cX1_add 32 = .ok (.aload_n 0, 1) := by decide +kernel
theorem dX1_add_33 : decode cX1_add 33 = .ok (.getfield 18, 3) := by decide +kernel
theorem dX1_add_36 : decode cX1_add 36 = .ok (.aaload, 1) := by decide +kernel
theorem dX1_add_37 : decode cX1_add 37 = .ok (.astore_n 2, 1) := by decide +kernel
theorem dX1_add_38 : decode cX1_add 38 = .ok (.aload_n 2, 1) := by decide +kernel
theorem dX1_add_39 : decode cX1_add 39 = .ok (.ifnull 18, 3) := by decide +kernel
theorem dX1_add_42 : decode cX1_add 42 = .ok (.aload_n 2, 1) := by decide +kernel
theorem dX1_add_43 : decode cX1_add 43 = .ok (.aload_n 1, 1) := by decide +kernel
theorem dX1_add_44 : decode cX1_add 44 = .ok (.invokevirtual 25, 3) := by decide +kernel
theorem dX1_add_47 : decode cX1_add 47 = .ok (.aload_n 0, 1) := by decide +kernel
theorem dX1_add_48 : decode cX1_add 48 = .ok (.dup, 1) := by decide +kernel
theorem dX1_add_49 : decode cX1_add 49 = .ok (.getfield 18, 3) := by decide +kernel
theorem dX1_add_52 : decode cX1_add 52 = .ok (.iconst 1, 1) := by decide +kernel
theorem dX1_add_53 : decode cX1_add 53 = .ok (.iadd, 1) := by decide +kernel
theorem dX1_add_54 : decode cX1_add 54 = .ok (.putfield 18, 3) := by decide +kernel
theorem dX1_add_57 : decode cX1_add 57 = .ok (.return_, 1) := by decide +kernel
theorem dX1_dropOldest_0 : decode cX1_dropOldest 0 = .ok (.aload_n 0, 1) := by decide +kernel
theorem dX1_dropOldest_1 : decode cX1_dropOldest 1 = .ok (.getfield 11, 3) := by decide +kernel
theorem dX1_dropOldest_4 : decode cX1_dropOldest 4 = .ok (.iconst 0, 1) := by decide +kernel
theorem dX1_dropOldest_5 : decode cX1_dropOldest 5 = .ok (.aaload, 1) := by decide +kernel
theorem dX1_dropOldest_6 : decode cX1_dropOldest 6 = .ok (.astore_n 1, 1) := by decide +kernel
theorem dX1_dropOldest_7 : decode cX1_dropOldest 7 = .ok (.iconst 1, 1) := by decide +kernel
theorem dX1_dropOldest_8 : decode cX1_dropOldest 8 = .ok (.istore_n 2, 1) := by decide +kernel
theorem dX1_dropOldest_9 : decode cX1_dropOldest 9 = .ok (.iload_n 2, 1) := by decide +kernel
theorem dX1_dropOldest_10 : decode cX1_dropOldest 10 = .ok (.iconst 4, 1) := by decide +kernel
theorem dX1_dropOldest_11 : decode cX1_dropOldest 11 = .ok (.if_icmp .ge 23, 3) := by decide +kernel
theorem dX1_dropOldest_14 : decode cX1_dropOldest 14 = .ok (.aload_n 0, 1) := by decide +kernel
theorem dX1_dropOldest_15 : decode cX1_dropOldest 15 = .ok (.getfield 11, 3) := by decide +kernel
theorem dX1_dropOldest_18 : decode cX1_dropOldest 18 = .ok (.iload_n 2, 1) := by decide +kernel
theorem dX1_dropOldest_19 : decode cX1_dropOldest 19 = .ok (.iconst 1, 1) := by decide +kernel
theorem dX1_dropOldest_20 : decode cX1_dropOldest 20 = .ok (.isub, 1) := by decide +kernel
theorem dX1_dropOldest_21 : decode cX1_dropOldest 21 = .ok (.aload_n 0, 1) := by decide +kernel
theorem dX1_dropOldest_22 : decode cX1_dropOldest 22 = .ok (.getfield 11, 3) := by decide +kernel
theorem dX1_dropOldest_25 : decode cX1_dropOldest 25 = .ok (.iload_n 2, 1) := by decide +kernel
theorem dX1_dropOldest_26 : decode cX1_dropOldest 26 = .ok (.aaload, 1) := by decide +kernel
theorem dX1_dropOldest_27 : decode cX1_dropOldest 27 = .ok (.aastore, 1) := by decide +kernel
theorem dX1_dropOldest_28 : decode cX1_dropOldest 28 = .ok (.iinc 2 1, 3) := by decide +kernel
theorem dX1_dropOldest_31 : decode cX1_dropOldest 31 = .ok (.goto (-22), 3) := by decide +kernel
theorem dX1_dropOldest_34 : decode cX1_dropOldest 34 = .ok (.aload_n 0, 1) := by decide +kernel
theorem dX1_dropOldest_35 : decode cX1_dropOldest 35 = .ok (.getfield 11, 3) := by decide +kernel
theorem dX1_dropOldest_38 : decode cX1_dropOldest 38 = .ok (.iconst 3, 1) := by decide +kernel
theorem dX1_dropOldest_39 : decode cX1_dropOldest 39 = .ok (.aload_n 1, 1) := by decide +kernel
theorem dX1_dropOldest_40 : decode cX1_dropOldest 40 = .ok (.aastore, 1) := by decide +kernel
theorem dX1_dropOldest_41 : decode cX1_dropOldest 41 = .ok (.aload_n 0, 1) := by decide +kernel
theorem dX1_dropOldest_42 : decode cX1_dropOldest 42 = .ok (.dup, 1) := by decide +kernel
theorem dX1_dropOldest_43 : decode cX1_dropOldest 43 = .ok (.getfield 18, 3) := by decide +kernel
theorem dX1_dropOldest_46 : decode cX1_dropOldest 46 = .ok (.iconst 1, 1) := by decide +kernel
theorem dX1_dropOldest_47 : decode cX1_dropOldest 47 = .ok (.isub, 1) := by decide +kernel
theorem dX1_dropOldest_48 : decode cX1_dropOldest 48 = .ok (.putfield 18, 3) := by decide +kernel
theorem dX1_dropOldest_51 : decode cX1_dropOldest 51 = .ok (.return_, 1) := by decide +kernel
theorem dX1_takeLatest_0 : decode cX1_takeLatest 0 = .ok (.aload_n 0, 1) := by decide +kernel
theorem dX1_takeLatest_1 : decode cX1_takeLatest 1 = .ok (.getfield 18, 3) := by decide +kernel
theorem dX1_takeLatest_4 : decode cX1_takeLatest 4 = .ok (.iconst 1, 1) := by decide +kernel
theorem dX1_takeLatest_5 : decode cX1_takeLatest 5 = .ok (.isub, 1) := by decide +kernel
theorem dX1_takeLatest_6 : decode cX1_takeLatest 6 = .ok (.istore_n 2, 1) := by decide +kernel
theorem dX1_takeLatest_7 : decode cX1_takeLatest 7 = .ok (.iload_n 2, 1) := by decide +kernel
theorem dX1_takeLatest_8 : decode cX1_takeLatest 8 = .ok (.ifCond .lt 8, 3) := by decide +kernel
theorem dX1_takeLatest_11 : decode cX1_takeLatest 11 = .ok (.iload_n 2, 1) := by decide +kernel
theorem dX1_takeLatest_12 : decode cX1_takeLatest 12 = .ok (.iconst 4, 1) := by decide +kernel
theorem dX1_takeLatest_13 : decode cX1_takeLatest 13 = .ok (.if_icmp .lt 5, 3) := by decide +kernel
theorem dX1_takeLatest_16 : decode cX1_takeLatest 16 = .ok (.iconst 0, 1) := by decide +kernel
theorem dX1_takeLatest_17 : decode cX1_takeLatest 17 = .ok (.ireturn, 1) := by decide +kernel
theorem dX1_takeLatest_18 : decode cX1_takeLatest 18 = .ok (.aload_n 0, 1) := by decide +kernel
theorem dX1_takeLatest_19 : decode cX1_takeLatest 19 = .ok (.getfield 11, 3) := by decide +kernel
theorem dX1_takeLatest_22 : decode cX1_takeLatest 22 = .ok (.iload_n 2, 1) := by decide +kernel
theorem dX1_takeLatest_23 : decode cX1_takeLatest 23 = .ok (.aaload, 1) := by decide +kernel
theorem dX1_takeLatest_24 : decode cX1_takeLatest 24 = .ok (.astore_n 3, 1) := by decide +kernel
theorem dX1_takeLatest_25 : decode cX1_takeLatest 25 = .ok (.aload_n 3, 1) := by decide +kernel
theorem dX1_takeLatest_26 : decode cX1_takeLatest 26 = .ok (.ifnonnull 5, 3) := by decide +kernel
theorem dX1_takeLatest_29 : decode cX1_takeLatest 29 = .ok (.iconst 0, 1) := by decide +kernel
theorem dX1_takeLatest_30 : decode cX1_takeLatest 30 = .ok (.ireturn, 1) := by decide +kernel
theorem dX1_takeLatest_31 : decode cX1_takeLatest 31 = .ok (.aload_n 1, 1) := by decide +kernel
theorem dX1_takeLatest_32 : decode cX1_takeLatest 32 = .ok (.aload_n 3, 1) := by decide +kernel
theorem dX1_takeLatest_33 : decode cX1_takeLatest 33 = .ok (.invokevirtual 25, 3) := by decide +kernel
theorem dX1_takeLatest_36 : decode cX1_takeLatest 36 = .ok (.aload_n 0, 1) := by decide +kernel
theorem dX1_takeLatest_37 : decode cX1_takeLatest 37 = .ok (.iload_n 2, 1) := by decide +kernel
theorem dX1_takeLatest_38 : decode cX1_takeLatest 38 = .ok (.putfield 18, 3) := by decide +kernel
theorem dX1_takeLatest_41 : decode cX1_takeLatest 41 = .ok (.iconst 1, 1) := by decide +kernel
theorem dX1_takeLatest_42 : decode cX1_takeLatest 42 = .ok (.ireturn, 1) := by decide +kernel
theorem dX2_init_0 : decode cX2_init 0 = .ok (.aload_n 0, 1) := by decide +kernel
theorem dX2_init_1 : decode cX2_init 1 = .ok (.invokespecial 3, 3) := by decide +kernel
theorem dX2_init_4 : decode cX2_init 4 = .ok (.aload_n 0, 1) := by decide +kernel
theorem dX2_init_5 : decode cX2_init 5 = .ok (.bipush 60, 2) := by decide +kernel
theorem dX2_init_7 : decode cX2_init 7 = .ok (.newarray .char, 2) := by decide +kernel
theorem dX2_init_9 : decode cX2_init 9 = .ok (.putfield 9, 3) := by decide +kernel
theorem dX2_init_12 : decode cX2_init 12 = .ok (.aload_n 0, 1) := by decide +kernel
theorem dX2_init_13 : decode cX2_init 13 = .ok (.bipush 20, 2) := by decide +kernel
theorem dX2_init_15 : decode cX2_init 15 = .ok (.newarray .int, 2) := by decide +kernel
theorem dX2_init_17 : decode cX2_init 17 = .ok (.putfield 15, 3) := by decide +kernel
theorem dX2_init_20 : decode cX2_init 20 = .ok (.aload_n 0, 1) := by decide +kernel
theorem dX2_init_21 : decode cX2_init 21 = .ok (.bipush 20, 2) := by decide +kernel
theorem dX2_init_23 : decode cX2_init 23 = .ok (.newarray .int, 2) := by decide +kernel
theorem dX2_init_25 : decode cX2_init 25 = .ok (.putfield 19, 3) := by decide +kernel
theorem dX2_init_28 : decode cX2_init 28 = .ok (.aload_n 0, 1) := by decide +kernel
theorem dX2_init_29 : decode cX2_init 29 = .ok (.bipush 20, 2) := by decide +kernel
theorem dX2_init_31 : decode cX2_init 31 = .ok (.newarray .int, 2) := by decide +kernel
theorem dX2_init_33 : decode cX2_init 33 = .ok (.putfield 22, 3) := by decide +kernel
theorem dX2_init_36 : decode cX2_init 36 = .ok (.return_, 1) := by decide +kernel
theorem dX3_init_0 : decode cX3_init 0 = .ok (.aload_n 0, 1) := by decide +kernel
theorem dX3_init_1 : decode cX3_init 1 = .ok (.invokespecial 3, 3) := by decide +kernel
theorem dX3_init_4 : decode cX3_init 4 = .ok (.aload_n 0, 1) := by decide +kernel
theorem dX3_init_5 : decode cX3_init 5 = .ok (.new 9, 3) := by decide +kernel
theorem dX3_init_8 : decode cX3_init 8 = .ok (.dup, 1) := by decide +kernel
theorem dX3_init_9 : decode cX3_init 9 = .ok (.invokespecial 11, 3) := by decide +kernel
theorem dX3_init_12 : decode cX3_init 12 = .ok (.putfield 12, 3) := by decide +kernel
theorem dX3_init_15 : decode cX3_init 15 = .ok (.aload_n 0, 1) := by decide +kernel
theorem dX3_init_16 : decode cX3_init 16 = .ok (.new 18, 3) := by decide +kernel
theorem dX3_init_19 : decode cX3_init 19 = .ok (.dup, 1) := by decide +kernel
theorem dX3_init_20 : decode cX3_init 20 = .ok (.invokespecial 20, 3) := by decide +kernel
theorem dX3_init_23 : decode cX3_init 23 = .ok (.putfield 21, 3) := by decide +kernel
theorem dX3_init_26 : decode cX3_init 26 = .ok (.aload_n 0, 1) := by decide +kernel
theorem dX3_init_27 : decode cX3_init 27 = .ok (.iconst 3, 1) := by decide +kernel
theorem dX3_init_28 : decode cX3_init 28 = .ok (.newarray .int, 2) := by decide +kernel
theorem dX3_init_30 : decode cX3_init 30 = .ok (.dup, 1) := by decide +kernel
theorem dX3_init_31 : decode cX3_init 31 = .ok (.iconst 0, 1) := by decide +kernel
theorem dX3_init_32 : decode cX3_init 32 = .ok (.bipush 20, 2) := by decide +kernel
theorem dX3_init_34 : decode cX3_init 34 = .ok (.iastore, 1) := by decide +kernel
theorem dX3_init_35 : decode cX3_init 35 = .ok (.dup, 1) := by decide +kernel
theorem dX3_init_36 : decode cX3_init 36 = .ok (.iconst 1, 1) := by decide +kernel
theorem dX3_init_37 : decode cX3_init 37 = .ok (.iconst 1, 1) := by decide +kernel
theorem dX3_init_38 : decode cX3_init 38 = .ok (.iastore, 1) := by decide +kernel
theorem dX3_init_39 : decode cX3_init 39 = .ok (.dup, 1) := by decide +kernel
theorem dX3_init_40 : decode cX3_init 40 = .ok (.iconst 2, 1) := by decide +kernel
theorem dX3_init_41 : decode cX3_init 41 = .ok (.iconst 5, 1) := by decide +kernel
theorem dX3_init_42 : decode cX3_init 42 = .ok (.iastore, 1) := by decide +kernel
theorem dX3_init_43 : decode cX3_init 43 = .ok (.putfield 25, 3) := by decide +kernel
theorem dX3_init_46 : decode cX3_init 46 = .ok (.aload_n 0, 1) := by decide +kernel
theorem dX3_init_47 : decode cX3_init 47 = .ok (.bipush 10, 2) := by decide +kernel
theorem dX3_init_49 : decode cX3_init 49 = .ok (.putfield 29, 3) := by decide +kernel
theorem dX3_init_52 : decode cX3_init 52 = .ok (.aload_n 0, 1) := by decide +kernel
theorem dX3_init_53 : decode cX3_init 53 = .ok (.bipush (-5), 2) := by decide +kernel
theorem dX3_init_55 : decode cX3_init 55 = .ok (.putfield 33, 3) := by decide +kernel
theorem dX3_init_58 : decode cX3_init 58 = .ok (.return_, 1) := by decide +kernel
theorem dX3_copyFrom_0 : decode cX3_copyFrom 0 = .ok (.aload_n 0, 1) := by decide +kernel
theorem dX3_copyFrom_1 : decode cX3_copyFrom 1 = .ok (.getfield 12, 3) := by decide +kernel
theorem dX3_copyFrom_4 : decode cX3_copyFrom 4 = .ok (.aload_n 1, 1) := by decide +kernel
theorem dX3_copyFrom_5 : decode cX3_copyFrom 5 = .ok (.getfield 12, 3) := by decide +kernel
theorem dX3_copyFrom_8 : decode cX3_copyFrom 8 = .ok (.invokevirtual 36, 3) := by decide +kernel
theorem dX3_copyFrom_11 : decode cX3_copyFrom 11 = .ok (.aload_n 0, 1) := by decide +kernel
theorem dX3_copyFrom_12 : decode cX3_copyFrom 12 = .ok (.getfield 21, 3) := by decide +kernel
theorem dX3_copyFrom_15 : decode cX3_copyFrom 15 = .ok (.aload_n 1, 1) := by decide +kernel
theorem dX3_copyFrom_16 : decode cX3_copyFrom 16 = .ok (.getfield 21, 3) := by decide +kernel
theorem dX3_copyFrom_19 : decode cX3_copyFrom 19 = .ok (.invokevirtual 40, 3) := by decide +kernel
theorem dX3_copyFrom_22 : decode cX3_copyFrom 22 = .ok (.aload_n 1, 1) := by decide +kernel
theorem dX3_copyFrom_23 : decode cX3_copyFrom 23 = .ok (.getfield 25, 3) := by decide +kernel
theorem dX3_copyFrom_26 : decode cX3_copyFrom 26 = .ok (.iconst 0, 1) := by decide +kernel
theorem dX3_copyFrom_27 : decode cX3_copyFrom 27 = .ok (.aload_n 0, 1) := by decide +kernel
theorem dX3_copyFrom_28 : decode cX3_copyFrom 28 = .ok (.getfield 25, 3) := by decide +kernel
theorem dX3_copyFrom_31 : decode cX3_copyFrom 31 = .ok (.iconst 0, 1) := by decide +kernel
theorem dX3_copyFrom_32 : decode cX3_copyFrom 32 = .ok (.iconst 3, 1) := by decide +kernel
theorem dX3_copyFrom_33 : decode cX3_copyFrom 33 = .ok (.invokestatic 43, 3) := by decide +kernel
theorem dX3_copyFrom_36 : decode cX3_copyFrom 36 = .ok (.aload_n 0, 1) := by decide +kernel
theorem dX3_copyFrom_37 : decode cX3_copyFrom 37 = .ok (.aload_n 1, 1) := by decide +kernel
theorem dX3_copyFrom_38 : decode cX3_copyFrom 38 = .ok (.getfield 29, 3) := by decide +kernel
theorem dX3_copyFrom_41 : decode cX3_copyFrom 41 = .ok (.putfield 29, 3) := by decide +kernel
theorem dX3_copyFrom_44 : decode cX3_copyFrom 44 = .ok (.aload_n 0, 1) := by decide +kernel
theorem dX3_copyFrom_45 : decode cX3_copyFrom 45 = .ok (.aload_n 1, 1) := by decide +kernel
theorem dX3_copyFrom_46 : decode cX3_copyFrom 46 = .ok (.getfield 49, 3) := by decide +kernel
theorem dX3_copyFrom_49 : decode cX3_copyFrom 49 = .ok (.putfield 49, 3) := by decide +kernel
theorem dX3_copyFrom_52 : decode cX3_copyFrom 52 = .ok (.aload_n 0, 1) := by decide +kernel
theorem dX3_copyFrom_53 : decode cX3_copyFrom 53 = .ok (.aload_n 1, 1) := by decide +kernel
theorem dX3_copyFrom_54 : decode cX3_copyFrom 54 = .ok (.getfield 33, 3) := by decide +kernel
theorem dX3_copyFrom_57 : decode cX3_copyFrom 57 = .ok (.putfield 33, 3) := by decide +kernel
theorem dX3_copyFrom_60 : decode cX3_copyFrom 60 = .ok (.return_, 1) := by decide +kernel
theorem dX3_changeFlow_0 : decode cX3_changeFlow 0 = .ok (.iload_n 1, 1) := by decide +kernel
theorem dX3_changeFlow_1 : decode cX3_changeFlow 1 = .ok (.ifCond .lt 9, 3) := by decide +kernel
theorem dX3_changeFlow_4 : decode cX3_changeFlow 4 = .ok (.iload_n 1, 1) := by decide +kernel
theorem dX3_changeFlow_5 : decode cX3_changeFlow 5 = .ok (.bipush 99, 2) := by decide +kernel
theorem dX3_changeFlow_7 : decode cX3_changeFlow 7 = .ok (.if_icmp .le 6, 3) := by decide +kernel
theorem dX3_changeFlow_10 : decode cX3_changeFlow 10 = .ok (.bipush (-2), 2) := by decide +kernel
theorem dX3_changeFlow_12 : decode cX3_changeFlow 12 = .ok (.ireturn, 1) := by decide +kernel
theorem dX3_changeFlow_13 : decode cX3_changeFlow 13 = .ok (.aload_n 0, 1) := by decide +kernel
theorem dX3_changeFlow_14 : decode cX3_changeFlow 14 = .ok (.getfield 29, 3) := by decide +kernel
theorem dX3_changeFlow_17 : decode cX3_changeFlow 17 = .ok (.istore_n 2, 1) := by decide +kernel
theorem dX3_changeFlow_18 : decode cX3_changeFlow 18 = .ok (.aload_n 0, 1) := by decide +kernel
theorem dX3_changeFlow_19 : decode cX3_changeFlow 19 = .ok (.iload_n 1, 1) := by decide +kernel
theorem dX3_changeFlow_20 : decode cX3_changeFlow 20 = .ok (.putfield 29, 3) := by decide +kernel
theorem dX3_changeFlow_23 : decode cX3_changeFlow 23 = .ok (.iload_n 2, 1) := by decide +kernel
theorem dX3_changeFlow_24 : decode cX3_changeFlow 24 = .ok (.iload_n 1, 1) := by decide +kernel
theorem dX3_changeFlow_25 : decode cX3_changeFlow 25 = .ok (.if_icmp .ne 8, 3) := by decide +kernel
theorem dX3_changeFlow_28 : decode cX3_changeFlow 28 = .ok (.bipush (-5), 2) := by decide +kernel
theorem dX3_changeFlow_30 : decode cX3_changeFlow 30 = .ok (.goto 4, 3) := by decide +kernel
theorem dX3_changeFlow_33 : decode cX3_changeFlow 33 = .ok (.iload_n 2, 1) := by decide +kernel
theorem dX3_changeFlow_34 : decode cX3_changeFlow 34 = .ok (.ireturn, 1) := by decide +kernel
theorem dX3_changeSetting_0 : decode cX3_changeSetting 0 = .ok (.iload_n 1, 1) := by decide +kernel
theorem dX3_changeSetting_1 : decode cX3_changeSetting 1 = .ok (.ifCond .lt 8, 3) := by decide +kernel
theorem dX3_changeSetting_4 : decode cX3_changeSetting 4 = .ok (.iload_n 1, 1) := by decide +kernel
theorem dX3_changeSetting_5 : decode cX3_changeSetting 5 = .ok (.iconst 3, 1) := by decide +kernel
theorem dX3_changeSetting_6 : decode cX3_changeSetting 6 = .ok (.if_icmp .lt 5, 3) := by decide +kernel
theorem dX3_changeSetting_9 : decode cX3_changeSetting 9 = .ok (.iconst (-1), 1) := by decide +kernel
theorem dX3_changeSetting_10 : decode cX3_changeSetting 10 = .ok (.ireturn, 1) := by decide +kernel
theorem dX3_changeSetting_11 : decode cX3_changeSetting 11 = .ok (.iload_n 2, 1) := by decide +kernel
theorem dX3_changeSetting_12 : decode cX3_changeSetting 12 = .ok (.getstatic 52, 3) := by decide +kernel
theorem dX3_changeSetting_15 : decode cX3_changeSetting 15 = .ok (.iload_n 1, 1) := by decide +kernel
theorem dX3_changeSetting_16 : decode cX3_changeSetting 16 = .ok (.iaload, 1) := by decide +kernel
theorem dX3_changeSetting_17 : decode cX3_changeSetting 17 = .ok (.if_icmp .lt 12, 3) := by decide +kernel
theorem dX3_changeSetting_20 : decode cX3_changeSetting 20 = .ok (.iload_n 2, 1) := by decide +kernel
theorem dX3_changeSetting_21 : decode cX3_changeSetting 21 = .ok (.getstatic 55, 3) := by decide +kernel
theorem dX3_changeSetting_24 : decode cX3_changeSetting 24 = .ok (.iload_n 1, 1) := by decide +kernel
theorem dX3_changeSetting_25 : decode cX3_changeSetting 25 = .ok (.iaload, 1) := by decide +kernel
theorem dX3_changeSetting_26 : decode cX3_changeSetting 26 = .ok (.if_icmp .le 6, 3) := by decide +kernel
theorem dX3_changeSetting_29 : decode cX3_changeSetting 29 = .ok (.bipush (-2), 2) := by decide +kernel
theorem dX3_changeSetting_31 : decode cX3_changeSetting 31 = .ok (.ireturn, 1) := by decide +kernel
theorem dX3_changeSetting_32 : decode cX3_changeSetting 32 = .ok (.aload_n 0, 1) := by decide +kernel
theorem dX3_changeSetting_33 : decode cX3_changeSetting 33 = .ok (.getfield 25, 3) := by decide +kernel
theorem dX3_changeSetting_36 : decode cX3_changeSetting 36 = .ok (.iload_n 1, 1) := by decide +kernel
theorem dX3_changeSetting_37 : decode cX3_changeSetting 37 = .ok (.iaload, 1) := by decide +kernel
theorem dX3_changeSetting_38 : decode cX3_changeSetting 38 = .ok (.istore_n 3, 1) := by decide +kernel
theorem dX3_changeSetting_39 : decode cX3_changeSetting 39 = .ok (.aload_n 0, 1) := by decide +kernel
theorem dX3_changeSetting_40 : decode cX3_changeSetting 40 = .ok (.getfield 25, 3) := by decide +kernel
theorem dX3_changeSetting_43 : decode cX3_changeSetting 43 = .ok (.iload_n 1, 1) := by decide +kernel
theorem dX3_changeSetting_44 : decode cX3_changeSetting 44 = .ok (.iload_n 2, 1) := by decide +kernel
theorem dX3_changeSetting_45 : decode cX3_changeSetting 45 = .ok (.iastore, 1) := by decide +kernel
theorem dX3_changeSetting_46 : decode cX3_changeSetting 46 = .ok (.iload_n 3, 1) := by decide +kernel
theorem dX3_changeSetting_47 : decode cX3_changeSetting 47 = .ok (.iload_n 2, 1) := by decide +kernel
theorem dX3_changeSetting_48 : decode cX3_changeSetting 48 = .ok (.if_icmp .ne 8, 3) := by decide +kernel
theorem dX3_changeSetting_51 : decode cX3_changeSetting 51 = .ok (.bipush (-5), 2) := by decide +kernel
theorem dX3_changeSetting_53 : decode cX3_changeSetting 53 = .ok (.goto 4, 3) := by decide +kernel
theorem dX3_changeSetting_56 : decode cX3_changeSetting 56 = .ok (.iload_n 3, 1) := by decide +kernel
theorem dX3_changeSetting_57 : decode cX3_changeSetting 57 = .ok (.ireturn, 1) := by decide +kernel
theorem dX3_slope_0 : decode cX3_slope 0 = .ok (.aload_n 0, 1) := by decide +kernel
theorem dX3_slope_1 : decode cX3_slope 1 = .ok (.getfield 25, 3) := by decide +kernel
theorem dX3_slope_4 : decode cX3_slope 4 = .ok (.iconst 1, 1) := by decide +kernel
theorem dX3_slope_5 : decode cX3_slope 5 = .ok (.iaload, 1) := by decide +kernel
theorem dX3_slope_6 : decode cX3_slope 6 = .ok (.ireturn, 1) := by decide +kernel
theorem dX3_pushOf_0 : decode cX3_pushOf 0 = .ok (.aload_n 0, 1) := by decide +kernel
theorem dX3_pushOf_1 : decode cX3_pushOf 1 = .ok (.aload_n 0, 1) := by decide +kernel
theorem dX3_pushOf_2 : decode cX3_pushOf 2 = .ok (.getfield 29, 3) := by decide +kernel
theorem dX3_pushOf_5 : decode cX3_pushOf 5 = .ok (.iload_n 1, 1) := by decide +kernel
theorem dX3_pushOf_6 : decode cX3_pushOf 6 = .ok (.invokevirtual 58, 3) := by decide +kernel
theorem dX3_pushOf_9 : decode cX3_pushOf 9 = .ok (.ireturn, 1) := by decide +kernel
theorem dX3_pushWith_0 : decode cX3_pushWith 0 = .ok (.aload_n 0, 1) := by decide +kernel
theorem dX3_pushWith_1 : decode cX3_pushWith 1 = .ok (.getfield 25, 3) := by decide +kernel
theorem dX3_pushWith_4 : decode cX3_pushWith 4 = .ok (.iconst 0, 1) := by decide +kernel
theorem dX3_pushWith_5 : decode cX3_pushWith 5 = .ok (.iaload, 1) := by decide +kernel
theorem dX3_pushWith_6 : decode cX3_pushWith 6 = .ok (.iload_n 2, 1) := by decide +kernel
theorem dX3_pushWith_7 : decode cX3_pushWith 7 = .ok (.iadd, 1) := by decide +kernel
theorem dX3_pushWith_8 : decode cX3_pushWith 8 = .ok (.iload_n 1, 1) := by decide +kernel
theorem dX3_pushWith_9 : decode cX3_pushWith 9 = .ok (.isub, 1) := by decide +kernel
theorem dX3_pushWith_10 : decode cX3_pushWith 10 = .ok (.ireturn, 1) := by decide +kernel
theorem dX3_letTidesCome_0 : decode cX3_letTidesCome 0 = .ok (.iload_n 1, 1) := by decide +kernel
theorem dX3_letTidesCome_1 : decode cX3_letTidesCome 1 = .ok (.invokestatic 62, 3) := by decide +kernel
theorem dX3_letTidesCome_4 : decode cX3_letTidesCome 4 = .ok (.ifCond .eq 14, 3) := by decide +kernel
theorem dX3_letTidesCome_7 : decode cX3_letTidesCome 7 = .ok (.iload_n 2, 1) := by decide +kernel
theorem dX3_letTidesCome_8 : decode cX3_letTidesCome 8 = .ok (.iconst 1, 1) := by decide +kernel
theorem dX3_letTidesCome_9 : decode cX3_letTidesCome 9 = .ok (.if_icmp .lt 9, 3) := by decide +kernel
theorem dX3_letTidesCome_12 : decode cX3_letTidesCome 12 = .ok (.iload_n 2, 1) := by decide +kernel
theorem dX3_letTidesCome_13 : decode cX3_letTidesCome 13 = .ok (.bipush 99, 2) := by decide +kernel
theorem dX3_letTidesCome_15 : decode cX3_letTidesCome 15 = .ok (.if_icmp .le 6, 3) := by decide +kernel
theorem dX3_letTidesCome_18 : decode cX3_letTidesCome 18 = .ok (.bipush (-2), 2) := by decide +kernel
theorem dX3_letTidesCome_20 : decode cX3_letTidesCome 20 = .ok (.ireturn, 1) := by decide +kernel
theorem dX3_letTidesCome_21 : decode cX3_letTidesCome 21 = .ok (.aload_n 0, 1) := by decide +kernel
theorem dX3_letTidesCome_22 : decode cX3_letTidesCome 22 = .ok (.getfield 49, 3) := by decide +kernel
theorem dX3_letTidesCome_25 : decode cX3_letTidesCome 25 = .ok (.iload_n 2, 1) := by decide +kernel
theorem dX3_letTidesCome_26 : decode cX3_letTidesCome 26 = .ok (.iadd, 1) := by decide +kernel
theorem dX3_letTidesCome_27 : decode cX3_letTidesCome 27 = .ok (.ldc 66, 2) := by decide +kernel
theorem dX3_letTidesCome_29 : decode cX3_letTidesCome 29 = .ok (.if_icmp .le 6, 3) := by decide +kernel
theorem dX3_letTidesCome_32 : decode cX3_letTidesCome 32 = .ok (.bipush (-3), 2) := by decide +kernel
theorem dX3_letTidesCome_34 : decode cX3_letTidesCome 34 = .ok (.ireturn, 1) := by decide +kernel
theorem dX3_letTidesCome_35 : decode cX3_letTidesCome 35 = .ok (.iconst 0, 1) := by decide +kernel
theorem dX3_letTidesCome_36 : decode cX3_letTidesCome 36 = .ok (.istore_n 3, 1) := by decide +kernel
theorem dX3_letTidesCome_37 : decode cX3_letTidesCome 37 = .ok (.iload_n 3, 1) := by decide +kernel
theorem dX3_letTidesCome_38 : decode cX3_letTidesCome 38 = .ok (.iload_n 2, 1) := by decide +kernel
theorem dX3_letTidesCome_39 : decode cX3_letTidesCome 39 = .ok (.if_icmp .ge 14, 3) := by decide +kernel
theorem dX3_letTidesCome_42 : decode cX3_letTidesCome 42 = .ok (.aload_n 0, 1) := by decide +kernel
theorem dX3_letTidesCome_43 : decode cX3_letTidesCome 43 = .ok (.iload_n 1, 1) := by decide +kernel
theorem dX3_letTidesCome_44 : decode cX3_letTidesCome 44 = .ok (.invokevirtual 67, 3) := by decide +kernel
theorem dX3_letTidesCome_47 : decode cX3_letTidesCome 47 = .ok (.iinc 3 1, 3) := by decide +kernel
theorem dX3_letTidesCome_50 : decode cX3_letTidesCome 50 = .ok (.goto (-13), 3) := by decide +kernel
theorem dX3_letTidesCome_53 : decode cX3_letTidesCome 53 = .ok (.aload_n 0, 1) := by decide +kernel
theorem dX3_letTidesCome_54 : decode cX3_letTidesCome 54 = .ok (.getfield 12, 3) := by decide +kernel
theorem dX3_letTidesCome_57 : decode cX3_letTidesCome 57 = .ok (.invokevirtual 71, 3) := by decide +kernel
theorem dX3_letTidesCome_60 : decode cX3_letTidesCome 60 = .ok (.ireturn, 1) := by decide +kernel
theorem dX3_letOneTideCome_0 : decode cX3_letOneTideCome 0 = .ok (.aload_n 0, 1) := by decide +kernel
theorem dX3_letOneTideCome_1 : decode cX3_letOneTideCome 1 = .ok (.getfield 12, 3) := by decide +kernel
theorem dX3_letOneTideCome_4 : decode cX3_letOneTideCome 4 = .ok (.aload_n 0, 1) := by decide +kernel
theorem dX3_letOneTideCome_5 : decode cX3_letOneTideCome 5 = .ok (.iload_n 1, 1) := by decide +kernel
theorem dX3_letOneTideCome_6 : decode cX3_letOneTideCome 6 = .ok (.invokevirtual 75, 3) := by decide +kernel
theorem dX3_letOneTideCome_9 : decode cX3_letOneTideCome 9 = .ok (.aload_n 0, 1) := by decide +kernel
theorem dX3_letOneTideCome_10 : decode cX3_letOneTideCome 10 = .ok (.invokevirtual 79, 3) := by decide +kernel
theorem dX3_letOneTideCome_13 : decode cX3_letOneTideCome 13 = .ok (.aload_n 0, 1) := by decide +kernel
theorem dX3_letOneTideCome_14 : decode cX3_letOneTideCome 14 = .ok (.getfield 25, 3) := by decide +kernel
theorem dX3_letOneTideCome_17 : decode cX3_letOneTideCome 17 = .ok (.iconst 2, 1) := by decide +kernel
theorem dX3_letOneTideCome_18 : decode cX3_letOneTideCome 18 = .ok (.iaload, 1) := by decide +kernel
theorem dX3_letOneTideCome_19 : decode cX3_letOneTideCome 19 = .ok (.invokevirtual 82, 3) := by decide +kernel
theorem dX3_letOneTideCome_22 : decode cX3_letOneTideCome 22 = .ok (.aload_n 0, 1) := by decide +kernel
theorem dX3_letOneTideCome_23 : decode cX3_letOneTideCome 23 = .ok (.getfield 21, 3) := by decide +kernel
theorem dX3_letOneTideCome_26 : decode cX3_letOneTideCome 26 = .ok (.aload_n 0, 1) := by decide +kernel
theorem dX3_letOneTideCome_27 : decode cX3_letOneTideCome 27 = .ok (.getfield 12, 3) := by decide +kernel
theorem dX3_letOneTideCome_30 : decode cX3_letOneTideCome 30 = .ok (.invokevirtual 86, 3) := by decide +kernel
theorem dX3_letOneTideCome_33 : decode cX3_letOneTideCome 33 = .ok (.aload_n 0, 1) := by decide +kernel
theorem dX3_letOneTideCome_34 : decode cX3_letOneTideCome 34 = .ok (.dup, 1) := by decide +kernel
theorem dX3_letOneTideCome_35 : decode cX3_letOneTideCome 35 = .ok (.getfield 49, 3) := by decide +kernel
theorem dX3_letOneTideCome_38 : decode cX3_letOneTideCome 38 = .ok (.iconst 1, 1) := by decide +kernel
theorem dX3_letOneTideCome_39 : decode cX3_letOneTideCome 39 = .ok (.iadd, 1) := by decide +kernel
theorem dX3_letOneTideCome_40 : decode cX3_letOneTideCome 40 = .ok (.putfield 49, 3) := by decide +kernel
theorem dX3_letOneTideCome_43 : decode cX3_letOneTideCome 43 = .ok (.aload_n 0, 1) := by decide +kernel
theorem dX3_letOneTideCome_44 : decode cX3_letOneTideCome 44 = .ok (.aload_n 0, 1) := by decide +kernel
theorem dX3_letOneTideCome_45 : decode cX3_letOneTideCome 45 = .ok (.getfield 33, 3) := by decide +kernel
theorem dX3_letOneTideCome_48 : decode cX3_letOneTideCome 48 = .ok (.aload_n 0, 1) := by decide +kernel
theorem dX3_letOneTideCome_49 : decode cX3_letOneTideCome 49 = .ok (.getfield 12, 3) := by decide +kernel
theorem dX3_letOneTideCome_52 : decode cX3_letOneTideCome 52 = .ok (.invokevirtual 89, 3) := by decide +kernel
theorem dX3_letOneTideCome_55 : decode cX3_letOneTideCome 55 = .ok (.invokestatic 92, 3) := by decide +kernel
theorem dX3_letOneTideCome_58 : decode cX3_letOneTideCome 58 = .ok (.putfield 33, 3) := by decide +kernel
theorem dX3_letOneTideCome_61 : decode cX3_letOneTideCome 61 = .ok (.return_, 1) := by decide +kernel
theorem dX3_leastFlowFor_0 : decode cX3_leastFlowFor 0 = .ok (.iconst 0, 1) := by decide +kernel
theorem dX3_leastFlowFor_1 : decode cX3_leastFlowFor 1 = .ok (.istore_n 3, 1) := by decide +kernel
theorem dX3_leastFlowFor_2 : decode cX3_leastFlowFor 2 = .ok (.iload_n 3, 1) := by decide +kernel
theorem dX3_leastFlowFor_3 : decode cX3_leastFlowFor 3 = .ok (.bipush 99, 2) := by decide +kernel
theorem dX3_leastFlowFor_5 : decode cX3_leastFlowFor 5 = .ok (.if_icmp .gt 32, 3) := by decide +kernel
theorem dX3_leastFlowFor_8 : decode cX3_leastFlowFor 8 = .ok (.aload_n 0, 1) := by decide +kernel
theorem dX3_leastFlowFor_9 : decode cX3_leastFlowFor 9 = .ok (.getfield 12, 3) := by decide +kernel
theorem dX3_leastFlowFor_12 : decode cX3_leastFlowFor 12 = .ok (.iload_n 1, 1) := by decide +kernel
theorem dX3_leastFlowFor_13 : decode cX3_leastFlowFor 13 = .ok (.aload_n 0, 1) := by decide +kernel
theorem dX3_leastFlowFor_14 : decode cX3_leastFlowFor 14 = .ok (.iload_n 3, 1) := by decide +kernel
theorem dX3_leastFlowFor_15 : decode cX3_leastFlowFor 15 = .ok (.iload_n 2, 1) := by decide +kernel
theorem dX3_leastFlowFor_16 : decode cX3_leastFlowFor 16 = .ok (.invokevirtual 58, 3) := by decide +kernel
theorem dX3_leastFlowFor_19 : decode cX3_leastFlowFor 19 = .ok (.aload_n 0, 1) := by decide +kernel
theorem dX3_leastFlowFor_20 : decode cX3_leastFlowFor 20 = .ok (.invokevirtual 79, 3) := by decide +kernel
theorem dX3_leastFlowFor_23 : decode cX3_leastFlowFor 23 = .ok (.invokevirtual 97, 3) := by decide +kernel
theorem dX3_leastFlowFor_26 : decode cX3_leastFlowFor 26 = .ok (.ifCond .ne 5, 3) := by decide +kernel
theorem dX3_leastFlowFor_29 : decode cX3_leastFlowFor 29 = .ok (.iload_n 3, 1) := by decide +kernel
theorem dX3_leastFlowFor_30 : decode cX3_leastFlowFor 30 = .ok (.ireturn, 1) := by decide +kernel
theorem dX3_leastFlowFor_31 : decode cX3_leastFlowFor 31 = .ok (.iinc 3 1, 3) := by decide +kernel
theorem dX3_leastFlowFor_34 : decode cX3_leastFlowFor 34 = .ok (.goto (-32), 3) := by decide +kernel
theorem dX3_leastFlowFor_37 : decode cX3_leastFlowFor 37 = .ok (.bipush (-5), 2) := by decide +kernel
theorem dX3_leastFlowFor_39 : decode cX3_leastFlowFor 39 = .ok (.ireturn, 1) := by decide +kernel
theorem dX4_init_0 : decode cX4_init 0 = .ok (.aload_n 0, 1) := by decide +kernel
theorem dX4_init_1 : decode cX4_init 1 = .ok (.invokespecial 3, 3) := by decide +kernel
theorem dX4_init_4 : decode cX4_init 4 = .ok (.aload_n 0, 1) := by decide +kernel
theorem dX4_init_5 : decode cX4_init 5 = .ok (.bipush 6, 2) := by decide +kernel
theorem dX4_init_7 : decode cX4_init 7 = .ok (.newarray .int, 2) := by decide +kernel
theorem dX4_init_9 : decode cX4_init 9 = .ok (.putfield 9, 3) := by decide +kernel
theorem dX4_init_12 : decode cX4_init 12 = .ok (.aload_n 0, 1) := by decide +kernel
theorem dX4_init_13 : decode cX4_init 13 = .ok (.bipush 6, 2) := by decide +kernel
theorem dX4_init_15 : decode cX4_init 15 = .ok (.newarray .int, 2) := by decide +kernel
theorem dX4_init_17 : decode cX4_init 17 = .ok (.putfield 15, 3) := by decide +kernel
theorem dX4_init_20 : decode cX4_init 20 = .ok (.aload_n 0, 1) := by decide +kernel
theorem dX4_init_21 : decode cX4_init 21 = .ok (.bipush 6, 2) := by decide +kernel
theorem dX4_init_23 : decode cX4_init 23 = .ok (.newarray .int, 2) := by decide +kernel
theorem dX4_init_25 : decode cX4_init 25 = .ok (.putfield 18, 3) := by decide +kernel
theorem dX4_init_28 : decode cX4_init 28 = .ok (.aload_n 0, 1) := by decide +kernel
theorem dX4_init_29 : decode cX4_init 29 = .ok (.bipush 6, 2) := by decide +kernel
theorem dX4_init_31 : decode cX4_init 31 = .ok (.newarray .int, 2) := by decide +kernel
theorem dX4_init_33 : decode cX4_init 33 = .ok (.putfield 21, 3) := by decide +kernel
theorem dX4_init_36 : decode cX4_init 36 = .ok (.aload_n 0, 1) := by decide +kernel
theorem dX4_init_37 : decode cX4_init 37 = .ok (.bipush 6, 2) := by decide +kernel
theorem dX4_init_39 : decode cX4_init 39 = .ok (.newarray .int, 2) := by decide +kernel
theorem dX4_init_41 : decode cX4_init 41 = .ok (.putfield 24, 3) := by decide +kernel
theorem dX4_init_44 : decode cX4_init 44 = .ok (.aload_n 0, 1) := by decide +kernel
theorem dX4_init_45 : decode cX4_init 45 = .ok (.bipush 6, 2) := by decide +kernel
theorem dX4_init_47 : decode cX4_init 47 = .ok (.newarray .int, 2) := by decide +kernel
theorem dX4_init_49 : decode cX4_init 49 = .ok (.putfield 27, 3) := by decide +kernel
theorem dX4_init_52 : decode cX4_init 52 = .ok (.return_, 1) := by decide +kernel
theorem dX4_copyFrom_0 : decode cX4_copyFrom 0 = .ok (.aload_n 1, 1) := by decide +kernel
theorem dX4_copyFrom_1 : decode cX4_copyFrom 1 = .ok (.getfield 9, 3) := by decide +kernel
theorem dX4_copyFrom_4 : decode cX4_copyFrom 4 = .ok (.iconst 0, 1) := by decide +kernel
theorem dX4_copyFrom_5 : decode cX4_copyFrom 5 = .ok (.aload_n 0, 1) := by decide +kernel
theorem dX4_copyFrom_6 : decode cX4_copyFrom 6 = .ok (.getfield 9, 3) := by decide +kernel
theorem dX4_copyFrom_9 : decode cX4_copyFrom 9 = .ok (.iconst 0, 1) := by decide +kernel
theorem dX4_copyFrom_10 : decode cX4_copyFrom 10 = .ok (.bipush 6, 2) := by decide +kernel
theorem dX4_copyFrom_12 : decode cX4_copyFrom 12 = .ok (.invokestatic 30, 3) := by decide +kernel
theorem dX4_copyFrom_15 : decode cX4_copyFrom 15 = .ok (.aload_n 1, 1) := by decide +kernel
theorem dX4_copyFrom_16 : decode cX4_copyFrom 16 = .ok (.getfield 15, 3) := by decide +kernel
theorem dX4_copyFrom_19 : decode cX4_copyFrom 19 = .ok (.iconst 0, 1) := by decide +kernel
theorem dX4_copyFrom_20 : decode cX4_copyFrom 20 = .ok (.aload_n 0, 1) := by decide +kernel
theorem dX4_copyFrom_21 : decode cX4_copyFrom 21 = .ok (.getfield 15, 3) := by decide +kernel
theorem dX4_copyFrom_24 : decode cX4_copyFrom 24 = .ok (.iconst 0, 1) := by decide +kernel
theorem dX4_copyFrom_25 : decode cX4_copyFrom 25 = .ok (.bipush 6, 2) := by decide +kernel
theorem dX4_copyFrom_27 : decode cX4_copyFrom 27 = .ok (.invokestatic 30, 3) := by decide +kernel
theorem dX4_copyFrom_30 : decode cX4_copyFrom 30 = .ok (.aload_n 1, 1) := by decide +kernel
theorem dX4_copyFrom_31 : decode cX4_copyFrom 31 = .ok (.getfield 18, 3) := by decide +kernel
theorem dX4_copyFrom_34 : decode cX4_copyFrom 34 = .ok (.iconst 0, 1) := by decide +kernel
theorem dX4_copyFrom_35 : decode cX4_copyFrom 35 = .ok (.aload_n 0, 1) := by decide +kernel
theorem dX4_copyFrom_36 : decode cX4_copyFrom 36 = .ok (.getfield 18, 3) := by decide +kernel
theorem dX4_copyFrom_39 : decode cX4_copyFrom 39 = .ok (.iconst 0, 1) := by decide +kernel
theorem dX4_copyFrom_40 : decode cX4_copyFrom 40 = .ok (.bipush 6, 2) := by decide +kernel
theorem dX4_copyFrom_42 : decode cX4_copyFrom 42 = .ok (.invokestatic 30, 3) := by decide +kernel
theorem dX4_copyFrom_45 : decode cX4_copyFrom 45 = .ok (.aload_n 1, 1) := by decide +kernel
theorem dX4_copyFrom_46 : decode cX4_copyFrom 46 = .ok (.getfield 21, 3) := by decide +kernel
theorem dX4_copyFrom_49 : decode cX4_copyFrom 49 = .ok (.iconst 0, 1) := by decide +kernel
theorem dX4_copyFrom_50 : decode cX4_copyFrom 50 = .ok (.aload_n 0, 1) := by decide +kernel
theorem dX4_copyFrom_51 : decode cX4_copyFrom 51 = .ok (.getfield 21, 3) := by decide +kernel
theorem dX4_copyFrom_54 : decode cX4_copyFrom 54 = .ok (.iconst 0, 1) := by decide +kernel
theorem dX4_copyFrom_55 : decode cX4_copyFrom 55 = .ok (.bipush 6, 2) := by decide +kernel
theorem dX4_copyFrom_57 : decode cX4_copyFrom 57 = .ok (.invokestatic 30, 3) := by decide +kernel
theorem dX4_copyFrom_60 : decode cX4_copyFrom 60 = .ok (.aload_n 1, 1) := by decide +kernel
theorem dX4_copyFrom_61 : decode cX4_copyFrom 61 = .ok (.getfield 24, 3) := by decide +kernel
theorem dX4_copyFrom_64 : decode cX4_copyFrom 64 = .ok (.iconst 0, 1) := by decide +kernel
theorem dX4_copyFrom_65 : decode cX4_copyFrom 65 = .ok (.aload_n 0, 1) := by decide +kernel
theorem dX4_copyFrom_66 : decode cX4_copyFrom 66 = .ok (.getfield 24, 3) := by decide +kernel
theorem dX4_copyFrom_69 : decode cX4_copyFrom 69 = .ok (.iconst 0, 1) := by decide +kernel
theorem dX4_copyFrom_70 : decode cX4_copyFrom 70 = .ok (.bipush 6, 2) := by decide +kernel
theorem dX4_copyFrom_72 : decode cX4_copyFrom 72 = .ok (.invokestatic 30, 3) := by decide +kernel
theorem dX4_copyFrom_75 : decode cX4_copyFrom 75 = .ok (.aload_n 1, 1) := by decide +kernel
theorem dX4_copyFrom_76 : decode cX4_copyFrom 76 = .ok (.getfield 27, 3) := by decide +kernel
theorem dX4_copyFrom_79 : decode cX4_copyFrom 79 = .ok (.iconst 0, 1) := by decide +kernel
theorem dX4_copyFrom_80 : decode cX4_copyFrom 80 = .ok (.aload_n 0, 1) := by decide +kernel
theorem dX4_copyFrom_81 : decode cX4_copyFrom 81 = .ok (.getfield 27, 3) := by decide +kernel
theorem dX4_copyFrom_84 : decode cX4_copyFrom 84 = .ok (.iconst 0, 1) := by decide +kernel
theorem dX4_copyFrom_85 : decode cX4_copyFrom 85 = .ok (.bipush 6, 2) := by decide +kernel
theorem dX4_copyFrom_87 : decode cX4_copyFrom 87 = .ok (.invokestatic 30, 3) := by decide +kernel
theorem dX4_copyFrom_90 : decode cX4_copyFrom 90 = .ok (.aload_n 0, 1) := by decide +kernel
theorem dX4_copyFrom_91 : decode cX4_copyFrom 91 = .ok (.aload_n 1, 1) := by decide +kernel
theorem dX4_copyFrom_92 : decode cX4_copyFrom 92 = .ok (.getfield 36, 3) := by decide +kernel
theorem dX4_copyFrom_95 : decode cX4_copyFrom 95 = .ok (.putfield 36, 3) := by decide +kernel
theorem dX4_copyFrom_98 : decode cX4_copyFrom 98 = .ok (.return_, 1) := by decide +kernel
theorem dX4_has_0 : decode cX4_has 0 = .ok (.iload_n 1, 1) := by decide +kernel
theorem dX4_has_1 : decode cX4_has 1 = .ok (.ifCond .lt 21, 3) := by decide +kernel
theorem dX4_has_4 : decode cX4_has 4 = .ok (.iload_n 1, 1) := by decide +kernel
theorem dX4_has_5 : decode cX4_has 5 = .ok (.aload_n 0, 1) := by decide +kernel
theorem dX4_has_6 : decode cX4_has 6 = .ok (.getfield 36, 3) := by decide +kernel
theorem dX4_has_9 : decode cX4_has 9 = .ok (.if_icmp .ge 13, 3) := by decide +kernel
theorem dX4_has_12 : decode cX4_has 12 = .ok (.iload_n 1, 1) := by decide +kernel
theorem dX4_has_13 : decode cX4_has 13 = .ok (.bipush 6, 2) := by decide +kernel
theorem dX4_has_15 : decode cX4_has 15 = .ok (.if_icmp .ge 7, 3) := by decide +kernel
theorem dX4_has_18 : decode cX4_has 18 = .ok (.iconst 1, 1) := by decide +kernel
theorem dX4_has_19 : decode cX4_has 19 = .ok (.goto 4, 3) := by decide +kernel
theorem dX4_has_22 : decode cX4_has 22 = .ok (.iconst 0, 1) := by decide +kernel
theorem dX4_has_23 : decode cX4_has 23 = .ok (.ireturn, 1) := by decide +kernel
theorem dX4_isResting_0 : decode cX4_isResting 0 = .ok (.aload_n 0, 1) := by decide +kernel
theorem dX4_isResting_1 : decode cX4_isResting 1 = .ok (.iload_n 1, 1) := by decide +kernel
theorem dX4_isResting_2 : decode cX4_isResting 2 = .ok (.invokevirtual 40, 3) := by decide +kernel
theorem dX4_isResting_5 : decode cX4_isResting 5 = .ok (.ifCond .eq 17, 3) := by decide +kernel
theorem dX4_isResting_8 : decode cX4_isResting 8 = .ok (.aload_n 0, 1) := by decide +kernel
theorem dX4_isResting_9 : decode cX4_isResting 9 = .ok (.getfield 21, 3) := by decide +kernel
theorem dX4_isResting_12 : decode cX4_isResting 12 = .ok (.iload_n 1, 1) := by decide +kernel
theorem dX4_isResting_13 : decode cX4_isResting 13 = .ok (.iaload, 1) := by decide +kernel
theorem dX4_isResting_14 : decode cX4_isResting 14 = .ok (.iconst 1, 1) := by decide +kernel
theorem dX4_isResting_15 : decode cX4_isResting 15 = .ok (.if_icmp .ne 7, 3) := by decide +kernel
theorem dX4_isResting_18 : decode cX4_isResting 18 = .ok (.iconst 1, 1) := by decide +kernel
theorem dX4_isResting_19 : decode cX4_isResting 19 = .ok (.goto 4, 3) := by decide +kernel
theorem dX4_isResting_22 : decode cX4_isResting 22 = .ok (.iconst 0, 1) := by decide +kernel
theorem dX4_isResting_23 : decode cX4_isResting 23 = .ok (.ireturn, 1) := by decide +kernel
theorem dX4_beside_0 : decode cX4_beside 0 = .ok (.iconst 0, 1) := by decide +kernel
theorem dX4_beside_1 : decode cX4_beside 1 = .ok (.istore_n 2, 1) := by decide +kernel
theorem dX4_beside_2 : decode cX4_beside 2 = .ok (.iload_n 2, 1) := by decide +kernel
theorem dX4_beside_3 : decode cX4_beside 3 = .ok (.aload_n 0, 1) := by decide +kernel
theorem dX4_beside_4 : decode cX4_beside 4 = .ok (.getfield 36, 3) := by decide +kernel
theorem dX4_beside_7 : decode cX4_beside 7 = .ok (.if_icmp .ge 27, 3) := by decide +kernel
theorem dX4_beside_10 : decode cX4_beside 10 = .ok (.iload_n 2, 1) := by decide +kernel
theorem dX4_beside_11 : decode cX4_beside 11 = .ok (.bipush 6, 2) := by decide +kernel
theorem dX4_beside_13 : decode cX4_beside 13 = .ok (.if_icmp .ge 21, 3) := by decide +kernel
theorem dX4_beside_16 : decode cX4_beside 16 = .ok (.aload_n 0, 1) := by decide +kernel
theorem dX4_beside_17 : decode cX4_beside 17 = .ok (.getfield 9, 3) := by decide +kernel
theorem dX4_beside_20 : decode cX4_beside 20 = .ok (.iload_n 2, 1) := by decide +kernel
theorem dX4_beside_21 : decode cX4_beside 21 = .ok (.iaload, 1) := by decide +kernel
theorem dX4_beside_22 : decode cX4_beside 22 = .ok (.iload_n 1, 1) := by decide +kernel
theorem dX4_beside_23 : decode cX4_beside 23 = .ok (.if_icmp .ne 5, 3) := by decide +kernel
theorem dX4_beside_26 : decode cX4_beside 26 = .ok (.iload_n 2, 1) := by decide +kernel
theorem dX4_beside_27 : decode cX4_beside 27 = .ok (.ireturn, 1) := by decide +kernel
theorem dX4_beside_28 : decode cX4_beside 28 = .ok (.iinc 2 1, 3) := by decide +kernel
theorem dX4_beside_31 : decode cX4_beside 31 = .ok (.goto (-29), 3) := by decide +kernel
theorem dX4_beside_34 : decode cX4_beside 34 = .ok (.bipush (-5), 2) := by decide +kernel
theorem dX4_beside_36 : decode cX4_beside 36 = .ok (.ireturn, 1) := by decide +kernel
theorem dX4_add_0 : decode cX4_add 0 = .ok (.iload_n 1, 1) := by decide +kernel
theorem dX4_add_1 : decode cX4_add 1 = .ok (.invokestatic 44, 3) := by decide +kernel
theorem dX4_add_4 : decode cX4_add 4 = .ok (.ifCond .ne 5, 3) := by decide +kernel
theorem dX4_add_7 : decode cX4_add 7 = .ok (.iconst (-1), 1) := by decide +kernel
theorem dX4_add_8 : decode cX4_add 8 = .ok (.ireturn, 1) := by decide +kernel
theorem dX4_add_9 : decode cX4_add 9 = .ok (.iload_n 2, 1) := by decide +kernel
theorem dX4_add_10 : decode cX4_add 10 = .ok (.invokestatic 47, 3) := by decide +kernel
theorem dX4_add_13 : decode cX4_add 13 = .ok (.ifCond .ne 6, 3) := by decide +kernel
theorem dX4_add_16 : decode cX4_add 16 = .ok (.bipush (-2), 2) := by decide +kernel
theorem dX4_add_18 : decode cX4_add 18 = .ok (.ireturn, 1) := by decide +kernel
theorem dX4_add_19 : decode cX4_add 19 = .ok (.aload_n 0, 1) := by decide +kernel
theorem dX4_add_20 : decode cX4_add 20 = .ok (.iload_n 1, 1) := by decide +kernel
theorem dX4_add_21 : decode cX4_add 21 = .ok (.invokevirtual 50, 3) := by decide +kernel
theorem dX4_add_24 : decode cX4_add 24 = .ok (.bipush (-5), 2) := by decide +kernel
theorem dX4_add_26 : decode cX4_add 26 = .ok (.if_icmp .eq 6, 3) := by decide +kernel
theorem dX4_add_29 : decode cX4_add 29 = .ok (.bipush (-4), 2) := by decide +kernel
theorem dX4_add_31 : decode cX4_add 31 = .ok (.ireturn, 1) := by decide +kernel
theorem dX4_add_32 : decode cX4_add 32 = .ok (.aload_n 0, 1) := by decide +kernel
theorem dX4_add_33 : decode cX4_add 33 = .ok (.getfield 36, 3) := by decide +kernel
theorem dX4_add_36 : decode cX4_add 36 = .ok (.istore_n 3, 1) := by decide +kernel
theorem dX4_add_37 : decode cX4_add 37 = .ok (.iload_n 3, 1) := by decide +kernel
theorem dX4_add_38 : decode cX4_add 38 = .ok (.ifCond .lt 9, 3) := by decide +kernel
theorem dX4_add_41 : decode cX4_add 41 = .ok (.iload_n 3, 1) := by decide +kernel
theorem dX4_add_42 : decode cX4_add 42 = .ok (.bipush 6, 2) := by decide +kernel
theorem dX4_add_44 : decode cX4_add 44 = .ok (.if_icmp .lt 6, 3) := by decide +kernel
theorem dX4_add_47 : decode cX4_add 47 = .ok (.bipush (-3), 2) := by decide +kernel
theorem dX4_add_49 : decode cX4_add 49 = .ok (.ireturn, 1) := by decide +kernel
theorem dX4_add_50 : decode cX4_add 50 = .ok (.aload_n 0, 1) := by decide +kernel
theorem dX4_add_51 : decode cX4_add 51 = .ok (.getfield 9, 3) := by decide +kernel
theorem dX4_add_54 : decode cX4_add 54 = .ok (.iload_n 3, 1) := by decide +kernel
theorem dX4_add_55 : decode cX4_add 55 = .ok (.iload_n 1, 1) := by decide +kernel
theorem dX4_add_56 : decode cX4_add 56 = .ok (.iastore, 1) := by decide +kernel
theorem dX4_add_57 : decode cX4_add 57 = .ok (.aload_n 0, 1) := by decide +kernel
theorem dX4_add_58 : decode cX4_add 58 = .ok (.getfield 15, 3) := by decide +kernel
theorem dX4_add_61 : decode cX4_add 61 = .ok (.iload_n 3, 1) := by decide +kernel
theorem dX4_add_62 : decode cX4_add 62 = .ok (.iload_n 2, 1) := by decide +kernel
theorem dX4_add_63 : decode cX4_add 63 = .ok (.iastore, 1) := by decide +kernel
theorem dX4_add_64 : decode cX4_add 64 = .ok (.aload_n 0, 1) := by decide +kernel
theorem dX4_add_65 : decode cX4_add 65 = .ok (.getfield 18, 3) := by decide +kernel
theorem dX4_add_68 : decode cX4_add 68 = .ok (.iload_n 3, 1) := by decide +kernel
theorem dX4_add_69 : decode cX4_add 69 = .ok (.iconst 0, 1) := by decide +kernel
theorem dX4_add_70 : decode cX4_add 70 = .ok (.iastore, 1) := by decide +kernel
theorem dX4_add_71 : decode cX4_add 71 = .ok (.aload_n 0, 1) := by decide +kernel
theorem dX4_add_72 : decode cX4_add 72 = .ok (.getfield 21, 3) := by decide +kernel
theorem dX4_add_75 : decode cX4_add 75 = .ok (.iload_n 3, 1) := by decide +kernel
theorem dX4_add_76 : decode cX4_add 76 = .ok (.iconst 0, 1) := by decide +kernel
theorem dX4_add_77 : decode cX4_add 77 = .ok (.iastore, 1) := by decide +kernel
theorem dX4_add_78 : decode cX4_add 78 = .ok (.aload_n 0, 1) := by decide +kernel
theorem dX4_add_79 : decode cX4_add 79 = .ok (.getfield 24, 3) := by decide +kernel
theorem dX4_add_82 : decode cX4_add 82 = .ok (.iload_n 3, 1) := by decide +kernel
theorem dX4_add_83 : decode cX4_add 83 = .ok (.iconst 0, 1) := by decide +kernel
theorem dX4_add_84 : decode cX4_add 84 = .ok (.iastore, 1) := by decide +kernel
theorem dX4_add_85 : decode cX4_add 85 = .ok (.aload_n 0, 1) := by decide +kernel
theorem dX4_add_86 : decode cX4_add 86 = .ok (.getfield 27, 3) := by decide +kernel
theorem dX4_add_89 : decode cX4_add 89 = .ok (.iload_n 3, 1) := by decide +kernel
theorem dX4_add_90 : decode cX4_add 90 = .ok (.iconst 0, 1) := by decide +kernel
theorem dX4_add_91 : decode cX4_add 91 = .ok (.iastore, 1) := by decide +kernel
theorem dX4_add_92 : decode cX4_add 92 = .ok (.aload_n 0, 1) := by decide +kernel
theorem dX4_add_93 : decode cX4_add 93 = .ok (.iload_n 3, 1) := by decide +kernel
theorem dX4_add_94 : decode cX4_add 94 = .ok (.iconst 1, 1) := by decide +kernel
theorem dX4_add_95 : decode cX4_add 95 = .ok (.iadd, 1) := by decide +kernel
theorem dX4_add_96 : decode cX4_add 96 = .ok (.putfield 36, 3) := by decide +kernel
theorem dX4_add_99 : decode cX4_add 99 = .ok (.iload_n 3, 1) := by decide +kernel
theorem dX4_add_100 : decode cX4_add 100 = .ok (.ireturn, 1) := by decide +kernel
theorem dX4_remove_0 : decode cX4_remove 0 = .ok (.aload_n 0, 1) := by decide +kernel
theorem dX4_remove_1 : decode cX4_remove 1 = .ok (.iload_n 1, 1) := by decide +kernel
theorem dX4_remove_2 : decode cX4_remove 2 = .ok (.invokevirtual 40, 3) := by decide +kernel
theorem dX4_remove_5 : decode cX4_remove 5 = .ok (.ifCond .ne 5, 3) := by decide +kernel
theorem dX4_remove_8 : decode cX4_remove 8 = .ok (.iconst (-1), 1) := by decide +kernel
theorem dX4_remove_9 : decode cX4_remove 9 = .ok (.ireturn, 1) := by decide +kernel
theorem dX4_remove_10 : decode cX4_remove 10 = .ok (.aload_n 0, 1) := by decide +kernel
theorem dX4_remove_11 : decode cX4_remove 11 = .ok (.getfield 18, 3) := by decide +kernel
theorem dX4_remove_14 : decode cX4_remove 14 = .ok (.iload_n 1, 1) := by decide +kernel
theorem dX4_remove_15 : decode cX4_remove 15 = .ok (.iaload, 1) := by decide +kernel
theorem dX4_remove_16 : decode cX4_remove 16 = .ok (.istore_n 2, 1) := by decide +kernel
theorem dX4_remove_17 : decode cX4_remove 17 = .ok (.aload_n 0, 1) := by decide +kernel
theorem dX4_remove_18 : decode cX4_remove 18 = .ok (.getfield 9, 3) := by decide +kernel
theorem dX4_remove_21 : decode cX4_remove 21 = .ok (.iload_n 1, 1) := by decide +kernel
theorem dX4_remove_22 : decode cX4_remove 22 = .ok (.invokestatic 54, 3) := by decide +kernel
theorem dX4_remove_25 : decode cX4_remove 25 = .ok (.aload_n 0, 1) := by decide +kernel
theorem dX4_remove_26 : decode cX4_remove 26 = .ok (.getfield 15, 3) := by decide +kernel
theorem dX4_remove_29 : decode cX4_remove 29 = .ok (.iload_n 1, 1) := by decide +kernel
theorem dX4_remove_30 : decode cX4_remove 30 = .ok (.invokestatic 54, 3) := by decide +kernel
theorem dX4_remove_33 : decode cX4_remove 33 = .ok (.aload_n 0, 1) := by decide +kernel
theorem dX4_remove_34 : decode cX4_remove 34 = .ok (.getfield 18, 3) := by decide +kernel
theorem dX4_remove_37 : decode cX4_remove 37 = .ok (.iload_n 1, 1) := by decide +kernel
theorem dX4_remove_38 : decode cX4_remove 38 = .ok (.invokestatic 54, 3) := by decide +kernel
theorem dX4_remove_41 : decode cX4_remove 41 = .ok (.aload_n 0, 1) := by decide +kernel
theorem dX4_remove_42 : decode cX4_remove 42 = .ok (.getfield 21, 3) := by decide +kernel
theorem dX4_remove_45 : decode cX4_remove 45 = .ok (.iload_n 1, 1) := by decide +kernel
theorem dX4_remove_46 : decode cX4_remove 46 = .ok (.invokestatic 54, 3) := by decide +kernel
theorem dX4_remove_49 : decode cX4_remove 49 = .ok (.aload_n 0, 1) := by decide +kernel
theorem dX4_remove_50 : decode cX4_remove 50 = .ok (.getfield 24, 3) := by decide +kernel
theorem dX4_remove_53 : decode cX4_remove 53 = .ok (.iload_n 1, 1) := by decide +kernel
theorem dX4_remove_54 : decode cX4_remove 54 = .ok (.invokestatic 54, 3) := by decide +kernel
theorem dX4_remove_57 : decode cX4_remove 57 = .ok (.aload_n 0, 1) := by decide +kernel
theorem dX4_remove_58 : decode cX4_remove 58 = .ok (.getfield 27, 3) := by decide +kernel
theorem dX4_remove_61 : decode cX4_remove 61 = .ok (.iload_n 1, 1) := by decide +kernel
theorem dX4_remove_62 : decode cX4_remove 62 = .ok (.invokestatic 54, 3) := by decide +kernel
theorem dX4_remove_65 : decode cX4_remove 65 = .ok (.aload_n 0, 1) := by decide +kernel
theorem dX4_remove_66 : decode cX4_remove 66 = .ok (.dup, 1) := by decide +kernel
theorem dX4_remove_67 : decode cX4_remove 67 = .ok (.getfield 36, 3) := by decide +kernel
theorem dX4_remove_70 : decode cX4_remove 70 = .ok (.iconst 1, 1) := by decide +kernel
theorem dX4_remove_71 : decode cX4_remove 71 = .ok (.isub, 1) := by decide +kernel
theorem dX4_remove_72 : decode cX4_remove 72 = .ok (.putfield 36, 3) := by decide +kernel
theorem dX4_remove_75 : decode cX4_remove 75 = .ok (.iload_n 2, 1) := by decide +kernel
theorem dX4_remove_76 : decode cX4_remove 76 = .ok (.ireturn, 1) := by decide +kernel
theorem dX4_closeGap_0 : decode cX4_closeGap 0 = .ok (.iload_n 1, 1) := by decide +kernel
theorem dX4_closeGap_1 : decode cX4_closeGap 1 = .ok (.iconst 0, 1) := by decide +kernel
theorem dX4_closeGap_2 : decode cX4_closeGap 2 = .ok (.invokestatic 58, 3) := by decide +kernel
theorem dX4_closeGap_5 : decode cX4_closeGap 5 = .ok (.istore_n 2, 1) := by decide +kernel
theorem dX4_closeGap_6 : decode cX4_closeGap 6 = .ok (.iload_n 2, 1) := by decide +kernel
theorem dX4_closeGap_7 : decode cX4_closeGap 7 = .ok (.iconst 1, 1) := by decide +kernel
theorem dX4_closeGap_8 : decode cX4_closeGap 8 = .ok (.iadd, 1) := by decide +kernel
theorem dX4_closeGap_9 : decode cX4_closeGap 9 = .ok (.aload_n 0, 1) := by decide +kernel
theorem dX4_closeGap_10 : decode cX4_closeGap 10 = .ok (.arraylength, 1) := by decide +kernel
theorem dX4_closeGap_11 : decode cX4_closeGap 11 = .ok (.if_icmp .ge 17, 3) := by decide +kernel
theorem dX4_closeGap_14 : decode cX4_closeGap 14 = .ok (.aload_n 0, 1) := by decide +kernel
theorem dX4_closeGap_15 : decode cX4_closeGap 15 = .ok (.iload_n 2, 1) := by decide +kernel
theorem dX4_closeGap_16 : decode cX4_closeGap 16 = .ok (.aload_n 0, 1) := by decide +kernel
theorem dX4_closeGap_17 : decode cX4_closeGap 17 = .ok (.iload_n 2, 1) := by decide +kernel
theorem dX4_closeGap_18 : decode cX4_closeGap 18 = .ok (.iconst 1, 1) := by decide +kernel
theorem dX4_closeGap_19 : decode cX4_closeGap 19 = .ok (.iadd, 1) := by decide +kernel
theorem dX4_closeGap_20 : decode cX4_closeGap 20 = .ok (.iaload, 1) := by decide +kernel
theorem dX4_closeGap_21 : decode cX4_closeGap 21 = .ok (.iastore, 1) := by decide +kernel
theorem dX4_closeGap_22 : decode cX4_closeGap 22 = .ok (.iinc 2 1, 3) := by decide +kernel
theorem dX4_closeGap_25 : decode cX4_closeGap 25 = .ok (.goto (-19), 3) := by decide +kernel
theorem dX4_closeGap_28 : decode cX4_closeGap 28 = .ok (.return_, 1) := by decide +kernel
theorem dX4_changeRate_0 : decode cX4_changeRate 0 = .ok (.aload_n 0, 1) := by decide +kernel
theorem dX4_changeRate_1 : decode cX4_changeRate 1 = .ok (.iload_n 1, 1) := by decide +kernel
theorem dX4_changeRate_2 : decode cX4_changeRate 2 = .ok (.invokevirtual 40, 3) := by decide +kernel
theorem dX4_changeRate_5 : decode cX4_changeRate 5 = .ok (.ifCond .ne 5, 3) := by decide +kernel
theorem dX4_changeRate_8 : decode cX4_changeRate 8 = .ok (.iconst (-1), 1) := by decide +kernel
theorem dX4_changeRate_9 : decode cX4_changeRate 9 = .ok (.ireturn, 1) := by decide +kernel
theorem dX4_changeRate_10 : decode cX4_changeRate 10 = .ok (.iload_n 2, 1) := by decide +kernel
theorem dX4_changeRate_11 : decode cX4_changeRate 11 = .ok (.invokestatic 47, 3) := by decide +kernel
theorem dX4_changeRate_14 : decode cX4_changeRate 14 = .ok (.ifCond .ne 6, 3) := by decide +kernel
theorem dX4_changeRate_17 : decode cX4_changeRate 17 = .ok (.bipush (-2), 2) := by decide +kernel
theorem dX4_changeRate_19 : decode cX4_changeRate 19 = .ok (.ireturn, 1) := by decide +kernel
theorem dX4_changeRate_20 : decode cX4_changeRate 20 = .ok (.aload_n 0, 1) := by decide +kernel
theorem dX4_changeRate_21 : decode cX4_changeRate 21 = .ok (.getfield 15, 3) := by decide +kernel
theorem dX4_changeRate_24 : decode cX4_changeRate 24 = .ok (.iload_n 1, 1) := by decide +kernel
theorem dX4_changeRate_25 : decode cX4_changeRate 25 = .ok (.iaload, 1) := by decide +kernel
theorem dX4_changeRate_26 : decode cX4_changeRate 26 = .ok (.istore_n 3, 1) := by decide +kernel
theorem dX4_changeRate_27 : decode cX4_changeRate 27 = .ok (.aload_n 0, 1) := by decide +kernel
theorem dX4_changeRate_28 : decode cX4_changeRate 28 = .ok (.getfield 15, 3) := by decide +kernel
theorem dX4_changeRate_31 : decode cX4_changeRate 31 = .ok (.iload_n 1, 1) := by decide +kernel
theorem dX4_changeRate_32 : decode cX4_changeRate 32 = .ok (.iload_n 2, 1) := by decide +kernel
theorem dX4_changeRate_33 : decode cX4_changeRate 33 = .ok (.iastore, 1) := by decide +kernel
theorem dX4_changeRate_34 : decode cX4_changeRate 34 = .ok (.iload_n 3, 1) := by decide +kernel
theorem dX4_changeRate_35 : decode cX4_changeRate 35 = .ok (.iload_n 2, 1) := by decide +kernel
theorem dX4_changeRate_36 : decode cX4_changeRate 36 = .ok (.if_icmp .ne 8, 3) := by decide +kernel
theorem dX4_changeRate_39 : decode cX4_changeRate 39 = .ok (.bipush (-5), 2) := by decide +kernel
theorem dX4_changeRate_41 : decode cX4_changeRate 41 = .ok (.goto 4, 3) := by decide +kernel
theorem dX4_changeRate_44 : decode cX4_changeRate 44 = .ok (.iload_n 3, 1) := by decide +kernel
theorem dX4_changeRate_45 : decode cX4_changeRate 45 = .ok (.ireturn, 1) := by decide +kernel
theorem dX4_isRate_0 : decode cX4_isRate 0 = .ok (.iload_n 0, 1) := by decide +kernel
theorem dX4_isRate_1 : decode cX4_isRate 1 = .ok (.iconst 1, 1) := by decide +kernel
theorem dX4_isRate_2 : decode cX4_isRate 2 = .ok (.if_icmp .lt 13, 3) := by decide +kernel
theorem dX4_isRate_5 : decode cX4_isRate 5 = .ok (.iload_n 0, 1) := by decide +kernel
theorem dX4_isRate_6 : decode cX4_isRate 6 = .ok (.bipush 30, 2) := by decide +kernel
theorem dX4_isRate_8 : decode cX4_isRate 8 = .ok (.if_icmp .gt 7, 3) := by decide +kernel
theorem dX4_isRate_11 : decode cX4_isRate 11 = .ok (.iconst 1, 1) := by decide +kernel
theorem dX4_isRate_12 : decode cX4_isRate 12 = .ok (.goto 4, 3) := by decide +kernel
theorem dX4_isRate_15 : decode cX4_isRate 15 = .ok (.iconst 0, 1) := by decide +kernel
theorem dX4_isRate_16 : decode cX4_isRate 16 = .ok (.ireturn, 1) := by decide +kernel
theorem dX4_coneOf_0 : decode cX4_coneOf 0 = .ok (.aload_n 0, 1) := by decide +kernel
theorem dX4_coneOf_1 : decode cX4_coneOf 1 = .ok (.iload_n 1, 1) := by decide +kernel
theorem dX4_coneOf_2 : decode cX4_coneOf 2 = .ok (.invokevirtual 40, 3) := by decide +kernel
theorem dX4_coneOf_5 : decode cX4_coneOf 5 = .ok (.ifCond .eq 13, 3) := by decide +kernel
theorem dX4_coneOf_8 : decode cX4_coneOf 8 = .ok (.aload_n 0, 1) := by decide +kernel
theorem dX4_coneOf_9 : decode cX4_coneOf 9 = .ok (.getfield 21, 3) := by decide +kernel
theorem dX4_coneOf_12 : decode cX4_coneOf 12 = .ok (.iload_n 1, 1) := by decide +kernel
theorem dX4_coneOf_13 : decode cX4_coneOf 13 = .ok (.iaload, 1) := by decide +kernel
theorem dX4_coneOf_14 : decode cX4_coneOf 14 = .ok (.iconst 1, 1) := by decide +kernel
theorem dX4_coneOf_15 : decode cX4_coneOf 15 = .ok (.if_icmp .ne 5, 3) := by decide +kernel
theorem dX4_coneOf_18 : decode cX4_coneOf 18 = .ok (.iconst 0, 1) := by decide +kernel
theorem dX4_coneOf_19 : decode cX4_coneOf 19 = .ok (.ireturn, 1) := by decide +kernel
theorem dX4_coneOf_20 : decode cX4_coneOf 20 = .ok (.aload_n 0, 1) := by decide +kernel
theorem dX4_coneOf_21 : decode cX4_coneOf 21 = .ok (.getfield 15, 3) := by decide +kernel
theorem dX4_coneOf_24 : decode cX4_coneOf 24 = .ok (.iload_n 1, 1) := by decide +kernel
theorem dX4_coneOf_25 : decode cX4_coneOf 25 = .ok (.iaload, 1) := by decide +kernel
theorem dX4_coneOf_26 : decode cX4_coneOf 26 = .ok (.istore_n 2, 1) := by decide +kernel
theorem dX4_coneOf_27 : decode cX4_coneOf 27 = .ok (.iconst 0, 1) := by decide +kernel
theorem dX4_coneOf_28 : decode cX4_coneOf 28 = .ok (.istore_n 3, 1) := by decide +kernel
theorem dX4_coneOf_29 : decode cX4_coneOf 29 = .ok (.iload_n 3, 1) := by decide +kernel
theorem dX4_coneOf_30 : decode cX4_coneOf 30 = .ok (.aload_n 0, 1) := by decide +kernel
theorem dX4_coneOf_31 : decode cX4_coneOf 31 = .ok (.getfield 36, 3) := by decide +kernel
theorem dX4_coneOf_34 : decode cX4_coneOf 34 = .ok (.if_icmp .ge 60, 3) := by decide +kernel
theorem dX4_coneOf_37 : decode cX4_coneOf 37 = .ok (.iload_n 3, 1) := by decide +kernel
theorem dX4_coneOf_38 : decode cX4_coneOf 38 = .ok (.bipush 6, 2) := by decide +kernel
theorem dX4_coneOf_40 : decode cX4_coneOf 40 = .ok (.if_icmp .ge 54, 3) := by decide +kernel
theorem dX4_coneOf_43 : decode cX4_coneOf 43 = .ok (.aload_n 0, 1) := by decide +kernel
theorem dX4_coneOf_44 : decode cX4_coneOf 44 = .ok (.getfield 9, 3) := by decide +kernel
theorem dX4_coneOf_47 : decode cX4_coneOf 47 = .ok (.iload_n 3, 1) := by decide +kernel
theorem dX4_coneOf_48 : decode cX4_coneOf 48 = .ok (.iaload, 1) := by decide +kernel
theorem dX4_coneOf_49 : decode cX4_coneOf 49 = .ok (.aload_n 0, 1) := by decide +kernel
theorem dX4_coneOf_50 : decode cX4_coneOf 50 = .ok (.getfield 9, 3) := by decide +kernel
theorem dX4_coneOf_53 : decode cX4_coneOf 53 = .ok (.iload_n 1, 1) := by decide +kernel
theorem dX4_coneOf_54 : decode cX4_coneOf 54 = .ok (.iaload, 1) := by decide +kernel
theorem dX4_coneOf_55 : decode cX4_coneOf 55 = .ok (.isub, 1) := by decide +kernel
theorem dX4_coneOf_56 : decode cX4_coneOf 56 = .ok (.istore 4, 2) := by decide +kernel
theorem dX4_coneOf_58 : decode cX4_coneOf 58 = .ok (.iload 4, 2) := by decide +kernel
theorem dX4_coneOf_60 : decode cX4_coneOf 60 = .ok (.iconst 1, 1) := by decide +kernel
theorem dX4_coneOf_61 : decode cX4_coneOf 61 = .ok (.if_icmp .eq 9, 3) := by decide +kernel
theorem dX4_coneOf_64 : decode cX4_coneOf 64 = .ok (.iload 4, 2) := by decide +kernel
theorem dX4_coneOf_66 : decode cX4_coneOf 66 = .ok (.iconst (-1), 1) := by decide +kernel
theorem dX4_coneOf_67 : decode cX4_coneOf 67 = .ok (.if_icmp .ne 21, 3) := by decide +kernel
theorem dX4_coneOf_70 : decode cX4_coneOf 70 = .ok (.aload_n 0, 1) := by decide +kernel
theorem dX4_coneOf_71 : decode cX4_coneOf 71 = .ok (.getfield 21, 3) := by decide +kernel
theorem dX4_coneOf_74 : decode cX4_coneOf 74 = .ok (.iload_n 3, 1) := by decide +kernel
theorem dX4_coneOf_75 : decode cX4_coneOf 75 = .ok (.iaload, 1) := by decide +kernel
theorem dX4_coneOf_76 : decode cX4_coneOf 76 = .ok (.ifCond .ne 12, 3) := by decide +kernel
theorem dX4_coneOf_79 : decode cX4_coneOf 79 = .ok (.iload_n 2, 1) := by decide +kernel
theorem dX4_coneOf_80 : decode cX4_coneOf 80 = .ok (.aload_n 0, 1) := by decide +kernel
theorem dX4_coneOf_81 : decode cX4_coneOf 81 = .ok (.getfield 15, 3) := by decide +kernel
theorem dX4_coneOf_84 : decode cX4_coneOf 84 = .ok (.iload_n 3, 1) := by decide +kernel
theorem dX4_coneOf_85 : decode cX4_coneOf 85 = .ok (.iaload, 1) := by decide +kernel
theorem dX4_coneOf_86 : decode cX4_coneOf 86 = .ok (.isub, 1) := by decide +kernel
theorem dX4_coneOf_87 : decode cX4_coneOf 87 = .ok (.istore_n 2, 1) := by decide +kernel
theorem dX4_coneOf_88 : decode cX4_coneOf 88 = .ok (.iinc 3 1, 3) := by decide +kernel
theorem dX4_coneOf_91 : decode cX4_coneOf 91 = .ok (.goto (-62), 3) := by decide +kernel
theorem dX4_coneOf_94 : decode cX4_coneOf 94 = .ok (.iload_n 2, 1) := by decide +kernel
theorem dX4_coneOf_95 : decode cX4_coneOf 95 = .ok (.iconst 0, 1) := by decide +kernel
theorem dX4_coneOf_96 : decode cX4_coneOf 96 = .ok (.invokestatic 58, 3) := by decide +kernel
theorem dX4_coneOf_99 : decode cX4_coneOf 99 = .ok (.ireturn, 1) := by decide +kernel
theorem dX4_drawFrom_0 : decode cX4_drawFrom 0 = .ok (.iconst 0, 1) := by decide +kernel
theorem dX4_drawFrom_1 : decode cX4_drawFrom 1 = .ok (.istore_n 2, 1) := by decide +kernel
theorem dX4_drawFrom_2 : decode cX4_drawFrom 2 = .ok (.iload_n 2, 1) := by decide +kernel
theorem dX4_drawFrom_3 : decode cX4_drawFrom 3 = .ok (.aload_n 0, 1) := by decide +kernel
theorem dX4_drawFrom_4 : decode cX4_drawFrom 4 = .ok (.getfield 36, 3) := by decide +kernel
theorem dX4_drawFrom_7 : decode cX4_drawFrom 7 = .ok (.if_icmp .ge 73, 3) := by decide +kernel
theorem dX4_drawFrom_10 : decode cX4_drawFrom 10 = .ok (.iload_n 2, 1) := by decide +kernel
theorem dX4_drawFrom_11 : decode cX4_drawFrom 11 = .ok (.bipush 6, 2) := by decide +kernel
theorem dX4_drawFrom_13 : decode cX4_drawFrom 13 = .ok (.if_icmp .ge 67, 3) := by decide +kernel
theorem dX4_drawFrom_16 : decode cX4_drawFrom 16 = .ok (.iconst 0, 1) := by decide +kernel
theorem dX4_drawFrom_17 : decode cX4_drawFrom 17 = .ok (.istore_n 3, 1) := by decide +kernel
theorem dX4_drawFrom_18 : decode cX4_drawFrom 18 = .ok (.aload_n 0, 1) := by decide +kernel
theorem dX4_drawFrom_19 : decode cX4_drawFrom 19 = .ok (.getfield 21, 3) := by decide +kernel
theorem dX4_drawFrom_22 : decode cX4_drawFrom 22 = .ok (.iload_n 2, 1) := by decide +kernel
theorem dX4_drawFrom_23 : decode cX4_drawFrom 23 = .ok (.iaload, 1) := by decide +kernel
theorem dX4_drawFrom_24 : decode cX4_drawFrom 24 = .ok (.ifCond .ne 34, 3) := by decide +kernel
theorem dX4_drawFrom_27 : decode cX4_drawFrom 27 = .ok (.aload_n 0, 1) := by decide +kernel
theorem dX4_drawFrom_28 : decode cX4_drawFrom 28 = .ok (.getfield 24, 3) := by decide +kernel
theorem dX4_drawFrom_31 : decode cX4_drawFrom 31 = .ok (.iload_n 2, 1) := by decide +kernel
theorem dX4_drawFrom_32 : decode cX4_drawFrom 32 = .ok (.dup2, 1) := by decide +kernel
theorem dX4_drawFrom_33 : decode cX4_drawFrom 33 = .ok (.iaload, 1) := by decide +kernel
theorem dX4_drawFrom_34 : decode cX4_drawFrom 34 = .ok (.aload_n 0, 1) := by decide +kernel
theorem dX4_drawFrom_35 : decode cX4_drawFrom 35 = .ok (.getfield 15, 3) := by decide +kernel
theorem dX4_drawFrom_38 : decode cX4_drawFrom 38 = .ok (.iload_n 2, 1) := by decide +kernel
theorem dX4_drawFrom_39 : decode cX4_drawFrom 39 = .ok (.iaload, 1) := by decide +kernel
theorem dX4_drawFrom_40 : decode cX4_drawFrom 40 = .ok (.iadd, 1) := by decide +kernel
theorem dX4_drawFrom_41 : decode cX4_drawFrom 41 = .ok (.iastore, 1) := by decide +kernel
theorem dX4_drawFrom_42 : decode cX4_drawFrom 42 = .ok (.aload_n 1, 1) := by decide +kernel
theorem dX4_drawFrom_43 : decode cX4_drawFrom 43 = .ok (.aload_n 0, 1) := by decide +kernel
theorem dX4_drawFrom_44 : decode cX4_drawFrom 44 = .ok (.getfield 9, 3) := by decide +kernel
theorem dX4_drawFrom_47 : decode cX4_drawFrom 47 = .ok (.iload_n 2, 1) := by decide +kernel
theorem dX4_drawFrom_48 : decode cX4_drawFrom 48 = .ok (.iaload, 1) := by decide +kernel
theorem dX4_drawFrom_49 : decode cX4_drawFrom 49 = .ok (.aload_n 0, 1) := by decide +kernel
theorem dX4_drawFrom_50 : decode cX4_drawFrom 50 = .ok (.iload_n 2, 1) := by decide +kernel
theorem dX4_drawFrom_51 : decode cX4_drawFrom 51 = .ok (.invokevirtual 64, 3) := by decide +kernel
theorem dX4_drawFrom_54 : decode cX4_drawFrom 54 = .ok (.invokevirtual 67, 3) := by decide +kernel
theorem dX4_drawFrom_57 : decode cX4_drawFrom 57 = .ok (.istore_n 3, 1) := by decide +kernel
theorem dX4_drawFrom_58 : decode cX4_drawFrom 58 = .ok (.aload_n 0, 1) := by decide +kernel
theorem dX4_drawFrom_59 : decode cX4_drawFrom 59 = .ok (.getfield 18, 3) := by decide +kernel
theorem dX4_drawFrom_62 : decode cX4_drawFrom 62 = .ok (.iload_n 2, 1) := by decide +kernel
theorem dX4_drawFrom_63 : decode cX4_drawFrom 63 = .ok (.aload_n 0, 1) := by decide +kernel
theorem dX4_drawFrom_64 : decode cX4_drawFrom 64 = .ok (.getfield 18, 3) := by decide +kernel
theorem dX4_drawFrom_67 : decode cX4_drawFrom 67 = .ok (.iload_n 2, 1) := by decide +kernel
theorem dX4_drawFrom_68 : decode cX4_drawFrom 68 = .ok (.iaload, 1) := by decide +kernel
theorem dX4_drawFrom_69 : decode cX4_drawFrom 69 = .ok (.iload_n 3, 1) := by decide +kernel
theorem dX4_drawFrom_70 : decode cX4_drawFrom 70 = .ok (.invokestatic 72, 3) := by decide +kernel
theorem dX4_drawFrom_73 : decode cX4_drawFrom 73 = .ok (.iastore, 1) := by decide +kernel
theorem dX4_drawFrom_74 : decode cX4_drawFrom 74 = .ok (.iinc 2 1, 3) := by decide +kernel
theorem dX4_drawFrom_77 : decode cX4_drawFrom 77 = .ok (.goto (-75), 3) := by decide +kernel
theorem dX4_drawFrom_80 : decode cX4_drawFrom 80 = .ok (.aload_n 0, 1) := by decide +kernel
theorem dX4_drawFrom_81 : decode cX4_drawFrom 81 = .ok (.invokevirtual 75, 3) := by decide +kernel
theorem dX4_drawFrom_84 : decode cX4_drawFrom 84 = .ok (.return_, 1) := by decide +kernel
theorem dX4_saltBehind_0 : decode cX4_saltBehind 0 = .ok (.iload_n 1, 1) := by decide +kernel
theorem dX4_saltBehind_1 : decode cX4_saltBehind 1 = .ok (.ifCond .le 9, 3) := by decide +kernel
theorem dX4_saltBehind_4 : decode cX4_saltBehind 4 = .ok (.iload_n 0, 1) := by decide +kernel
theorem dX4_saltBehind_5 : decode cX4_saltBehind 5 = .ok (.iload_n 1, 1) := by decide +kernel
theorem dX4_saltBehind_6 : decode cX4_saltBehind 6 = .ok (.iadd, 1) := by decide +kernel
theorem dX4_saltBehind_7 : decode cX4_saltBehind 7 = .ok (.goto 10, 3) := by decide +kernel
theorem dX4_saltBehind_10 : decode cX4_saltBehind 10 = .ok (.iload_n 0, 1) := by decide +kernel
theorem dX4_saltBehind_11 : decode cX4_saltBehind 11 = .ok (.iconst 2, 1) := by decide +kernel
theorem dX4_saltBehind_12 : decode cX4_saltBehind 12 = .ok (.isub, 1) := by decide +kernel
theorem dX4_saltBehind_13 : decode cX4_saltBehind 13 = .ok (.iconst 0, 1) := by decide +kernel
theorem dX4_saltBehind_14 : decode cX4_saltBehind 14 = .ok (.invokestatic 58, 3) := by decide +kernel
theorem dX4_saltBehind_17 : decode cX4_saltBehind 17 = .ok (.ireturn, 1) := by decide +kernel
theorem dX4_turnOrRecover_0 : decode cX4_turnOrRecover 0 = .ok (.iconst 0, 1) := by decide +kernel
theorem dX4_turnOrRecover_1 : decode cX4_turnOrRecover 1 = .ok (.istore_n 1, 1) := by decide +kernel
theorem dX4_turnOrRecover_2 : decode cX4_turnOrRecover 2 = .ok (.iload_n 1, 1) := by decide +kernel
theorem dX4_turnOrRecover_3 : decode cX4_turnOrRecover 3 = .ok (.aload_n 0, 1) := by decide +kernel
theorem dX4_turnOrRecover_4 : decode cX4_turnOrRecover 4 = .ok (.getfield 36, 3) := by decide +kernel
theorem dX4_turnOrRecover_7 : decode cX4_turnOrRecover 7 = .ok (.if_icmp .ge 71, 3) := by decide +kernel
theorem dX4_turnOrRecover_10 : decode cX4_turnOrRecover 10 = .ok (.iload_n 1, 1) := by decide +kernel
theorem dX4_turnOrRecover_11 : decode cX4_turnOrRecover 11 = .ok (.bipush 6, 2) := by decide +kernel
theorem dX4_turnOrRecover_13 : decode cX4_turnOrRecover 13 = .ok (.if_icmp .ge 65, 3) := by decide +kernel
theorem dX4_turnOrRecover_16 : decode cX4_turnOrRecover 16 = .ok (.aload_n 0, 1) := by decide +kernel
theorem dX4_turnOrRecover_17 : decode cX4_turnOrRecover 17 = .ok (.getfield 21, 3) := by decide +kernel
theorem dX4_turnOrRecover_20 : decode cX4_turnOrRecover 20 = .ok (.iload_n 1, 1) := by decide +kernel
theorem dX4_turnOrRecover_21 : decode cX4_turnOrRecover 21 = .ok (.iaload, 1) := by decide +kernel
theorem dX4_turnOrRecover_22 : decode cX4_turnOrRecover 22 = .ok (.ifCond .ne 34, 3) := by decide +kernel
theorem dX4_turnOrRecover_25 : decode cX4_turnOrRecover 25 = .ok (.aload_n 0, 1) := by decide +kernel
theorem dX4_turnOrRecover_26 : decode cX4_turnOrRecover 26 = .ok (.getfield 18, 3) := by decide +kernel
theorem dX4_turnOrRecover_29 : decode cX4_turnOrRecover 29 = .ok (.iload_n 1, 1) := by decide +kernel
theorem dX4_turnOrRecover_30 : decode cX4_turnOrRecover 30 = .ok (.iaload, 1) := by decide +kernel
theorem dX4_turnOrRecover_31 : decode cX4_turnOrRecover 31 = .ok (.bipush 50, 2) := by decide +kernel
theorem dX4_turnOrRecover_33 : decode cX4_turnOrRecover 33 = .ok (.if_icmp .lt 23, 3) := by decide +kernel
theorem dX4_turnOrRecover_36 : decode cX4_turnOrRecover 36 = .ok (.aload_n 0, 1) := by decide +kernel
theorem dX4_turnOrRecover_37 : decode cX4_turnOrRecover 37 = .ok (.getfield 21, 3) := by decide +kernel
theorem dX4_turnOrRecover_40 : decode cX4_turnOrRecover 40 = .ok (.iload_n 1, 1) := by decide +kernel
theorem dX4_turnOrRecover_41 : decode cX4_turnOrRecover 41 = .ok (.iconst 1, 1) := by decide +kernel
theorem dX4_turnOrRecover_42 : decode cX4_turnOrRecover 42 = .ok (.iastore, 1) := by decide +kernel
theorem dX4_turnOrRecover_43 : decode cX4_turnOrRecover 43 = .ok (.aload_n 0, 1) := by decide +kernel
theorem dX4_turnOrRecover_44 : decode cX4_turnOrRecover 44 = .ok (.getfield 27, 3) := by decide +kernel
theorem dX4_turnOrRecover_47 : decode cX4_turnOrRecover 47 = .ok (.iload_n 1, 1) := by decide +kernel
theorem dX4_turnOrRecover_48 : decode cX4_turnOrRecover 48 = .ok (.dup2, 1) := by decide +kernel
theorem dX4_turnOrRecover_49 : decode cX4_turnOrRecover 49 = .ok (.iaload, 1) := by decide +kernel
theorem dX4_turnOrRecover_50 : decode cX4_turnOrRecover 50 = .ok (.iconst 1, 1) := by decide +kernel
theorem dX4_turnOrRecover_51 : decode cX4_turnOrRecover 51 = .ok (.iadd, 1) := by decide +kernel
theorem dX4_turnOrRecover_52 : decode cX4_turnOrRecover 52 = .ok (.iastore, 1) := by decide +kernel
theorem dX4_turnOrRecover_53 : decode cX4_turnOrRecover 53 = .ok (.goto 19, 3) := by decide +kernel
theorem dX4_turnOrRecover_56 : decode cX4_turnOrRecover 56 = .ok (.aload_n 0, 1) := by decide +kernel
theorem dX4_turnOrRecover_57 : decode cX4_turnOrRecover 57 = .ok (.getfield 18, 3) := by decide +kernel
theorem dX4_turnOrRecover_60 : decode cX4_turnOrRecover 60 = .ok (.iload_n 1, 1) := by decide +kernel
theorem dX4_turnOrRecover_61 : decode cX4_turnOrRecover 61 = .ok (.iaload, 1) := by decide +kernel
theorem dX4_turnOrRecover_62 : decode cX4_turnOrRecover 62 = .ok (.ifCond .ne 10, 3) := by decide +kernel
theorem dX4_turnOrRecover_65 : decode cX4_turnOrRecover 65 = .ok (.aload_n 0, 1) := by decide +kernel
theorem dX4_turnOrRecover_66 : decode cX4_turnOrRecover 66 = .ok (.getfield 21, 3) := by decide +kernel
theorem dX4_turnOrRecover_69 : decode cX4_turnOrRecover 69 = .ok (.iload_n 1, 1) := by decide +kernel
theorem dX4_turnOrRecover_70 : decode cX4_turnOrRecover 70 = .ok (.iconst 0, 1) := by decide +kernel
theorem dX4_turnOrRecover_71 : decode cX4_turnOrRecover 71 = .ok (.iastore, 1) := by decide +kernel
theorem dX4_turnOrRecover_72 : decode cX4_turnOrRecover 72 = .ok (.iinc 1 1, 3) := by decide +kernel
theorem dX4_turnOrRecover_75 : decode cX4_turnOrRecover 75 = .ok (.goto (-73), 3) := by decide +kernel
theorem dX4_turnOrRecover_78 : decode cX4_turnOrRecover 78 = .ok (.return_, 1) := by decide +kernel
theorem dX4_tell_0 : decode cX4_tell 0 = .ok (.aload_n 0, 1) := by decide +kernel
theorem dX4_tell_1 : decode cX4_tell 1 = .ok (.iload_n 1, 1) := by decide +kernel
theorem dX4_tell_2 : decode cX4_tell 2 = .ok (.invokevirtual 40, 3) := by decide +kernel
theorem dX4_tell_5 : decode cX4_tell 5 = .ok (.ifCond .ne 5, 3) := by decide +kernel
theorem dX4_tell_8 : decode cX4_tell 8 = .ok (.iconst (-1), 1) := by decide +kernel
theorem dX4_tell_9 : decode cX4_tell 9 = .ok (.ireturn, 1) := by decide +kernel
theorem dX4_tell_10 : decode cX4_tell 10 = .ok (.iload_n 2, 1) := by decide +kernel
theorem dX4_tell_11 : decode cX4_tell 11 = .ok (.tableswitch 89 0 6 #[41, 48, 55, 62, 69, 75, 82], 41) := by decide +kernel
theorem dX4_tell_52 : decode cX4_tell 52 = .ok (.aload_n 0, 1) := by decide +kernel
theorem dX4_tell_53 : decode cX4_tell 53 = .ok (.getfield 9, 3) := by decide +kernel
theorem dX4_tell_56 : decode cX4_tell 56 = .ok (.iload_n 1, 1) := by decide +kernel
theorem dX4_tell_57 : decode cX4_tell 57 = .ok (.iaload, 1) := by decide +kernel
theorem dX4_tell_58 : decode cX4_tell 58 = .ok (.ireturn, 1) := by decide +kernel
theorem dX4_tell_59 : decode cX4_tell 59 = .ok (.aload_n 0, 1) := by decide +kernel
theorem dX4_tell_60 : decode cX4_tell 60 = .ok (.getfield 15, 3) := by decide +kernel
theorem dX4_tell_63 : decode cX4_tell 63 = .ok (.iload_n 1, 1) := by decide +kernel
theorem dX4_tell_64 : decode cX4_tell 64 = .ok (.iaload, 1) := by decide +kernel
theorem dX4_tell_65 : decode cX4_tell 65 = .ok (.ireturn, 1) := by decide +kernel
theorem dX4_tell_66 : decode cX4_tell 66 = .ok (.aload_n 0, 1) := by decide +kernel
theorem dX4_tell_67 : decode cX4_tell 67 = .ok (.getfield 18, 3) := by decide +kernel
theorem dX4_tell_70 : decode cX4_tell 70 = .ok (.iload_n 1, 1) := by decide +kernel
theorem dX4_tell_71 : decode cX4_tell 71 = .ok (.iaload, 1) := by decide +kernel
theorem dX4_tell_72 : decode cX4_tell 72 = .ok (.ireturn, 1) := by decide +kernel
theorem dX4_tell_73 : decode cX4_tell 73 = .ok (.aload_n 0, 1) := by decide +kernel
theorem dX4_tell_74 : decode cX4_tell 74 = .ok (.getfield 21, 3) := by decide +kernel
theorem dX4_tell_77 : decode cX4_tell 77 = .ok (.iload_n 1, 1) := by decide +kernel
theorem dX4_tell_78 : decode cX4_tell 78 = .ok (.iaload, 1) := by decide +kernel
theorem dX4_tell_79 : decode cX4_tell 79 = .ok (.ireturn, 1) := by decide +kernel
theorem dX4_tell_80 : decode cX4_tell 80 = .ok (.aload_n 0, 1) := by decide +kernel
theorem dX4_tell_81 : decode cX4_tell 81 = .ok (.iload_n 1, 1) := by decide +kernel
theorem dX4_tell_82 : decode cX4_tell 82 = .ok (.invokevirtual 64, 3) := by decide +kernel
theorem dX4_tell_85 : decode cX4_tell 85 = .ok (.ireturn, 1) := by decide +kernel
theorem dX4_tell_86 : decode cX4_tell 86 = .ok (.aload_n 0, 1) := by decide +kernel
theorem dX4_tell_87 : decode cX4_tell 87 = .ok (.getfield 24, 3) := by decide +kernel
theorem dX4_tell_90 : decode cX4_tell 90 = .ok (.iload_n 1, 1) := by decide +kernel
theorem dX4_tell_91 : decode cX4_tell 91 = .ok (.iaload, 1) := by decide +kernel
theorem dX4_tell_92 : decode cX4_tell 92 = .ok (.ireturn, 1) := by decide +kernel
theorem dX4_tell_93 : decode cX4_tell 93 = .ok (.aload_n 0, 1) := by decide +kernel
theorem dX4_tell_94 : decode cX4_tell 94 = .ok (.getfield 27, 3) := by decide +kernel
theorem dX4_tell_97 : decode cX4_tell 97 = .ok (.iload_n 1, 1) := by decide +kernel
theorem dX4_tell_98 : decode cX4_tell 98 = .ok (.iaload, 1) := by decide +kernel
theorem dX4_tell_99 : decode cX4_tell 99 = .ok (.ireturn, 1) := by decide +kernel
theorem dX4_tell_100 : decode cX4_tell 100 = .ok (.bipush (-2), 2) := by decide +kernel
theorem dX4_tell_102 : decode cX4_tell 102 = .ok (.ireturn, 1) := by decide +kernel
theorem dX4_sumOf_0 : decode cX4_sumOf 0 = .ok (.iconst 0, 1) := by decide +kernel
theorem dX4_sumOf_1 : decode cX4_sumOf 1 = .ok (.istore_n 2, 1) := by decide +kernel
theorem dX4_sumOf_2 : decode cX4_sumOf 2 = .ok (.iconst 0, 1) := by decide +kernel
theorem dX4_sumOf_3 : decode cX4_sumOf 3 = .ok (.istore_n 3, 1) := by decide +kernel
theorem dX4_sumOf_4 : decode cX4_sumOf 4 = .ok (.iload_n 3, 1) := by decide +kernel
theorem dX4_sumOf_5 : decode cX4_sumOf 5 = .ok (.aload_n 0, 1) := by decide +kernel
theorem dX4_sumOf_6 : decode cX4_sumOf 6 = .ok (.getfield 36, 3) := by decide +kernel
theorem dX4_sumOf_9 : decode cX4_sumOf 9 = .ok (.if_icmp .ge 21, 3) := by decide +kernel
theorem dX4_sumOf_12 : decode cX4_sumOf 12 = .ok (.iload_n 3, 1) := by decide +kernel
theorem dX4_sumOf_13 : decode cX4_sumOf 13 = .ok (.aload_n 1, 1) := by decide +kernel
theorem dX4_sumOf_14 : decode cX4_sumOf 14 = .ok (.arraylength, 1) := by decide +kernel
theorem dX4_sumOf_15 : decode cX4_sumOf 15 = .ok (.if_icmp .ge 15, 3) := by decide +kernel
theorem dX4_sumOf_18 : decode cX4_sumOf 18 = .ok (.iload_n 2, 1) := by decide +kernel
theorem dX4_sumOf_19 : decode cX4_sumOf 19 = .ok (.aload_n 1, 1) := by decide +kernel
theorem dX4_sumOf_20 : decode cX4_sumOf 20 = .ok (.iload_n 3, 1) := by decide +kernel
theorem dX4_sumOf_21 : decode cX4_sumOf 21 = .ok (.iaload, 1) := by decide +kernel
theorem dX4_sumOf_22 : decode cX4_sumOf 22 = .ok (.iadd, 1) := by decide +kernel
theorem dX4_sumOf_23 : decode cX4_sumOf 23 = .ok (.istore_n 2, 1) := by decide +kernel
theorem dX4_sumOf_24 : decode cX4_sumOf 24 = .ok (.iinc 3 1, 3) := by decide +kernel
theorem dX4_sumOf_27 : decode cX4_sumOf 27 = .ok (.goto (-23), 3) := by decide +kernel
theorem dX4_sumOf_30 : decode cX4_sumOf 30 = .ok (.iload_n 2, 1) := by decide +kernel
theorem dX4_sumOf_31 : decode cX4_sumOf 31 = .ok (.ireturn, 1) := by decide +kernel
theorem dX5_init_0 : decode cX5_init 0 = .ok (.aload_n 0, 1) := by decide +kernel
theorem dX5_init_1 : decode cX5_init 1 = .ok (.invokespecial 3, 3) := by decide +kernel
theorem dX5_init_4 : decode cX5_init 4 = .ok (.aload_n 0, 1) := by decide +kernel
theorem dX5_init_5 : decode cX5_init 5 = .ok (.new 9, 3) := by decide +kernel
theorem dX5_init_8 : decode cX5_init 8 = .ok (.dup, 1) := by decide +kernel
theorem dX5_init_9 : decode cX5_init 9 = .ok (.invokespecial 11, 3) := by decide +kernel
theorem dX5_init_12 : decode cX5_init 12 = .ok (.putfield 12, 3) := by decide +kernel
theorem dX5_init_15 : decode cX5_init 15 = .ok (.aload_n 0, 1) := by decide +kernel
theorem dX5_init_16 : decode cX5_init 16 = .ok (.new 9, 3) := by decide +kernel
theorem dX5_init_19 : decode cX5_init 19 = .ok (.dup, 1) := by decide +kernel
theorem dX5_init_20 : decode cX5_init 20 = .ok (.invokespecial 11, 3) := by decide +kernel
theorem dX5_init_23 : decode cX5_init 23 = .ok (.putfield 16, 3) := by decide +kernel
theorem dX5_init_26 : decode cX5_init 26 = .ok (.aload_n 0, 1) := by decide +kernel
theorem dX5_init_27 : decode cX5_init 27 = .ok (.new 9, 3) := by decide +kernel
theorem dX5_init_30 : decode cX5_init 30 = .ok (.dup, 1) := by decide +kernel
theorem dX5_init_31 : decode cX5_init 31 = .ok (.invokespecial 11, 3) := by decide +kernel
theorem dX5_init_34 : decode cX5_init 34 = .ok (.putfield 19, 3) := by decide +kernel
theorem dX5_init_37 : decode cX5_init 37 = .ok (.aload_n 0, 1) := by decide +kernel
theorem dX5_init_38 : decode cX5_init 38 = .ok (.new 22, 3) := by decide +kernel
theorem dX5_init_41 : decode cX5_init 41 = .ok (.dup, 1) := by decide +kernel
theorem dX5_init_42 : decode cX5_init 42 = .ok (.invokespecial 24, 3) := by decide +kernel
theorem dX5_init_45 : decode cX5_init 45 = .ok (.putfield 25, 3) := by decide +kernel
theorem dX5_init_48 : decode cX5_init 48 = .ok (.aload_n 0, 1) := by decide +kernel
theorem dX5_init_49 : decode cX5_init 49 = .ok (.new 29, 3) := by decide +kernel
theorem dX5_init_52 : decode cX5_init 52 = .ok (.dup, 1) := by decide +kernel
theorem dX5_init_53 : decode cX5_init 53 = .ok (.invokespecial 31, 3) := by decide +kernel
theorem dX5_init_56 : decode cX5_init 56 = .ok (.putfield 32, 3) := by decide +kernel
theorem dX5_init_59 : decode cX5_init 59 = .ok (.return_, 1) := by decide +kernel
theorem dX5_dig_0 : decode cX5_dig 0 = .ok (.aload_n 0, 1) := by decide +kernel
theorem dX5_dig_1 : decode cX5_dig 1 = .ok (.getfield 16, 3) := by decide +kernel
theorem dX5_dig_4 : decode cX5_dig 4 = .ok (.aload_n 0, 1) := by decide +kernel
theorem dX5_dig_5 : decode cX5_dig 5 = .ok (.getfield 12, 3) := by decide +kernel
theorem dX5_dig_8 : decode cX5_dig 8 = .ok (.invokevirtual 36, 3) := by decide +kernel
theorem dX5_dig_11 : decode cX5_dig 11 = .ok (.aload_n 0, 1) := by decide +kernel
theorem dX5_dig_12 : decode cX5_dig 12 = .ok (.aload_n 0, 1) := by decide +kernel
theorem dX5_dig_13 : decode cX5_dig 13 = .ok (.getfield 12, 3) := by decide +kernel
theorem dX5_dig_16 : decode cX5_dig 16 = .ok (.getfield 40, 3) := by decide +kernel
theorem dX5_dig_19 : decode cX5_dig 19 = .ok (.iload_n 1, 1) := by decide +kernel
theorem dX5_dig_20 : decode cX5_dig 20 = .ok (.iload_n 2, 1) := by decide +kernel
theorem dX5_dig_21 : decode cX5_dig 21 = .ok (.invokevirtual 44, 3) := by decide +kernel
theorem dX5_dig_24 : decode cX5_dig 24 = .ok (.invokevirtual 50, 3) := by decide +kernel
theorem dX5_dig_27 : decode cX5_dig 27 = .ok (.ireturn, 1) := by decide +kernel
theorem dX5_build_0 : decode cX5_build 0 = .ok (.aload_n 0, 1) := by decide +kernel
theorem dX5_build_1 : decode cX5_build 1 = .ok (.getfield 16, 3) := by decide +kernel
theorem dX5_build_4 : decode cX5_build 4 = .ok (.aload_n 0, 1) := by decide +kernel
theorem dX5_build_5 : decode cX5_build 5 = .ok (.getfield 12, 3) := by decide +kernel
theorem dX5_build_8 : decode cX5_build 8 = .ok (.invokevirtual 36, 3) := by decide +kernel
theorem dX5_build_11 : decode cX5_build 11 = .ok (.aload_n 0, 1) := by decide +kernel
theorem dX5_build_12 : decode cX5_build 12 = .ok (.aload_n 0, 1) := by decide +kernel
theorem dX5_build_13 : decode cX5_build 13 = .ok (.getfield 12, 3) := by decide +kernel
theorem dX5_build_16 : decode cX5_build 16 = .ok (.getfield 40, 3) := by decide +kernel
theorem dX5_build_19 : decode cX5_build 19 = .ok (.iload_n 1, 1) := by decide +kernel
theorem dX5_build_20 : decode cX5_build 20 = .ok (.iload_n 2, 1) := by decide +kernel
theorem dX5_build_21 : decode cX5_build 21 = .ok (.invokevirtual 54, 3) := by decide +kernel
theorem dX5_build_24 : decode cX5_build 24 = .ok (.invokevirtual 50, 3) := by decide +kernel
theorem dX5_build_27 : decode cX5_build 27 = .ok (.ireturn, 1) := by decide +kernel
theorem dX5_flow_0 : decode cX5_flow 0 = .ok (.aload_n 0, 1) := by decide +kernel
theorem dX5_flow_1 : decode cX5_flow 1 = .ok (.getfield 16, 3) := by decide +kernel
theorem dX5_flow_4 : decode cX5_flow 4 = .ok (.aload_n 0, 1) := by decide +kernel
theorem dX5_flow_5 : decode cX5_flow 5 = .ok (.getfield 12, 3) := by decide +kernel
theorem dX5_flow_8 : decode cX5_flow 8 = .ok (.invokevirtual 36, 3) := by decide +kernel
theorem dX5_flow_11 : decode cX5_flow 11 = .ok (.aload_n 0, 1) := by decide +kernel
theorem dX5_flow_12 : decode cX5_flow 12 = .ok (.aload_n 0, 1) := by decide +kernel
theorem dX5_flow_13 : decode cX5_flow 13 = .ok (.getfield 12, 3) := by decide +kernel
theorem dX5_flow_16 : decode cX5_flow 16 = .ok (.iload_n 1, 1) := by decide +kernel
theorem dX5_flow_17 : decode cX5_flow 17 = .ok (.invokevirtual 57, 3) := by decide +kernel
theorem dX5_flow_20 : decode cX5_flow 20 = .ok (.invokevirtual 50, 3) := by decide +kernel
theorem dX5_flow_23 : decode cX5_flow 23 = .ok (.ireturn, 1) := by decide +kernel
theorem dX5_set_0 : decode cX5_set 0 = .ok (.aload_n 0, 1) := by decide +kernel
theorem dX5_set_1 : decode cX5_set 1 = .ok (.getfield 16, 3) := by decide +kernel
theorem dX5_set_4 : decode cX5_set 4 = .ok (.aload_n 0, 1) := by decide +kernel
theorem dX5_set_5 : decode cX5_set 5 = .ok (.getfield 12, 3) := by decide +kernel
theorem dX5_set_8 : decode cX5_set 8 = .ok (.invokevirtual 36, 3) := by decide +kernel
theorem dX5_set_11 : decode cX5_set 11 = .ok (.aload_n 0, 1) := by decide +kernel
theorem dX5_set_12 : decode cX5_set 12 = .ok (.aload_n 0, 1) := by decide +kernel
theorem dX5_set_13 : decode cX5_set 13 = .ok (.getfield 12, 3) := by decide +kernel
theorem dX5_set_16 : decode cX5_set 16 = .ok (.iload_n 1, 1) := by decide +kernel
theorem dX5_set_17 : decode cX5_set 17 = .ok (.iload_n 2, 1) := by decide +kernel
theorem dX5_set_18 : decode cX5_set 18 = .ok (.invokevirtual 60, 3) := by decide +kernel
theorem dX5_set_21 : decode cX5_set 21 = .ok (.invokevirtual 50, 3) := by decide +kernel
theorem dX5_set_24 : decode cX5_set 24 = .ok (.ireturn, 1) := by decide +kernel
theorem dX5_sink_0 : decode cX5_sink 0 = .ok (.aload_n 0, 1) := by decide +kernel
theorem dX5_sink_1 : decode cX5_sink 1 = .ok (.getfield 16, 3) := by decide +kernel
theorem dX5_sink_4 : decode cX5_sink 4 = .ok (.aload_n 0, 1) := by decide +kernel
theorem dX5_sink_5 : decode cX5_sink 5 = .ok (.getfield 12, 3) := by decide +kernel
theorem dX5_sink_8 : decode cX5_sink 8 = .ok (.invokevirtual 36, 3) := by decide +kernel
theorem dX5_sink_11 : decode cX5_sink 11 = .ok (.aload_n 0, 1) := by decide +kernel
theorem dX5_sink_12 : decode cX5_sink 12 = .ok (.aload_n 0, 1) := by decide +kernel
theorem dX5_sink_13 : decode cX5_sink 13 = .ok (.getfield 12, 3) := by decide +kernel
theorem dX5_sink_16 : decode cX5_sink 16 = .ok (.getfield 63, 3) := by decide +kernel
theorem dX5_sink_19 : decode cX5_sink 19 = .ok (.iload_n 1, 1) := by decide +kernel
theorem dX5_sink_20 : decode cX5_sink 20 = .ok (.iload_n 2, 1) := by decide +kernel
theorem dX5_sink_21 : decode cX5_sink 21 = .ok (.invokevirtual 67, 3) := by decide +kernel
theorem dX5_sink_24 : decode cX5_sink 24 = .ok (.invokevirtual 50, 3) := by decide +kernel
theorem dX5_sink_27 : decode cX5_sink 27 = .ok (.ireturn, 1) := by decide +kernel
theorem dX5_fillIn_0 : decode cX5_fillIn 0 = .ok (.aload_n 0, 1) := by decide +kernel
theorem dX5_fillIn_1 : decode cX5_fillIn 1 = .ok (.getfield 16, 3) := by decide +kernel
theorem dX5_fillIn_4 : decode cX5_fillIn 4 = .ok (.aload_n 0, 1) := by decide +kernel
theorem dX5_fillIn_5 : decode cX5_fillIn 5 = .ok (.getfield 12, 3) := by decide +kernel
theorem dX5_fillIn_8 : decode cX5_fillIn 8 = .ok (.invokevirtual 36, 3) := by decide +kernel
theorem dX5_fillIn_11 : decode cX5_fillIn 11 = .ok (.aload_n 0, 1) := by decide +kernel
theorem dX5_fillIn_12 : decode cX5_fillIn 12 = .ok (.aload_n 0, 1) := by decide +kernel
theorem dX5_fillIn_13 : decode cX5_fillIn 13 = .ok (.getfield 12, 3) := by decide +kernel
theorem dX5_fillIn_16 : decode cX5_fillIn 16 = .ok (.getfield 63, 3) := by decide +kernel
theorem dX5_fillIn_19 : decode cX5_fillIn 19 = .ok (.iload_n 1, 1) := by decide +kernel
theorem dX5_fillIn_20 : decode cX5_fillIn 20 = .ok (.invokevirtual 72, 3) := by decide +kernel
theorem dX5_fillIn_23 : decode cX5_fillIn 23 = .ok (.invokevirtual 50, 3) := by decide +kernel
theorem dX5_fillIn_26 : decode cX5_fillIn 26 = .ok (.ireturn, 1) := by decide +kernel
theorem dX5_setRate_0 : decode cX5_setRate 0 = .ok (.aload_n 0, 1) := by decide +kernel
theorem dX5_setRate_1 : decode cX5_setRate 1 = .ok (.getfield 16, 3) := by decide +kernel
theorem dX5_setRate_4 : decode cX5_setRate 4 = .ok (.aload_n 0, 1) := by decide +kernel
theorem dX5_setRate_5 : decode cX5_setRate 5 = .ok (.getfield 12, 3) := by decide +kernel
theorem dX5_setRate_8 : decode cX5_setRate 8 = .ok (.invokevirtual 36, 3) := by decide +kernel
theorem dX5_setRate_11 : decode cX5_setRate 11 = .ok (.aload_n 0, 1) := by decide +kernel
theorem dX5_setRate_12 : decode cX5_setRate 12 = .ok (.aload_n 0, 1) := by decide +kernel
theorem dX5_setRate_13 : decode cX5_setRate 13 = .ok (.getfield 12, 3) := by decide +kernel
theorem dX5_setRate_16 : decode cX5_setRate 16 = .ok (.getfield 63, 3) := by decide +kernel
theorem dX5_setRate_19 : decode cX5_setRate 19 = .ok (.iload_n 1, 1) := by decide +kernel
theorem dX5_setRate_20 : decode cX5_setRate 20 = .ok (.iload_n 2, 1) := by decide +kernel
theorem dX5_setRate_21 : decode cX5_setRate 21 = .ok (.invokevirtual 75, 3) := by decide +kernel
theorem dX5_setRate_24 : decode cX5_setRate 24 = .ok (.invokevirtual 50, 3) := by decide +kernel
theorem dX5_setRate_27 : decode cX5_setRate 27 = .ok (.ireturn, 1) := by decide +kernel
theorem dX5_tide_0 : decode cX5_tide 0 = .ok (.aload_n 0, 1) := by decide +kernel
theorem dX5_tide_1 : decode cX5_tide 1 = .ok (.getfield 16, 3) := by decide +kernel
theorem dX5_tide_4 : decode cX5_tide 4 = .ok (.aload_n 0, 1) := by decide +kernel
theorem dX5_tide_5 : decode cX5_tide 5 = .ok (.getfield 12, 3) := by decide +kernel
theorem dX5_tide_8 : decode cX5_tide 8 = .ok (.invokevirtual 36, 3) := by decide +kernel
theorem dX5_tide_11 : decode cX5_tide 11 = .ok (.aload_n 0, 1) := by decide +kernel
theorem dX5_tide_12 : decode cX5_tide 12 = .ok (.aload_n 0, 1) := by decide +kernel
theorem dX5_tide_13 : decode cX5_tide 13 = .ok (.getfield 12, 3) := by decide +kernel
theorem dX5_tide_16 : decode cX5_tide 16 = .ok (.iload_n 1, 1) := by decide +kernel
theorem dX5_tide_17 : decode cX5_tide 17 = .ok (.iload_n 2, 1) := by decide +kernel
theorem dX5_tide_18 : decode cX5_tide 18 = .ok (.invokevirtual 78, 3) := by decide +kernel
theorem dX5_tide_21 : decode cX5_tide 21 = .ok (.invokevirtual 50, 3) := by decide +kernel
theorem dX5_tide_24 : decode cX5_tide 24 = .ok (.ireturn, 1) := by decide +kernel
theorem dX5_undo_0 : decode cX5_undo 0 = .ok (.aload_n 0, 1) := by decide +kernel
theorem dX5_undo_1 : decode cX5_undo 1 = .ok (.getfield 25, 3) := by decide +kernel
theorem dX5_undo_4 : decode cX5_undo 4 = .ok (.aload_n 0, 1) := by decide +kernel
theorem dX5_undo_5 : decode cX5_undo 5 = .ok (.getfield 12, 3) := by decide +kernel
theorem dX5_undo_8 : decode cX5_undo 8 = .ok (.invokevirtual 121, 3) := by decide +kernel
theorem dX5_undo_11 : decode cX5_undo 11 = .ok (.ifCond .ne 6, 3) := by decide +kernel
theorem dX5_undo_14 : decode cX5_undo 14 = .ok (.bipush (-5), 2) := by decide +kernel
theorem dX5_undo_16 : decode cX5_undo 16 = .ok (.ireturn, 1) := by decide +kernel
theorem dX5_undo_17 : decode cX5_undo 17 = .ok (.aload_n 0, 1) := by decide +kernel
theorem dX5_undo_18 : decode cX5_undo 18 = .ok (.getfield 25, 3) := by decide +kernel
theorem dX5_undo_21 : decode cX5_undo 21 = .ok (.getfield 125, 3) := by decide +kernel
theorem dX5_undo_24 : decode cX5_undo 24 = .ok (.ireturn, 1) := by decide +kernel
theorem dX5_keep_0 : decode cX5_keep 0 = .ok (.aload_n 0, 1) := by decide +kernel
theorem dX5_keep_1 : decode cX5_keep 1 = .ok (.getfield 19, 3) := by decide +kernel
theorem dX5_keep_4 : decode cX5_keep 4 = .ok (.aload_n 0, 1) := by decide +kernel
theorem dX5_keep_5 : decode cX5_keep 5 = .ok (.getfield 12, 3) := by decide +kernel
theorem dX5_keep_8 : decode cX5_keep 8 = .ok (.invokevirtual 36, 3) := by decide +kernel
theorem dX5_keep_11 : decode cX5_keep 11 = .ok (.aload_n 0, 1) := by decide +kernel
theorem dX5_keep_12 : decode cX5_keep 12 = .ok (.iconst 1, 1) := by decide +kernel
theorem dX5_keep_13 : decode cX5_keep 13 = .ok (.putfield 128, 3) := by decide +kernel
theorem dX5_keep_16 : decode cX5_keep 16 = .ok (.aload_n 0, 1) := by decide +kernel
theorem dX5_keep_17 : decode cX5_keep 17 = .ok (.getfield 12, 3) := by decide +kernel
theorem dX5_keep_20 : decode cX5_keep 20 = .ok (.getfield 131, 3) := by decide +kernel
theorem dX5_keep_23 : decode cX5_keep 23 = .ok (.ireturn, 1) := by decide +kernel
theorem dX5_restore_0 : decode cX5_restore 0 = .ok (.aload_n 0, 1) := by decide +kernel
theorem dX5_restore_1 : decode cX5_restore 1 = .ok (.getfield 128, 3) := by decide +kernel
theorem dX5_restore_4 : decode cX5_restore 4 = .ok (.ifCond .ne 6, 3) := by decide +kernel
theorem dX5_restore_7 : decode cX5_restore 7 = .ok (.bipush (-5), 2) := by decide +kernel
theorem dX5_restore_9 : decode cX5_restore 9 = .ok (.ireturn, 1) := by decide +kernel
theorem dX5_restore_10 : decode cX5_restore 10 = .ok (.aload_n 0, 1) := by decide +kernel
theorem dX5_restore_11 : decode cX5_restore 11 = .ok (.getfield 16, 3) := by decide +kernel
theorem dX5_restore_14 : decode cX5_restore 14 = .ok (.aload_n 0, 1) := by decide +kernel
theorem dX5_restore_15 : decode cX5_restore 15 = .ok (.getfield 12, 3) := by decide +kernel
theorem dX5_restore_18 : decode cX5_restore 18 = .ok (.invokevirtual 36, 3) := by decide +kernel
theorem dX5_restore_21 : decode cX5_restore 21 = .ok (.aload_n 0, 1) := by decide +kernel
theorem dX5_restore_22 : decode cX5_restore 22 = .ok (.getfield 12, 3) := by decide +kernel
theorem dX5_restore_25 : decode cX5_restore 25 = .ok (.aload_n 0, 1) := by decide +kernel
theorem dX5_restore_26 : decode cX5_restore 26 = .ok (.getfield 19, 3) := by decide +kernel
theorem dX5_restore_29 : decode cX5_restore 29 = .ok (.invokevirtual 36, 3) := by decide +kernel
theorem dX5_restore_32 : decode cX5_restore 32 = .ok (.aload_n 0, 1) := by decide +kernel
theorem dX5_restore_33 : decode cX5_restore 33 = .ok (.aload_n 0, 1) := by decide +kernel
theorem dX5_restore_34 : decode cX5_restore 34 = .ok (.getfield 12, 3) := by decide +kernel
theorem dX5_restore_37 : decode cX5_restore 37 = .ok (.getfield 131, 3) := by decide +kernel
theorem dX5_restore_40 : decode cX5_restore 40 = .ok (.invokevirtual 50, 3) := by decide +kernel
theorem dX5_restore_43 : decode cX5_restore 43 = .ok (.ireturn, 1) := by decide +kernel
theorem dX5_cell_0 : decode cX5_cell 0 = .ok (.iload_n 1, 1) := by decide +kernel
theorem dX5_cell_1 : decode cX5_cell 1 = .ok (.invokestatic 134, 3) := by decide +kernel
theorem dX5_cell_4 : decode cX5_cell 4 = .ok (.ifCond .ne 5, 3) := by decide +kernel
theorem dX5_cell_7 : decode cX5_cell 7 = .ok (.iconst (-1), 1) := by decide +kernel
theorem dX5_cell_8 : decode cX5_cell 8 = .ok (.ireturn, 1) := by decide +kernel
theorem dX5_cell_9 : decode cX5_cell 9 = .ok (.iload_n 2, 1) := by decide +kernel
theorem dX5_cell_10 : decode cX5_cell 10 = .ok (.tableswitch 98 0 4 #[34, 47, 60, 73, 85], 34) := by decide +kernel
theorem dX5_cell_44 : decode cX5_cell 44 = .ok (.aload_n 0, 1) := by decide +kernel
theorem dX5_cell_45 : decode cX5_cell 45 = .ok (.getfield 12, 3) := by decide +kernel
theorem dX5_cell_48 : decode cX5_cell 48 = .ok (.getfield 40, 3) := by decide +kernel
theorem dX5_cell_51 : decode cX5_cell 51 = .ok (.getfield 137, 3) := by decide +kernel
theorem dX5_cell_54 : decode cX5_cell 54 = .ok (.iload_n 1, 1) := by decide +kernel
theorem dX5_cell_55 : decode cX5_cell 55 = .ok (.iaload, 1) := by decide +kernel
theorem dX5_cell_56 : decode cX5_cell 56 = .ok (.ireturn, 1) := by decide +kernel
theorem dX5_cell_57 : decode cX5_cell 57 = .ok (.aload_n 0, 1) := by decide +kernel
theorem dX5_cell_58 : decode cX5_cell 58 = .ok (.getfield 12, 3) := by decide +kernel
theorem dX5_cell_61 : decode cX5_cell 61 = .ok (.getfield 40, 3) := by decide +kernel
theorem dX5_cell_64 : decode cX5_cell 64 = .ok (.getfield 141, 3) := by decide +kernel
theorem dX5_cell_67 : decode cX5_cell 67 = .ok (.iload_n 1, 1) := by decide +kernel
theorem dX5_cell_68 : decode cX5_cell 68 = .ok (.iaload, 1) := by decide +kernel
theorem dX5_cell_69 : decode cX5_cell 69 = .ok (.ireturn, 1) := by decide +kernel
theorem dX5_cell_70 : decode cX5_cell 70 = .ok (.aload_n 0, 1) := by decide +kernel
theorem dX5_cell_71 : decode cX5_cell 71 = .ok (.getfield 12, 3) := by decide +kernel
theorem dX5_cell_74 : decode cX5_cell 74 = .ok (.getfield 40, 3) := by decide +kernel
theorem dX5_cell_77 : decode cX5_cell 77 = .ok (.getfield 144, 3) := by decide +kernel
theorem dX5_cell_80 : decode cX5_cell 80 = .ok (.iload_n 1, 1) := by decide +kernel
theorem dX5_cell_81 : decode cX5_cell 81 = .ok (.iaload, 1) := by decide +kernel
theorem dX5_cell_82 : decode cX5_cell 82 = .ok (.ireturn, 1) := by decide +kernel
theorem dX5_cell_83 : decode cX5_cell 83 = .ok (.aload_n 0, 1) := by decide +kernel
theorem dX5_cell_84 : decode cX5_cell 84 = .ok (.getfield 12, 3) := by decide +kernel
theorem dX5_cell_87 : decode cX5_cell 87 = .ok (.getfield 63, 3) := by decide +kernel
theorem dX5_cell_90 : decode cX5_cell 90 = .ok (.iload_n 1, 1) := by decide +kernel
theorem dX5_cell_91 : decode cX5_cell 91 = .ok (.invokevirtual 147, 3) := by decide +kernel
theorem dX5_cell_94 : decode cX5_cell 94 = .ok (.ireturn, 1) := by decide +kernel
theorem dX5_cell_95 : decode cX5_cell 95 = .ok (.aload_n 0, 1) := by decide +kernel
theorem dX5_cell_96 : decode cX5_cell 96 = .ok (.getfield 12, 3) := by decide +kernel
theorem dX5_cell_99 : decode cX5_cell 99 = .ok (.getfield 40, 3) := by decide +kernel
theorem dX5_cell_102 : decode cX5_cell 102 = .ok (.getfield 150, 3) := by decide +kernel
theorem dX5_cell_105 : decode cX5_cell 105 = .ok (.iload_n 1, 1) := by decide +kernel
theorem dX5_cell_106 : decode cX5_cell 106 = .ok (.iaload, 1) := by decide +kernel
theorem dX5_cell_107 : decode cX5_cell 107 = .ok (.ireturn, 1) := by decide +kernel
theorem dX5_cell_108 : decode cX5_cell 108 = .ok (.bipush (-2), 2) := by decide +kernel
theorem dX5_cell_110 : decode cX5_cell 110 = .ok (.ireturn, 1) := by decide +kernel
theorem dX5_well_0 : decode cX5_well 0 = .ok (.aload_n 0, 1) := by decide +kernel
theorem dX5_well_1 : decode cX5_well 1 = .ok (.getfield 12, 3) := by decide +kernel
theorem dX5_well_4 : decode cX5_well 4 = .ok (.getfield 63, 3) := by decide +kernel
theorem dX5_well_7 : decode cX5_well 7 = .ok (.iload_n 1, 1) := by decide +kernel
theorem dX5_well_8 : decode cX5_well 8 = .ok (.iload_n 2, 1) := by decide +kernel
theorem dX5_well_9 : decode cX5_well 9 = .ok (.invokevirtual 153, 3) := by decide +kernel
theorem dX5_well_12 : decode cX5_well 12 = .ok (.ireturn, 1) := by decide +kernel
theorem dX5_reach_0 : decode cX5_reach 0 = .ok (.aload_n 0, 1) := by decide +kernel
theorem dX5_reach_1 : decode cX5_reach 1 = .ok (.getfield 12, 3) := by decide +kernel
theorem dX5_reach_4 : decode cX5_reach 4 = .ok (.getfield 40, 3) := by decide +kernel
theorem dX5_reach_7 : decode cX5_reach 7 = .ok (.invokevirtual 156, 3) := by decide +kernel
theorem dX5_reach_10 : decode cX5_reach 10 = .ok (.ireturn, 1) := by decide +kernel
theorem dX5_mark_0 : decode cX5_mark 0 = .ok (.iload_n 1, 1) := by decide +kernel
theorem dX5_mark_1 : decode cX5_mark 1 = .ok (.invokestatic 134, 3) := by decide +kernel
theorem dX5_mark_4 : decode cX5_mark 4 = .ok (.ifCond .ne 5, 3) := by decide +kernel
theorem dX5_mark_7 : decode cX5_mark 7 = .ok (.iconst (-1), 1) := by decide +kernel
theorem dX5_mark_8 : decode cX5_mark 8 = .ok (.ireturn, 1) := by decide +kernel
theorem dX5_mark_9 : decode cX5_mark 9 = .ok (.iload_n 2, 1) := by decide +kernel
theorem dX5_mark_10 : decode cX5_mark 10 = .ok (.invokestatic 159, 3) := by decide +kernel
theorem dX5_mark_13 : decode cX5_mark 13 = .ok (.ifCond .ne 6, 3) := by decide +kernel
theorem dX5_mark_16 : decode cX5_mark 16 = .ok (.bipush (-2), 2) := by decide +kernel
theorem dX5_mark_18 : decode cX5_mark 18 = .ok (.ireturn, 1) := by decide +kernel
theorem dX5_mark_19 : decode cX5_mark 19 = .ok (.aload_n 0, 1) := by decide +kernel
theorem dX5_mark_20 : decode cX5_mark 20 = .ok (.getfield 12, 3) := by decide +kernel
theorem dX5_mark_23 : decode cX5_mark 23 = .ok (.getfield 40, 3) := by decide +kernel
theorem dX5_mark_26 : decode cX5_mark 26 = .ok (.iload_n 1, 1) := by decide +kernel
theorem dX5_mark_27 : decode cX5_mark 27 = .ok (.aload_n 0, 1) := by decide +kernel
theorem dX5_mark_28 : decode cX5_mark 28 = .ok (.getfield 12, 3) := by decide +kernel
theorem dX5_mark_31 : decode cX5_mark 31 = .ok (.iload_n 2, 1) := by decide +kernel
theorem dX5_mark_32 : decode cX5_mark 32 = .ok (.invokevirtual 162, 3) := by decide +kernel
theorem dX5_mark_35 : decode cX5_mark 35 = .ok (.aload_n 0, 1) := by decide +kernel
theorem dX5_mark_36 : decode cX5_mark 36 = .ok (.getfield 12, 3) := by decide +kernel
theorem dX5_mark_39 : decode cX5_mark 39 = .ok (.invokevirtual 165, 3) := by decide +kernel
theorem dX5_mark_42 : decode cX5_mark 42 = .ok (.invokevirtual 168, 3) := by decide +kernel
theorem dX5_mark_45 : decode cX5_mark 45 = .ok (.ireturn, 1) := by decide +kernel
theorem dX5_stopCell_0 : decode cX5_stopCell 0 = .ok (.iload_n 1, 1) := by decide +kernel
theorem dX5_stopCell_1 : decode cX5_stopCell 1 = .ok (.invokestatic 159, 3) := by decide +kernel
theorem dX5_stopCell_4 : decode cX5_stopCell 4 = .ok (.ifCond .ne 6, 3) := by decide +kernel
theorem dX5_stopCell_7 : decode cX5_stopCell 7 = .ok (.bipush (-2), 2) := by decide +kernel
theorem dX5_stopCell_9 : decode cX5_stopCell 9 = .ok (.ireturn, 1) := by decide +kernel
theorem dX5_stopCell_10 : decode cX5_stopCell 10 = .ok (.aload_n 0, 1) := by decide +kernel
theorem dX5_stopCell_11 : decode cX5_stopCell 11 = .ok (.getfield 12, 3) := by decide +kernel
theorem dX5_stopCell_14 : decode cX5_stopCell 14 = .ok (.getfield 40, 3) := by decide +kernel
theorem dX5_stopCell_17 : decode cX5_stopCell 17 = .ok (.aload_n 0, 1) := by decide +kernel
theorem dX5_stopCell_18 : decode cX5_stopCell 18 = .ok (.getfield 12, 3) := by decide +kernel
theorem dX5_stopCell_21 : decode cX5_stopCell 21 = .ok (.iload_n 1, 1) := by decide +kernel
theorem dX5_stopCell_22 : decode cX5_stopCell 22 = .ok (.invokevirtual 162, 3) := by decide +kernel
theorem dX5_stopCell_25 : decode cX5_stopCell 25 = .ok (.aload_n 0, 1) := by decide +kernel
theorem dX5_stopCell_26 : decode cX5_stopCell 26 = .ok (.getfield 12, 3) := by decide +kernel
theorem dX5_stopCell_29 : decode cX5_stopCell 29 = .ok (.invokevirtual 165, 3) := by decide +kernel
theorem dX5_stopCell_32 : decode cX5_stopCell 32 = .ok (.invokevirtual 172, 3) := by decide +kernel
theorem dX5_stopCell_35 : decode cX5_stopCell 35 = .ok (.istore_n 2, 1) := by decide +kernel
theorem dX5_stopCell_36 : decode cX5_stopCell 36 = .ok (.iload_n 2, 1) := by decide +kernel
theorem dX5_stopCell_37 : decode cX5_stopCell 37 = .ok (.bipush 40, 2) := by decide +kernel
theorem dX5_stopCell_39 : decode cX5_stopCell 39 = .ok (.if_icmp .ge 7, 3) := by decide +kernel
theorem dX5_stopCell_42 : decode cX5_stopCell 42 = .ok (.iload_n 2, 1) := by decide +kernel
theorem dX5_stopCell_43 : decode cX5_stopCell 43 = .ok (.goto 5, 3) := by decide +kernel
theorem dX5_stopCell_46 : decode cX5_stopCell 46 = .ok (.bipush (-5), 2) := by decide +kernel
theorem dX5_stopCell_48 : decode cX5_stopCell 48 = .ok (.ireturn, 1) := by decide +kernel
theorem dX5_reason_0 : decode cX5_reason 0 = .ok (.iload_n 1, 1) := by decide +kernel
theorem dX5_reason_1 : decode cX5_reason 1 = .ok (.invokestatic 134, 3) := by decide +kernel
theorem dX5_reason_4 : decode cX5_reason 4 = .ok (.ifCond .ne 5, 3) := by decide +kernel
theorem dX5_reason_7 : decode cX5_reason 7 = .ok (.iconst (-1), 1) := by decide +kernel
theorem dX5_reason_8 : decode cX5_reason 8 = .ok (.ireturn, 1) := by decide +kernel
theorem dX5_reason_9 : decode cX5_reason 9 = .ok (.iload_n 2, 1) := by decide +kernel
theorem dX5_reason_10 : decode cX5_reason 10 = .ok (.invokestatic 159, 3) := by decide +kernel
theorem dX5_reason_13 : decode cX5_reason 13 = .ok (.ifCond .ne 6, 3) := by decide +kernel
theorem dX5_reason_16 : decode cX5_reason 16 = .ok (.bipush (-2), 2) := by decide +kernel
theorem dX5_reason_18 : decode cX5_reason 18 = .ok (.ireturn, 1) := by decide +kernel
theorem dX5_reason_19 : decode cX5_reason 19 = .ok (.aload_n 0, 1) := by decide +kernel
theorem dX5_reason_20 : decode cX5_reason 20 = .ok (.getfield 12, 3) := by decide +kernel
theorem dX5_reason_23 : decode cX5_reason 23 = .ok (.getfield 40, 3) := by decide +kernel
theorem dX5_reason_26 : decode cX5_reason 26 = .ok (.iload_n 1, 1) := by decide +kernel
theorem dX5_reason_27 : decode cX5_reason 27 = .ok (.aload_n 0, 1) := by decide +kernel
theorem dX5_reason_28 : decode cX5_reason 28 = .ok (.getfield 12, 3) := by decide +kernel
theorem dX5_reason_31 : decode cX5_reason 31 = .ok (.iload_n 2, 1) := by decide +kernel
theorem dX5_reason_32 : decode cX5_reason 32 = .ok (.invokevirtual 162, 3) := by decide +kernel
theorem dX5_reason_35 : decode cX5_reason 35 = .ok (.aload_n 0, 1) := by decide +kernel
theorem dX5_reason_36 : decode cX5_reason 36 = .ok (.getfield 12, 3) := by decide +kernel
theorem dX5_reason_39 : decode cX5_reason 39 = .ok (.invokevirtual 165, 3) := by decide +kernel
theorem dX5_reason_42 : decode cX5_reason 42 = .ok (.invokevirtual 175, 3) := by decide +kernel
theorem dX5_reason_45 : decode cX5_reason 45 = .ok (.ireturn, 1) := by decide +kernel
theorem dX5_restsIn_0 : decode cX5_restsIn 0 = .ok (.aload_n 0, 1) := by decide +kernel
theorem dX5_restsIn_1 : decode cX5_restsIn 1 = .ok (.getfield 12, 3) := by decide +kernel
theorem dX5_restsIn_4 : decode cX5_restsIn 4 = .ok (.getfield 63, 3) := by decide +kernel
theorem dX5_restsIn_7 : decode cX5_restsIn 7 = .ok (.iload_n 1, 1) := by decide +kernel
theorem dX5_restsIn_8 : decode cX5_restsIn 8 = .ok (.invokevirtual 178, 3) := by decide +kernel
theorem dX5_restsIn_11 : decode cX5_restsIn 11 = .ok (.ifCond .ne 5, 3) := by decide +kernel
theorem dX5_restsIn_14 : decode cX5_restsIn 14 = .ok (.iconst (-1), 1) := by decide +kernel
theorem dX5_restsIn_15 : decode cX5_restsIn 15 = .ok (.ireturn, 1) := by decide +kernel
theorem dX5_restsIn_16 : decode cX5_restsIn 16 = .ok (.iload_n 2, 1) := by decide +kernel
theorem dX5_restsIn_17 : decode cX5_restsIn 17 = .ok (.invokestatic 159, 3) := by decide +kernel
theorem dX5_restsIn_20 : decode cX5_restsIn 20 = .ok (.ifCond .ne 6, 3) := by decide +kernel
theorem dX5_restsIn_23 : decode cX5_restsIn 23 = .ok (.bipush (-2), 2) := by decide +kernel
theorem dX5_restsIn_25 : decode cX5_restsIn 25 = .ok (.ireturn, 1) := by decide +kernel
theorem dX5_restsIn_26 : decode cX5_restsIn 26 = .ok (.aload_n 0, 1) := by decide +kernel
theorem dX5_restsIn_27 : decode cX5_restsIn 27 = .ok (.getfield 12, 3) := by decide +kernel
theorem dX5_restsIn_30 : decode cX5_restsIn 30 = .ok (.getfield 63, 3) := by decide +kernel
theorem dX5_restsIn_33 : decode cX5_restsIn 33 = .ok (.iload_n 1, 1) := by decide +kernel
theorem dX5_restsIn_34 : decode cX5_restsIn 34 = .ok (.invokevirtual 181, 3) := by decide +kernel
theorem dX5_restsIn_37 : decode cX5_restsIn 37 = .ok (.ifCond .eq 6, 3) := by decide +kernel
theorem dX5_restsIn_40 : decode cX5_restsIn 40 = .ok (.bipush (-4), 2) := by decide +kernel
theorem dX5_restsIn_42 : decode cX5_restsIn 42 = .ok (.ireturn, 1) := by decide +kernel
theorem dX5_restsIn_43 : decode cX5_restsIn 43 = .ok (.aload_n 0, 1) := by decide +kernel
theorem dX5_restsIn_44 : decode cX5_restsIn 44 = .ok (.getfield 16, 3) := by decide +kernel
theorem dX5_restsIn_47 : decode cX5_restsIn 47 = .ok (.aload_n 0, 1) := by decide +kernel
theorem dX5_restsIn_48 : decode cX5_restsIn 48 = .ok (.getfield 12, 3) := by decide +kernel
theorem dX5_restsIn_51 : decode cX5_restsIn 51 = .ok (.invokevirtual 36, 3) := by decide +kernel
theorem dX5_restsIn_54 : decode cX5_restsIn 54 = .ok (.iconst 1, 1) := by decide +kernel
theorem dX5_restsIn_55 : decode cX5_restsIn 55 = .ok (.istore_n 3, 1) := by decide +kernel
theorem dX5_restsIn_56 : decode cX5_restsIn 56 = .ok (.iload_n 3, 1) := by decide +kernel
theorem dX5_restsIn_57 : decode cX5_restsIn 57 = .ok (.sipush 300, 3) := by decide +kernel
theorem dX5_restsIn_60 : decode cX5_restsIn 60 = .ok (.if_icmp .gt 33, 3) := by decide +kernel
theorem dX5_restsIn_63 : decode cX5_restsIn 63 = .ok (.aload_n 0, 1) := by decide +kernel
theorem dX5_restsIn_64 : decode cX5_restsIn 64 = .ok (.getfield 16, 3) := by decide +kernel
theorem dX5_restsIn_67 : decode cX5_restsIn 67 = .ok (.iload_n 2, 1) := by decide +kernel
theorem dX5_restsIn_68 : decode cX5_restsIn 68 = .ok (.invokevirtual 184, 3) := by decide +kernel
theorem dX5_restsIn_71 : decode cX5_restsIn 71 = .ok (.aload_n 0, 1) := by decide +kernel
theorem dX5_restsIn_72 : decode cX5_restsIn 72 = .ok (.getfield 16, 3) := by decide +kernel
theorem dX5_restsIn_75 : decode cX5_restsIn 75 = .ok (.getfield 63, 3) := by decide +kernel
theorem dX5_restsIn_78 : decode cX5_restsIn 78 = .ok (.iload_n 1, 1) := by decide +kernel
theorem dX5_restsIn_79 : decode cX5_restsIn 79 = .ok (.invokevirtual 181, 3) := by decide +kernel
theorem dX5_restsIn_82 : decode cX5_restsIn 82 = .ok (.ifCond .eq 5, 3) := by decide +kernel
theorem dX5_restsIn_85 : decode cX5_restsIn 85 = .ok (.iload_n 3, 1) := by decide +kernel
theorem dX5_restsIn_86 : decode cX5_restsIn 86 = .ok (.ireturn, 1) := by decide +kernel
theorem dX5_restsIn_87 : decode cX5_restsIn 87 = .ok (.iinc 3 1, 3) := by decide +kernel
theorem dX5_restsIn_90 : decode cX5_restsIn 90 = .ok (.goto (-34), 3) := by decide +kernel
theorem dX5_restsIn_93 : decode cX5_restsIn 93 = .ok (.bipush (-5), 2) := by decide +kernel
theorem dX5_restsIn_95 : decode cX5_restsIn 95 = .ok (.ireturn, 1) := by decide +kernel
theorem dX5_leastFlow_0 : decode cX5_leastFlow 0 = .ok (.iload_n 1, 1) := by decide +kernel
theorem dX5_leastFlow_1 : decode cX5_leastFlow 1 = .ok (.invokestatic 134, 3) := by decide +kernel
theorem dX5_leastFlow_4 : decode cX5_leastFlow 4 = .ok (.ifCond .ne 5, 3) := by decide +kernel
theorem dX5_leastFlow_7 : decode cX5_leastFlow 7 = .ok (.iconst (-1), 1) := by decide +kernel
theorem dX5_leastFlow_8 : decode cX5_leastFlow 8 = .ok (.ireturn, 1) := by decide +kernel
theorem dX5_leastFlow_9 : decode cX5_leastFlow 9 = .ok (.iload_n 2, 1) := by decide +kernel
theorem dX5_leastFlow_10 : decode cX5_leastFlow 10 = .ok (.invokestatic 159, 3) := by decide +kernel
theorem dX5_leastFlow_13 : decode cX5_leastFlow 13 = .ok (.ifCond .ne 6, 3) := by decide +kernel
theorem dX5_leastFlow_16 : decode cX5_leastFlow 16 = .ok (.bipush (-2), 2) := by decide +kernel
theorem dX5_leastFlow_18 : decode cX5_leastFlow 18 = .ok (.ireturn, 1) := by decide +kernel
theorem dX5_leastFlow_19 : decode cX5_leastFlow 19 = .ok (.aload_n 0, 1) := by decide +kernel
theorem dX5_leastFlow_20 : decode cX5_leastFlow 20 = .ok (.getfield 12, 3) := by decide +kernel
theorem dX5_leastFlow_23 : decode cX5_leastFlow 23 = .ok (.iload_n 1, 1) := by decide +kernel
theorem dX5_leastFlow_24 : decode cX5_leastFlow 24 = .ok (.iload_n 2, 1) := by decide +kernel
theorem dX5_leastFlow_25 : decode cX5_leastFlow 25 = .ok (.invokevirtual 188, 3) := by decide +kernel
theorem dX5_leastFlow_28 : decode cX5_leastFlow 28 = .ok (.ireturn, 1) := by decide +kernel
theorem dX5_bestSill_0 : decode cX5_bestSill 0 = .ok (.iload_n 1, 1) := by decide +kernel
theorem dX5_bestSill_1 : decode cX5_bestSill 1 = .ok (.iconst 1, 1) := by decide +kernel
theorem dX5_bestSill_2 : decode cX5_bestSill 2 = .ok (.if_icmp .lt 16, 3) := by decide +kernel
theorem dX5_bestSill_5 : decode cX5_bestSill 5 = .ok (.iload_n 1, 1) := by decide +kernel
theorem dX5_bestSill_6 : decode cX5_bestSill 6 = .ok (.bipush 60, 2) := by decide +kernel
theorem dX5_bestSill_8 : decode cX5_bestSill 8 = .ok (.if_icmp .gt 10, 3) := by decide +kernel
theorem dX5_bestSill_11 : decode cX5_bestSill 11 = .ok (.iload_n 2, 1) := by decide +kernel
theorem dX5_bestSill_12 : decode cX5_bestSill 12 = .ok (.invokestatic 159, 3) := by decide +kernel
theorem dX5_bestSill_15 : decode cX5_bestSill 15 = .ok (.ifCond .ne 6, 3) := by decide +kernel
theorem dX5_bestSill_18 : decode cX5_bestSill 18 = .ok (.bipush (-2), 2) := by decide +kernel
theorem dX5_bestSill_20 : decode cX5_bestSill 20 = .ok (.ireturn, 1) := by decide +kernel
theorem dX5_bestSill_21 : decode cX5_bestSill 21 = .ok (.aload_n 0, 1) := by decide +kernel
theorem dX5_bestSill_22 : decode cX5_bestSill 22 = .ok (.getfield 12, 3) := by decide +kernel
theorem dX5_bestSill_25 : decode cX5_bestSill 25 = .ok (.getfield 40, 3) := by decide +kernel
theorem dX5_bestSill_28 : decode cX5_bestSill 28 = .ok (.iload_n 1, 1) := by decide +kernel
theorem dX5_bestSill_29 : decode cX5_bestSill 29 = .ok (.aload_n 0, 1) := by decide +kernel
theorem dX5_bestSill_30 : decode cX5_bestSill 30 = .ok (.getfield 12, 3) := by decide +kernel
theorem dX5_bestSill_33 : decode cX5_bestSill 33 = .ok (.iload_n 2, 1) := by decide +kernel
theorem dX5_bestSill_34 : decode cX5_bestSill 34 = .ok (.invokevirtual 162, 3) := by decide +kernel
theorem dX5_bestSill_37 : decode cX5_bestSill 37 = .ok (.aload_n 0, 1) := by decide +kernel
theorem dX5_bestSill_38 : decode cX5_bestSill 38 = .ok (.getfield 12, 3) := by decide +kernel
theorem dX5_bestSill_41 : decode cX5_bestSill 41 = .ok (.invokevirtual 165, 3) := by decide +kernel
theorem dX5_bestSill_44 : decode cX5_bestSill 44 = .ok (.invokevirtual 191, 3) := by decide +kernel
theorem dX5_bestSill_47 : decode cX5_bestSill 47 = .ok (.ireturn, 1) := by decide +kernel
theorem dX5_count_0 : decode cX5_count 0 = .ok (.iload_n 1, 1) := by decide +kernel
theorem dX5_count_1 : decode cX5_count 1 = .ok (.tableswitch 237 0 13 #[71, 79, 87, 98, 109, 120, 141, 162, 183, 191, 201, 211, 221, 229], 71) := by decide +kernel
theorem dX5_count_72 : decode cX5_count 72 = .ok (.aload_n 0, 1) := by decide +kernel
theorem dX5_count_73 : decode cX5_count 73 = .ok (.getfield 12, 3) := by decide +kernel
theorem dX5_count_76 : decode cX5_count 76 = .ok (.getfield 131, 3) := by decide +kernel
theorem dX5_count_79 : decode cX5_count 79 = .ok (.ireturn, 1) := by decide +kernel
theorem dX5_count_80 : decode cX5_count 80 = .ok (.aload_n 0, 1) := by decide +kernel
theorem dX5_count_81 : decode cX5_count 81 = .ok (.getfield 12, 3) := by decide +kernel
theorem dX5_count_84 : decode cX5_count 84 = .ok (.getfield 194, 3) := by decide +kernel
theorem dX5_count_87 : decode cX5_count 87 = .ok (.ireturn, 1) := by decide +kernel
theorem dX5_count_88 : decode cX5_count 88 = .ok (.aload_n 0, 1) := by decide +kernel
theorem dX5_count_89 : decode cX5_count 89 = .ok (.getfield 12, 3) := by decide +kernel
theorem dX5_count_92 : decode cX5_count 92 = .ok (.getfield 40, 3) := by decide +kernel
theorem dX5_count_95 : decode cX5_count 95 = .ok (.invokevirtual 197, 3) := by decide +kernel
theorem dX5_count_98 : decode cX5_count 98 = .ok (.ireturn, 1) := by decide +kernel
theorem dX5_count_99 : decode cX5_count 99 = .ok (.aload_n 0, 1) := by decide +kernel
theorem dX5_count_100 : decode cX5_count 100 = .ok (.getfield 12, 3) := by decide +kernel
theorem dX5_count_103 : decode cX5_count 103 = .ok (.getfield 40, 3) := by decide +kernel
theorem dX5_count_106 : decode cX5_count 106 = .ok (.invokevirtual 200, 3) := by decide +kernel
theorem dX5_count_109 : decode cX5_count 109 = .ok (.ireturn, 1) := by decide +kernel
theorem dX5_count_110 : decode cX5_count 110 = .ok (.aload_n 0, 1) := by decide +kernel
theorem dX5_count_111 : decode cX5_count 111 = .ok (.getfield 12, 3) := by decide +kernel
theorem dX5_count_114 : decode cX5_count 114 = .ok (.getfield 63, 3) := by decide +kernel
theorem dX5_count_117 : decode cX5_count 117 = .ok (.getfield 203, 3) := by decide +kernel
theorem dX5_count_120 : decode cX5_count 120 = .ok (.ireturn, 1) := by decide +kernel
theorem dX5_count_121 : decode cX5_count 121 = .ok (.aload_n 0, 1) := by decide +kernel
theorem dX5_count_122 : decode cX5_count 122 = .ok (.getfield 12, 3) := by decide +kernel
theorem dX5_count_125 : decode cX5_count 125 = .ok (.getfield 63, 3) := by decide +kernel
theorem dX5_count_128 : decode cX5_count 128 = .ok (.aload_n 0, 1) := by decide +kernel
theorem dX5_count_129 : decode cX5_count 129 = .ok (.getfield 12, 3) := by decide +kernel
theorem dX5_count_132 : decode cX5_count 132 = .ok (.getfield 63, 3) := by decide +kernel
theorem dX5_count_135 : decode cX5_count 135 = .ok (.getfield 206, 3) := by decide +kernel
theorem dX5_count_138 : decode cX5_count 138 = .ok (.invokevirtual 209, 3) := by decide +kernel
theorem dX5_count_141 : decode cX5_count 141 = .ok (.ireturn, 1) := by decide +kernel
theorem dX5_count_142 : decode cX5_count 142 = .ok (.aload_n 0, 1) := by decide +kernel
theorem dX5_count_143 : decode cX5_count 143 = .ok (.getfield 12, 3) := by decide +kernel
theorem dX5_count_146 : decode cX5_count 146 = .ok (.getfield 63, 3) := by decide +kernel
theorem dX5_count_149 : decode cX5_count 149 = .ok (.aload_n 0, 1) := by decide +kernel
theorem dX5_count_150 : decode cX5_count 150 = .ok (.getfield 12, 3) := by decide +kernel
theorem dX5_count_153 : decode cX5_count 153 = .ok (.getfield 63, 3) := by decide +kernel
theorem dX5_count_156 : decode cX5_count 156 = .ok (.getfield 213, 3) := by decide +kernel
theorem dX5_count_159 : decode cX5_count 159 = .ok (.invokevirtual 209, 3) := by decide +kernel
theorem dX5_count_162 : decode cX5_count 162 = .ok (.ireturn, 1) := by decide +kernel
theorem dX5_count_163 : decode cX5_count 163 = .ok (.aload_n 0, 1) := by decide +kernel
theorem dX5_count_164 : decode cX5_count 164 = .ok (.getfield 12, 3) := by decide +kernel
theorem dX5_count_167 : decode cX5_count 167 = .ok (.getfield 63, 3) := by decide +kernel
theorem dX5_count_170 : decode cX5_count 170 = .ok (.aload_n 0, 1) := by decide +kernel
theorem dX5_count_171 : decode cX5_count 171 = .ok (.getfield 12, 3) := by decide +kernel
theorem dX5_count_174 : decode cX5_count 174 = .ok (.getfield 63, 3) := by decide +kernel
theorem dX5_count_177 : decode cX5_count 177 = .ok (.getfield 216, 3) := by decide +kernel
theorem dX5_count_180 : decode cX5_count 180 = .ok (.invokevirtual 209, 3) := by decide +kernel
theorem dX5_count_183 : decode cX5_count 183 = .ok (.ireturn, 1) := by decide +kernel
theorem dX5_count_184 : decode cX5_count 184 = .ok (.aload_n 0, 1) := by decide +kernel
theorem dX5_count_185 : decode cX5_count 185 = .ok (.getfield 12, 3) := by decide +kernel
theorem dX5_count_188 : decode cX5_count 188 = .ok (.getfield 219, 3) := by decide +kernel
theorem dX5_count_191 : decode cX5_count 191 = .ok (.ireturn, 1) := by decide +kernel
theorem dX5_count_192 : decode cX5_count 192 = .ok (.aload_n 0, 1) := by decide +kernel
theorem dX5_count_193 : decode cX5_count 193 = .ok (.getfield 12, 3) := by decide +kernel
theorem dX5_count_196 : decode cX5_count 196 = .ok (.getfield 222, 3) := by decide +kernel
theorem dX5_count_199 : decode cX5_count 199 = .ok (.iconst 0, 1) := by decide +kernel
theorem dX5_count_200 : decode cX5_count 200 = .ok (.iaload, 1) := by decide +kernel
theorem dX5_count_201 : decode cX5_count 201 = .ok (.ireturn, 1) := by decide +kernel
theorem dX5_count_202 : decode cX5_count 202 = .ok (.aload_n 0, 1) := by decide +kernel
theorem dX5_count_203 : decode cX5_count 203 = .ok (.getfield 12, 3) := by decide +kernel
theorem dX5_count_206 : decode cX5_count 206 = .ok (.getfield 222, 3) := by decide +kernel
theorem dX5_count_209 : decode cX5_count 209 = .ok (.iconst 1, 1) := by decide +kernel
theorem dX5_count_210 : decode cX5_count 210 = .ok (.iaload, 1) := by decide +kernel
theorem dX5_count_211 : decode cX5_count 211 = .ok (.ireturn, 1) := by decide +kernel
theorem dX5_count_212 : decode cX5_count 212 = .ok (.aload_n 0, 1) := by decide +kernel
theorem dX5_count_213 : decode cX5_count 213 = .ok (.getfield 12, 3) := by decide +kernel
theorem dX5_count_216 : decode cX5_count 216 = .ok (.getfield 222, 3) := by decide +kernel
theorem dX5_count_219 : decode cX5_count 219 = .ok (.iconst 2, 1) := by decide +kernel
theorem dX5_count_220 : decode cX5_count 220 = .ok (.iaload, 1) := by decide +kernel
theorem dX5_count_221 : decode cX5_count 221 = .ok (.ireturn, 1) := by decide +kernel
theorem dX5_count_222 : decode cX5_count 222 = .ok (.aload_n 0, 1) := by decide +kernel
theorem dX5_count_223 : decode cX5_count 223 = .ok (.getfield 25, 3) := by decide +kernel
theorem dX5_count_226 : decode cX5_count 226 = .ok (.getfield 125, 3) := by decide +kernel
theorem dX5_count_229 : decode cX5_count 229 = .ok (.ireturn, 1) := by decide +kernel
theorem dX5_count_230 : decode cX5_count 230 = .ok (.aload_n 0, 1) := by decide +kernel
theorem dX5_count_231 : decode cX5_count 231 = .ok (.getfield 32, 3) := by decide +kernel
theorem dX5_count_234 : decode cX5_count 234 = .ok (.getfield 225, 3) := by decide +kernel
theorem dX5_count_237 : decode cX5_count 237 = .ok (.ireturn, 1) := by decide +kernel
theorem dX5_count_238 : decode cX5_count 238 = .ok (.bipush (-2), 2) := by decide +kernel
theorem dX5_count_240 : decode cX5_count 240 = .ok (.ireturn, 1) := by decide +kernel
theorem dX5_recorded_0 : decode cX5_recorded 0 = .ok (.iload_n 1, 1) := by decide +kernel
theorem dX5_recorded_1 : decode cX5_recorded 1 = .ok (.ifCond .lt 14, 3) := by decide +kernel
theorem dX5_recorded_4 : decode cX5_recorded 4 = .ok (.aload_n 0, 1) := by decide +kernel
theorem dX5_recorded_5 : decode cX5_recorded 5 = .ok (.getfield 25, 3) := by decide +kernel
theorem dX5_recorded_8 : decode cX5_recorded 8 = .ok (.aload_n 0, 1) := by decide +kernel
theorem dX5_recorded_9 : decode cX5_recorded 9 = .ok (.getfield 16, 3) := by decide +kernel
theorem dX5_recorded_12 : decode cX5_recorded 12 = .ok (.invokevirtual 228, 3) := by decide +kernel
theorem dX5_recorded_15 : decode cX5_recorded 15 = .ok (.iload_n 1, 1) := by decide +kernel
theorem dX5_recorded_16 : decode cX5_recorded 16 = .ok (.ireturn, 1) := by decide +kernel
theorem dX5_isCell_0 : decode cX5_isCell 0 = .ok (.iload_n 0, 1) := by decide +kernel
theorem dX5_isCell_1 : decode cX5_isCell 1 = .ok (.ifCond .lt 13, 3) := by decide +kernel
theorem dX5_isCell_4 : decode cX5_isCell 4 = .ok (.iload_n 0, 1) := by decide +kernel
theorem dX5_isCell_5 : decode cX5_isCell 5 = .ok (.bipush 40, 2) := by decide +kernel
theorem dX5_isCell_7 : decode cX5_isCell 7 = .ok (.if_icmp .ge 7, 3) := by decide +kernel
theorem dX5_isCell_10 : decode cX5_isCell 10 = .ok (.iconst 1, 1) := by decide +kernel
theorem dX5_isCell_11 : decode cX5_isCell 11 = .ok (.goto 4, 3) := by decide +kernel
theorem dX5_isCell_14 : decode cX5_isCell 14 = .ok (.iconst 0, 1) := by decide +kernel
theorem dX5_isCell_15 : decode cX5_isCell 15 = .ok (.ireturn, 1) := by decide +kernel
theorem dX5_isRise_0 : decode cX5_isRise 0 = .ok (.iload_n 0, 1) := by decide +kernel
theorem dX5_isRise_1 : decode cX5_isRise 1 = .ok (.bipush (-30), 2) := by decide +kernel
theorem dX5_isRise_3 : decode cX5_isRise 3 = .ok (.if_icmp .lt 13, 3) := by decide +kernel
theorem dX5_isRise_6 : decode cX5_isRise 6 = .ok (.iload_n 0, 1) := by decide +kernel
theorem dX5_isRise_7 : decode cX5_isRise 7 = .ok (.bipush 30, 2) := by decide +kernel
theorem dX5_isRise_9 : decode cX5_isRise 9 = .ok (.if_icmp .gt 7, 3) := by decide +kernel
theorem dX5_isRise_12 : decode cX5_isRise 12 = .ok (.iconst 1, 1) := by decide +kernel
theorem dX5_isRise_13 : decode cX5_isRise 13 = .ok (.goto 4, 3) := by decide +kernel
theorem dX5_isRise_16 : decode cX5_isRise 16 = .ok (.iconst 0, 1) := by decide +kernel
theorem dX5_isRise_17 : decode cX5_isRise 17 = .ok (.ireturn, 1) := by decide +kernel
theorem dJ9_max_7cf53_0 : decode cJ9_max_7cf53 0 = .ok (.iload_n 0, 1) := by decide +kernel
theorem dJ9_max_7cf53_1 : decode cJ9_max_7cf53 1 = .ok (.iload_n 1, 1) := by decide +kernel
theorem dJ9_max_7cf53_2 : decode cJ9_max_7cf53 2 = .ok (.if_icmp .lt 7, 3) := by decide +kernel
theorem dJ9_max_7cf53_5 : decode cJ9_max_7cf53 5 = .ok (.iload_n 0, 1) := by decide +kernel
theorem dJ9_max_7cf53_6 : decode cJ9_max_7cf53 6 = .ok (.goto 4, 3) := by decide +kernel
theorem dJ9_max_7cf53_9 : decode cJ9_max_7cf53 9 = .ok (.iload_n 1, 1) := by decide +kernel
theorem dJ9_max_7cf53_10 : decode cJ9_max_7cf53 10 = .ok (.ireturn, 1) := by decide +kernel
theorem dJ9_min_7cf53_0 : decode cJ9_min_7cf53 0 = .ok (.iload_n 0, 1) := by decide +kernel
theorem dJ9_min_7cf53_1 : decode cJ9_min_7cf53 1 = .ok (.iload_n 1, 1) := by decide +kernel
theorem dJ9_min_7cf53_2 : decode cJ9_min_7cf53 2 = .ok (.if_icmp .gt 7, 3) := by decide +kernel
theorem dJ9_min_7cf53_5 : decode cJ9_min_7cf53 5 = .ok (.iload_n 0, 1) := by decide +kernel
theorem dJ9_min_7cf53_6 : decode cJ9_min_7cf53 6 = .ok (.goto 4, 3) := by decide +kernel
theorem dJ9_min_7cf53_9 : decode cJ9_min_7cf53 9 = .ok (.iload_n 1, 1) := by decide +kernel
theorem dJ9_min_7cf53_10 : decode cJ9_min_7cf53 10 = .ok (.ireturn, 1) := by decide +kernel
theorem dJ7_fill_53178_0 : decode cJ7_fill_53178 0 = .ok (.iconst 0, 1) := by decide +kernel
theorem dJ7_fill_53178_1 : decode cJ7_fill_53178 1 = .ok (.istore_n 2, 1) := by decide +kernel
theorem dJ7_fill_53178_2 : decode cJ7_fill_53178 2 = .ok (.aload_n 0, 1) := by decide +kernel
theorem dJ7_fill_53178_3 : decode cJ7_fill_53178 3 = .ok (.arraylength, 1) := by decide +kernel
theorem dJ7_fill_53178_4 : decode cJ7_fill_53178 4 = .ok (.istore_n 3, 1) := by decide +kernel
theorem dJ7_fill_53178_5 : decode cJ7_fill_53178 5 = .ok (.iload_n 2, 1) := by decide +kernel
theorem dJ7_fill_53178_6 : decode cJ7_fill_53178 6 = .ok (.iload_n 3, 1) := by decide +kernel
theorem dJ7_fill_53178_7 : decode cJ7_fill_53178 7 = .ok (.if_icmp .ge 13, 3) := by decide +kernel
theorem dJ7_fill_53178_10 : decode cJ7_fill_53178 10 = .ok (.aload_n 0, 1) := by decide +kernel
theorem dJ7_fill_53178_11 : decode cJ7_fill_53178 11 = .ok (.iload_n 2, 1) := by decide +kernel
theorem dJ7_fill_53178_12 : decode cJ7_fill_53178 12 = .ok (.iload_n 1, 1) := by decide +kernel
theorem dJ7_fill_53178_13 : decode cJ7_fill_53178 13 = .ok (.iastore, 1) := by decide +kernel
theorem dJ7_fill_53178_14 : decode cJ7_fill_53178 14 = .ok (.iinc 2 1, 3) := by decide +kernel
theorem dJ7_fill_53178_17 : decode cJ7_fill_53178 17 = .ok (.goto (-12), 3) := by decide +kernel
theorem dJ7_fill_53178_20 : decode cJ7_fill_53178 20 = .ok (.return_, 1) := by decide +kernel
theorem dL_cell_0 : decode cL_cell 0 = .ok (.iload_n 1, 1) := by decide +kernel
theorem dL_cell_1 : decode cL_cell 1 = .ok (.aload_n 0, 1) := by decide +kernel
theorem dL_cell_2 : decode cL_cell 2 = .ok (.arraylength, 1) := by decide +kernel
theorem dL_cell_3 : decode cL_cell 3 = .ok (.if_icmp .ge 9, 3) := by decide +kernel
theorem dL_cell_6 : decode cL_cell 6 = .ok (.aload_n 0, 1) := by decide +kernel
theorem dL_cell_7 : decode cL_cell 7 = .ok (.iload_n 1, 1) := by decide +kernel
theorem dL_cell_8 : decode cL_cell 8 = .ok (.iaload, 1) := by decide +kernel
theorem dL_cell_9 : decode cL_cell 9 = .ok (.goto 12, 3) := by decide +kernel
theorem dL_cell_12 : decode cL_cell 12 = .ok (.ldc 7, 2) := by decide +kernel
theorem dL_cell_14 : decode cL_cell 14 = .ok (.iload_n 1, 1) := by decide +kernel
theorem dL_cell_15 : decode cL_cell 15 = .ok (.iconst 1, 1) := by decide +kernel
theorem dL_cell_16 : decode cL_cell 16 = .ok (.iadd, 1) := by decide +kernel
theorem dL_cell_17 : decode cL_cell 17 = .ok (.imul, 1) := by decide +kernel
theorem dL_cell_18 : decode cL_cell 18 = .ok (.ldc 8, 2) := by decide +kernel
theorem dL_cell_20 : decode cL_cell 20 = .ok (.iadd, 1) := by decide +kernel
theorem dL_cell_21 : decode cL_cell 21 = .ok (.ireturn, 1) := by decide +kernel
theorem dL_low_0 : decode cL_low 0 = .ok (.iload_n 0, 1) := by decide +kernel
theorem dL_low_1 : decode cL_low 1 = .ok (.ldc 9, 2) := by decide +kernel
theorem dL_low_3 : decode cL_low 3 = .ok (.iand, 1) := by decide +kernel
theorem dL_low_4 : decode cL_low 4 = .ok (.iload_n 1, 1) := by decide +kernel
theorem dL_low_5 : decode cL_low 5 = .ok (.irem, 1) := by decide +kernel
theorem dL_low_6 : decode cL_low 6 = .ok (.ireturn, 1) := by decide +kernel
theorem dL_act_0 : decode cL_act 0 = .ok (.iload_n 1, 1) := by decide +kernel
theorem dL_act_1 : decode cL_act 1 = .ok (.iconst 4, 1) := by decide +kernel
theorem dL_act_2 : decode cL_act 2 = .ok (.ishr, 1) := by decide +kernel
theorem dL_act_3 : decode cL_act 3 = .ok (.iload_n 1, 1) := by decide +kernel
theorem dL_act_4 : decode cL_act 4 = .ok (.bipush 10, 2) := by decide +kernel
theorem dL_act_6 : decode cL_act 6 = .ok (.ishr, 1) := by decide +kernel
theorem dL_act_7 : decode cL_act 7 = .ok (.iconst 3, 1) := by decide +kernel
theorem dL_act_8 : decode cL_act 8 = .ok (.invokestatic 10, 3) := by decide +kernel
theorem dL_act_11 : decode cL_act 11 = .ok (.ifCond .ne 8, 3) := by decide +kernel
theorem dL_act_14 : decode cL_act 14 = .ok (.bipush 40, 2) := by decide +kernel
theorem dL_act_16 : decode cL_act 16 = .ok (.goto 5, 3) := by decide +kernel
theorem dL_act_19 : decode cL_act 19 = .ok (.bipush 10, 2) := by decide +kernel
theorem dL_act_21 : decode cL_act 21 = .ok (.invokestatic 10, 3) := by decide +kernel
theorem dL_act_24 : decode cL_act 24 = .ok (.istore_n 3, 1) := by decide +kernel
theorem dL_act_25 : decode cL_act 25 = .ok (.iload_n 1, 1) := by decide +kernel
theorem dL_act_26 : decode cL_act 26 = .ok (.bipush 14, 2) := by decide +kernel
theorem dL_act_28 : decode cL_act 28 = .ok (.invokestatic 10, 3) := by decide +kernel
theorem dL_act_31 : decode cL_act 31 = .ok (.tableswitch 214 0 7 #[45, 75, 87, 98, 154, 154, 154, 168], 45) := by decide +kernel
theorem dL_act_76 : decode cL_act 76 = .ok (.aload_n 0, 1) := by decide +kernel
theorem dL_act_77 : decode cL_act 77 = .ok (.iload_n 3, 1) := by decide +kernel
theorem dL_act_78 : decode cL_act 78 = .ok (.iconst 1, 1) := by decide +kernel
theorem dL_act_79 : decode cL_act 79 = .ok (.iload_n 2, 1) := by decide +kernel
theorem dL_act_80 : decode cL_act 80 = .ok (.iload_n 2, 1) := by decide +kernel
theorem dL_act_81 : decode cL_act 81 = .ok (.bipush 9, 2) := by decide +kernel
theorem dL_act_83 : decode cL_act 83 = .ok (.ishr, 1) := by decide +kernel
theorem dL_act_84 : decode cL_act 84 = .ok (.iconst 2, 1) := by decide +kernel
theorem dL_act_85 : decode cL_act 85 = .ok (.invokestatic 10, 3) := by decide +kernel
theorem dL_act_88 : decode cL_act 88 = .ok (.ifCond .ne 8, 3) := by decide +kernel
theorem dL_act_91 : decode cL_act 91 = .ok (.bipush 60, 2) := by decide +kernel
theorem dL_act_93 : decode cL_act 93 = .ok (.goto 5, 3) := by decide +kernel
theorem dL_act_96 : decode cL_act 96 = .ok (.bipush 25, 2) := by decide +kernel
theorem dL_act_98 : decode cL_act 98 = .ok (.invokestatic 10, 3) := by decide +kernel
theorem dL_act_101 : decode cL_act 101 = .ok (.iadd, 1) := by decide +kernel
theorem dL_act_102 : decode cL_act 102 = .ok (.invokevirtual 16, 3) := by decide +kernel
theorem dL_act_105 : decode cL_act 105 = .ok (.ireturn, 1) := by decide +kernel
theorem dL_act_106 : decode cL_act 106 = .ok (.aload_n 0, 1) := by decide +kernel
theorem dL_act_107 : decode cL_act 107 = .ok (.iload_n 3, 1) := by decide +kernel
theorem dL_act_108 : decode cL_act 108 = .ok (.iload_n 2, 1) := by decide +kernel
theorem dL_act_109 : decode cL_act 109 = .ok (.bipush 22, 2) := by decide +kernel
theorem dL_act_111 : decode cL_act 111 = .ok (.invokestatic 10, 3) := by decide +kernel
theorem dL_act_114 : decode cL_act 114 = .ok (.invokevirtual 21, 3) := by decide +kernel
theorem dL_act_117 : decode cL_act 117 = .ok (.ireturn, 1) := by decide +kernel
theorem dL_act_118 : decode cL_act 118 = .ok (.aload_n 0, 1) := by decide +kernel
theorem dL_act_119 : decode cL_act 119 = .ok (.iload_n 2, 1) := by decide +kernel
theorem dL_act_120 : decode cL_act 120 = .ok (.bipush 30, 2) := by decide +kernel
theorem dL_act_122 : decode cL_act 122 = .ok (.invokestatic 10, 3) := by decide +kernel
theorem dL_act_125 : decode cL_act 125 = .ok (.invokevirtual 24, 3) := by decide +kernel
theorem dL_act_128 : decode cL_act 128 = .ok (.ireturn, 1) := by decide +kernel
theorem dL_act_129 : decode cL_act 129 = .ok (.iload_n 2, 1) := by decide +kernel
theorem dL_act_130 : decode cL_act 130 = .ok (.iconst 3, 1) := by decide +kernel
theorem dL_act_131 : decode cL_act 131 = .ok (.invokestatic 10, 3) := by decide +kernel
theorem dL_act_134 : decode cL_act 134 = .ok (.istore 4, 2) := by decide +kernel
theorem dL_act_136 : decode cL_act 136 = .ok (.aload_n 0, 1) := by decide +kernel
theorem dL_act_137 : decode cL_act 137 = .ok (.iload 4, 2) := by decide +kernel
theorem dL_act_139 : decode cL_act 139 = .ok (.iload 4, 2) := by decide +kernel
theorem dL_act_141 : decode cL_act 141 = .ok (.ifCond .ne 14, 3) := by decide +kernel
theorem dL_act_144 : decode cL_act 144 = .ok (.iload_n 2, 1) := by decide +kernel
theorem dL_act_145 : decode cL_act 145 = .ok (.iconst 2, 1) := by decide +kernel
theorem dL_act_146 : decode cL_act 146 = .ok (.ishr, 1) := by decide +kernel
theorem dL_act_147 : decode cL_act 147 = .ok (.bipush 61, 2) := by decide +kernel
theorem dL_act_149 : decode cL_act 149 = .ok (.invokestatic 10, 3) := by decide +kernel
theorem dL_act_152 : decode cL_act 152 = .ok (.goto 29, 3) := by decide +kernel
theorem dL_act_155 : decode cL_act 155 = .ok (.iload 4, 2) := by decide +kernel
theorem dL_act_157 : decode cL_act 157 = .ok (.iconst 1, 1) := by decide +kernel
theorem dL_act_158 : decode cL_act 158 = .ok (.if_icmp .ne 13, 3) := by decide +kernel
theorem dL_act_161 : decode cL_act 161 = .ok (.iload_n 2, 1) := by decide +kernel
theorem dL_act_162 : decode cL_act 162 = .ok (.iconst 2, 1) := by decide +kernel
theorem dL_act_163 : decode cL_act 163 = .ok (.ishr, 1) := by decide +kernel
theorem dL_act_164 : decode cL_act 164 = .ok (.iconst 4, 1) := by decide +kernel
theorem dL_act_165 : decode cL_act 165 = .ok (.invokestatic 10, 3) := by decide +kernel
theorem dL_act_168 : decode cL_act 168 = .ok (.goto 13, 3) := by decide +kernel
theorem dL_act_171 : decode cL_act 171 = .ok (.iconst 1, 1) := by decide +kernel
theorem dL_act_172 : decode cL_act 172 = .ok (.iload_n 2, 1) := by decide +kernel
theorem dL_act_173 : decode cL_act 173 = .ok (.iconst 2, 1) := by decide +kernel
theorem dL_act_174 : decode cL_act 174 = .ok (.ishr, 1) := by decide +kernel
theorem dL_act_175 : decode cL_act 175 = .ok (.bipush 20, 2) := by decide +kernel
theorem dL_act_177 : decode cL_act 177 = .ok (.invokestatic 10, 3) := by decide +kernel
theorem dL_act_180 : decode cL_act 180 = .ok (.iadd, 1) := by decide +kernel
theorem dL_act_181 : decode cL_act 181 = .ok (.invokevirtual 28, 3) := by decide +kernel
theorem dL_act_184 : decode cL_act 184 = .ok (.ireturn, 1) := by decide +kernel
theorem dL_act_185 : decode cL_act 185 = .ok (.aload_n 0, 1) := by decide +kernel
theorem dL_act_186 : decode cL_act 186 = .ok (.iload_n 3, 1) := by decide +kernel
theorem dL_act_187 : decode cL_act 187 = .ok (.iconst 1, 1) := by decide +kernel
theorem dL_act_188 : decode cL_act 188 = .ok (.iload_n 2, 1) := by decide +kernel
theorem dL_act_189 : decode cL_act 189 = .ok (.bipush 30, 2) := by decide +kernel
theorem dL_act_191 : decode cL_act 191 = .ok (.invokestatic 10, 3) := by decide +kernel
theorem dL_act_194 : decode cL_act 194 = .ok (.iadd, 1) := by decide +kernel
theorem dL_act_195 : decode cL_act 195 = .ok (.invokevirtual 31, 3) := by decide +kernel
theorem dL_act_198 : decode cL_act 198 = .ok (.ireturn, 1) := by decide +kernel
theorem dL_act_199 : decode cL_act 199 = .ok (.iload_n 2, 1) := by decide +kernel
theorem dL_act_200 : decode cL_act 200 = .ok (.iconst 3, 1) := by decide +kernel
theorem dL_act_201 : decode cL_act 201 = .ok (.invokestatic 10, 3) := by decide +kernel
theorem dL_act_204 : decode cL_act 204 = .ok (.ifCond .ne 18, 3) := by decide +kernel
theorem dL_act_207 : decode cL_act 207 = .ok (.aload_n 0, 1) := by decide +kernel
theorem dL_act_208 : decode cL_act 208 = .ok (.iload_n 2, 1) := by decide +kernel
theorem dL_act_209 : decode cL_act 209 = .ok (.iconst 2, 1) := by decide +kernel
theorem dL_act_210 : decode cL_act 210 = .ok (.ishr, 1) := by decide +kernel
theorem dL_act_211 : decode cL_act 211 = .ok (.bipush 6, 2) := by decide +kernel
theorem dL_act_213 : decode cL_act 213 = .ok (.invokestatic 10, 3) := by decide +kernel
theorem dL_act_216 : decode cL_act 216 = .ok (.invokevirtual 34, 3) := by decide +kernel
theorem dL_act_219 : decode cL_act 219 = .ok (.goto 25, 3) := by decide +kernel
theorem dL_act_222 : decode cL_act 222 = .ok (.aload_n 0, 1) := by decide +kernel
theorem dL_act_223 : decode cL_act 223 = .ok (.iload_n 2, 1) := by decide +kernel
theorem dL_act_224 : decode cL_act 224 = .ok (.iconst 2, 1) := by decide +kernel
theorem dL_act_225 : decode cL_act 225 = .ok (.ishr, 1) := by decide +kernel
theorem dL_act_226 : decode cL_act 226 = .ok (.bipush 6, 2) := by decide +kernel
theorem dL_act_228 : decode cL_act 228 = .ok (.invokestatic 10, 3) := by decide +kernel
theorem dL_act_231 : decode cL_act 231 = .ok (.iconst 1, 1) := by decide +kernel
theorem dL_act_232 : decode cL_act 232 = .ok (.iload_n 2, 1) := by decide +kernel
theorem dL_act_233 : decode cL_act 233 = .ok (.iconst 5, 1) := by decide +kernel
theorem dL_act_234 : decode cL_act 234 = .ok (.ishr, 1) := by decide +kernel
theorem dL_act_235 : decode cL_act 235 = .ok (.bipush 30, 2) := by decide +kernel
theorem dL_act_237 : decode cL_act 237 = .ok (.invokestatic 10, 3) := by decide +kernel
theorem dL_act_240 : decode cL_act 240 = .ok (.iadd, 1) := by decide +kernel
theorem dL_act_241 : decode cL_act 241 = .ok (.invokevirtual 37, 3) := by decide +kernel
theorem dL_act_244 : decode cL_act 244 = .ok (.ireturn, 1) := by decide +kernel
theorem dL_act_245 : decode cL_act 245 = .ok (.aload_n 0, 1) := by decide +kernel
theorem dL_act_246 : decode cL_act 246 = .ok (.iload_n 1, 1) := by decide +kernel
theorem dL_act_247 : decode cL_act 247 = .ok (.iconst 4, 1) := by decide +kernel
theorem dL_act_248 : decode cL_act 248 = .ok (.ishr, 1) := by decide +kernel
theorem dL_act_249 : decode cL_act 249 = .ok (.bipush 61, 2) := by decide +kernel
theorem dL_act_251 : decode cL_act 251 = .ok (.invokestatic 10, 3) := by decide +kernel
theorem dL_act_254 : decode cL_act 254 = .ok (.bipush 30, 2) := by decide +kernel
theorem dL_act_256 : decode cL_act 256 = .ok (.isub, 1) := by decide +kernel
theorem dL_act_257 : decode cL_act 257 = .ok (.iconst 1, 1) := by decide +kernel
theorem dL_act_258 : decode cL_act 258 = .ok (.iload_n 2, 1) := by decide +kernel
theorem dL_act_259 : decode cL_act 259 = .ok (.iload_n 2, 1) := by decide +kernel
theorem dL_act_260 : decode cL_act 260 = .ok (.bipush 8, 2) := by decide +kernel
theorem dL_act_262 : decode cL_act 262 = .ok (.ishr, 1) := by decide +kernel
theorem dL_act_263 : decode cL_act 263 = .ok (.iconst 4, 1) := by decide +kernel
theorem dL_act_264 : decode cL_act 264 = .ok (.invokestatic 10, 3) := by decide +kernel
theorem dL_act_267 : decode cL_act 267 = .ok (.ifCond .ne 8, 3) := by decide +kernel
theorem dL_act_270 : decode cL_act 270 = .ok (.bipush 60, 2) := by decide +kernel
theorem dL_act_272 : decode cL_act 272 = .ok (.goto 5, 3) := by decide +kernel
theorem dL_act_275 : decode cL_act 275 = .ok (.bipush 6, 2) := by decide +kernel
theorem dL_act_277 : decode cL_act 277 = .ok (.invokestatic 10, 3) := by decide +kernel
theorem dL_act_280 : decode cL_act 280 = .ok (.iadd, 1) := by decide +kernel
theorem dL_act_281 : decode cL_act 281 = .ok (.invokevirtual 40, 3) := by decide +kernel
theorem dL_act_284 : decode cL_act 284 = .ok (.ireturn, 1) := by decide +kernel
theorem dL_bed_0 : decode cL_bed 0 = .ok (.iconst 0, 1) := by decide +kernel
theorem dL_bed_1 : decode cL_bed 1 = .ok (.istore_n 1, 1) := by decide +kernel
theorem dL_bed_2 : decode cL_bed 2 = .ok (.iconst 0, 1) := by decide +kernel
theorem dL_bed_3 : decode cL_bed 3 = .ok (.istore_n 2, 1) := by decide +kernel
theorem dL_bed_4 : decode cL_bed 4 = .ok (.bipush (-5), 2) := by decide +kernel
theorem dL_bed_6 : decode cL_bed 6 = .ok (.istore_n 3, 1) := by decide +kernel
theorem dL_bed_7 : decode cL_bed 7 = .ok (.iconst 0, 1) := by decide +kernel
theorem dL_bed_8 : decode cL_bed 8 = .ok (.istore 4, 2) := by decide +kernel
theorem dL_bed_10 : decode cL_bed 10 = .ok (.iconst 0, 1) := by decide +kernel
theorem dL_bed_11 : decode cL_bed 11 = .ok (.istore 5, 2) := by decide +kernel
theorem dL_bed_13 : decode cL_bed 13 = .ok (.iload 5, 2) := by decide +kernel
theorem dL_bed_15 : decode cL_bed 15 = .ok (.bipush 40, 2) := by decide +kernel
theorem dL_bed_17 : decode cL_bed 17 = .ok (.if_icmp .ge 166, 3) := by decide +kernel
theorem dL_bed_20 : decode cL_bed 20 = .ok (.aload_n 0, 1) := by decide +kernel
theorem dL_bed_21 : decode cL_bed 21 = .ok (.iload 5, 2) := by decide +kernel
theorem dL_bed_23 : decode cL_bed 23 = .ok (.iconst 2, 1) := by decide +kernel
theorem dL_bed_24 : decode cL_bed 24 = .ok (.invokevirtual 43, 3) := by decide +kernel
theorem dL_bed_27 : decode cL_bed 27 = .ok (.istore 6, 2) := by decide +kernel
theorem dL_bed_29 : decode cL_bed 29 = .ok (.aload_n 0, 1) := by decide +kernel
theorem dL_bed_30 : decode cL_bed 30 = .ok (.iload 5, 2) := by decide +kernel
theorem dL_bed_32 : decode cL_bed 32 = .ok (.iconst 3, 1) := by decide +kernel
theorem dL_bed_33 : decode cL_bed 33 = .ok (.invokevirtual 43, 3) := by decide +kernel
theorem dL_bed_36 : decode cL_bed 36 = .ok (.istore 7, 2) := by decide +kernel
theorem dL_bed_38 : decode cL_bed 38 = .ok (.iload_n 1, 1) := by decide +kernel
theorem dL_bed_39 : decode cL_bed 39 = .ok (.iload 6, 2) := by decide +kernel
theorem dL_bed_41 : decode cL_bed 41 = .ok (.ifCond .le 7, 3) := by decide +kernel
theorem dL_bed_44 : decode cL_bed 44 = .ok (.iconst 1, 1) := by decide +kernel
theorem dL_bed_45 : decode cL_bed 45 = .ok (.goto 4, 3) := by decide +kernel
theorem dL_bed_48 : decode cL_bed 48 = .ok (.iconst 0, 1) := by decide +kernel
theorem dL_bed_49 : decode cL_bed 49 = .ok (.iadd, 1) := by decide +kernel
theorem dL_bed_50 : decode cL_bed 50 = .ok (.istore_n 1, 1) := by decide +kernel
theorem dL_bed_51 : decode cL_bed 51 = .ok (.iload_n 2, 1) := by decide +kernel
theorem dL_bed_52 : decode cL_bed 52 = .ok (.iload 6, 2) := by decide +kernel
theorem dL_bed_54 : decode cL_bed 54 = .ok (.iadd, 1) := by decide +kernel
theorem dL_bed_55 : decode cL_bed 55 = .ok (.istore_n 2, 1) := by decide +kernel
theorem dL_bed_56 : decode cL_bed 56 = .ok (.iload 6, 2) := by decide +kernel
theorem dL_bed_58 : decode cL_bed 58 = .ok (.ifCond .le 8, 3) := by decide +kernel
theorem dL_bed_61 : decode cL_bed 61 = .ok (.iload 5, 2) := by decide +kernel
theorem dL_bed_63 : decode cL_bed 63 = .ok (.goto 4, 3) := by decide +kernel
theorem dL_bed_66 : decode cL_bed 66 = .ok (.iload_n 3, 1) := by decide +kernel
theorem dL_bed_67 : decode cL_bed 67 = .ok (.istore_n 3, 1) := by decide +kernel
theorem dL_bed_68 : decode cL_bed 68 = .ok (.iload 4, 2) := by decide +kernel
theorem dL_bed_70 : decode cL_bed 70 = .ok (.iload 7, 2) := by decide +kernel
theorem dL_bed_72 : decode cL_bed 72 = .ok (.ifCond .lt 7, 3) := by decide +kernel
theorem dL_bed_75 : decode cL_bed 75 = .ok (.iconst 1, 1) := by decide +kernel
theorem dL_bed_76 : decode cL_bed 76 = .ok (.goto 4, 3) := by decide +kernel
theorem dL_bed_79 : decode cL_bed 79 = .ok (.iconst 0, 1) := by decide +kernel
theorem dL_bed_80 : decode cL_bed 80 = .ok (.iadd, 1) := by decide +kernel
theorem dL_bed_81 : decode cL_bed 81 = .ok (.istore 4, 2) := by decide +kernel
theorem dL_bed_83 : decode cL_bed 83 = .ok (.iload 6, 2) := by decide +kernel
theorem dL_bed_85 : decode cL_bed 85 = .ok (.ifCond .lt 90, 3) := by decide +kernel
theorem dL_bed_88 : decode cL_bed 88 = .ok (.iload 6, 2) := by decide +kernel
theorem dL_bed_90 : decode cL_bed 90 = .ok (.aload_n 0, 1) := by decide +kernel
theorem dL_bed_91 : decode cL_bed 91 = .ok (.iload 5, 2) := by decide +kernel
theorem dL_bed_93 : decode cL_bed 93 = .ok (.iconst 0, 1) := by decide +kernel
theorem dL_bed_94 : decode cL_bed 94 = .ok (.invokevirtual 43, 3) := by decide +kernel
theorem dL_bed_97 : decode cL_bed 97 = .ok (.if_icmp .gt 78, 3) := by decide +kernel
theorem dL_bed_100 : decode cL_bed 100 = .ok (.aload_n 0, 1) := by decide +kernel
theorem dL_bed_101 : decode cL_bed 101 = .ok (.iload 5, 2) := by decide +kernel
theorem dL_bed_103 : decode cL_bed 103 = .ok (.iconst 1, 1) := by decide +kernel
theorem dL_bed_104 : decode cL_bed 104 = .ok (.invokevirtual 43, 3) := by decide +kernel
theorem dL_bed_107 : decode cL_bed 107 = .ok (.aload_n 0, 1) := by decide +kernel
theorem dL_bed_108 : decode cL_bed 108 = .ok (.iload 5, 2) := by decide +kernel
theorem dL_bed_110 : decode cL_bed 110 = .ok (.iconst 0, 1) := by decide +kernel
theorem dL_bed_111 : decode cL_bed 111 = .ok (.invokevirtual 43, 3) := by decide +kernel
theorem dL_bed_114 : decode cL_bed 114 = .ok (.if_icmp .gt 61, 3) := by decide +kernel
theorem dL_bed_117 : decode cL_bed 117 = .ok (.aload_n 0, 1) := by decide +kernel
theorem dL_bed_118 : decode cL_bed 118 = .ok (.iload 5, 2) := by decide +kernel
theorem dL_bed_120 : decode cL_bed 120 = .ok (.iconst 4, 1) := by decide +kernel
theorem dL_bed_121 : decode cL_bed 121 = .ok (.invokevirtual 43, 3) := by decide +kernel
theorem dL_bed_124 : decode cL_bed 124 = .ok (.ifCond .lt 51, 3) := by decide +kernel
theorem dL_bed_127 : decode cL_bed 127 = .ok (.aload_n 0, 1) := by decide +kernel
theorem dL_bed_128 : decode cL_bed 128 = .ok (.iload 5, 2) := by decide +kernel
theorem dL_bed_130 : decode cL_bed 130 = .ok (.iconst 4, 1) := by decide +kernel
theorem dL_bed_131 : decode cL_bed 131 = .ok (.invokevirtual 43, 3) := by decide +kernel
theorem dL_bed_134 : decode cL_bed 134 = .ok (.aload_n 0, 1) := by decide +kernel
theorem dL_bed_135 : decode cL_bed 135 = .ok (.iconst 0, 1) := by decide +kernel
theorem dL_bed_136 : decode cL_bed 136 = .ok (.invokevirtual 46, 3) := by decide +kernel
theorem dL_bed_139 : decode cL_bed 139 = .ok (.if_icmp .gt 36, 3) := by decide +kernel
theorem dL_bed_142 : decode cL_bed 142 = .ok (.iload 7, 2) := by decide +kernel
theorem dL_bed_144 : decode cL_bed 144 = .ok (.ifCond .lt 15, 3) := by decide +kernel
theorem dL_bed_147 : decode cL_bed 147 = .ok (.aload_n 0, 1) := by decide +kernel
theorem dL_bed_148 : decode cL_bed 148 = .ok (.iload 7, 2) := by decide +kernel
theorem dL_bed_150 : decode cL_bed 150 = .ok (.iconst 0, 1) := by decide +kernel
theorem dL_bed_151 : decode cL_bed 151 = .ok (.invokevirtual 49, 3) := by decide +kernel
theorem dL_bed_154 : decode cL_bed 154 = .ok (.iload 5, 2) := by decide +kernel
theorem dL_bed_156 : decode cL_bed 156 = .ok (.if_icmp .ne 19, 3) := by decide +kernel
theorem dL_bed_159 : decode cL_bed 159 = .ok (.iload 5, 2) := by decide +kernel
theorem dL_bed_161 : decode cL_bed 161 = .ok (.aload_n 0, 1) := by decide +kernel
theorem dL_bed_162 : decode cL_bed 162 = .ok (.bipush 8, 2) := by decide +kernel
theorem dL_bed_164 : decode cL_bed 164 = .ok (.invokevirtual 46, 3) := by decide +kernel
theorem dL_bed_167 : decode cL_bed 167 = .ok (.if_icmp .le 10, 3) := by decide +kernel
theorem dL_bed_170 : decode cL_bed 170 = .ok (.iload 6, 2) := by decide +kernel
theorem dL_bed_172 : decode cL_bed 172 = .ok (.ifCond .le 5, 3) := by decide +kernel
theorem dL_bed_175 : decode cL_bed 175 = .ok (.iconst 0, 1) := by decide +kernel
theorem dL_bed_176 : decode cL_bed 176 = .ok (.ireturn, 1) := by decide +kernel
theorem dL_bed_177 : decode cL_bed 177 = .ok (.iinc 5 1, 3) := by decide +kernel
theorem dL_bed_180 : decode cL_bed 180 = .ok (.goto (-167), 3) := by decide +kernel
theorem dL_bed_183 : decode cL_bed 183 = .ok (.aload_n 0, 1) := by decide +kernel
theorem dL_bed_184 : decode cL_bed 184 = .ok (.invokevirtual 52, 3) := by decide +kernel
theorem dL_bed_187 : decode cL_bed 187 = .ok (.iload_n 3, 1) := by decide +kernel
theorem dL_bed_188 : decode cL_bed 188 = .ok (.if_icmp .ne 56, 3) := by decide +kernel
theorem dL_bed_191 : decode cL_bed 191 = .ok (.aload_n 0, 1) := by decide +kernel
theorem dL_bed_192 : decode cL_bed 192 = .ok (.iconst 2, 1) := by decide +kernel
theorem dL_bed_193 : decode cL_bed 193 = .ok (.invokevirtual 46, 3) := by decide +kernel
theorem dL_bed_196 : decode cL_bed 196 = .ok (.iload_n 1, 1) := by decide +kernel
theorem dL_bed_197 : decode cL_bed 197 = .ok (.if_icmp .ne 47, 3) := by decide +kernel
theorem dL_bed_200 : decode cL_bed 200 = .ok (.aload_n 0, 1) := by decide +kernel
theorem dL_bed_201 : decode cL_bed 201 = .ok (.iconst 3, 1) := by decide +kernel
theorem dL_bed_202 : decode cL_bed 202 = .ok (.invokevirtual 46, 3) := by decide +kernel
theorem dL_bed_205 : decode cL_bed 205 = .ok (.iload_n 2, 1) := by decide +kernel
theorem dL_bed_206 : decode cL_bed 206 = .ok (.if_icmp .ne 38, 3) := by decide +kernel
theorem dL_bed_209 : decode cL_bed 209 = .ok (.aload_n 0, 1) := by decide +kernel
theorem dL_bed_210 : decode cL_bed 210 = .ok (.iconst 4, 1) := by decide +kernel
theorem dL_bed_211 : decode cL_bed 211 = .ok (.invokevirtual 46, 3) := by decide +kernel
theorem dL_bed_214 : decode cL_bed 214 = .ok (.iload 4, 2) := by decide +kernel
theorem dL_bed_216 : decode cL_bed 216 = .ok (.if_icmp .ne 28, 3) := by decide +kernel
theorem dL_bed_219 : decode cL_bed 219 = .ok (.aload_n 0, 1) := by decide +kernel
theorem dL_bed_220 : decode cL_bed 220 = .ok (.bipush 8, 2) := by decide +kernel
theorem dL_bed_222 : decode cL_bed 222 = .ok (.invokevirtual 46, 3) := by decide +kernel
theorem dL_bed_225 : decode cL_bed 225 = .ok (.bipush 40, 2) := by decide +kernel
theorem dL_bed_227 : decode cL_bed 227 = .ok (.if_icmp .ge 17, 3) := by decide +kernel
theorem dL_bed_230 : decode cL_bed 230 = .ok (.aload_n 0, 1) := by decide +kernel
theorem dL_bed_231 : decode cL_bed 231 = .ok (.bipush 8, 2) := by decide +kernel
theorem dL_bed_233 : decode cL_bed 233 = .ok (.invokevirtual 46, 3) := by decide +kernel
theorem dL_bed_236 : decode cL_bed 236 = .ok (.iload_n 3, 1) := by decide +kernel
theorem dL_bed_237 : decode cL_bed 237 = .ok (.if_icmp .lt 7, 3) := by decide +kernel
theorem dL_bed_240 : decode cL_bed 240 = .ok (.iconst 1, 1) := by decide +kernel
theorem dL_bed_241 : decode cL_bed 241 = .ok (.goto 4, 3) := by decide +kernel
theorem dL_bed_244 : decode cL_bed 244 = .ok (.iconst 0, 1) := by decide +kernel
theorem dL_bed_245 : decode cL_bed 245 = .ok (.ireturn, 1) := by decide +kernel
theorem dL_hangs_0 : decode cL_hangs 0 = .ok (.iconst 0, 1) := by decide +kernel
theorem dL_hangs_1 : decode cL_hangs 1 = .ok (.istore_n 1, 1) := by decide +kernel
theorem dL_hangs_2 : decode cL_hangs 2 = .ok (.iconst 0, 1) := by decide +kernel
theorem dL_hangs_3 : decode cL_hangs 3 = .ok (.istore_n 2, 1) := by decide +kernel
theorem dL_hangs_4 : decode cL_hangs 4 = .ok (.iconst 0, 1) := by decide +kernel
theorem dL_hangs_5 : decode cL_hangs 5 = .ok (.istore_n 3, 1) := by decide +kernel
theorem dL_hangs_6 : decode cL_hangs 6 = .ok (.iconst 0, 1) := by decide +kernel
theorem dL_hangs_7 : decode cL_hangs 7 = .ok (.istore 4, 2) := by decide +kernel
theorem dL_hangs_9 : decode cL_hangs 9 = .ok (.iload 4, 2) := by decide +kernel
theorem dL_hangs_11 : decode cL_hangs 11 = .ok (.aload_n 0, 1) := by decide +kernel
theorem dL_hangs_12 : decode cL_hangs 12 = .ok (.iconst 4, 1) := by decide +kernel
theorem dL_hangs_13 : decode cL_hangs 13 = .ok (.invokevirtual 46, 3) := by decide +kernel
theorem dL_hangs_16 : decode cL_hangs 16 = .ok (.if_icmp .ge 251, 3) := by decide +kernel
theorem dL_hangs_19 : decode cL_hangs 19 = .ok (.aload_n 0, 1) := by decide +kernel
theorem dL_hangs_20 : decode cL_hangs 20 = .ok (.iload 4, 2) := by decide +kernel
theorem dL_hangs_22 : decode cL_hangs 22 = .ok (.iconst 1, 1) := by decide +kernel
theorem dL_hangs_23 : decode cL_hangs 23 = .ok (.invokevirtual 49, 3) := by decide +kernel
theorem dL_hangs_26 : decode cL_hangs 26 = .ok (.istore 5, 2) := by decide +kernel
theorem dL_hangs_28 : decode cL_hangs 28 = .ok (.aload_n 0, 1) := by decide +kernel
theorem dL_hangs_29 : decode cL_hangs 29 = .ok (.iload 4, 2) := by decide +kernel
theorem dL_hangs_31 : decode cL_hangs 31 = .ok (.iconst 3, 1) := by decide +kernel
theorem dL_hangs_32 : decode cL_hangs 32 = .ok (.invokevirtual 49, 3) := by decide +kernel
theorem dL_hangs_35 : decode cL_hangs 35 = .ok (.iconst 1, 1) := by decide +kernel
theorem dL_hangs_36 : decode cL_hangs 36 = .ok (.if_icmp .ne 7, 3) := by decide +kernel
theorem dL_hangs_39 : decode cL_hangs 39 = .ok (.iconst 1, 1) := by decide +kernel
theorem dL_hangs_40 : decode cL_hangs 40 = .ok (.goto 4, 3) := by decide +kernel
theorem dL_hangs_43 : decode cL_hangs 43 = .ok (.iconst 0, 1) := by decide +kernel
theorem dL_hangs_44 : decode cL_hangs 44 = .ok (.istore 6, 2) := by decide +kernel
theorem dL_hangs_46 : decode cL_hangs 46 = .ok (.iconst 0, 1) := by decide +kernel
theorem dL_hangs_47 : decode cL_hangs 47 = .ok (.istore 7, 2) := by decide +kernel
theorem dL_hangs_49 : decode cL_hangs 49 = .ok (.iload 7, 2) := by decide +kernel
theorem dL_hangs_51 : decode cL_hangs 51 = .ok (.aload_n 0, 1) := by decide +kernel
theorem dL_hangs_52 : decode cL_hangs 52 = .ok (.iconst 4, 1) := by decide +kernel
theorem dL_hangs_53 : decode cL_hangs 53 = .ok (.invokevirtual 46, 3) := by decide +kernel
theorem dL_hangs_56 : decode cL_hangs 56 = .ok (.if_icmp .ge 64, 3) := by decide +kernel
theorem dL_hangs_59 : decode cL_hangs 59 = .ok (.aload_n 0, 1) := by decide +kernel
theorem dL_hangs_60 : decode cL_hangs 60 = .ok (.iload 7, 2) := by decide +kernel
theorem dL_hangs_62 : decode cL_hangs 62 = .ok (.iconst 0, 1) := by decide +kernel
theorem dL_hangs_63 : decode cL_hangs 63 = .ok (.invokevirtual 49, 3) := by decide +kernel
theorem dL_hangs_66 : decode cL_hangs 66 = .ok (.aload_n 0, 1) := by decide +kernel
theorem dL_hangs_67 : decode cL_hangs 67 = .ok (.iload 4, 2) := by decide +kernel
theorem dL_hangs_69 : decode cL_hangs 69 = .ok (.iconst 0, 1) := by decide +kernel
theorem dL_hangs_70 : decode cL_hangs 70 = .ok (.invokevirtual 49, 3) := by decide +kernel
theorem dL_hangs_73 : decode cL_hangs 73 = .ok (.isub, 1) := by decide +kernel
theorem dL_hangs_74 : decode cL_hangs 74 = .ok (.istore 8, 2) := by decide +kernel
theorem dL_hangs_76 : decode cL_hangs 76 = .ok (.iload 5, 2) := by decide +kernel
theorem dL_hangs_78 : decode cL_hangs 78 = .ok (.iload 8, 2) := by decide +kernel
theorem dL_hangs_80 : decode cL_hangs 80 = .ok (.iconst 1, 1) := by decide +kernel
theorem dL_hangs_81 : decode cL_hangs 81 = .ok (.if_icmp .eq 9, 3) := by decide +kernel
theorem dL_hangs_84 : decode cL_hangs 84 = .ok (.iload 8, 2) := by decide +kernel
theorem dL_hangs_86 : decode cL_hangs 86 = .ok (.iconst (-1), 1) := by decide +kernel
theorem dL_hangs_87 : decode cL_hangs 87 = .ok (.if_icmp .ne 23, 3) := by decide +kernel
theorem dL_hangs_90 : decode cL_hangs 90 = .ok (.aload_n 0, 1) := by decide +kernel
theorem dL_hangs_91 : decode cL_hangs 91 = .ok (.iload 7, 2) := by decide +kernel
theorem dL_hangs_93 : decode cL_hangs 93 = .ok (.iconst 3, 1) := by decide +kernel
theorem dL_hangs_94 : decode cL_hangs 94 = .ok (.invokevirtual 49, 3) := by decide +kernel
theorem dL_hangs_97 : decode cL_hangs 97 = .ok (.ifCond .ne 13, 3) := by decide +kernel
theorem dL_hangs_100 : decode cL_hangs 100 = .ok (.aload_n 0, 1) := by decide +kernel
theorem dL_hangs_101 : decode cL_hangs 101 = .ok (.iload 7, 2) := by decide +kernel
theorem dL_hangs_103 : decode cL_hangs 103 = .ok (.iconst 1, 1) := by decide +kernel
theorem dL_hangs_104 : decode cL_hangs 104 = .ok (.invokevirtual 49, 3) := by decide +kernel
theorem dL_hangs_107 : decode cL_hangs 107 = .ok (.goto 4, 3) := by decide +kernel
theorem dL_hangs_110 : decode cL_hangs 110 = .ok (.iconst 0, 1) := by decide +kernel
theorem dL_hangs_111 : decode cL_hangs 111 = .ok (.isub, 1) := by decide +kernel
theorem dL_hangs_112 : decode cL_hangs 112 = .ok (.istore 5, 2) := by decide +kernel
theorem dL_hangs_114 : decode cL_hangs 114 = .ok (.iinc 7 1, 3) := by decide +kernel
theorem dL_hangs_117 : decode cL_hangs 117 = .ok (.goto (-68), 3) := by decide +kernel
theorem dL_hangs_120 : decode cL_hangs 120 = .ok (.iload_n 1, 1) := by decide +kernel
theorem dL_hangs_121 : decode cL_hangs 121 = .ok (.aload_n 0, 1) := by decide +kernel
theorem dL_hangs_122 : decode cL_hangs 122 = .ok (.iload 4, 2) := by decide +kernel
theorem dL_hangs_124 : decode cL_hangs 124 = .ok (.iconst 3, 1) := by decide +kernel
theorem dL_hangs_125 : decode cL_hangs 125 = .ok (.invokevirtual 49, 3) := by decide +kernel
theorem dL_hangs_128 : decode cL_hangs 128 = .ok (.iadd, 1) := by decide +kernel
theorem dL_hangs_129 : decode cL_hangs 129 = .ok (.istore_n 1, 1) := by decide +kernel
theorem dL_hangs_130 : decode cL_hangs 130 = .ok (.iload_n 2, 1) := by decide +kernel
theorem dL_hangs_131 : decode cL_hangs 131 = .ok (.aload_n 0, 1) := by decide +kernel
theorem dL_hangs_132 : decode cL_hangs 132 = .ok (.iload 4, 2) := by decide +kernel
theorem dL_hangs_134 : decode cL_hangs 134 = .ok (.iconst 2, 1) := by decide +kernel
theorem dL_hangs_135 : decode cL_hangs 135 = .ok (.invokevirtual 49, 3) := by decide +kernel
theorem dL_hangs_138 : decode cL_hangs 138 = .ok (.iadd, 1) := by decide +kernel
theorem dL_hangs_139 : decode cL_hangs 139 = .ok (.istore_n 2, 1) := by decide +kernel
theorem dL_hangs_140 : decode cL_hangs 140 = .ok (.iload_n 3, 1) := by decide +kernel
theorem dL_hangs_141 : decode cL_hangs 141 = .ok (.aload_n 0, 1) := by decide +kernel
theorem dL_hangs_142 : decode cL_hangs 142 = .ok (.iload 4, 2) := by decide +kernel
theorem dL_hangs_144 : decode cL_hangs 144 = .ok (.iconst 5, 1) := by decide +kernel
theorem dL_hangs_145 : decode cL_hangs 145 = .ok (.invokevirtual 49, 3) := by decide +kernel
theorem dL_hangs_148 : decode cL_hangs 148 = .ok (.iadd, 1) := by decide +kernel
theorem dL_hangs_149 : decode cL_hangs 149 = .ok (.istore_n 3, 1) := by decide +kernel
theorem dL_hangs_150 : decode cL_hangs 150 = .ok (.aload_n 0, 1) := by decide +kernel
theorem dL_hangs_151 : decode cL_hangs 151 = .ok (.iload 4, 2) := by decide +kernel
theorem dL_hangs_153 : decode cL_hangs 153 = .ok (.iconst 4, 1) := by decide +kernel
theorem dL_hangs_154 : decode cL_hangs 154 = .ok (.invokevirtual 49, 3) := by decide +kernel
theorem dL_hangs_157 : decode cL_hangs 157 = .ok (.iload 6, 2) := by decide +kernel
theorem dL_hangs_159 : decode cL_hangs 159 = .ok (.ifCond .ne 8, 3) := by decide +kernel
theorem dL_hangs_162 : decode cL_hangs 162 = .ok (.iload 5, 2) := by decide +kernel
theorem dL_hangs_164 : decode cL_hangs 164 = .ok (.ifCond .ge 7, 3) := by decide +kernel
theorem dL_hangs_167 : decode cL_hangs 167 = .ok (.iconst 0, 1) := by decide +kernel
theorem dL_hangs_168 : decode cL_hangs 168 = .ok (.goto 5, 3) := by decide +kernel
theorem dL_hangs_171 : decode cL_hangs 171 = .ok (.iload 5, 2) := by decide +kernel
theorem dL_hangs_173 : decode cL_hangs 173 = .ok (.if_icmp .ne 86, 3) := by decide +kernel
theorem dL_hangs_176 : decode cL_hangs 176 = .ok (.aload_n 0, 1) := by decide +kernel
theorem dL_hangs_177 : decode cL_hangs 177 = .ok (.aload_n 0, 1) := by decide +kernel
theorem dL_hangs_178 : decode cL_hangs 178 = .ok (.iload 4, 2) := by decide +kernel
theorem dL_hangs_180 : decode cL_hangs 180 = .ok (.iconst 0, 1) := by decide +kernel
theorem dL_hangs_181 : decode cL_hangs 181 = .ok (.invokevirtual 49, 3) := by decide +kernel
theorem dL_hangs_184 : decode cL_hangs 184 = .ok (.iconst 3, 1) := by decide +kernel
theorem dL_hangs_185 : decode cL_hangs 185 = .ok (.invokevirtual 43, 3) := by decide +kernel
theorem dL_hangs_188 : decode cL_hangs 188 = .ok (.iload 4, 2) := by decide +kernel
theorem dL_hangs_190 : decode cL_hangs 190 = .ok (.if_icmp .ne 69, 3) := by decide +kernel
theorem dL_hangs_193 : decode cL_hangs 193 = .ok (.iload 6, 2) := by decide +kernel
theorem dL_hangs_195 : decode cL_hangs 195 = .ok (.ifCond .eq 13, 3) := by decide +kernel
theorem dL_hangs_198 : decode cL_hangs 198 = .ok (.aload_n 0, 1) := by decide +kernel
theorem dL_hangs_199 : decode cL_hangs 199 = .ok (.iload 4, 2) := by decide +kernel
theorem dL_hangs_201 : decode cL_hangs 201 = .ok (.iconst 2, 1) := by decide +kernel
theorem dL_hangs_202 : decode cL_hangs 202 = .ok (.invokevirtual 49, 3) := by decide +kernel
theorem dL_hangs_205 : decode cL_hangs 205 = .ok (.ifCond .eq 54, 3) := by decide +kernel
theorem dL_hangs_208 : decode cL_hangs 208 = .ok (.iload 6, 2) := by decide +kernel
theorem dL_hangs_210 : decode cL_hangs 210 = .ok (.ifCond .ne 15, 3) := by decide +kernel
theorem dL_hangs_213 : decode cL_hangs 213 = .ok (.aload_n 0, 1) := by decide +kernel
theorem dL_hangs_214 : decode cL_hangs 214 = .ok (.iload 4, 2) := by decide +kernel
theorem dL_hangs_216 : decode cL_hangs 216 = .ok (.iconst 2, 1) := by decide +kernel
theorem dL_hangs_217 : decode cL_hangs 217 = .ok (.invokevirtual 49, 3) := by decide +kernel
theorem dL_hangs_220 : decode cL_hangs 220 = .ok (.bipush 49, 2) := by decide +kernel
theorem dL_hangs_222 : decode cL_hangs 222 = .ok (.if_icmp .gt 37, 3) := by decide +kernel
theorem dL_hangs_225 : decode cL_hangs 225 = .ok (.iload 6, 2) := by decide +kernel
theorem dL_hangs_227 : decode cL_hangs 227 = .ok (.ifCond .eq 14, 3) := by decide +kernel
theorem dL_hangs_230 : decode cL_hangs 230 = .ok (.aload_n 0, 1) := by decide +kernel
theorem dL_hangs_231 : decode cL_hangs 231 = .ok (.iload 4, 2) := by decide +kernel
theorem dL_hangs_233 : decode cL_hangs 233 = .ok (.bipush 6, 2) := by decide +kernel
theorem dL_hangs_235 : decode cL_hangs 235 = .ok (.invokevirtual 49, 3) := by decide +kernel
theorem dL_hangs_238 : decode cL_hangs 238 = .ok (.ifCond .eq 21, 3) := by decide +kernel
theorem dL_hangs_241 : decode cL_hangs 241 = .ok (.aload_n 0, 1) := by decide +kernel
theorem dL_hangs_242 : decode cL_hangs 242 = .ok (.iload 4, 2) := by decide +kernel
theorem dL_hangs_244 : decode cL_hangs 244 = .ok (.iconst 5, 1) := by decide +kernel
theorem dL_hangs_245 : decode cL_hangs 245 = .ok (.invokevirtual 49, 3) := by decide +kernel
theorem dL_hangs_248 : decode cL_hangs 248 = .ok (.bipush 30, 2) := by decide +kernel
theorem dL_hangs_250 : decode cL_hangs 250 = .ok (.aload_n 0, 1) := by decide +kernel
theorem dL_hangs_251 : decode cL_hangs 251 = .ok (.iconst 0, 1) := by decide +kernel
theorem dL_hangs_252 : decode cL_hangs 252 = .ok (.invokevirtual 46, 3) := by decide +kernel
theorem dL_hangs_255 : decode cL_hangs 255 = .ok (.imul, 1) := by decide +kernel
theorem dL_hangs_256 : decode cL_hangs 256 = .ok (.if_icmp .le 5, 3) := by decide +kernel
theorem dL_hangs_259 : decode cL_hangs 259 = .ok (.iconst 0, 1) := by decide +kernel
theorem dL_hangs_260 : decode cL_hangs 260 = .ok (.ireturn, 1) := by decide +kernel
theorem dL_hangs_261 : decode cL_hangs 261 = .ok (.iinc 4 1, 3) := by decide +kernel
theorem dL_hangs_264 : decode cL_hangs 264 = .ok (.goto (-255), 3) := by decide +kernel
theorem dL_hangs_267 : decode cL_hangs 267 = .ok (.aload_n 0, 1) := by decide +kernel
theorem dL_hangs_268 : decode cL_hangs 268 = .ok (.iconst 5, 1) := by decide +kernel
theorem dL_hangs_269 : decode cL_hangs 269 = .ok (.invokevirtual 46, 3) := by decide +kernel
theorem dL_hangs_272 : decode cL_hangs 272 = .ok (.iload_n 1, 1) := by decide +kernel
theorem dL_hangs_273 : decode cL_hangs 273 = .ok (.if_icmp .ne 44, 3) := by decide +kernel
theorem dL_hangs_276 : decode cL_hangs 276 = .ok (.aload_n 0, 1) := by decide +kernel
theorem dL_hangs_277 : decode cL_hangs 277 = .ok (.bipush 6, 2) := by decide +kernel
theorem dL_hangs_279 : decode cL_hangs 279 = .ok (.invokevirtual 46, 3) := by decide +kernel
theorem dL_hangs_282 : decode cL_hangs 282 = .ok (.iload_n 2, 1) := by decide +kernel
theorem dL_hangs_283 : decode cL_hangs 283 = .ok (.if_icmp .ne 34, 3) := by decide +kernel
theorem dL_hangs_286 : decode cL_hangs 286 = .ok (.aload_n 0, 1) := by decide +kernel
theorem dL_hangs_287 : decode cL_hangs 287 = .ok (.bipush 7, 2) := by decide +kernel
theorem dL_hangs_289 : decode cL_hangs 289 = .ok (.invokevirtual 46, 3) := by decide +kernel
theorem dL_hangs_292 : decode cL_hangs 292 = .ok (.iload_n 3, 1) := by decide +kernel
theorem dL_hangs_293 : decode cL_hangs 293 = .ok (.if_icmp .ne 24, 3) := by decide +kernel
theorem dL_hangs_296 : decode cL_hangs 296 = .ok (.aload_n 0, 1) := by decide +kernel
theorem dL_hangs_297 : decode cL_hangs 297 = .ok (.iconst 4, 1) := by decide +kernel
theorem dL_hangs_298 : decode cL_hangs 298 = .ok (.invokevirtual 46, 3) := by decide +kernel
theorem dL_hangs_301 : decode cL_hangs 301 = .ok (.bipush 7, 2) := by decide +kernel
theorem dL_hangs_303 : decode cL_hangs 303 = .ok (.if_icmp .ge 14, 3) := by decide +kernel
theorem dL_hangs_306 : decode cL_hangs 306 = .ok (.aload_n 0, 1) := by decide +kernel
theorem dL_hangs_307 : decode cL_hangs 307 = .ok (.invokestatic 56, 3) := by decide +kernel
theorem dL_hangs_310 : decode cL_hangs 310 = .ok (.ifCond .eq 7, 3) := by decide +kernel
theorem dL_hangs_313 : decode cL_hangs 313 = .ok (.iconst 1, 1) := by decide +kernel
theorem dL_hangs_314 : decode cL_hangs 314 = .ok (.goto 4, 3) := by decide +kernel
theorem dL_hangs_317 : decode cL_hangs 317 = .ok (.iconst 0, 1) := by decide +kernel
theorem dL_hangs_318 : decode cL_hangs 318 = .ok (.ireturn, 1) := by decide +kernel
theorem dL_print_0 : decode cL_print 0 = .ok (.ldc2_w 60, 3) := by decide +kernel
theorem dL_print_3 : decode cL_print 3 = .ok (.lstore_n 1, 1) := by decide +kernel
theorem dL_print_4 : decode cL_print 4 = .ok (.iconst 0, 1) := by decide +kernel
theorem dL_print_5 : decode cL_print 5 = .ok (.istore_n 3, 1) := by decide +kernel
theorem dL_print_6 : decode cL_print 6 = .ok (.iload_n 3, 1) := by decide +kernel
theorem dL_print_7 : decode cL_print 7 = .ok (.bipush 12, 2) := by decide +kernel
theorem dL_print_9 : decode cL_print 9 = .ok (.if_icmp .ge 22, 3) := by decide +kernel
theorem dL_print_12 : decode cL_print 12 = .ok (.ldc2_w 62, 3) := by decide +kernel
theorem dL_print_15 : decode cL_print 15 = .ok (.lload_n 1, 1) := by decide +kernel
theorem dL_print_16 : decode cL_print 16 = .ok (.lmul, 1) := by decide +kernel
theorem dL_print_17 : decode cL_print 17 = .ok (.aload_n 0, 1) := by decide +kernel
theorem dL_print_18 : decode cL_print 18 = .ok (.iload_n 3, 1) := by decide +kernel
theorem dL_print_19 : decode cL_print 19 = .ok (.invokevirtual 46, 3) := by decide +kernel
theorem dL_print_22 : decode cL_print 22 = .ok (.i2l, 1) := by decide +kernel
theorem dL_print_23 : decode cL_print 23 = .ok (.ladd, 1) := by decide +kernel
theorem dL_print_24 : decode cL_print 24 = .ok (.lstore_n 1, 1) := by decide +kernel
theorem dL_print_25 : decode cL_print 25 = .ok (.iinc 3 1, 3) := by decide +kernel
theorem dL_print_28 : decode cL_print 28 = .ok (.goto (-22), 3) := by decide +kernel
theorem dL_print_31 : decode cL_print 31 = .ok (.iconst 0, 1) := by decide +kernel
theorem dL_print_32 : decode cL_print 32 = .ok (.istore_n 3, 1) := by decide +kernel
theorem dL_print_33 : decode cL_print 33 = .ok (.iload_n 3, 1) := by decide +kernel
theorem dL_print_34 : decode cL_print 34 = .ok (.sipush 200, 3) := by decide +kernel
theorem dL_print_37 : decode cL_print 37 = .ok (.if_icmp .ge 27, 3) := by decide +kernel
theorem dL_print_40 : decode cL_print 40 = .ok (.ldc2_w 62, 3) := by decide +kernel
theorem dL_print_43 : decode cL_print 43 = .ok (.lload_n 1, 1) := by decide +kernel
theorem dL_print_44 : decode cL_print 44 = .ok (.lmul, 1) := by decide +kernel
theorem dL_print_45 : decode cL_print 45 = .ok (.aload_n 0, 1) := by decide +kernel
theorem dL_print_46 : decode cL_print 46 = .ok (.iload_n 3, 1) := by decide +kernel
theorem dL_print_47 : decode cL_print 47 = .ok (.iconst 5, 1) := by decide +kernel
theorem dL_print_48 : decode cL_print 48 = .ok (.idiv, 1) := by decide +kernel
theorem dL_print_49 : decode cL_print 49 = .ok (.iload_n 3, 1) := by decide +kernel
theorem dL_print_50 : decode cL_print 50 = .ok (.iconst 5, 1) := by decide +kernel
theorem dL_print_51 : decode cL_print 51 = .ok (.irem, 1) := by decide +kernel
theorem dL_print_52 : decode cL_print 52 = .ok (.invokevirtual 43, 3) := by decide +kernel
theorem dL_print_55 : decode cL_print 55 = .ok (.i2l, 1) := by decide +kernel
theorem dL_print_56 : decode cL_print 56 = .ok (.ladd, 1) := by decide +kernel
theorem dL_print_57 : decode cL_print 57 = .ok (.lstore_n 1, 1) := by decide +kernel
theorem dL_print_58 : decode cL_print 58 = .ok (.iinc 3 1, 3) := by decide +kernel
theorem dL_print_61 : decode cL_print 61 = .ok (.goto (-28), 3) := by decide +kernel
theorem dL_print_64 : decode cL_print 64 = .ok (.iconst 0, 1) := by decide +kernel
theorem dL_print_65 : decode cL_print 65 = .ok (.istore_n 3, 1) := by decide +kernel
theorem dL_print_66 : decode cL_print 66 = .ok (.iload_n 3, 1) := by decide +kernel
theorem dL_print_67 : decode cL_print 67 = .ok (.bipush 7, 2) := by decide +kernel
theorem dL_print_69 : decode cL_print 69 = .ok (.aload_n 0, 1) := by decide +kernel
theorem dL_print_70 : decode cL_print 70 = .ok (.iconst 4, 1) := by decide +kernel
theorem dL_print_71 : decode cL_print 71 = .ok (.invokevirtual 46, 3) := by decide +kernel
theorem dL_print_74 : decode cL_print 74 = .ok (.imul, 1) := by decide +kernel
theorem dL_print_75 : decode cL_print 75 = .ok (.if_icmp .ge 29, 3) := by decide +kernel
theorem dL_print_78 : decode cL_print 78 = .ok (.ldc2_w 62, 3) := by decide +kernel
theorem dL_print_81 : decode cL_print 81 = .ok (.lload_n 1, 1) := by decide +kernel
theorem dL_print_82 : decode cL_print 82 = .ok (.lmul, 1) := by decide +kernel
theorem dL_print_83 : decode cL_print 83 = .ok (.aload_n 0, 1) := by decide +kernel
theorem dL_print_84 : decode cL_print 84 = .ok (.iload_n 3, 1) := by decide +kernel
theorem dL_print_85 : decode cL_print 85 = .ok (.bipush 7, 2) := by decide +kernel
theorem dL_print_87 : decode cL_print 87 = .ok (.idiv, 1) := by decide +kernel
theorem dL_print_88 : decode cL_print 88 = .ok (.iload_n 3, 1) := by decide +kernel
theorem dL_print_89 : decode cL_print 89 = .ok (.bipush 7, 2) := by decide +kernel
theorem dL_print_91 : decode cL_print 91 = .ok (.irem, 1) := by decide +kernel
theorem dL_print_92 : decode cL_print 92 = .ok (.invokevirtual 49, 3) := by decide +kernel
theorem dL_print_95 : decode cL_print 95 = .ok (.i2l, 1) := by decide +kernel
theorem dL_print_96 : decode cL_print 96 = .ok (.ladd, 1) := by decide +kernel
theorem dL_print_97 : decode cL_print 97 = .ok (.lstore_n 1, 1) := by decide +kernel
theorem dL_print_98 : decode cL_print 98 = .ok (.iinc 3 1, 3) := by decide +kernel
theorem dL_print_101 : decode cL_print 101 = .ok (.goto (-35), 3) := by decide +kernel
theorem dL_print_104 : decode cL_print 104 = .ok (.lload_n 1, 1) := by decide +kernel
theorem dL_print_105 : decode cL_print 105 = .ok (.lreturn, 1) := by decide +kernel
theorem dL_comes_0 : decode cL_comes 0 = .ok (.aload_n 0, 1) := by decide +kernel
theorem dL_comes_1 : decode cL_comes 1 = .ok (.invokestatic 64, 3) := by decide +kernel
theorem dL_comes_4 : decode cL_comes 4 = .ok (.lstore_n 2, 1) := by decide +kernel
theorem dL_comes_5 : decode cL_comes 5 = .ok (.aload_n 0, 1) := by decide +kernel
theorem dL_comes_6 : decode cL_comes 6 = .ok (.iload_n 1, 1) := by decide +kernel
theorem dL_comes_7 : decode cL_comes 7 = .ok (.invokevirtual 68, 3) := by decide +kernel
theorem dL_comes_10 : decode cL_comes 10 = .ok (.istore 4, 2) := by decide +kernel
theorem dL_comes_12 : decode cL_comes 12 = .ok (.iload 4, 2) := by decide +kernel
theorem dL_comes_14 : decode cL_comes 14 = .ok (.ifCond .ge 8, 3) := by decide +kernel
theorem dL_comes_17 : decode cL_comes 17 = .ok (.bipush 40, 2) := by decide +kernel
theorem dL_comes_19 : decode cL_comes 19 = .ok (.goto 5, 3) := by decide +kernel
theorem dL_comes_22 : decode cL_comes 22 = .ok (.iload 4, 2) := by decide +kernel
theorem dL_comes_24 : decode cL_comes 24 = .ok (.istore 5, 2) := by decide +kernel
theorem dL_comes_26 : decode cL_comes 26 = .ok (.aload_n 0, 1) := by decide +kernel
theorem dL_comes_27 : decode cL_comes 27 = .ok (.bipush 9, 2) := by decide +kernel
theorem dL_comes_29 : decode cL_comes 29 = .ok (.invokevirtual 46, 3) := by decide +kernel
theorem dL_comes_32 : decode cL_comes 32 = .ok (.iload_n 1, 1) := by decide +kernel
theorem dL_comes_33 : decode cL_comes 33 = .ok (.iadd, 1) := by decide +kernel
theorem dL_comes_34 : decode cL_comes 34 = .ok (.aload_n 0, 1) := by decide +kernel
theorem dL_comes_35 : decode cL_comes 35 = .ok (.iconst 1, 1) := by decide +kernel
theorem dL_comes_36 : decode cL_comes 36 = .ok (.invokevirtual 46, 3) := by decide +kernel
theorem dL_comes_39 : decode cL_comes 39 = .ok (.isub, 1) := by decide +kernel
theorem dL_comes_40 : decode cL_comes 40 = .ok (.istore 6, 2) := by decide +kernel
theorem dL_comes_42 : decode cL_comes 42 = .ok (.iload 6, 2) := by decide +kernel
theorem dL_comes_44 : decode cL_comes 44 = .ok (.istore 7, 2) := by decide +kernel
theorem dL_comes_46 : decode cL_comes 46 = .ok (.iconst 0, 1) := by decide +kernel
theorem dL_comes_47 : decode cL_comes 47 = .ok (.istore 8, 2) := by decide +kernel
theorem dL_comes_49 : decode cL_comes 49 = .ok (.iconst 0, 1) := by decide +kernel
theorem dL_comes_50 : decode cL_comes 50 = .ok (.istore 9, 2) := by decide +kernel
theorem dL_comes_52 : decode cL_comes 52 = .ok (.iload 9, 2) := by decide +kernel
theorem dL_comes_54 : decode cL_comes 54 = .ok (.bipush 40, 2) := by decide +kernel
theorem dL_comes_56 : decode cL_comes 56 = .ok (.if_icmp .ge 289, 3) := by decide +kernel
theorem dL_comes_59 : decode cL_comes 59 = .ok (.aload_n 0, 1) := by decide +kernel
theorem dL_comes_60 : decode cL_comes 60 = .ok (.iload 9, 2) := by decide +kernel
theorem dL_comes_62 : decode cL_comes 62 = .ok (.iload_n 1, 1) := by decide +kernel
theorem dL_comes_63 : decode cL_comes 63 = .ok (.invokevirtual 71, 3) := by decide +kernel
theorem dL_comes_66 : decode cL_comes 66 = .ok (.istore 10, 2) := by decide +kernel
theorem dL_comes_68 : decode cL_comes 68 = .ok (.iload 7, 2) := by decide +kernel
theorem dL_comes_70 : decode cL_comes 70 = .ok (.aload_n 0, 1) := by decide +kernel
theorem dL_comes_71 : decode cL_comes 71 = .ok (.iload 9, 2) := by decide +kernel
theorem dL_comes_73 : decode cL_comes 73 = .ok (.iconst 0, 1) := by decide +kernel
theorem dL_comes_74 : decode cL_comes 74 = .ok (.invokevirtual 43, 3) := by decide +kernel
theorem dL_comes_77 : decode cL_comes 77 = .ok (.if_icmp .ge 8, 3) := by decide +kernel
theorem dL_comes_80 : decode cL_comes 80 = .ok (.iload 7, 2) := by decide +kernel
theorem dL_comes_82 : decode cL_comes 82 = .ok (.goto 10, 3) := by decide +kernel
theorem dL_comes_85 : decode cL_comes 85 = .ok (.aload_n 0, 1) := by decide +kernel
theorem dL_comes_86 : decode cL_comes 86 = .ok (.iload 9, 2) := by decide +kernel
theorem dL_comes_88 : decode cL_comes 88 = .ok (.iconst 0, 1) := by decide +kernel
theorem dL_comes_89 : decode cL_comes 89 = .ok (.invokevirtual 43, 3) := by decide +kernel
theorem dL_comes_92 : decode cL_comes 92 = .ok (.istore 11, 2) := by decide +kernel
theorem dL_comes_94 : decode cL_comes 94 = .ok (.aload_n 0, 1) := by decide +kernel
theorem dL_comes_95 : decode cL_comes 95 = .ok (.iload 9, 2) := by decide +kernel
theorem dL_comes_97 : decode cL_comes 97 = .ok (.iload_n 1, 1) := by decide +kernel
theorem dL_comes_98 : decode cL_comes 98 = .ok (.invokevirtual 74, 3) := by decide +kernel
theorem dL_comes_101 : decode cL_comes 101 = .ok (.istore 12, 2) := by decide +kernel
theorem dL_comes_103 : decode cL_comes 103 = .ok (.iload 10, 2) := by decide +kernel
theorem dL_comes_105 : decode cL_comes 105 = .ok (.iload 9, 2) := by decide +kernel
theorem dL_comes_107 : decode cL_comes 107 = .ok (.iload 5, 2) := by decide +kernel
theorem dL_comes_109 : decode cL_comes 109 = .ok (.if_icmp .ge 8, 3) := by decide +kernel
theorem dL_comes_112 : decode cL_comes 112 = .ok (.iload 11, 2) := by decide +kernel
theorem dL_comes_114 : decode cL_comes 114 = .ok (.goto 4, 3) := by decide +kernel
theorem dL_comes_117 : decode cL_comes 117 = .ok (.iconst 0, 1) := by decide +kernel
theorem dL_comes_118 : decode cL_comes 118 = .ok (.if_icmp .ne 127, 3) := by decide +kernel
theorem dL_comes_121 : decode cL_comes 121 = .ok (.iload 9, 2) := by decide +kernel
theorem dL_comes_123 : decode cL_comes 123 = .ok (.iload 5, 2) := by decide +kernel
theorem dL_comes_125 : decode cL_comes 125 = .ok (.if_icmp .ge 26, 3) := by decide +kernel
theorem dL_comes_128 : decode cL_comes 128 = .ok (.iload 7, 2) := by decide +kernel
theorem dL_comes_130 : decode cL_comes 130 = .ok (.aload_n 0, 1) := by decide +kernel
theorem dL_comes_131 : decode cL_comes 131 = .ok (.iload 9, 2) := by decide +kernel
theorem dL_comes_133 : decode cL_comes 133 = .ok (.iconst 1, 1) := by decide +kernel
theorem dL_comes_134 : decode cL_comes 134 = .ok (.invokevirtual 43, 3) := by decide +kernel
theorem dL_comes_137 : decode cL_comes 137 = .ok (.if_icmp .le 108, 3) := by decide +kernel
theorem dL_comes_140 : decode cL_comes 140 = .ok (.iload 12, 2) := by decide +kernel
theorem dL_comes_142 : decode cL_comes 142 = .ok (.ifCond .ne 103, 3) := by decide +kernel
theorem dL_comes_145 : decode cL_comes 145 = .ok (.iload 10, 2) := by decide +kernel
theorem dL_comes_147 : decode cL_comes 147 = .ok (.iconst 1, 1) := by decide +kernel
theorem dL_comes_148 : decode cL_comes 148 = .ok (.if_icmp .lt 97, 3) := by decide +kernel
theorem dL_comes_151 : decode cL_comes 151 = .ok (.iload 9, 2) := by decide +kernel
theorem dL_comes_153 : decode cL_comes 153 = .ok (.iload 5, 2) := by decide +kernel
theorem dL_comes_155 : decode cL_comes 155 = .ok (.if_icmp .ne 15, 3) := by decide +kernel
theorem dL_comes_158 : decode cL_comes 158 = .ok (.iload 7, 2) := by decide +kernel
theorem dL_comes_160 : decode cL_comes 160 = .ok (.aload_n 0, 1) := by decide +kernel
theorem dL_comes_161 : decode cL_comes 161 = .ok (.iload 9, 2) := by decide +kernel
theorem dL_comes_163 : decode cL_comes 163 = .ok (.iconst 1, 1) := by decide +kernel
theorem dL_comes_164 : decode cL_comes 164 = .ok (.invokevirtual 43, 3) := by decide +kernel
theorem dL_comes_167 : decode cL_comes 167 = .ok (.if_icmp .gt 78, 3) := by decide +kernel
theorem dL_comes_170 : decode cL_comes 170 = .ok (.iload 9, 2) := by decide +kernel
theorem dL_comes_172 : decode cL_comes 172 = .ok (.iload 5, 2) := by decide +kernel
theorem dL_comes_174 : decode cL_comes 174 = .ok (.if_icmp .lt 24, 3) := by decide +kernel
theorem dL_comes_177 : decode cL_comes 177 = .ok (.iload 12, 2) := by decide +kernel
theorem dL_comes_179 : decode cL_comes 179 = .ok (.iload 6, 2) := by decide +kernel
theorem dL_comes_181 : decode cL_comes 181 = .ok (.ifCond .gt 7, 3) := by decide +kernel
theorem dL_comes_184 : decode cL_comes 184 = .ok (.iconst 1, 1) := by decide +kernel
theorem dL_comes_185 : decode cL_comes 185 = .ok (.goto 10, 3) := by decide +kernel
theorem dL_comes_188 : decode cL_comes 188 = .ok (.aload_n 0, 1) := by decide +kernel
theorem dL_comes_189 : decode cL_comes 189 = .ok (.iload 5, 2) := by decide +kernel
theorem dL_comes_191 : decode cL_comes 191 = .ok (.iload_n 1, 1) := by decide +kernel
theorem dL_comes_192 : decode cL_comes 192 = .ok (.invokevirtual 74, 3) := by decide +kernel
theorem dL_comes_195 : decode cL_comes 195 = .ok (.if_icmp .ne 50, 3) := by decide +kernel
theorem dL_comes_198 : decode cL_comes 198 = .ok (.iload 9, 2) := by decide +kernel
theorem dL_comes_200 : decode cL_comes 200 = .ok (.iload 5, 2) := by decide +kernel
theorem dL_comes_202 : decode cL_comes 202 = .ok (.if_icmp .ne 32, 3) := by decide +kernel
theorem dL_comes_205 : decode cL_comes 205 = .ok (.iload 6, 2) := by decide +kernel
theorem dL_comes_207 : decode cL_comes 207 = .ok (.ifCond .le 27, 3) := by decide +kernel
theorem dL_comes_210 : decode cL_comes 210 = .ok (.iload 12, 2) := by decide +kernel
theorem dL_comes_212 : decode cL_comes 212 = .ok (.iconst 2, 1) := by decide +kernel
theorem dL_comes_213 : decode cL_comes 213 = .ok (.if_icmp .ne 7, 3) := by decide +kernel
theorem dL_comes_216 : decode cL_comes 216 = .ok (.iconst 1, 1) := by decide +kernel
theorem dL_comes_217 : decode cL_comes 217 = .ok (.goto 4, 3) := by decide +kernel
theorem dL_comes_220 : decode cL_comes 220 = .ok (.iconst 0, 1) := by decide +kernel
theorem dL_comes_221 : decode cL_comes 221 = .ok (.iload 7, 2) := by decide +kernel
theorem dL_comes_223 : decode cL_comes 223 = .ok (.ifCond .le 7, 3) := by decide +kernel
theorem dL_comes_226 : decode cL_comes 226 = .ok (.iconst 1, 1) := by decide +kernel
theorem dL_comes_227 : decode cL_comes 227 = .ok (.goto 4, 3) := by decide +kernel
theorem dL_comes_230 : decode cL_comes 230 = .ok (.iconst 0, 1) := by decide +kernel
theorem dL_comes_231 : decode cL_comes 231 = .ok (.if_icmp .ne 14, 3) := by decide +kernel
theorem dL_comes_234 : decode cL_comes 234 = .ok (.iload 12, 2) := by decide +kernel
theorem dL_comes_236 : decode cL_comes 236 = .ok (.ifCond .lt 9, 3) := by decide +kernel
theorem dL_comes_239 : decode cL_comes 239 = .ok (.iload 12, 2) := by decide +kernel
theorem dL_comes_241 : decode cL_comes 241 = .ok (.iconst 3, 1) := by decide +kernel
theorem dL_comes_242 : decode cL_comes 242 = .ok (.if_icmp .le 5, 3) := by decide +kernel
theorem dL_comes_245 : decode cL_comes 245 = .ok (.iconst 0, 1) := by decide +kernel
theorem dL_comes_246 : decode cL_comes 246 = .ok (.ireturn, 1) := by decide +kernel
theorem dL_comes_247 : decode cL_comes 247 = .ok (.iload 9, 2) := by decide +kernel
theorem dL_comes_249 : decode cL_comes 249 = .ok (.iload 5, 2) := by decide +kernel
theorem dL_comes_251 : decode cL_comes 251 = .ok (.if_icmp .ge 15, 3) := by decide +kernel
theorem dL_comes_254 : decode cL_comes 254 = .ok (.iload 10, 2) := by decide +kernel
theorem dL_comes_256 : decode cL_comes 256 = .ok (.aload_n 0, 1) := by decide +kernel
theorem dL_comes_257 : decode cL_comes 257 = .ok (.bipush 10, 2) := by decide +kernel
theorem dL_comes_259 : decode cL_comes 259 = .ok (.invokevirtual 46, 3) := by decide +kernel
theorem dL_comes_262 : decode cL_comes 262 = .ok (.isub, 1) := by decide +kernel
theorem dL_comes_263 : decode cL_comes 263 = .ok (.goto 5, 3) := by decide +kernel
theorem dL_comes_266 : decode cL_comes 266 = .ok (.iload 7, 2) := by decide +kernel
theorem dL_comes_268 : decode cL_comes 268 = .ok (.istore 7, 2) := by decide +kernel
theorem dL_comes_270 : decode cL_comes 270 = .ok (.iload 10, 2) := by decide +kernel
theorem dL_comes_272 : decode cL_comes 272 = .ok (.aload_n 0, 1) := by decide +kernel
theorem dL_comes_273 : decode cL_comes 273 = .ok (.iload 9, 2) := by decide +kernel
theorem dL_comes_275 : decode cL_comes 275 = .ok (.iconst 2, 1) := by decide +kernel
theorem dL_comes_276 : decode cL_comes 276 = .ok (.invokevirtual 43, 3) := by decide +kernel
theorem dL_comes_279 : decode cL_comes 279 = .ok (.isub, 1) := by decide +kernel
theorem dL_comes_280 : decode cL_comes 280 = .ok (.istore 13, 2) := by decide +kernel
theorem dL_comes_282 : decode cL_comes 282 = .ok (.iload 8, 2) := by decide +kernel
theorem dL_comes_284 : decode cL_comes 284 = .ok (.aload_n 0, 1) := by decide +kernel
theorem dL_comes_285 : decode cL_comes 285 = .ok (.iload 9, 2) := by decide +kernel
theorem dL_comes_287 : decode cL_comes 287 = .ok (.iconst 2, 1) := by decide +kernel
theorem dL_comes_288 : decode cL_comes 288 = .ok (.invokevirtual 43, 3) := by decide +kernel
theorem dL_comes_291 : decode cL_comes 291 = .ok (.iload 13, 2) := by decide +kernel
theorem dL_comes_293 : decode cL_comes 293 = .ok (.aload_n 0, 1) := by decide +kernel
theorem dL_comes_294 : decode cL_comes 294 = .ok (.bipush 11, 2) := by decide +kernel
theorem dL_comes_296 : decode cL_comes 296 = .ok (.invokevirtual 46, 3) := by decide +kernel
theorem dL_comes_299 : decode cL_comes 299 = .ok (.if_icmp .le 12, 3) := by decide +kernel
theorem dL_comes_302 : decode cL_comes 302 = .ok (.aload_n 0, 1) := by decide +kernel
theorem dL_comes_303 : decode cL_comes 303 = .ok (.bipush 11, 2) := by decide +kernel
theorem dL_comes_305 : decode cL_comes 305 = .ok (.invokevirtual 46, 3) := by decide +kernel
theorem dL_comes_308 : decode cL_comes 308 = .ok (.goto 27, 3) := by decide +kernel
theorem dL_comes_311 : decode cL_comes 311 = .ok (.iload 13, 2) := by decide +kernel
theorem dL_comes_313 : decode cL_comes 313 = .ok (.aload_n 0, 1) := by decide +kernel
theorem dL_comes_314 : decode cL_comes 314 = .ok (.bipush 11, 2) := by decide +kernel
theorem dL_comes_316 : decode cL_comes 316 = .ok (.invokevirtual 46, 3) := by decide +kernel
theorem dL_comes_319 : decode cL_comes 319 = .ok (.ineg, 1) := by decide +kernel
theorem dL_comes_320 : decode cL_comes 320 = .ok (.if_icmp .ge 13, 3) := by decide +kernel
theorem dL_comes_323 : decode cL_comes 323 = .ok (.aload_n 0, 1) := by decide +kernel
theorem dL_comes_324 : decode cL_comes 324 = .ok (.bipush 11, 2) := by decide +kernel
theorem dL_comes_326 : decode cL_comes 326 = .ok (.invokevirtual 46, 3) := by decide +kernel
theorem dL_comes_329 : decode cL_comes 329 = .ok (.ineg, 1) := by decide +kernel
theorem dL_comes_330 : decode cL_comes 330 = .ok (.goto 5, 3) := by decide +kernel
theorem dL_comes_333 : decode cL_comes 333 = .ok (.iload 13, 2) := by decide +kernel
theorem dL_comes_335 : decode cL_comes 335 = .ok (.iadd, 1) := by decide +kernel
theorem dL_comes_336 : decode cL_comes 336 = .ok (.iadd, 1) := by decide +kernel
theorem dL_comes_337 : decode cL_comes 337 = .ok (.istore 8, 2) := by decide +kernel
theorem dL_comes_339 : decode cL_comes 339 = .ok (.iinc 9 1, 3) := by decide +kernel
theorem dL_comes_342 : decode cL_comes 342 = .ok (.goto (-290), 3) := by decide +kernel
theorem dL_comes_345 : decode cL_comes 345 = .ok (.aload_n 0, 1) := by decide +kernel
theorem dL_comes_346 : decode cL_comes 346 = .ok (.iload_n 1, 1) := by decide +kernel
theorem dL_comes_347 : decode cL_comes 347 = .ok (.iconst 1, 1) := by decide +kernel
theorem dL_comes_348 : decode cL_comes 348 = .ok (.invokevirtual 40, 3) := by decide +kernel
theorem dL_comes_351 : decode cL_comes 351 = .ok (.istore 9, 2) := by decide +kernel
theorem dL_comes_353 : decode cL_comes 353 = .ok (.iload 9, 2) := by decide +kernel
theorem dL_comes_355 : decode cL_comes 355 = .ok (.aload_n 0, 1) := by decide +kernel
theorem dL_comes_356 : decode cL_comes 356 = .ok (.iconst 2, 1) := by decide +kernel
theorem dL_comes_357 : decode cL_comes 357 = .ok (.invokevirtual 46, 3) := by decide +kernel
theorem dL_comes_360 : decode cL_comes 360 = .ok (.if_icmp .ne 20, 3) := by decide +kernel
theorem dL_comes_363 : decode cL_comes 363 = .ok (.aload_n 0, 1) := by decide +kernel
theorem dL_comes_364 : decode cL_comes 364 = .ok (.iconst 3, 1) := by decide +kernel
theorem dL_comes_365 : decode cL_comes 365 = .ok (.invokevirtual 46, 3) := by decide +kernel
theorem dL_comes_368 : decode cL_comes 368 = .ok (.iload 8, 2) := by decide +kernel
theorem dL_comes_370 : decode cL_comes 370 = .ok (.if_icmp .ne 10, 3) := by decide +kernel
theorem dL_comes_373 : decode cL_comes 373 = .ok (.aload_n 0, 1) := by decide +kernel
theorem dL_comes_374 : decode cL_comes 374 = .ok (.invokestatic 77, 3) := by decide +kernel
theorem dL_comes_377 : decode cL_comes 377 = .ok (.ifCond .ne 10, 3) := by decide +kernel
theorem dL_comes_380 : decode cL_comes 380 = .ok (.iload 9, 2) := by decide +kernel
theorem dL_comes_382 : decode cL_comes 382 = .ok (.bipush (-3), 2) := by decide +kernel
theorem dL_comes_384 : decode cL_comes 384 = .ok (.if_icmp .ne 28, 3) := by decide +kernel
theorem dL_comes_387 : decode cL_comes 387 = .ok (.iload 9, 2) := by decide +kernel
theorem dL_comes_389 : decode cL_comes 389 = .ok (.ifCond .lt 10, 3) := by decide +kernel
theorem dL_comes_392 : decode cL_comes 392 = .ok (.aload_n 0, 1) := by decide +kernel
theorem dL_comes_393 : decode cL_comes 393 = .ok (.invokevirtual 80, 3) := by decide +kernel
theorem dL_comes_396 : decode cL_comes 396 = .ok (.ifCond .lt 16, 3) := by decide +kernel
theorem dL_comes_399 : decode cL_comes 399 = .ok (.aload_n 0, 1) := by decide +kernel
theorem dL_comes_400 : decode cL_comes 400 = .ok (.invokestatic 64, 3) := by decide +kernel
theorem dL_comes_403 : decode cL_comes 403 = .ok (.lload_n 2, 1) := by decide +kernel
theorem dL_comes_404 : decode cL_comes 404 = .ok (.lcmp, 1) := by decide +kernel
theorem dL_comes_405 : decode cL_comes 405 = .ok (.ifCond .ne 7, 3) := by decide +kernel
theorem dL_comes_408 : decode cL_comes 408 = .ok (.iconst 1, 1) := by decide +kernel
theorem dL_comes_409 : decode cL_comes 409 = .ok (.goto 4, 3) := by decide +kernel
theorem dL_comes_412 : decode cL_comes 412 = .ok (.iconst 0, 1) := by decide +kernel
theorem dL_comes_413 : decode cL_comes 413 = .ok (.ireturn, 1) := by decide +kernel
theorem dL_keeps_0 : decode cL_keeps 0 = .ok (.aload_n 0, 1) := by decide +kernel
theorem dL_keeps_1 : decode cL_keeps 1 = .ok (.invokestatic 64, 3) := by decide +kernel
theorem dL_keeps_4 : decode cL_keeps 4 = .ok (.lstore 4, 2) := by decide +kernel
theorem dL_keeps_6 : decode cL_keeps 6 = .ok (.aload_n 0, 1) := by decide +kernel
theorem dL_keeps_7 : decode cL_keeps 7 = .ok (.iload_n 1, 1) := by decide +kernel
theorem dL_keeps_8 : decode cL_keeps 8 = .ok (.iload_n 2, 1) := by decide +kernel
theorem dL_keeps_9 : decode cL_keeps 9 = .ok (.invokevirtual 83, 3) := by decide +kernel
theorem dL_keeps_12 : decode cL_keeps 12 = .ok (.istore 6, 2) := by decide +kernel
theorem dL_keeps_14 : decode cL_keeps 14 = .ok (.aload_n 0, 1) := by decide +kernel
theorem dL_keeps_15 : decode cL_keeps 15 = .ok (.iload_n 3, 1) := by decide +kernel
theorem dL_keeps_16 : decode cL_keeps 16 = .ok (.iload_n 2, 1) := by decide +kernel
theorem dL_keeps_17 : decode cL_keeps 17 = .ok (.invokevirtual 86, 3) := by decide +kernel
theorem dL_keeps_20 : decode cL_keeps 20 = .ok (.istore 7, 2) := by decide +kernel
theorem dL_keeps_22 : decode cL_keeps 22 = .ok (.aload_n 0, 1) := by decide +kernel
theorem dL_keeps_23 : decode cL_keeps 23 = .ok (.iload_n 2, 1) := by decide +kernel
theorem dL_keeps_24 : decode cL_keeps 24 = .ok (.invokevirtual 68, 3) := by decide +kernel
theorem dL_keeps_27 : decode cL_keeps 27 = .ok (.istore 8, 2) := by decide +kernel
theorem dL_keeps_29 : decode cL_keeps 29 = .ok (.aload_n 0, 1) := by decide +kernel
theorem dL_keeps_30 : decode cL_keeps 30 = .ok (.iconst 1, 1) := by decide +kernel
theorem dL_keeps_31 : decode cL_keeps 31 = .ok (.invokevirtual 46, 3) := by decide +kernel
theorem dL_keeps_34 : decode cL_keeps 34 = .ok (.istore 9, 2) := by decide +kernel
theorem dL_keeps_36 : decode cL_keeps 36 = .ok (.iconst 1, 1) := by decide +kernel
theorem dL_keeps_37 : decode cL_keeps 37 = .ok (.istore 10, 2) := by decide +kernel
theorem dL_keeps_39 : decode cL_keeps 39 = .ok (.iconst 0, 1) := by decide +kernel
theorem dL_keeps_40 : decode cL_keeps 40 = .ok (.istore 11, 2) := by decide +kernel
theorem dL_keeps_42 : decode cL_keeps 42 = .ok (.iload 11, 2) := by decide +kernel
theorem dL_keeps_44 : decode cL_keeps 44 = .ok (.iconst 2, 1) := by decide +kernel
theorem dL_keeps_45 : decode cL_keeps 45 = .ok (.if_icmp .ge 126, 3) := by decide +kernel
theorem dL_keeps_48 : decode cL_keeps 48 = .ok (.iload 10, 2) := by decide +kernel
theorem dL_keeps_50 : decode cL_keeps 50 = .ok (.ifCond .eq 121, 3) := by decide +kernel
theorem dL_keeps_53 : decode cL_keeps 53 = .ok (.iload 6, 2) := by decide +kernel
theorem dL_keeps_55 : decode cL_keeps 55 = .ok (.ifCond .ge 8, 3) := by decide +kernel
theorem dL_keeps_58 : decode cL_keeps 58 = .ok (.bipush 99, 2) := by decide +kernel
theorem dL_keeps_60 : decode cL_keeps 60 = .ok (.goto 8, 3) := by decide +kernel
theorem dL_keeps_63 : decode cL_keeps 63 = .ok (.iload 6, 2) := by decide +kernel
theorem dL_keeps_65 : decode cL_keeps 65 = .ok (.iload 11, 2) := by decide +kernel
theorem dL_keeps_67 : decode cL_keeps 67 = .ok (.isub, 1) := by decide +kernel
theorem dL_keeps_68 : decode cL_keeps 68 = .ok (.istore 12, 2) := by decide +kernel
theorem dL_keeps_70 : decode cL_keeps 70 = .ok (.iload 12, 2) := by decide +kernel
theorem dL_keeps_72 : decode cL_keeps 72 = .ok (.ifCond .ge 8, 3) := by decide +kernel
theorem dL_keeps_75 : decode cL_keeps 75 = .ok (.bipush (-5), 2) := by decide +kernel
theorem dL_keeps_77 : decode cL_keeps 77 = .ok (.goto 9, 3) := by decide +kernel
theorem dL_keeps_80 : decode cL_keeps 80 = .ok (.aload_n 0, 1) := by decide +kernel
theorem dL_keeps_81 : decode cL_keeps 81 = .ok (.iload 12, 2) := by decide +kernel
theorem dL_keeps_83 : decode cL_keeps 83 = .ok (.invokevirtual 24, 3) := by decide +kernel
theorem dL_keeps_86 : decode cL_keeps 86 = .ok (.istore 13, 2) := by decide +kernel
theorem dL_keeps_88 : decode cL_keeps 88 = .ok (.iload 12, 2) := by decide +kernel
theorem dL_keeps_90 : decode cL_keeps 90 = .ok (.ifCond .lt 68, 3) := by decide +kernel
theorem dL_keeps_93 : decode cL_keeps 93 = .ok (.iload 13, 2) := by decide +kernel
theorem dL_keeps_95 : decode cL_keeps 95 = .ok (.iload 9, 2) := by decide +kernel
theorem dL_keeps_97 : decode cL_keeps 97 = .ok (.if_icmp .eq 17, 3) := by decide +kernel
theorem dL_keeps_100 : decode cL_keeps 100 = .ok (.iload 13, 2) := by decide +kernel
theorem dL_keeps_102 : decode cL_keeps 102 = .ok (.bipush (-5), 2) := by decide +kernel
theorem dL_keeps_104 : decode cL_keeps 104 = .ok (.if_icmp .ne 58, 3) := by decide +kernel
theorem dL_keeps_107 : decode cL_keeps 107 = .ok (.iload 12, 2) := by decide +kernel
theorem dL_keeps_109 : decode cL_keeps 109 = .ok (.iload 9, 2) := by decide +kernel
theorem dL_keeps_111 : decode cL_keeps 111 = .ok (.if_icmp .ne 51, 3) := by decide +kernel
theorem dL_keeps_114 : decode cL_keeps 114 = .ok (.aload_n 0, 1) := by decide +kernel
theorem dL_keeps_115 : decode cL_keeps 115 = .ok (.iload_n 1, 1) := by decide +kernel
theorem dL_keeps_116 : decode cL_keeps 116 = .ok (.iload_n 2, 1) := by decide +kernel
theorem dL_keeps_117 : decode cL_keeps 117 = .ok (.invokevirtual 71, 3) := by decide +kernel
theorem dL_keeps_120 : decode cL_keeps 120 = .ok (.ifCond .ne 7, 3) := by decide +kernel
theorem dL_keeps_123 : decode cL_keeps 123 = .ok (.iconst 1, 1) := by decide +kernel
theorem dL_keeps_124 : decode cL_keeps 124 = .ok (.goto 4, 3) := by decide +kernel
theorem dL_keeps_127 : decode cL_keeps 127 = .ok (.iconst 0, 1) := by decide +kernel
theorem dL_keeps_128 : decode cL_keeps 128 = .ok (.iload 6, 2) := by decide +kernel
theorem dL_keeps_130 : decode cL_keeps 130 = .ok (.ifCond .lt 12, 3) := by decide +kernel
theorem dL_keeps_133 : decode cL_keeps 133 = .ok (.iload 11, 2) := by decide +kernel
theorem dL_keeps_135 : decode cL_keeps 135 = .ok (.ifCond .ne 7, 3) := by decide +kernel
theorem dL_keeps_138 : decode cL_keeps 138 = .ok (.iconst 1, 1) := by decide +kernel
theorem dL_keeps_139 : decode cL_keeps 139 = .ok (.goto 4, 3) := by decide +kernel
theorem dL_keeps_142 : decode cL_keeps 142 = .ok (.iconst 0, 1) := by decide +kernel
theorem dL_keeps_143 : decode cL_keeps 143 = .ok (.if_icmp .ne 19, 3) := by decide +kernel
theorem dL_keeps_146 : decode cL_keeps 146 = .ok (.iload 13, 2) := by decide +kernel
theorem dL_keeps_148 : decode cL_keeps 148 = .ok (.ifCond .lt 10, 3) := by decide +kernel
theorem dL_keeps_151 : decode cL_keeps 151 = .ok (.aload_n 0, 1) := by decide +kernel
theorem dL_keeps_152 : decode cL_keeps 152 = .ok (.invokevirtual 80, 3) := by decide +kernel
theorem dL_keeps_155 : decode cL_keeps 155 = .ok (.ifCond .lt 7, 3) := by decide +kernel
theorem dL_keeps_158 : decode cL_keeps 158 = .ok (.iconst 1, 1) := by decide +kernel
theorem dL_keeps_159 : decode cL_keeps 159 = .ok (.goto 4, 3) := by decide +kernel
theorem dL_keeps_162 : decode cL_keeps 162 = .ok (.iconst 0, 1) := by decide +kernel
theorem dL_keeps_163 : decode cL_keeps 163 = .ok (.istore 10, 2) := by decide +kernel
theorem dL_keeps_165 : decode cL_keeps 165 = .ok (.iinc 11 1, 3) := by decide +kernel
theorem dL_keeps_168 : decode cL_keeps 168 = .ok (.goto (-126), 3) := by decide +kernel
theorem dL_keeps_171 : decode cL_keeps 171 = .ok (.iload 10, 2) := by decide +kernel
theorem dL_keeps_173 : decode cL_keeps 173 = .ok (.ifCond .eq 66, 3) := by decide +kernel
theorem dL_keeps_176 : decode cL_keeps 176 = .ok (.iload 7, 2) := by decide +kernel
theorem dL_keeps_178 : decode cL_keeps 178 = .ok (.ifCond .lt 61, 3) := by decide +kernel
theorem dL_keeps_181 : decode cL_keeps 181 = .ok (.aload_n 0, 1) := by decide +kernel
theorem dL_keeps_182 : decode cL_keeps 182 = .ok (.iload 7, 2) := by decide +kernel
theorem dL_keeps_184 : decode cL_keeps 184 = .ok (.iload_n 3, 1) := by decide +kernel
theorem dL_keeps_185 : decode cL_keeps 185 = .ok (.invokevirtual 21, 3) := by decide +kernel
theorem dL_keeps_188 : decode cL_keeps 188 = .ok (.istore 11, 2) := by decide +kernel
theorem dL_keeps_190 : decode cL_keeps 190 = .ok (.aload_n 0, 1) := by decide +kernel
theorem dL_keeps_191 : decode cL_keeps 191 = .ok (.iload_n 2, 1) := by decide +kernel
theorem dL_keeps_192 : decode cL_keeps 192 = .ok (.invokevirtual 68, 3) := by decide +kernel
theorem dL_keeps_195 : decode cL_keeps 195 = .ok (.istore 12, 2) := by decide +kernel
theorem dL_keeps_197 : decode cL_keeps 197 = .ok (.iload 11, 2) := by decide +kernel
theorem dL_keeps_199 : decode cL_keeps 199 = .ok (.ifCond .lt 37, 3) := by decide +kernel
theorem dL_keeps_202 : decode cL_keeps 202 = .ok (.iload 11, 2) := by decide +kernel
theorem dL_keeps_204 : decode cL_keeps 204 = .ok (.iload_n 3, 1) := by decide +kernel
theorem dL_keeps_205 : decode cL_keeps 205 = .ok (.if_icmp .ge 31, 3) := by decide +kernel
theorem dL_keeps_208 : decode cL_keeps 208 = .ok (.iload 12, 2) := by decide +kernel
theorem dL_keeps_210 : decode cL_keeps 210 = .ok (.ifCond .lt 26, 3) := by decide +kernel
theorem dL_keeps_213 : decode cL_keeps 213 = .ok (.iload 8, 2) := by decide +kernel
theorem dL_keeps_215 : decode cL_keeps 215 = .ok (.ifCond .lt 10, 3) := by decide +kernel
theorem dL_keeps_218 : decode cL_keeps 218 = .ok (.iload 12, 2) := by decide +kernel
theorem dL_keeps_220 : decode cL_keeps 220 = .ok (.iload 8, 2) := by decide +kernel
theorem dL_keeps_222 : decode cL_keeps 222 = .ok (.if_icmp .ge 14, 3) := by decide +kernel
theorem dL_keeps_225 : decode cL_keeps 225 = .ok (.aload_n 0, 1) := by decide +kernel
theorem dL_keeps_226 : decode cL_keeps 226 = .ok (.invokevirtual 80, 3) := by decide +kernel
theorem dL_keeps_229 : decode cL_keeps 229 = .ok (.ifCond .lt 7, 3) := by decide +kernel
theorem dL_keeps_232 : decode cL_keeps 232 = .ok (.iconst 1, 1) := by decide +kernel
theorem dL_keeps_233 : decode cL_keeps 233 = .ok (.goto 4, 3) := by decide +kernel
theorem dL_keeps_236 : decode cL_keeps 236 = .ok (.iconst 0, 1) := by decide +kernel
theorem dL_keeps_237 : decode cL_keeps 237 = .ok (.istore 10, 2) := by decide +kernel
theorem dL_keeps_239 : decode cL_keeps 239 = .ok (.iload 10, 2) := by decide +kernel
theorem dL_keeps_241 : decode cL_keeps 241 = .ok (.ifCond .eq 17, 3) := by decide +kernel
theorem dL_keeps_244 : decode cL_keeps 244 = .ok (.aload_n 0, 1) := by decide +kernel
theorem dL_keeps_245 : decode cL_keeps 245 = .ok (.invokestatic 64, 3) := by decide +kernel
theorem dL_keeps_248 : decode cL_keeps 248 = .ok (.lload 4, 2) := by decide +kernel
theorem dL_keeps_250 : decode cL_keeps 250 = .ok (.lcmp, 1) := by decide +kernel
theorem dL_keeps_251 : decode cL_keeps 251 = .ok (.ifCond .ne 7, 3) := by decide +kernel
theorem dL_keeps_254 : decode cL_keeps 254 = .ok (.iconst 1, 1) := by decide +kernel
theorem dL_keeps_255 : decode cL_keeps 255 = .ok (.goto 4, 3) := by decide +kernel
theorem dL_keeps_258 : decode cL_keeps 258 = .ok (.iconst 0, 1) := by decide +kernel
theorem dL_keeps_259 : decode cL_keeps 259 = .ok (.ireturn, 1) := by decide +kernel
theorem dL_rests_0 : decode cL_rests 0 = .ok (.aload_n 0, 1) := by decide +kernel
theorem dL_rests_1 : decode cL_rests 1 = .ok (.iload_n 1, 1) := by decide +kernel
theorem dL_rests_2 : decode cL_rests 2 = .ok (.iload_n 2, 1) := by decide +kernel
theorem dL_rests_3 : decode cL_rests 3 = .ok (.invokevirtual 89, 3) := by decide +kernel
theorem dL_rests_6 : decode cL_rests 6 = .ok (.istore_n 3, 1) := by decide +kernel
theorem dL_rests_7 : decode cL_rests 7 = .ok (.iload_n 1, 1) := by decide +kernel
theorem dL_rests_8 : decode cL_rests 8 = .ok (.aload_n 0, 1) := by decide +kernel
theorem dL_rests_9 : decode cL_rests 9 = .ok (.iconst 4, 1) := by decide +kernel
theorem dL_rests_10 : decode cL_rests 10 = .ok (.invokevirtual 46, 3) := by decide +kernel
theorem dL_rests_13 : decode cL_rests 13 = .ok (.if_icmp .lt 14, 3) := by decide +kernel
theorem dL_rests_16 : decode cL_rests 16 = .ok (.iload_n 3, 1) := by decide +kernel
theorem dL_rests_17 : decode cL_rests 17 = .ok (.iconst (-1), 1) := by decide +kernel
theorem dL_rests_18 : decode cL_rests 18 = .ok (.if_icmp .ne 7, 3) := by decide +kernel
theorem dL_rests_21 : decode cL_rests 21 = .ok (.iconst 1, 1) := by decide +kernel
theorem dL_rests_22 : decode cL_rests 22 = .ok (.goto 4, 3) := by decide +kernel
theorem dL_rests_25 : decode cL_rests 25 = .ok (.iconst 0, 1) := by decide +kernel
theorem dL_rests_26 : decode cL_rests 26 = .ok (.ireturn, 1) := by decide +kernel
theorem dL_rests_27 : decode cL_rests 27 = .ok (.aload_n 0, 1) := by decide +kernel
theorem dL_rests_28 : decode cL_rests 28 = .ok (.iload_n 1, 1) := by decide +kernel
theorem dL_rests_29 : decode cL_rests 29 = .ok (.iconst 3, 1) := by decide +kernel
theorem dL_rests_30 : decode cL_rests 30 = .ok (.invokevirtual 49, 3) := by decide +kernel
theorem dL_rests_33 : decode cL_rests 33 = .ok (.iconst 1, 1) := by decide +kernel
theorem dL_rests_34 : decode cL_rests 34 = .ok (.if_icmp .ne 15, 3) := by decide +kernel
theorem dL_rests_37 : decode cL_rests 37 = .ok (.iload_n 3, 1) := by decide +kernel
theorem dL_rests_38 : decode cL_rests 38 = .ok (.bipush (-4), 2) := by decide +kernel
theorem dL_rests_40 : decode cL_rests 40 = .ok (.if_icmp .ne 7, 3) := by decide +kernel
theorem dL_rests_43 : decode cL_rests 43 = .ok (.iconst 1, 1) := by decide +kernel
theorem dL_rests_44 : decode cL_rests 44 = .ok (.goto 4, 3) := by decide +kernel
theorem dL_rests_47 : decode cL_rests 47 = .ok (.iconst 0, 1) := by decide +kernel
theorem dL_rests_48 : decode cL_rests 48 = .ok (.ireturn, 1) := by decide +kernel
theorem dL_rests_49 : decode cL_rests 49 = .ok (.aload_n 0, 1) := by decide +kernel
theorem dL_rests_50 : decode cL_rests 50 = .ok (.invokestatic 64, 3) := by decide +kernel
theorem dL_rests_53 : decode cL_rests 53 = .ok (.lstore 4, 2) := by decide +kernel
theorem dL_rests_55 : decode cL_rests 55 = .ok (.aload_n 0, 1) := by decide +kernel
theorem dL_rests_56 : decode cL_rests 56 = .ok (.invokevirtual 92, 3) := by decide +kernel
theorem dL_rests_59 : decode cL_rests 59 = .ok (.istore 6, 2) := by decide +kernel
theorem dL_rests_61 : decode cL_rests 61 = .ok (.aload_n 0, 1) := by decide +kernel
theorem dL_rests_62 : decode cL_rests 62 = .ok (.iload_n 1, 1) := by decide +kernel
theorem dL_rests_63 : decode cL_rests 63 = .ok (.bipush 6, 2) := by decide +kernel
theorem dL_rests_65 : decode cL_rests 65 = .ok (.invokevirtual 49, 3) := by decide +kernel
theorem dL_rests_68 : decode cL_rests 68 = .ok (.istore 7, 2) := by decide +kernel
theorem dL_rests_70 : decode cL_rests 70 = .ok (.iload_n 3, 1) := by decide +kernel
theorem dL_rests_71 : decode cL_rests 71 = .ok (.bipush (-5), 2) := by decide +kernel
theorem dL_rests_73 : decode cL_rests 73 = .ok (.if_icmp .eq 14, 3) := by decide +kernel
theorem dL_rests_76 : decode cL_rests 76 = .ok (.iload_n 3, 1) := by decide +kernel
theorem dL_rests_77 : decode cL_rests 77 = .ok (.ifCond .le 14, 3) := by decide +kernel
theorem dL_rests_80 : decode cL_rests 80 = .ok (.iload_n 3, 1) := by decide +kernel
theorem dL_rests_81 : decode cL_rests 81 = .ok (.sipush 300, 3) := by decide +kernel
theorem dL_rests_84 : decode cL_rests 84 = .ok (.if_icmp .gt 7, 3) := by decide +kernel
theorem dL_rests_87 : decode cL_rests 87 = .ok (.iconst 1, 1) := by decide +kernel
theorem dL_rests_88 : decode cL_rests 88 = .ok (.goto 4, 3) := by decide +kernel
theorem dL_rests_91 : decode cL_rests 91 = .ok (.iconst 0, 1) := by decide +kernel
theorem dL_rests_92 : decode cL_rests 92 = .ok (.istore 8, 2) := by decide +kernel
theorem dL_rests_94 : decode cL_rests 94 = .ok (.iload_n 3, 1) := by decide +kernel
theorem dL_rests_95 : decode cL_rests 95 = .ok (.iconst 1, 1) := by decide +kernel
theorem dL_rests_96 : decode cL_rests 96 = .ok (.isub, 1) := by decide +kernel
theorem dL_rests_97 : decode cL_rests 97 = .ok (.istore 9, 2) := by decide +kernel
theorem dL_rests_99 : decode cL_rests 99 = .ok (.iload 9, 2) := by decide +kernel
theorem dL_rests_101 : decode cL_rests 101 = .ok (.ifCond .le 59, 3) := by decide +kernel
theorem dL_rests_104 : decode cL_rests 104 = .ok (.iload 8, 2) := by decide +kernel
theorem dL_rests_106 : decode cL_rests 106 = .ok (.ifCond .eq 54, 3) := by decide +kernel
theorem dL_rests_109 : decode cL_rests 109 = .ok (.aload_n 0, 1) := by decide +kernel
theorem dL_rests_110 : decode cL_rests 110 = .ok (.iload_n 2, 1) := by decide +kernel
theorem dL_rests_111 : decode cL_rests 111 = .ok (.iload 9, 2) := by decide +kernel
theorem dL_rests_113 : decode cL_rests 113 = .ok (.bipush 99, 2) := by decide +kernel
theorem dL_rests_115 : decode cL_rests 115 = .ok (.if_icmp .le 8, 3) := by decide +kernel
theorem dL_rests_118 : decode cL_rests 118 = .ok (.bipush 99, 2) := by decide +kernel
theorem dL_rests_120 : decode cL_rests 120 = .ok (.goto 5, 3) := by decide +kernel
theorem dL_rests_123 : decode cL_rests 123 = .ok (.iload 9, 2) := by decide +kernel
theorem dL_rests_125 : decode cL_rests 125 = .ok (.invokevirtual 40, 3) := by decide +kernel
theorem dL_rests_128 : decode cL_rests 128 = .ok (.ifCond .lt 7, 3) := by decide +kernel
theorem dL_rests_131 : decode cL_rests 131 = .ok (.iconst 1, 1) := by decide +kernel
theorem dL_rests_132 : decode cL_rests 132 = .ok (.goto 4, 3) := by decide +kernel
theorem dL_rests_135 : decode cL_rests 135 = .ok (.iconst 0, 1) := by decide +kernel
theorem dL_rests_136 : decode cL_rests 136 = .ok (.istore 8, 2) := by decide +kernel
theorem dL_rests_138 : decode cL_rests 138 = .ok (.iload 9, 2) := by decide +kernel
theorem dL_rests_140 : decode cL_rests 140 = .ok (.iload 9, 2) := by decide +kernel
theorem dL_rests_142 : decode cL_rests 142 = .ok (.bipush 99, 2) := by decide +kernel
theorem dL_rests_144 : decode cL_rests 144 = .ok (.if_icmp .le 8, 3) := by decide +kernel
theorem dL_rests_147 : decode cL_rests 147 = .ok (.bipush 99, 2) := by decide +kernel
theorem dL_rests_149 : decode cL_rests 149 = .ok (.goto 5, 3) := by decide +kernel
theorem dL_rests_152 : decode cL_rests 152 = .ok (.iload 9, 2) := by decide +kernel
theorem dL_rests_154 : decode cL_rests 154 = .ok (.isub, 1) := by decide +kernel
theorem dL_rests_155 : decode cL_rests 155 = .ok (.istore 9, 2) := by decide +kernel
theorem dL_rests_157 : decode cL_rests 157 = .ok (.goto (-58), 3) := by decide +kernel
theorem dL_rests_160 : decode cL_rests 160 = .ok (.iload 8, 2) := by decide +kernel
theorem dL_rests_162 : decode cL_rests 162 = .ok (.ifCond .eq 75, 3) := by decide +kernel
theorem dL_rests_165 : decode cL_rests 165 = .ok (.aload_n 0, 1) := by decide +kernel
theorem dL_rests_166 : decode cL_rests 166 = .ok (.iload_n 1, 1) := by decide +kernel
theorem dL_rests_167 : decode cL_rests 167 = .ok (.iconst 3, 1) := by decide +kernel
theorem dL_rests_168 : decode cL_rests 168 = .ok (.invokevirtual 49, 3) := by decide +kernel
theorem dL_rests_171 : decode cL_rests 171 = .ok (.ifCond .ne 66, 3) := by decide +kernel
theorem dL_rests_174 : decode cL_rests 174 = .ok (.aload_n 0, 1) := by decide +kernel
theorem dL_rests_175 : decode cL_rests 175 = .ok (.iload_n 1, 1) := by decide +kernel
theorem dL_rests_176 : decode cL_rests 176 = .ok (.bipush 6, 2) := by decide +kernel
theorem dL_rests_178 : decode cL_rests 178 = .ok (.invokevirtual 49, 3) := by decide +kernel
theorem dL_rests_181 : decode cL_rests 181 = .ok (.iload 7, 2) := by decide +kernel
theorem dL_rests_183 : decode cL_rests 183 = .ok (.if_icmp .ne 54, 3) := by decide +kernel
theorem dL_rests_186 : decode cL_rests 186 = .ok (.iload_n 3, 1) := by decide +kernel
theorem dL_rests_187 : decode cL_rests 187 = .ok (.ifCond .lt 46, 3) := by decide +kernel
theorem dL_rests_190 : decode cL_rests 190 = .ok (.aload_n 0, 1) := by decide +kernel
theorem dL_rests_191 : decode cL_rests 191 = .ok (.iload_n 1, 1) := by decide +kernel
theorem dL_rests_192 : decode cL_rests 192 = .ok (.iload_n 2, 1) := by decide +kernel
theorem dL_rests_193 : decode cL_rests 193 = .ok (.invokevirtual 89, 3) := by decide +kernel
theorem dL_rests_196 : decode cL_rests 196 = .ok (.iconst 1, 1) := by decide +kernel
theorem dL_rests_197 : decode cL_rests 197 = .ok (.if_icmp .ne 40, 3) := by decide +kernel
theorem dL_rests_200 : decode cL_rests 200 = .ok (.aload_n 0, 1) := by decide +kernel
theorem dL_rests_201 : decode cL_rests 201 = .ok (.iload_n 2, 1) := by decide +kernel
theorem dL_rests_202 : decode cL_rests 202 = .ok (.iconst 1, 1) := by decide +kernel
theorem dL_rests_203 : decode cL_rests 203 = .ok (.invokevirtual 40, 3) := by decide +kernel
theorem dL_rests_206 : decode cL_rests 206 = .ok (.ifCond .lt 31, 3) := by decide +kernel
theorem dL_rests_209 : decode cL_rests 209 = .ok (.aload_n 0, 1) := by decide +kernel
theorem dL_rests_210 : decode cL_rests 210 = .ok (.iload_n 1, 1) := by decide +kernel
theorem dL_rests_211 : decode cL_rests 211 = .ok (.iconst 3, 1) := by decide +kernel
theorem dL_rests_212 : decode cL_rests 212 = .ok (.invokevirtual 49, 3) := by decide +kernel
theorem dL_rests_215 : decode cL_rests 215 = .ok (.iconst 1, 1) := by decide +kernel
theorem dL_rests_216 : decode cL_rests 216 = .ok (.if_icmp .ne 21, 3) := by decide +kernel
theorem dL_rests_219 : decode cL_rests 219 = .ok (.aload_n 0, 1) := by decide +kernel
theorem dL_rests_220 : decode cL_rests 220 = .ok (.iload_n 1, 1) := by decide +kernel
theorem dL_rests_221 : decode cL_rests 221 = .ok (.bipush 6, 2) := by decide +kernel
theorem dL_rests_223 : decode cL_rests 223 = .ok (.invokevirtual 49, 3) := by decide +kernel
theorem dL_rests_226 : decode cL_rests 226 = .ok (.iload 7, 2) := by decide +kernel
theorem dL_rests_228 : decode cL_rests 228 = .ok (.iconst 1, 1) := by decide +kernel
theorem dL_rests_229 : decode cL_rests 229 = .ok (.iadd, 1) := by decide +kernel
theorem dL_rests_230 : decode cL_rests 230 = .ok (.if_icmp .ne 7, 3) := by decide +kernel
theorem dL_rests_233 : decode cL_rests 233 = .ok (.iconst 1, 1) := by decide +kernel
theorem dL_rests_234 : decode cL_rests 234 = .ok (.goto 4, 3) := by decide +kernel
theorem dL_rests_237 : decode cL_rests 237 = .ok (.iconst 0, 1) := by decide +kernel
theorem dL_rests_238 : decode cL_rests 238 = .ok (.istore 8, 2) := by decide +kernel
theorem dL_rests_240 : decode cL_rests 240 = .ok (.iload 8, 2) := by decide +kernel
theorem dL_rests_242 : decode cL_rests 242 = .ok (.ifCond .eq 26, 3) := by decide +kernel
theorem dL_rests_245 : decode cL_rests 245 = .ok (.aload_n 0, 1) := by decide +kernel
theorem dL_rests_246 : decode cL_rests 246 = .ok (.invokevirtual 95, 3) := by decide +kernel
theorem dL_rests_249 : decode cL_rests 249 = .ok (.iload 6, 2) := by decide +kernel
theorem dL_rests_251 : decode cL_rests 251 = .ok (.if_icmp .ne 17, 3) := by decide +kernel
theorem dL_rests_254 : decode cL_rests 254 = .ok (.aload_n 0, 1) := by decide +kernel
theorem dL_rests_255 : decode cL_rests 255 = .ok (.invokestatic 64, 3) := by decide +kernel
theorem dL_rests_258 : decode cL_rests 258 = .ok (.lload 4, 2) := by decide +kernel
theorem dL_rests_260 : decode cL_rests 260 = .ok (.lcmp, 1) := by decide +kernel
theorem dL_rests_261 : decode cL_rests 261 = .ok (.ifCond .ne 7, 3) := by decide +kernel
theorem dL_rests_264 : decode cL_rests 264 = .ok (.iconst 1, 1) := by decide +kernel
theorem dL_rests_265 : decode cL_rests 265 = .ok (.goto 4, 3) := by decide +kernel
theorem dL_rests_268 : decode cL_rests 268 = .ok (.iconst 0, 1) := by decide +kernel
theorem dL_rests_269 : decode cL_rests 269 = .ok (.ireturn, 1) := by decide +kernel
theorem dL_law_0 : decode cL_law 0 = .ok (.new 17, 3) := by decide +kernel
theorem dL_law_3 : decode cL_law 3 = .ok (.dup, 1) := by decide +kernel
theorem dL_law_4 : decode cL_law 4 = .ok (.invokespecial 98, 3) := by decide +kernel
theorem dL_law_7 : decode cL_law 7 = .ok (.astore_n 1, 1) := by decide +kernel
theorem dL_law_8 : decode cL_law 8 = .ok (.aload_n 1, 1) := by decide +kernel
theorem dL_law_9 : decode cL_law 9 = .ok (.invokestatic 77, 3) := by decide +kernel
theorem dL_law_12 : decode cL_law 12 = .ok (.ifCond .eq 15, 3) := by decide +kernel
theorem dL_law_15 : decode cL_law 15 = .ok (.aload_n 1, 1) := by decide +kernel
theorem dL_law_16 : decode cL_law 16 = .ok (.iconst 5, 1) := by decide +kernel
theorem dL_law_17 : decode cL_law 17 = .ok (.invokestatic 99, 3) := by decide +kernel
theorem dL_law_20 : decode cL_law 20 = .ok (.ifCond .eq 7, 3) := by decide +kernel
theorem dL_law_23 : decode cL_law 23 = .ok (.iconst 1, 1) := by decide +kernel
theorem dL_law_24 : decode cL_law 24 = .ok (.goto 4, 3) := by decide +kernel
theorem dL_law_27 : decode cL_law 27 = .ok (.iconst 0, 1) := by decide +kernel
theorem dL_law_28 : decode cL_law 28 = .ok (.istore_n 2, 1) := by decide +kernel
theorem dL_law_29 : decode cL_law 29 = .ok (.iconst 0, 1) := by decide +kernel
theorem dL_law_30 : decode cL_law 30 = .ok (.istore_n 3, 1) := by decide +kernel
theorem dL_law_31 : decode cL_law 31 = .ok (.iload_n 3, 1) := by decide +kernel
theorem dL_law_32 : decode cL_law 32 = .ok (.bipush 44, 2) := by decide +kernel
theorem dL_law_34 : decode cL_law 34 = .ok (.if_icmp .ge 328, 3) := by decide +kernel
theorem dL_law_37 : decode cL_law 37 = .ok (.iload_n 2, 1) := by decide +kernel
theorem dL_law_38 : decode cL_law 38 = .ok (.ifCond .eq 324, 3) := by decide +kernel
theorem dL_law_41 : decode cL_law 41 = .ok (.aload_n 0, 1) := by decide +kernel
theorem dL_law_42 : decode cL_law 42 = .ok (.iconst 2, 1) := by decide +kernel
theorem dL_law_43 : decode cL_law 43 = .ok (.iload_n 3, 1) := by decide +kernel
theorem dL_law_44 : decode cL_law 44 = .ok (.imul, 1) := by decide +kernel
theorem dL_law_45 : decode cL_law 45 = .ok (.invokestatic 103, 3) := by decide +kernel
theorem dL_law_48 : decode cL_law 48 = .ok (.istore 4, 2) := by decide +kernel
theorem dL_law_50 : decode cL_law 50 = .ok (.aload_n 0, 1) := by decide +kernel
theorem dL_law_51 : decode cL_law 51 = .ok (.iconst 2, 1) := by decide +kernel
theorem dL_law_52 : decode cL_law 52 = .ok (.iload_n 3, 1) := by decide +kernel
theorem dL_law_53 : decode cL_law 53 = .ok (.imul, 1) := by decide +kernel
theorem dL_law_54 : decode cL_law 54 = .ok (.iconst 1, 1) := by decide +kernel
theorem dL_law_55 : decode cL_law 55 = .ok (.iadd, 1) := by decide +kernel
theorem dL_law_56 : decode cL_law 56 = .ok (.invokestatic 103, 3) := by decide +kernel
theorem dL_law_59 : decode cL_law 59 = .ok (.istore 5, 2) := by decide +kernel
theorem dL_law_61 : decode cL_law 61 = .ok (.aload_n 1, 1) := by decide +kernel
theorem dL_law_62 : decode cL_law 62 = .ok (.bipush 12, 2) := by decide +kernel
theorem dL_law_64 : decode cL_law 64 = .ok (.invokevirtual 46, 3) := by decide +kernel
theorem dL_law_67 : decode cL_law 67 = .ok (.istore 6, 2) := by decide +kernel
theorem dL_law_69 : decode cL_law 69 = .ok (.aload_n 1, 1) := by decide +kernel
theorem dL_law_70 : decode cL_law 70 = .ok (.invokestatic 64, 3) := by decide +kernel
theorem dL_law_73 : decode cL_law 73 = .ok (.lstore 7, 2) := by decide +kernel
theorem dL_law_75 : decode cL_law 75 = .ok (.iload_n 3, 1) := by decide +kernel
theorem dL_law_76 : decode cL_law 76 = .ok (.iconst 3, 1) := by decide +kernel
theorem dL_law_77 : decode cL_law 77 = .ok (.if_icmp .ge 25, 3) := by decide +kernel
theorem dL_law_80 : decode cL_law 80 = .ok (.aload_n 1, 1) := by decide +kernel
theorem dL_law_81 : decode cL_law 81 = .ok (.iload 4, 2) := by decide +kernel
theorem dL_law_83 : decode cL_law 83 = .ok (.iconst 5, 1) := by decide +kernel
theorem dL_law_84 : decode cL_law 84 = .ok (.invokestatic 10, 3) := by decide +kernel
theorem dL_law_87 : decode cL_law 87 = .ok (.iconst 1, 1) := by decide +kernel
theorem dL_law_88 : decode cL_law 88 = .ok (.iload 5, 2) := by decide +kernel
theorem dL_law_90 : decode cL_law 90 = .ok (.bipush 30, 2) := by decide +kernel
theorem dL_law_92 : decode cL_law 92 = .ok (.invokestatic 10, 3) := by decide +kernel
theorem dL_law_95 : decode cL_law 95 = .ok (.iadd, 1) := by decide +kernel
theorem dL_law_96 : decode cL_law 96 = .ok (.invokevirtual 31, 3) := by decide +kernel
theorem dL_law_99 : decode cL_law 99 = .ok (.goto 11, 3) := by decide +kernel
theorem dL_law_102 : decode cL_law 102 = .ok (.aload_n 1, 1) := by decide +kernel
theorem dL_law_103 : decode cL_law 103 = .ok (.iload 4, 2) := by decide +kernel
theorem dL_law_105 : decode cL_law 105 = .ok (.iload 5, 2) := by decide +kernel
theorem dL_law_107 : decode cL_law 107 = .ok (.invokestatic 106, 3) := by decide +kernel
theorem dL_law_110 : decode cL_law 110 = .ok (.istore 9, 2) := by decide +kernel
theorem dL_law_112 : decode cL_law 112 = .ok (.iload 9, 2) := by decide +kernel
theorem dL_law_114 : decode cL_law 114 = .ok (.ifCond .ge 33, 3) := by decide +kernel
theorem dL_law_117 : decode cL_law 117 = .ok (.aload_n 1, 1) := by decide +kernel
theorem dL_law_118 : decode cL_law 118 = .ok (.bipush 12, 2) := by decide +kernel
theorem dL_law_120 : decode cL_law 120 = .ok (.invokevirtual 46, 3) := by decide +kernel
theorem dL_law_123 : decode cL_law 123 = .ok (.iload 6, 2) := by decide +kernel
theorem dL_law_125 : decode cL_law 125 = .ok (.if_icmp .ne 17, 3) := by decide +kernel
theorem dL_law_128 : decode cL_law 128 = .ok (.aload_n 1, 1) := by decide +kernel
theorem dL_law_129 : decode cL_law 129 = .ok (.invokestatic 64, 3) := by decide +kernel
theorem dL_law_132 : decode cL_law 132 = .ok (.lload 7, 2) := by decide +kernel
theorem dL_law_134 : decode cL_law 134 = .ok (.lcmp, 1) := by decide +kernel
theorem dL_law_135 : decode cL_law 135 = .ok (.ifCond .ne 7, 3) := by decide +kernel
theorem dL_law_138 : decode cL_law 138 = .ok (.iconst 1, 1) := by decide +kernel
theorem dL_law_139 : decode cL_law 139 = .ok (.goto 4, 3) := by decide +kernel
theorem dL_law_142 : decode cL_law 142 = .ok (.iconst 0, 1) := by decide +kernel
theorem dL_law_143 : decode cL_law 143 = .ok (.istore_n 2, 1) := by decide +kernel
theorem dL_law_144 : decode cL_law 144 = .ok (.goto 100, 3) := by decide +kernel
theorem dL_law_147 : decode cL_law 147 = .ok (.aload_n 1, 1) := by decide +kernel
theorem dL_law_148 : decode cL_law 148 = .ok (.bipush 12, 2) := by decide +kernel
theorem dL_law_150 : decode cL_law 150 = .ok (.invokevirtual 46, 3) := by decide +kernel
theorem dL_law_153 : decode cL_law 153 = .ok (.iload 6, 2) := by decide +kernel
theorem dL_law_155 : decode cL_law 155 = .ok (.iconst 4, 1) := by decide +kernel
theorem dL_law_156 : decode cL_law 156 = .ok (.if_icmp .ge 10, 3) := by decide +kernel
theorem dL_law_159 : decode cL_law 159 = .ok (.iload 6, 2) := by decide +kernel
theorem dL_law_161 : decode cL_law 161 = .ok (.iconst 1, 1) := by decide +kernel
theorem dL_law_162 : decode cL_law 162 = .ok (.iadd, 1) := by decide +kernel
theorem dL_law_163 : decode cL_law 163 = .ok (.goto 4, 3) := by decide +kernel
theorem dL_law_166 : decode cL_law 166 = .ok (.iconst 4, 1) := by decide +kernel
theorem dL_law_167 : decode cL_law 167 = .ok (.if_icmp .ne 7, 3) := by decide +kernel
theorem dL_law_170 : decode cL_law 170 = .ok (.iconst 1, 1) := by decide +kernel
theorem dL_law_171 : decode cL_law 171 = .ok (.goto 4, 3) := by decide +kernel
theorem dL_law_174 : decode cL_law 174 = .ok (.iconst 0, 1) := by decide +kernel
theorem dL_law_175 : decode cL_law 175 = .ok (.istore_n 2, 1) := by decide +kernel
theorem dL_law_176 : decode cL_law 176 = .ok (.iload_n 2, 1) := by decide +kernel
theorem dL_law_177 : decode cL_law 177 = .ok (.ifCond .eq 67, 3) := by decide +kernel
theorem dL_law_180 : decode cL_law 180 = .ok (.iload_n 3, 1) := by decide +kernel
theorem dL_law_181 : decode cL_law 181 = .ok (.iconst 2, 1) := by decide +kernel
theorem dL_law_182 : decode cL_law 182 = .ok (.if_icmp .le 62, 3) := by decide +kernel
theorem dL_law_185 : decode cL_law 185 = .ok (.iload 5, 2) := by decide +kernel
theorem dL_law_187 : decode cL_law 187 = .ok (.iconst 5, 1) := by decide +kernel
theorem dL_law_188 : decode cL_law 188 = .ok (.ishr, 1) := by decide +kernel
theorem dL_law_189 : decode cL_law 189 = .ok (.iconst 4, 1) := by decide +kernel
theorem dL_law_190 : decode cL_law 190 = .ok (.invokestatic 10, 3) := by decide +kernel
theorem dL_law_193 : decode cL_law 193 = .ok (.ifCond .ne 51, 3) := by decide +kernel
theorem dL_law_196 : decode cL_law 196 = .ok (.aload_n 1, 1) := by decide +kernel
theorem dL_law_197 : decode cL_law 197 = .ok (.invokevirtual 80, 3) := by decide +kernel
theorem dL_law_200 : decode cL_law 200 = .ok (.iload 6, 2) := by decide +kernel
theorem dL_law_202 : decode cL_law 202 = .ok (.iconst 4, 1) := by decide +kernel
theorem dL_law_203 : decode cL_law 203 = .ok (.if_icmp .ge 8, 3) := by decide +kernel
theorem dL_law_206 : decode cL_law 206 = .ok (.iload 6, 2) := by decide +kernel
theorem dL_law_208 : decode cL_law 208 = .ok (.goto 4, 3) := by decide +kernel
theorem dL_law_211 : decode cL_law 211 = .ok (.iconst 3, 1) := by decide +kernel
theorem dL_law_212 : decode cL_law 212 = .ok (.if_icmp .ne 30, 3) := by decide +kernel
theorem dL_law_215 : decode cL_law 215 = .ok (.aload_n 1, 1) := by decide +kernel
theorem dL_law_216 : decode cL_law 216 = .ok (.invokestatic 64, 3) := by decide +kernel
theorem dL_law_219 : decode cL_law 219 = .ok (.lload 7, 2) := by decide +kernel
theorem dL_law_221 : decode cL_law 221 = .ok (.lcmp, 1) := by decide +kernel
theorem dL_law_222 : decode cL_law 222 = .ok (.ifCond .ne 20, 3) := by decide +kernel
theorem dL_law_225 : decode cL_law 225 = .ok (.aload_n 1, 1) := by decide +kernel
theorem dL_law_226 : decode cL_law 226 = .ok (.iload 4, 2) := by decide +kernel
theorem dL_law_228 : decode cL_law 228 = .ok (.iload 5, 2) := by decide +kernel
theorem dL_law_230 : decode cL_law 230 = .ok (.invokestatic 106, 3) := by decide +kernel
theorem dL_law_233 : decode cL_law 233 = .ok (.iload 9, 2) := by decide +kernel
theorem dL_law_235 : decode cL_law 235 = .ok (.if_icmp .ne 7, 3) := by decide +kernel
theorem dL_law_238 : decode cL_law 238 = .ok (.iconst 1, 1) := by decide +kernel
theorem dL_law_239 : decode cL_law 239 = .ok (.goto 4, 3) := by decide +kernel
theorem dL_law_242 : decode cL_law 242 = .ok (.iconst 0, 1) := by decide +kernel
theorem dL_law_243 : decode cL_law 243 = .ok (.istore_n 2, 1) := by decide +kernel
theorem dL_law_244 : decode cL_law 244 = .ok (.iload_n 2, 1) := by decide +kernel
theorem dL_law_245 : decode cL_law 245 = .ok (.ifCond .eq 109, 3) := by decide +kernel
theorem dL_law_248 : decode cL_law 248 = .ok (.aload_n 1, 1) := by decide +kernel
theorem dL_law_249 : decode cL_law 249 = .ok (.invokestatic 77, 3) := by decide +kernel
theorem dL_law_252 : decode cL_law 252 = .ok (.ifCond .eq 102, 3) := by decide +kernel
theorem dL_law_255 : decode cL_law 255 = .ok (.aload_n 1, 1) := by decide +kernel
theorem dL_law_256 : decode cL_law 256 = .ok (.iload 5, 2) := by decide +kernel
theorem dL_law_258 : decode cL_law 258 = .ok (.iconst 3, 1) := by decide +kernel
theorem dL_law_259 : decode cL_law 259 = .ok (.ishr, 1) := by decide +kernel
theorem dL_law_260 : decode cL_law 260 = .ok (.bipush 61, 2) := by decide +kernel
theorem dL_law_262 : decode cL_law 262 = .ok (.invokestatic 10, 3) := by decide +kernel
theorem dL_law_265 : decode cL_law 265 = .ok (.bipush 30, 2) := by decide +kernel
theorem dL_law_267 : decode cL_law 267 = .ok (.isub, 1) := by decide +kernel
theorem dL_law_268 : decode cL_law 268 = .ok (.invokestatic 99, 3) := by decide +kernel
theorem dL_law_271 : decode cL_law 271 = .ok (.ifCond .eq 83, 3) := by decide +kernel
theorem dL_law_274 : decode cL_law 274 = .ok (.aload_n 1, 1) := by decide +kernel
theorem dL_law_275 : decode cL_law 275 = .ok (.iload 4, 2) := by decide +kernel
theorem dL_law_277 : decode cL_law 277 = .ok (.iconst 5, 1) := by decide +kernel
theorem dL_law_278 : decode cL_law 278 = .ok (.ishr, 1) := by decide +kernel
theorem dL_law_279 : decode cL_law 279 = .ok (.bipush 40, 2) := by decide +kernel
theorem dL_law_281 : decode cL_law 281 = .ok (.invokestatic 10, 3) := by decide +kernel
theorem dL_law_284 : decode cL_law 284 = .ok (.iload 5, 2) := by decide +kernel
theorem dL_law_286 : decode cL_law 286 = .ok (.bipush 6, 2) := by decide +kernel
theorem dL_law_288 : decode cL_law 288 = .ok (.ishr, 1) := by decide +kernel
theorem dL_law_289 : decode cL_law 289 = .ok (.bipush 61, 2) := by decide +kernel
theorem dL_law_291 : decode cL_law 291 = .ok (.invokestatic 10, 3) := by decide +kernel
theorem dL_law_294 : decode cL_law 294 = .ok (.bipush 30, 2) := by decide +kernel
theorem dL_law_296 : decode cL_law 296 = .ok (.isub, 1) := by decide +kernel
theorem dL_law_297 : decode cL_law 297 = .ok (.iconst 1, 1) := by decide +kernel
theorem dL_law_298 : decode cL_law 298 = .ok (.iload 4, 2) := by decide +kernel
theorem dL_law_300 : decode cL_law 300 = .ok (.bipush 8, 2) := by decide +kernel
theorem dL_law_302 : decode cL_law 302 = .ok (.ishr, 1) := by decide +kernel
theorem dL_law_303 : decode cL_law 303 = .ok (.bipush 24, 2) := by decide +kernel
theorem dL_law_305 : decode cL_law 305 = .ok (.invokestatic 10, 3) := by decide +kernel
theorem dL_law_308 : decode cL_law 308 = .ok (.iadd, 1) := by decide +kernel
theorem dL_law_309 : decode cL_law 309 = .ok (.invokestatic 110, 3) := by decide +kernel
theorem dL_law_312 : decode cL_law 312 = .ok (.ifCond .eq 42, 3) := by decide +kernel
theorem dL_law_315 : decode cL_law 315 = .ok (.iload_n 3, 1) := by decide +kernel
theorem dL_law_316 : decode cL_law 316 = .ok (.iconst 3, 1) := by decide +kernel
theorem dL_law_317 : decode cL_law 317 = .ok (.irem, 1) := by decide +kernel
theorem dL_law_318 : decode cL_law 318 = .ok (.ifCond .gt 32, 3) := by decide +kernel
theorem dL_law_321 : decode cL_law 321 = .ok (.aload_n 1, 1) := by decide +kernel
theorem dL_law_322 : decode cL_law 322 = .ok (.iload 4, 2) := by decide +kernel
theorem dL_law_324 : decode cL_law 324 = .ok (.bipush 7, 2) := by decide +kernel
theorem dL_law_326 : decode cL_law 326 = .ok (.ishr, 1) := by decide +kernel
theorem dL_law_327 : decode cL_law 327 = .ok (.bipush 6, 2) := by decide +kernel
theorem dL_law_329 : decode cL_law 329 = .ok (.invokestatic 10, 3) := by decide +kernel
theorem dL_law_332 : decode cL_law 332 = .ok (.iload 5, 2) := by decide +kernel
theorem dL_law_334 : decode cL_law 334 = .ok (.iconst 5, 1) := by decide +kernel
theorem dL_law_335 : decode cL_law 335 = .ok (.ishr, 1) := by decide +kernel
theorem dL_law_336 : decode cL_law 336 = .ok (.bipush 61, 2) := by decide +kernel
theorem dL_law_338 : decode cL_law 338 = .ok (.invokestatic 10, 3) := by decide +kernel
theorem dL_law_341 : decode cL_law 341 = .ok (.bipush 30, 2) := by decide +kernel
theorem dL_law_343 : decode cL_law 343 = .ok (.isub, 1) := by decide +kernel
theorem dL_law_344 : decode cL_law 344 = .ok (.invokestatic 114, 3) := by decide +kernel
theorem dL_law_347 : decode cL_law 347 = .ok (.ifCond .eq 7, 3) := by decide +kernel
theorem dL_law_350 : decode cL_law 350 = .ok (.iconst 1, 1) := by decide +kernel
theorem dL_law_351 : decode cL_law 351 = .ok (.goto 4, 3) := by decide +kernel
theorem dL_law_354 : decode cL_law 354 = .ok (.iconst 0, 1) := by decide +kernel
theorem dL_law_355 : decode cL_law 355 = .ok (.istore_n 2, 1) := by decide +kernel
theorem dL_law_356 : decode cL_law 356 = .ok (.iinc 3 1, 3) := by decide +kernel
theorem dL_law_359 : decode cL_law 359 = .ok (.goto (-328), 3) := by decide +kernel
theorem dL_law_362 : decode cL_law 362 = .ok (.iload_n 2, 1) := by decide +kernel
theorem dL_law_363 : decode cL_law 363 = .ok (.ireturn, 1) := by decide +kernel
end
section
/-! THE PURE HEAP: cells at indices 0, 1, .., ints as Int; 'g' names the addresses, the classes, the statics. -/
abbrev PV : Type := Int ⊕ Option Nat
abbrev i_ (x : Int) : PV := .inl x
abbrev r_ (k : Nat) : PV := .inr (some k)
abbrev n_ : PV := .inr none
abbrev PO : Type := (Bool × Nat × (Int → Int)) ⊕ ((Nat × (Int → Option Nat)) ⊕ (Nat × List PV))
abbrev oI (n : Nat) (f : Int → Int) : PO := .inl (false, n, f)
abbrev oC (n : Nat) (f : Int → Int) : PO := .inl (true, n, f)
abbrev oQ (n : Nat) (f : Int → Option Nat) : PO := .inr (.inl (n, f))
abbrev oR (n : Nat) (f : Int → Nat) : PO := oQ n (fun k => some (f k))
abbrev oO (ci : Nat) (fs : List PV) : PO := .inr (.inr (ci, fs))
def I (x : Int) : Int32 := Int32.ofInt x
def inR (x : Int) : Prop := -2147483648 ≤ x ∧ x ≤ 2147483647
theorem inR_of {x : Int} (a : -2147483648 ≤ x) (b : x ≤ 2147483647) : inR x := ⟨a, b⟩
theorem inR_I (x : Int32) : inR x.toInt := by
  have a := Int32.le_toInt x
  have b := Int32.toInt_lt x
  constructor <;> omega
theorem I_toInt' (x : Int32) : I x.toInt = x := Int32.ofInt_toInt x
theorem I_toInt {x : Int} (h : inR x) : (I x).toInt = x := Int32.toInt_ofInt_of_le (by have := h.1; omega) (by have := h.2; omega)
theorem I_add (x y : Int) : I x + I y = I (x + y) := (Int32.ofInt_add x y).symm
theorem I_sub (x y : Int) : I x - I y = I (x - y) := (Int32.ofInt_sub x y).symm
theorem I_mul (x y : Int) : I x * I y = I (x * y) := (Int32.ofInt_mul x y).symm
theorem I_neg (x : Int) : - I x = I (-x) := (Int32.ofInt_neg x).symm
theorem I_lt {x y : Int} (hx : inR x) (hy : inR y) : I x < I y ↔ x < y := by rw [Int32.lt_iff_toInt_lt, I_toInt hx, I_toInt hy]
theorem I_le {x y : Int} (hx : inR x) (hy : inR y) : I x ≤ I y ↔ x ≤ y := by rw [Int32.le_iff_toInt_le, I_toInt hx, I_toInt hy]
theorem I_eq {x y : Int} (hx : inR x) (hy : inR y) : I x = I y ↔ x = y := by rw [← Int32.toInt_inj, I_toInt hx, I_toInt hy]
theorem I_0 : I 0 = 0 := rfl
theorem inR_0 : inR 0 := ⟨by decide, by decide⟩
theorem I_lt0 {x : Int} (hx : inR x) : I x < 0 ↔ x < 0 := I_lt hx inR_0
theorem I_le0 {x : Int} (hx : inR x) : I x ≤ 0 ↔ x ≤ 0 := I_le hx inR_0
theorem I_ge0 {x : Int} (hx : inR x) : 0 ≤ I x ↔ 0 ≤ x := I_le inR_0 hx
theorem I_gt0 {x : Int} (hx : inR x) : 0 < I x ↔ 0 < x := I_lt inR_0 hx
theorem I_eq0 {x : Int} (hx : inR x) : I x = 0 ↔ x = 0 := I_eq hx inR_0
theorem I_clamp {x : Int} (h : inR x) : (I x).toNatClampNeg = x.toNat := Int32.toNatClampNeg_ofInt_of_le (by have := h.1; omega) (by have := h.2; omega)
theorem I_in {x : Int} {n : Nat} (h0 : 0 ≤ x) (h1 : x < n) (hn : n ≤ 2147483647) : vp_in (I x) n := by
  have h : inR x := ⟨by omega, by omega⟩
  rw [vp_in_iff, I_toInt h]
  exact ⟨h0, h1⟩
/-- addresses and classes: the classes' slots, the three array classes, the addresses, the bound of the old heap, the two statics -/
abbrev GP : Type := va_G × (ClassId × ClassId × ClassId) × (Nat → Nat) × Nat
abbrev gD (g : GP) : va_G := g.1
abbrev gI (g : GP) : ClassId := g.2.1.1
abbrev gC (g : GP) : ClassId := g.2.1.2.1
abbrev gS (g : GP) : ClassId := g.2.1.2.2
abbrev gad (g : GP) : Nat → Nat := g.2.2.1
abbrev gK (g : GP) : Nat := g.2.2.2
abbrev gA (g : GP) : Nat → Prop := fun q => gK g ≤ q
abbrev gT (g : GP) : List (ClassId × FieldType) := [(gI g, .int), (gC g, .char), (gS g, .object RX3)]
def tr (g : GP) : PV → Value
  | .inl x => .int (I x)
  | .inr none => .null
  | .inr (some k) => .ref (gad g k)
def trO (g : GP) : PO → va_E
  | .inl (b, n, f) => .inl (if b then gC g else gI g, n, .inl (fun k => I (f (k : Int))))
  | .inr (.inl (n, f)) => .inl (gS g, n, .inr (.inr (.inr (.inr (fun k => (f (k : Int)).map (gad g))))))
  | .inr (.inr (ci, fs)) => .inr (ci, fs.map (tr g))
def wld (g : GP) (h : List PO) : va_W := h.mapIdx (fun i o => (gad g i, trO g o))
theorem wld_get {g : GP} {h : List PO} {i : Nat} {o : PO} (e : h[i]? = some o) : (wld g h)[i]? = some (gad g i, trO g o) := by
  simp [wld, List.getElem?_mapIdx, e]
theorem wld_set (g : GP) (h : List PO) (i : Nat) (o : PO) : wld g (h.set i o) = (wld g h).set i (gad g i, trO g o) := by
  simp [wld, List.mapIdx_set]
theorem tr_cat (g : GP) (v : PV) : (tr g v).category = 1 := by
  rcases v with x | _ | k <;> rfl
theorem tr_sum (g : GP) (st : List PV) : ((st.map (tr g)).map fun v => v.category).sum = st.length := by
  induction st with
  | nil => rfl
  | cons v t ih =>
    simp only [List.map_cons, List.sum_cons, tr_cat, List.length_cons]
    rw [ih]; omega
def fup (f : Int → Int) (x v : Int) : Int → Int := fun j => if j = x then v else f j
/-- locals -/
def lvl (g : GP) : Nat → List (Option PV) → List (Nat × Value)
  | _, [] => []
  | n, none :: t => lvl g (n + 1) t
  | n, some v :: t => (n, tr g v) :: lvl g (n + 1) t
theorem lvl_mem {g : GP} {lv : List (Option PV)} {n : Nat} {q : Nat × Value} : q ∈ lvl g n lv ↔ ∃ i v, lv[i]? = some (some v) ∧ q = (n + i, tr g v) := by
  induction lv generalizing n with
  | nil => simp [lvl]
  | cons x t ih =>
    cases x with
    | none =>
      simp only [lvl]
      rw [ih]
      constructor
      · rintro ⟨i, v, a, b⟩
        exact ⟨i + 1, v, by simpa using a, by rw [b]; congr 1; omega⟩
      · rintro ⟨i, v, a, b⟩
        cases i with
        | zero => simp at a
        | succ i => exact ⟨i, v, by simpa using a, by rw [b]; congr 1; omega⟩
    | some w =>
      simp only [lvl, List.mem_cons]
      rw [ih]
      constructor
      · rintro (a | ⟨i, v, a, b⟩)
        · exact ⟨0, w, by simp, by simpa using a⟩
        · exact ⟨i + 1, v, by simpa using a, by rw [b]; congr 1; omega⟩
      · rintro ⟨i, v, a, b⟩
        cases i with
        | zero =>
          left
          simp at a
          subst a
          simpa using b
        | succ i => exact Or.inr ⟨i, v, by simpa using a, by rw [b]; congr 1; omega⟩
def lvh (g : GP) (ls : Array Slot) (nL : Nat) (lv : List (Option PV)) : Prop := lv_has ls nL (lvl g 0 lv)
theorem lvh_at {g : GP} {ls : Array Slot} {nL : Nat} {lv : List (Option PV)} (h : lvh g ls nL lv) {i : Nat} {v : PV} (e : lv[i]? = some (some v)) : ls[i]? = some (.val (tr g v)) :=
  h.2.2 (i, tr g v) (lvl_mem.mpr ⟨i, v, e, by simp⟩)
theorem lvh_set {g : GP} {ls' : Array Slot} {nL : Nat} {lv : List (Option PV)} {i : Nat} {v : PV} (h : lv_has ls' nL ((i, tr g v) :: (lvl g 0 lv).filter (fun q => !(q.1 == i) && !(q.1 + 1 == i && q.2.category == 2)))) : lvh g ls' nL (lv.set i (some v)) := by
  refine ⟨h.1, h.2.1, fun q hq => ?_⟩
  obtain ⟨j, w, a, rfl⟩ := lvl_mem.mp hq
  rw [Nat.zero_add]
  by_cases e : i = j
  · subst e
    rw [List.getElem?_set] at a
    simp at a
    obtain ⟨-, rfl⟩ := a
    exact h.2.2 _ List.mem_cons_self
  · rw [List.getElem?_set_ne e] at a
    refine h.2.2 (j, tr g w) (List.mem_cons_of_mem _ (List.mem_filter.mpr ⟨lvl_mem.mpr ⟨j, w, a, by simp⟩, ?_⟩))
    simp [tr_cat, Ne.symm e]
theorem lvh_none {g : GP} {ls : Array Slot} {nL : Nat} {lv : List (Option PV)} (i : Nat) (h : lvh g ls nL lv) : lvh g ls nL (lv.set i none) := by
  refine ⟨h.1, h.2.1, fun q hq => ?_⟩
  obtain ⟨j, w, a, rfl⟩ := lvl_mem.mp hq
  rw [Nat.zero_add]
  by_cases e : i = j
  · subst e
    rw [List.getElem?_set] at a
    simp at a
  · rw [List.getElem?_set_ne e] at a
    exact lvh_at h a
/-- the good words of the tables -/
def GW : List Cond := lw_tbl.filter goodWord
theorem gw_of {w : Cond} (h : w ∈ lw_tbl) (g : goodWord w = true) : w ∈ GW := List.mem_filter.mpr ⟨h, g⟩
theorem gw_good {w : Cond} (h : w ∈ GW) : (w.onTables && w.keeps) = true ∨ ∃ ty, w = .arrayClass ty := good_of_word (List.mem_filter.mp h).2
theorem gw_in {ws : List Cond} (h : ∀ w ∈ ws, w ∈ GW) : GoodIn GW ws := fun w hw => ⟨h w hw, gw_good (h w hw)⟩
theorem gw_at (i : Nat) {w : Cond} (h : lw_tbl[i]? = some w) (g : goodWord w = true) : w ∈ GW := gw_of (List.mem_of_getElem? h) g
abbrev host5 : String := "SaltWedge"
abbrev rZl : Nat := 1000000
abbrev rZm : Nat := 1000001
abbrev rZs : Nat := 1000002
def leastF (k : Int) : Int := if k = 2 then 1 else 0
def mostF (k : Int) : Int := if k = 1 then 9 else 60
/-- what a method may take from its surroundings: the tables' classes, the nest mates' links, the two static rows -/
def Env (g : GP) (U : State) : Prop :=
  va_K (gD g) vwCl (gT g) U ∧
  (va_Nw (.methodLinkNest RX0 36 yX5_isCell host5) U ∧ va_Nw (.methodLinkNest RX4 44 yX5_isCell host5) U ∧ va_Nw (.methodLinkNest RX3 62 yX5_isRise host5) U ∧ va_Nw (.fieldLinkNest RX3 52 "SaltWedge" "LEAST_SETTINGS" "[I" host5) U ∧ va_Nw (.fieldLinkNest RX3 55 "SaltWedge" "MOST_SETTINGS" "[I" host5) U) ∧
  (va_Z "SaltWedge" "LEAST_SETTINGS" "[I" (.ref (gad g rZl)) (gA g) U U.heap ∧ va_Z "SaltWedge" "MOST_SETTINGS" "[I" (.ref (gad g rZm)) (gA g) U U.heap) ∧
  va_T .int (gad g rZl) 3 (fun k => .int (I (leastF (k : Int)))) (gA g) U U.heap ∧ va_T .int (gad g rZm) 3 (fun k => .int (I (mostF (k : Int)))) (gA g) U U.heap ∧ ¬ gA g (gad g rZl) ∧ ¬ gA g (gad g rZm) ∧ ∃ (L : Nat) (xs : Nat → Int32), L ≤ 260 ∧ va_T .int (gad g rZs) L (fun k => .int (xs k)) (gA g) U U.heap
theorem Env.blind {g : GP} {U : State} (f : JFrame) (mk : MethodId) (a : Array Value) (h : Env g U) : Env g (U.calling f mk a) := by
  obtain ⟨h1, ⟨n1, n2, n3, n4, n5⟩, ⟨z1, z2⟩, y1, y2, x1, x2, LX, xs, hLX, sX⟩ := h
  have al : U.vm.Alike (U.calling f mk a).vm := Vm.Alike.refl U.vm
  exact ⟨va_K.moved (u := U) al h1, ⟨n1.same rfl rfl, n2.same rfl rfl, n3.same rfl rfl, n4.same rfl rfl, n5.same rfl rfl⟩, ⟨va_Z.moved (u := U) al z1, va_Z.moved (u := U) al z2⟩, va_T.moved (u := U) (U := U.calling f mk a) al y1, va_T.moved (u := U) (U := U.calling f mk a) al y2, x1, x2, LX, xs, hLX, va_T.moved (u := U) (U := U.calling f mk a) al sX⟩
theorem Env.go {g : GP} {s U : State} {locs : List Loc} {H : Heap} (h : Env g s) (hW : s.WarmedH U.vm) (hH : U.heap = H) (hS : va_S (gA g) s.heap H locs) : Env g U := by
  obtain ⟨h1, ⟨n1, n2, n3, n4, n5⟩, ⟨z1, z2⟩, y1, y2, x1, x2, LX, xs, hLX, sX⟩ := h
  subst hH
  have kp : ∀ a : Nat, a < s.heap.size → ¬ gA g a → U.heap[a]? = s.heap[a]? := hS.2.1
  exact ⟨va_K.moved hW.alike h1, ⟨n1.warmM hW, n2.warmM hW, n3.warmM hW, n4.warmF hW, n5.warmF hW⟩, ⟨(z1.kept kp).moved hW.alike, (z2.kept kp).moved hW.alike⟩, va_T.moved hW.alike (y1.kept kp), va_T.moved hW.alike (y2.kept kp), x1, x2, LX, xs, hLX, va_T.moved hW.alike (sX.kept kp)⟩
/-- a method's room by the depth of its calls -/
abbrev rm (f : Nat) : Room := { frames := f, cells := 0, slots := 0, locals := 33 * f }
def In (g : GP) (h : List PO) (U : State) : Prop := gK g ≤ U.heap.size ∧ va_P (gD g) vwCl (wld g h) U.heap ∧ va_D (gA g) (wld g h) ∧ Env g U
def Out (g : GP) (post : Option PV → List PO → Prop) (oc : Outcome) (t : State) : Prop := ∃ r h', oc = .returned (r.map (tr g)) ∧ post r h' ∧ va_P (gD g) vwCl (wld g h') t.heap ∧ va_D (gA g) (wld g h')
abbrev Pcg (g : GP) (h : List PO) (args : List PV) : Array Value → State → Prop := fun v U => v = (args.map (tr g)).toArray ∧ In g h U
abbrev Qcg (g : GP) (post : Option PV → List PO → Prop) : Array Value → State → Outcome → State → Prop := fun _ st oc t => Out g post oc t ∧ va_F (gA g) st t
/-- A METHOD'S CONTRACT over the pure heap: called at h with args it comes back with 'post' -/
def PM (f : Nat) (y : MethodName) (cc : ByteArray) (nL : Nat) (rt : Option FieldType) (h : List PO) (args : List PV) (post : Option PV → List PO → Prop) : Prop :=
  ∀ (l : Launch) (g : GP), Met l y (.code y cc nL rt :: GW) (rm f) (Pcg g h args) (Qcg g post) 0 0 (gA g)
def Mx (p : Program) (s : State) (m : MethodId) (args : Array Value) (meth : Method) (c : Code) (cc : ByteArray) (own : String) (nL : Nat) (rt : Option FieldType) : Prop :=
  p.tables.exec = Jvm.exec ∧ c.code = cc ∧ c.maxLocals = nL ∧ s.vm.findClass own = some m.cls ∧ (∀ w ∈ GW, w.before args s = true) ∧ meth.sig.returnType = rt ∧ meth.locks = false
/-- THE WALK: from this point of the method's code, the call comes to its end with 'post' -/
def G (f : Nat) (cc : ByteArray) (own : String) (nL : Nat) (rt : Option FieldType) (h : List PO) (pc : Nat) (lv : List (Option PV)) (st : List PV) (post : Option PV → List PO → Prop) : Prop :=
  ∀ (g : GP) (p : Program) (l : Launch) (e : Jvm.Env) (s : State) (m : MethodId) (args : Array Value) (below : List Frame) (meth : Method) (c : Code) (H : Heap) (locs : List Loc) (ls : Array Slot),
    Mx p s m args meth c cc own nL rt → Env g s → gK g ≤ s.heap.size → va_P (gD g) vwCl (wld g h) H → va_D (gA g) (wld g h) → va_S (gA g) s.heap H locs → lvh g ls nL lv →
    W p l e (rm f) s m args below meth c H locs 0 0 (MQ below (Qcg g post) args s 0 0 (gA g)) (F0 m pc ls (st.map (tr g)))
theorem lv_args_lvl (g : GP) (args : List PV) : ∀ (n k : Nat), lv_args n (args.map (tr g)) = lvl g n (args.map some ++ List.replicate k none) := by
  induction args with
  | nil =>
    intro n k
    induction k generalizing n with
    | zero => rfl
    | succ k ih =>
      have := ih (n + 1)
      simp only [List.map_nil, List.nil_append, lv_args] at this ⊢
      simp only [List.replicate_succ, lvl]
      exact this
  | cons v t ih =>
    intro n k
    simp only [List.map_cons, lv_args, tr_cat, List.cons_append, lvl]
    rw [← ih (n + 1) k]
    simp
theorem lg_sl_len (g : GP) (args : List PV) : (lg_sl (args.map (tr g))).length = args.length := by
  induction args with
  | nil => rfl
  | cons v t ih =>
    have e : lg_sl ((v :: t).map (tr g)) = [Slot.val (tr g v)] ++ lg_sl (t.map (tr g)) := by
      simp [lg_sl, tr_cat]
    rw [e]
    simp [ih]
theorem PM_of_G {f : Nat} {y : MethodName} {cc : ByteArray} {nL : Nat} {rt : Option FieldType} {h : List PO} {args : List PV} {post : Option PV → List PO → Prop} (own : String) (lv : List (Option PV))
    (ho : y.cls = own) (hy : plainName y.cls = true) (hn : args.length ≤ nL) (hlv : args.map some ++ List.replicate (nL - args.length) none = lv)
    (k : G f cc own nL rt h 0 lv [] post) : PM f y cc nL rt h args post := by
  intro l g
  refine Met.ofW (cc := cc) (maxL := nL) (ret := rt) hy rfl ?_
  intro p e s m a below meth c s₁ B hml hv
  obtain ⟨rfl, hK, hP, hD, hE⟩ := hv
  have hts := atoms_spec (ws := .code y cc nL rt :: GW) B.pre
  have hown : s.vm.findClass own = some m.cls := by rw [← ho]; exact findClass_of_methodNamed B.named
  have hl := lv_entry (args.map (tr g)) (n := nL) (by rw [lg_sl_len]; exact hn)
  rw [lg_entry_eq]
  rw [lv_args_lvl g args 0 (nL - args.length), hlv] at hl
  exact k g p l e s m _ below meth c s.heap [] _ ⟨B.exec, B.bytes, hml, hown, fun w hw => hts w (List.mem_cons_of_mem _ hw), B.returns, B.notSynchronized⟩ hE hK hP hD va_S.rf hl
end
section
section GR
variable {f : Nat} {cc : ByteArray} {own : String} {nL : Nat} {rt : Option FieldType} {h : List PO} {pc : Nat} {lv : List (Option PV)} {st : List PV} {post : Option PV → List PO → Prop}
theorem G_w {pc2 : Nat} {lv2 : List (Option PV)} {st2 : List PV} {h2 : List PO}
    (q : ∀ (g : GP) (p : Program) (l : Launch) (e : Jvm.Env) (s : State) (m : MethodId) (args : Array Value) (below : List Frame) (meth : Method) (c : Code) (H : Heap) (locs : List Loc) (ls : Array Slot), Mx p s m args meth c cc own nL rt → Env g s → gK g ≤ s.heap.size → va_P (gD g) vwCl (wld g h) H → va_D (gA g) (wld g h) → va_S (gA g) s.heap H locs → lvh g ls nL lv →
      (∀ (H : Heap) (locs : List Loc) (ls : Array Slot), va_P (gD g) vwCl (wld g h2) H → va_D (gA g) (wld g h2) → va_S (gA g) s.heap H locs → lvh g ls nL lv2 → W p l e (rm f) s m args below meth c H locs 0 0 (MQ below (Qcg g post) args s 0 0 (gA g)) (F0 m pc2 ls (st2.map (tr g)))) →
      W p l e (rm f) s m args below meth c H locs 0 0 (MQ below (Qcg g post) args s 0 0 (gA g)) (F0 m pc ls (st.map (tr g))))
    (k : G f cc own nL rt h2 pc2 lv2 st2 post) : G f cc own nL rt h pc lv st post :=
  fun g p l e s m args below meth c H locs ls M E hK hP hD hS hl => q g p l e s m args below meth c H locs ls M E hK hP hD hS hl (fun H locs ls hP hD hS hl => k g p l e s m args below meth c H locs ls M E hK hP hD hS hl)
theorem G_iconst {n : Int} (hd : decode cc pc = .ok (.iconst n, 1)) (k : G f cc own nL rt h (pc + 1) lv (i_ n :: st) post) : G f cc own nL rt h pc lv st post :=
  G_w (fun g p l e s m args below meth c H locs ls M E hK hP hD hS hl kk => lv_iconst (v := I n) M.1 M.2.1 hd rfl (kk H locs ls hP hD hS hl)) k
theorem I_byte {n : Int} (a : -128 ≤ n) (b : n ≤ 127) : (Int8.ofInt n).toInt32 = I n := by
  rw [← Int32.toInt_inj, I_toInt ⟨by omega, by omega⟩, Int8.toInt_toInt32, Int8.toInt_ofInt_of_le (by omega) (by omega)]
theorem I_short {n : Int} (a : -32768 ≤ n) (b : n ≤ 32767) : (Int16.ofInt n).toInt32 = I n := by
  rw [← Int32.toInt_inj, I_toInt ⟨by omega, by omega⟩, Int16.toInt_toInt32, Int16.toInt_ofInt_of_le (by omega) (by omega)]
theorem G_bipush {n : Int} (hd : decode cc pc = .ok (.bipush n, 2)) (ha : decide (-128 ≤ n ∧ n ≤ 127) = true) (k : G f cc own nL rt h (pc + 2) lv (i_ n :: st) post) : G f cc own nL rt h pc lv st post :=
  G_w (fun g p l e s m args below meth c H locs ls M E hK hP hD hS hl kk => lv_bipush (v := I n) M.1 M.2.1 hd (I_byte (of_decide_eq_true ha).1 (of_decide_eq_true ha).2) (kk H locs ls hP hD hS hl)) k
theorem G_sipush {n : Int} (hd : decode cc pc = .ok (.sipush n, 3)) (ha : decide (-32768 ≤ n ∧ n ≤ 32767) = true) (k : G f cc own nL rt h (pc + 3) lv (i_ n :: st) post) : G f cc own nL rt h pc lv st post :=
  G_w (fun g p l e s m args below meth c H locs ls M E hK hP hD hS hl kk => lv_sipush (v := I n) M.1 M.2.1 hd (I_short (of_decide_eq_true ha).1 (of_decide_eq_true ha).2) (kk H locs ls hP hD hS hl)) k
theorem G_iload_n {q : Fin 4} {i : Nat} {x : Int} (hd : decode cc pc = .ok (.iload_n q, 1)) (hi : (q : Nat) = i) (hv : lv[i]? = some (some (i_ x))) (k : G f cc own nL rt h (pc + 1) lv (i_ x :: st) post) : G f cc own nL rt h pc lv st post :=
  G_w (fun g p l e s m args below meth c H locs ls M E hK hP hD hS hl kk => lv_iload_n (x := I x) M.1 M.2.1 hd hi (lvh_at hl hv) (kk H locs ls hP hD hS hl)) k
theorem G_iload {i : Nat} {x : Int} (hd : decode cc pc = .ok (.iload i, 2)) (hv : lv[i]? = some (some (i_ x))) (k : G f cc own nL rt h (pc + 2) lv (i_ x :: st) post) : G f cc own nL rt h pc lv st post :=
  G_w (fun g p l e s m args below meth c H locs ls M E hK hP hD hS hl kk => lv_iload (x := I x) M.1 M.2.1 hd (lvh_at hl hv) (kk H locs ls hP hD hS hl)) k
theorem G_aload_n {q : Fin 4} {i : Nat} {x : Nat} (hd : decode cc pc = .ok (.aload_n q, 1)) (hi : (q : Nat) = i) (hv : lv[i]? = some (some (r_ x))) (k : G f cc own nL rt h (pc + 1) lv (r_ x :: st) post) : G f cc own nL rt h pc lv st post :=
  G_w (fun g p l e s m args below meth c H locs ls M E hK hP hD hS hl kk => lv_aload_n (x := gad g x) M.1 M.2.1 hd hi (lvh_at hl hv) (kk H locs ls hP hD hS hl)) k
theorem G_aload {i : Nat} {x : Nat} (hd : decode cc pc = .ok (.aload i, 2)) (hv : lv[i]? = some (some (r_ x))) (k : G f cc own nL rt h (pc + 2) lv (r_ x :: st) post) : G f cc own nL rt h pc lv st post :=
  G_w (fun g p l e s m args below meth c H locs ls M E hK hP hD hS hl kk => lv_aload (x := gad g x) M.1 M.2.1 hd (lvh_at hl hv) (kk H locs ls hP hD hS hl)) k
theorem G_istore_n {q : Fin 4} {i : Nat} {x : Int} {lv2 : List (Option PV)} (hd : decode cc pc = .ok (.istore_n q, 1)) (hi : (q : Nat) = i) (hn : i < nL) (hl2 : lv.set i (some (i_ x)) = lv2) (k : G f cc own nL rt h (pc + 1) lv2 st post) : G f cc own nL rt h pc lv (i_ x :: st) post :=
  G_w (fun g p l e s m args below meth c H locs ls M E hK hP hD hS hl kk => lv_istore_n (x := I x) (nL := nL) (lv := lvl g 0 lv) M.1 M.2.1 hd hi hl hn rfl (fun ls' hl' => kk H locs ls' hP hD hS (hl2 ▸ lvh_set (v := i_ x) hl'))) k
theorem G_istore {i : Nat} {x : Int} {lv2 : List (Option PV)} (hd : decode cc pc = .ok (.istore i, 2)) (hn : i < nL) (hl2 : lv.set i (some (i_ x)) = lv2) (k : G f cc own nL rt h (pc + 2) lv2 st post) : G f cc own nL rt h pc lv (i_ x :: st) post :=
  G_w (fun g p l e s m args below meth c H locs ls M E hK hP hD hS hl kk => lv_istore (x := I x) (nL := nL) (lv := lvl g 0 lv) M.1 M.2.1 hd hl hn rfl (fun ls' hl' => kk H locs ls' hP hD hS (hl2 ▸ lvh_set (v := i_ x) hl'))) k
theorem G_astore_n {q : Fin 4} {i : Nat} {x : Nat} {lv2 : List (Option PV)} (hd : decode cc pc = .ok (.astore_n q, 1)) (hi : (q : Nat) = i) (hn : i < nL) (hl2 : lv.set i (some (r_ x)) = lv2) (k : G f cc own nL rt h (pc + 1) lv2 st post) : G f cc own nL rt h pc lv (r_ x :: st) post :=
  G_w (fun g p l e s m args below meth c H locs ls M E hK hP hD hS hl kk => lv_astore_n (x := gad g x) (nL := nL) (lv := lvl g 0 lv) M.1 M.2.1 hd hi hl hn rfl (fun ls' hl' => kk H locs ls' hP hD hS (hl2 ▸ lvh_set (v := r_ x) hl'))) k
theorem G_astore {i : Nat} {x : Nat} {lv2 : List (Option PV)} (hd : decode cc pc = .ok (.astore i, 2)) (hn : i < nL) (hl2 : lv.set i (some (r_ x)) = lv2) (k : G f cc own nL rt h (pc + 2) lv2 st post) : G f cc own nL rt h pc lv (r_ x :: st) post :=
  G_w (fun g p l e s m args below meth c H locs ls M E hK hP hD hS hl kk => lv_astore (x := gad g x) (nL := nL) (lv := lvl g 0 lv) M.1 M.2.1 hd hl hn rfl (fun ls' hl' => kk H locs ls' hP hD hS (hl2 ▸ lvh_set (v := r_ x) hl'))) k
theorem lvl_find {g : GP} {lv : List (Option PV)} {i : Nat} {v : PV} (e : lv[i]? = some (some v)) : ∃ k : Nat, (lvl g 0 lv)[k]? = some (i, tr g v) := List.getElem?_of_mem (lvl_mem.mpr ⟨i, v, e, by simp⟩)
theorem G_iinc {i : Nat} {n x : Int} {lv2 : List (Option PV)} (hd : decode cc pc = .ok (.iinc i n, 3)) (hn : i < nL) (hv : lv[i]? = some (some (i_ x))) (hl2 : lv.set i (some (i_ (x + n))) = lv2) (k : G f cc own nL rt h (pc + 3) lv2 st post) : G f cc own nL rt h pc lv st post :=
  G_w (fun g p l e s m args below meth c H locs ls M E hK hP hD hS hl kk => by
    obtain ⟨q, hq⟩ := lvl_find (g := g) hv
    exact lv_iinc (x := I x) (v := I (x + n)) (nL := nL) (lv := lvl g 0 lv) (k := q) M.1 M.2.1 hd hl hq (I_add x n) hn rfl (fun ls' hl' => kk H locs ls' hP hD hS (hl2 ▸ lvh_set (v := i_ (x + n)) hl'))) k
theorem G_forget (i : Nat) (k : G f cc own nL rt h pc (lv.set i none) st post) : G f cc own nL rt h pc lv st post :=
  G_w (fun g p l e s m args below meth c H locs ls M E hK hP hD hS hl kk => kk H locs ls hP hD hS (lvh_none i hl)) k
theorem G_iadd {x y : Int} (hd : decode cc pc = .ok (.iadd, 1)) (k : G f cc own nL rt h (pc + 1) lv (i_ (x + y) :: st) post) : G f cc own nL rt h pc lv (i_ y :: i_ x :: st) post :=
  G_w (fun g p l e s m args below meth c H locs ls M E hK hP hD hS hl kk => lv_iadd (x := I x) (y := I y) M.1 M.2.1 hd (by rw [I_add]; exact kk H locs ls hP hD hS hl)) k
theorem G_isub {x y : Int} (hd : decode cc pc = .ok (.isub, 1)) (k : G f cc own nL rt h (pc + 1) lv (i_ (x - y) :: st) post) : G f cc own nL rt h pc lv (i_ y :: i_ x :: st) post :=
  G_w (fun g p l e s m args below meth c H locs ls M E hK hP hD hS hl kk => lv_isub (x := I x) (y := I y) M.1 M.2.1 hd (by rw [I_sub]; exact kk H locs ls hP hD hS hl)) k
theorem G_imul {x y : Int} (hd : decode cc pc = .ok (.imul, 1)) (k : G f cc own nL rt h (pc + 1) lv (i_ (x * y) :: st) post) : G f cc own nL rt h pc lv (i_ y :: i_ x :: st) post :=
  G_w (fun g p l e s m args below meth c H locs ls M E hK hP hD hS hl kk => lv_imul (x := I x) (y := I y) M.1 M.2.1 hd (by rw [I_mul]; exact kk H locs ls hP hD hS hl)) k
theorem G_ineg {x : Int} (hd : decode cc pc = .ok (.ineg, 1)) (k : G f cc own nL rt h (pc + 1) lv (i_ (-x) :: st) post) : G f cc own nL rt h pc lv (i_ x :: st) post :=
  G_w (fun g p l e s m args below meth c H locs ls M E hK hP hD hS hl kk => lv_ineg (x := I x) M.1 M.2.1 hd (by rw [I_neg]; exact kk H locs ls hP hD hS hl)) k
theorem G_dup {v : PV} (hd : decode cc pc = .ok (.dup, 1)) (k : G f cc own nL rt h (pc + 1) lv (v :: v :: st) post) : G f cc own nL rt h pc lv (v :: st) post :=
  G_w (fun g p l e s m args below meth c H locs ls M E hK hP hD hS hl kk => lv_dup M.1 M.2.1 hd (tr_cat g v) (kk H locs ls hP hD hS hl)) k
theorem G_dup2 {v w : PV} (hd : decode cc pc = .ok (.dup2, 1)) (k : G f cc own nL rt h (pc + 1) lv (v :: w :: v :: w :: st) post) : G f cc own nL rt h pc lv (v :: w :: st) post :=
  G_w (fun g p l e s m args below meth c H locs ls M E hK hP hD hS hl kk => lv_dup2_11 M.1 M.2.1 hd (tr_cat g v) (tr_cat g w) (kk H locs ls hP hD hS hl)) k
theorem G_pop {v : PV} (hd : decode cc pc = .ok (.pop, 1)) (k : G f cc own nL rt h (pc + 1) lv st post) : G f cc own nL rt h pc lv (v :: st) post :=
  G_w (fun g p l e s m args below meth c H locs ls M E hK hP hD hS hl kk => lv_pop M.1 M.2.1 hd (tr_cat g v) (kk H locs ls hP hD hS hl)) k
theorem G_goto {off : Int} {tgt : Nat} (hd : decode cc pc = .ok (.goto off, 3)) (ht : (pc : Int) + off = (tgt : Int)) (k : G f cc own nL rt h tgt lv st post) : G f cc own nL rt h pc lv st post :=
  G_w (fun g p l e s m args below meth c H locs ls M E hK hP hD hS hl kk => lv_goto M.1 M.2.1 hd ht (kk H locs ls hP hD hS hl)) k
theorem G_icmp_eq {x y : Int} {off : Int} {tgt : Nat} (hd : decode cc pc = .ok (.if_icmp .eq off, 3)) (ht : (pc : Int) + off = (tgt : Int)) (hx : inR x) (hy : inR y) (kt : x = y → G f cc own nL rt h tgt lv st post) (kf : ¬ x = y → G f cc own nL rt h (pc + 3) lv st post) : G f cc own nL rt h pc lv (i_ y :: i_ x :: st) post :=
  fun g p l e s m args below meth c H locs ls M E hK hP hD hS hl => lv_icmp_eq (x := I x) (y := I y) M.1 M.2.1 hd ht (fun q => kt ((I_eq hx hy).mp q) g p l e s m args below meth c H locs ls M E hK hP hD hS hl) (fun q => kf (fun z => q ((I_eq hx hy).mpr z)) g p l e s m args below meth c H locs ls M E hK hP hD hS hl)
theorem G_if_eq {x : Int} {off : Int} {tgt : Nat} (hd : decode cc pc = .ok (.ifCond .eq off, 3)) (ht : (pc : Int) + off = (tgt : Int)) (hx : inR x) (kt : x = 0 → G f cc own nL rt h tgt lv st post) (kf : ¬ x = 0 → G f cc own nL rt h (pc + 3) lv st post) : G f cc own nL rt h pc lv (i_ x :: st) post :=
  fun g p l e s m args below meth c H locs ls M E hK hP hD hS hl => lv_if_eq (x := I x) M.1 M.2.1 hd ht (fun q => kt ((I_eq0 hx).mp q) g p l e s m args below meth c H locs ls M E hK hP hD hS hl) (fun q => kf (fun z => q ((I_eq0 hx).mpr z)) g p l e s m args below meth c H locs ls M E hK hP hD hS hl)
theorem G_icmp_ne {x y : Int} {off : Int} {tgt : Nat} (hd : decode cc pc = .ok (.if_icmp .ne off, 3)) (ht : (pc : Int) + off = (tgt : Int)) (hx : inR x) (hy : inR y) (kt : ¬ x = y → G f cc own nL rt h tgt lv st post) (kf : x = y → G f cc own nL rt h (pc + 3) lv st post) : G f cc own nL rt h pc lv (i_ y :: i_ x :: st) post :=
  fun g p l e s m args below meth c H locs ls M E hK hP hD hS hl => lv_icmp_ne (x := I x) (y := I y) M.1 M.2.1 hd ht (fun q => kt (fun z => q ((I_eq hx hy).mpr z)) g p l e s m args below meth c H locs ls M E hK hP hD hS hl) (fun q => kf ((I_eq hx hy).mp q) g p l e s m args below meth c H locs ls M E hK hP hD hS hl)
theorem G_if_ne {x : Int} {off : Int} {tgt : Nat} (hd : decode cc pc = .ok (.ifCond .ne off, 3)) (ht : (pc : Int) + off = (tgt : Int)) (hx : inR x) (kt : ¬ x = 0 → G f cc own nL rt h tgt lv st post) (kf : x = 0 → G f cc own nL rt h (pc + 3) lv st post) : G f cc own nL rt h pc lv (i_ x :: st) post :=
  fun g p l e s m args below meth c H locs ls M E hK hP hD hS hl => lv_if_ne (x := I x) M.1 M.2.1 hd ht (fun q => kt (fun z => q ((I_eq0 hx).mpr z)) g p l e s m args below meth c H locs ls M E hK hP hD hS hl) (fun q => kf ((I_eq0 hx).mp q) g p l e s m args below meth c H locs ls M E hK hP hD hS hl)
theorem G_icmp_lt {x y : Int} {off : Int} {tgt : Nat} (hd : decode cc pc = .ok (.if_icmp .lt off, 3)) (ht : (pc : Int) + off = (tgt : Int)) (hx : inR x) (hy : inR y) (kt : x < y → G f cc own nL rt h tgt lv st post) (kf : y ≤ x → G f cc own nL rt h (pc + 3) lv st post) : G f cc own nL rt h pc lv (i_ y :: i_ x :: st) post :=
  fun g p l e s m args below meth c H locs ls M E hK hP hD hS hl => lv_icmp_lt (x := I x) (y := I y) M.1 M.2.1 hd ht (fun q => kt ((I_lt hx hy).mp q) g p l e s m args below meth c H locs ls M E hK hP hD hS hl) (fun q => kf (Int.not_lt.mp (fun z => q ((I_lt hx hy).mpr z))) g p l e s m args below meth c H locs ls M E hK hP hD hS hl)
theorem G_if_lt {x : Int} {off : Int} {tgt : Nat} (hd : decode cc pc = .ok (.ifCond .lt off, 3)) (ht : (pc : Int) + off = (tgt : Int)) (hx : inR x) (kt : x < 0 → G f cc own nL rt h tgt lv st post) (kf : 0 ≤ x → G f cc own nL rt h (pc + 3) lv st post) : G f cc own nL rt h pc lv (i_ x :: st) post :=
  fun g p l e s m args below meth c H locs ls M E hK hP hD hS hl => lv_if_lt (x := I x) M.1 M.2.1 hd ht (fun q => kt ((I_lt0 hx).mp q) g p l e s m args below meth c H locs ls M E hK hP hD hS hl) (fun q => kf (Int.not_lt.mp (fun z => q ((I_lt0 hx).mpr z))) g p l e s m args below meth c H locs ls M E hK hP hD hS hl)
theorem G_icmp_ge {x y : Int} {off : Int} {tgt : Nat} (hd : decode cc pc = .ok (.if_icmp .ge off, 3)) (ht : (pc : Int) + off = (tgt : Int)) (hx : inR x) (hy : inR y) (kt : y ≤ x → G f cc own nL rt h tgt lv st post) (kf : x < y → G f cc own nL rt h (pc + 3) lv st post) : G f cc own nL rt h pc lv (i_ y :: i_ x :: st) post :=
  fun g p l e s m args below meth c H locs ls M E hK hP hD hS hl => lv_icmp_ge (x := I x) (y := I y) M.1 M.2.1 hd ht (fun q => kt ((I_le hy hx).mp q) g p l e s m args below meth c H locs ls M E hK hP hD hS hl) (fun q => kf (Int.not_le.mp (fun z => q ((I_le hy hx).mpr z))) g p l e s m args below meth c H locs ls M E hK hP hD hS hl)
theorem G_if_ge {x : Int} {off : Int} {tgt : Nat} (hd : decode cc pc = .ok (.ifCond .ge off, 3)) (ht : (pc : Int) + off = (tgt : Int)) (hx : inR x) (kt : 0 ≤ x → G f cc own nL rt h tgt lv st post) (kf : x < 0 → G f cc own nL rt h (pc + 3) lv st post) : G f cc own nL rt h pc lv (i_ x :: st) post :=
  fun g p l e s m args below meth c H locs ls M E hK hP hD hS hl => lv_if_ge (x := I x) M.1 M.2.1 hd ht (fun q => kt ((I_ge0 hx).mp q) g p l e s m args below meth c H locs ls M E hK hP hD hS hl) (fun q => kf (Int.not_le.mp (fun z => q ((I_ge0 hx).mpr z))) g p l e s m args below meth c H locs ls M E hK hP hD hS hl)
theorem G_icmp_gt {x y : Int} {off : Int} {tgt : Nat} (hd : decode cc pc = .ok (.if_icmp .gt off, 3)) (ht : (pc : Int) + off = (tgt : Int)) (hx : inR x) (hy : inR y) (kt : y < x → G f cc own nL rt h tgt lv st post) (kf : x ≤ y → G f cc own nL rt h (pc + 3) lv st post) : G f cc own nL rt h pc lv (i_ y :: i_ x :: st) post :=
  fun g p l e s m args below meth c H locs ls M E hK hP hD hS hl => lv_icmp_gt (x := I x) (y := I y) M.1 M.2.1 hd ht (fun q => kt ((I_lt hy hx).mp q) g p l e s m args below meth c H locs ls M E hK hP hD hS hl) (fun q => kf (Int.not_lt.mp (fun z => q ((I_lt hy hx).mpr z))) g p l e s m args below meth c H locs ls M E hK hP hD hS hl)
theorem G_if_gt {x : Int} {off : Int} {tgt : Nat} (hd : decode cc pc = .ok (.ifCond .gt off, 3)) (ht : (pc : Int) + off = (tgt : Int)) (hx : inR x) (kt : 0 < x → G f cc own nL rt h tgt lv st post) (kf : x ≤ 0 → G f cc own nL rt h (pc + 3) lv st post) : G f cc own nL rt h pc lv (i_ x :: st) post :=
  fun g p l e s m args below meth c H locs ls M E hK hP hD hS hl => lv_if_gt (x := I x) M.1 M.2.1 hd ht (fun q => kt ((I_gt0 hx).mp q) g p l e s m args below meth c H locs ls M E hK hP hD hS hl) (fun q => kf (Int.not_lt.mp (fun z => q ((I_gt0 hx).mpr z))) g p l e s m args below meth c H locs ls M E hK hP hD hS hl)
theorem G_icmp_le {x y : Int} {off : Int} {tgt : Nat} (hd : decode cc pc = .ok (.if_icmp .le off, 3)) (ht : (pc : Int) + off = (tgt : Int)) (hx : inR x) (hy : inR y) (kt : x ≤ y → G f cc own nL rt h tgt lv st post) (kf : y < x → G f cc own nL rt h (pc + 3) lv st post) : G f cc own nL rt h pc lv (i_ y :: i_ x :: st) post :=
  fun g p l e s m args below meth c H locs ls M E hK hP hD hS hl => lv_icmp_le (x := I x) (y := I y) M.1 M.2.1 hd ht (fun q => kt ((I_le hx hy).mp q) g p l e s m args below meth c H locs ls M E hK hP hD hS hl) (fun q => kf (Int.not_le.mp (fun z => q ((I_le hx hy).mpr z))) g p l e s m args below meth c H locs ls M E hK hP hD hS hl)
theorem G_if_le {x : Int} {off : Int} {tgt : Nat} (hd : decode cc pc = .ok (.ifCond .le off, 3)) (ht : (pc : Int) + off = (tgt : Int)) (hx : inR x) (kt : x ≤ 0 → G f cc own nL rt h tgt lv st post) (kf : 0 < x → G f cc own nL rt h (pc + 3) lv st post) : G f cc own nL rt h pc lv (i_ x :: st) post :=
  fun g p l e s m args below meth c H locs ls M E hK hP hD hS hl => lv_if_le (x := I x) M.1 M.2.1 hd ht (fun q => kt ((I_le0 hx).mp q) g p l e s m args below meth c H locs ls M E hK hP hD hS hl) (fun q => kf (Int.not_le.mp (fun z => q ((I_le0 hx).mpr z))) g p l e s m args below meth c H locs ls M E hK hP hD hS hl)
theorem G_ifnonnull {x : Nat} {off : Int} {tgt : Nat} (hd : decode cc pc = .ok (.ifnonnull off, 3)) (ht : (pc : Int) + off = (tgt : Int)) (k : G f cc own nL rt h tgt lv st post) : G f cc own nL rt h pc lv (r_ x :: st) post :=
  G_w (fun g p l e s m args below meth c H locs ls M E hK hP hD hS hl kk => lv_ifnonnull (x := gad g x) M.1 M.2.1 hd ht (kk H locs ls hP hD hS hl)) k
theorem G_ifnull {x : Nat} {off : Int} (hd : decode cc pc = .ok (.ifnull off, 3)) (k : G f cc own nL rt h (pc + 3) lv st post) : G f cc own nL rt h pc lv (r_ x :: st) post :=
  G_w (fun g p l e s m args below meth c H locs ls M E hK hP hD hS hl kk => lv_ifnull (x := gad g x) M.1 M.2.1 hd (kk H locs ls hP hD hS hl)) k
theorem G_ldc {idx : Nat} {x : Int} (hd : decode cc pc = .ok (.ldc idx, 2)) (hc : Cond.constant own idx (I x) ∈ GW) (k : G f cc own nL rt h (pc + 2) lv (i_ x :: st) post) : G f cc own nL rt h pc lv st post :=
  G_w (fun g p l e s m args below meth c H locs ls M E hK hP hD hS hl kk => lv_ldc (v := I x) M.1 M.2.1 M.2.2.2.1 (M.2.2.2.2.1 _ hc) hd (kk H locs ls hP hD hS hl)) k
theorem G_tblIn {dflt lo hi : Int} {offs : Array Int} {len : Nat} {x : Int} {off : Int} {tgt : Nat} (hd : decode cc pc = .ok (.tableswitch dflt lo hi offs, len)) (hx : inR x) (h1 : lo ≤ x) (h2 : x ≤ hi) (ho : offs[(x - lo).toNat]? = some off) (ht : (pc : Int) + off = (tgt : Int)) (k : G f cc own nL rt h tgt lv st post) : G f cc own nL rt h pc lv (i_ x :: st) post :=
  G_w (fun g p l e s m args below meth c H locs ls M E hK hP hD hS hl kk => lv_tableIn (x := I x) M.1 M.2.1 hd (by rw [I_toInt hx]; omega) (by rw [I_toInt hx]; omega) (by rw [I_toInt hx]; exact ho) ht (kk H locs ls hP hD hS hl)) k
theorem G_tblOut {dflt lo hi : Int} {offs : Array Int} {len : Nat} {x : Int} {tgt : Nat} (hd : decode cc pc = .ok (.tableswitch dflt lo hi offs, len)) (hx : inR x) (h1 : x < lo ∨ hi < x) (ht : (pc : Int) + dflt = (tgt : Int)) (k : G f cc own nL rt h tgt lv st post) : G f cc own nL rt h pc lv (i_ x :: st) post :=
  G_w (fun g p l e s m args below meth c H locs ls M E hK hP hD hS hl kk => lv_tableOut (x := I x) M.1 M.2.1 hd (by rw [I_toInt hx]; exact h1) ht (kk H locs ls hP hD hS hl)) k
theorem G_lookup {dflt : Int} {ps : Array (Int × Int)} {len : Nat} {x off : Int} {tgt : Nat} (hd : decode cc pc = .ok (.lookupswitch dflt ps, len)) (hp : (ps.toList.zip (ps.toList.drop 1)).all (fun (a, next) => a.1 < next.1) = true) (hx : inR x) (ho : Op.lookupswitch.offset ps.toList dflt x = off) (ht : (pc : Int) + off = (tgt : Int)) (k : G f cc own nL rt h tgt lv st post) : G f cc own nL rt h pc lv (i_ x :: st) post :=
  G_w (fun g p l e s m args below meth c H locs ls M E hK hP hD hS hl kk => lv_lookup (x := I x) M.1 M.2.1 hd hp (by rw [I_toInt hx]; exact ho) ht (kk H locs ls hP hD hS hl)) k
/-- fields: what a getfield of an object of class ci, field k, links -/
def FL (own : String) (idx ci k : Nat) : Prop := ∃ (C : String) (T : u_T) (N : Nat), vwCl[ci]? = some (C, T, N) ∧ k < N ∧ (∀ w ∈ u_ws C T N, w ∈ GW) ∧ Cond.fieldLink own idx (T k).1 (T k).2.1 (T k).2.2.1 ∈ GW
def FP (own : String) (idx ci k : Nat) (ty : FieldType) : Prop := ∃ (C : String) (T : u_T) (N : Nat) (ty0 : Nat → FieldType), vwCl[ci]? = some (C, T, N) ∧ k < N ∧ (∀ w ∈ u_ws C T N, w ∈ GW) ∧ Cond.fieldLink own idx (T k).1 (T k).2.1 (T k).2.2.1 ∈ GW ∧ (∀ k, k < N → parseFieldDescriptor (T k).2.2.1 = some (ty0 k)) ∧ (∀ a, a < N → ∀ b, b < N → a ≠ b → (T a).2.1 ≠ (T b).2.1) ∧ (T k).2.2.2 = false ∧ parseFieldDescriptor (T k).2.2.1 = some ty
theorem G_getf {idx b ci k : Nat} {fs : List PV} {v : PV} (hF : FL own idx ci k) (hd : decode cc pc = .ok (.getfield idx, 3)) (hb : h[b]? = some (oO ci fs)) (hv : fs[k]? = some v) (kk : G f cc own nL rt h (pc + 3) lv (v :: st) post) : G f cc own nL rt h pc lv (r_ b :: st) post := by
  obtain ⟨C, T, N, h1, h2, h3, h4⟩ := hF
  refine G_w (fun g p l e s m args below meth c H locs ls M E hK hP hD hS hl kk => ?_) kk
  exact va_get (D := gD g) (cl := vwCl) (ci := ci) (v := tr g v) (fs := fs.map (tr g)) M.1 M.2.1 M.2.2.2.2.1 h3 M.2.2.2.1 E.1 hP b (wld_get hb) h1 k h2 (M.2.2.2.2.1 _ h4) (fun _ q => q) (by rw [List.getElem?_map, hv]; rfl) hd (kk H locs ls hP hD hS hl)
theorem G_putI {idx b ci k : Nat} {fs : List PV} {x : Int} {fs2 : List PV} (hF : FP own idx ci k .int) (hd : decode cc pc = .ok (.putfield idx, 3)) (hb : h[b]? = some (oO ci fs)) (hk : k < fs.length) (hfs : fs.set k (i_ x) = fs2) (kk : G f cc own nL rt (h.set b (oO ci fs2)) (pc + 3) lv st post) : G f cc own nL rt h pc lv (i_ x :: r_ b :: st) post := by
  obtain ⟨C, T, N, ty0, h1, h2, h3, h4, h5, h6, h7, h8⟩ := hF
  subst hfs
  refine G_w (fun g p l e s m args below meth c H locs ls M E hK hP hD hS hl kk => ?_) kk
  refine va_put (D := gD g) (cl := vwCl) (ci := ci) (v := .int (I x)) (ty := .int) (fs := fs.map (tr g)) M.1 M.2.1 M.2.2.2.2.1 h3 ty0 h5 h6 M.2.2.2.1 E.1 hP hD hS b (wld_get hb) h1 k h2 (M.2.2.2.2.1 _ h4) (fun _ q => q) h7 h8 rfl rfl (by simpa using hk) hd (fun H1 locs1 hP1 hD1 hS1 => ?_)
  have e : (wld g h).set b (gad g b, .inr (ci, (fs.map (tr g)).set k (.int (I x)))) = wld g (h.set b (oO ci (fs.set k (i_ x)))) := by
    rw [wld_set]
    show _ = (wld g h).set b (gad g b, .inr (ci, (fs.set k (i_ x)).map (tr g)))
    rw [List.map_set]
    rfl
  rw [e] at hP1 hD1
  exact kk H1 locs1 ls hP1 hD1 hS1 hl
theorem G_putZ {idx b ci k : Nat} {fs : List PV} {x : Int} {fs2 : List PV} (hF : FP own idx ci k .boolean) (hd : decode cc pc = .ok (.putfield idx, 3)) (hx : x = 0 ∨ x = 1) (hb : h[b]? = some (oO ci fs)) (hk : k < fs.length) (hfs : fs.set k (i_ x) = fs2) (kk : G f cc own nL rt (h.set b (oO ci fs2)) (pc + 3) lv st post) : G f cc own nL rt h pc lv (i_ x :: r_ b :: st) post := by
  obtain ⟨C, T, N, ty0, h1, h2, h3, h4, h5, h6, h7, h8⟩ := hF
  subst hfs
  refine G_w (fun g p l e s m args below meth c H locs ls M E hK hP hD hS hl kk => ?_) kk
  refine va_put (D := gD g) (cl := vwCl) (ci := ci) (v := .int (I x)) (ty := .boolean) (fs := fs.map (tr g)) M.1 M.2.1 M.2.2.2.2.1 h3 ty0 h5 h6 M.2.2.2.1 E.1 hP hD hS b (wld_get hb) h1 k h2 (M.2.2.2.2.1 _ h4) (fun _ q => q) h7 h8 (by rcases hx with rfl | rfl <;> rfl) (by rcases hx with rfl | rfl <;> rfl) (by simpa using hk) hd (fun H1 locs1 hP1 hD1 hS1 => ?_)
  have e : (wld g h).set b (gad g b, .inr (ci, (fs.map (tr g)).set k (.int (I x)))) = wld g (h.set b (oO ci (fs.set k (i_ x)))) := by
    rw [wld_set]
    show _ = (wld g h).set b (gad g b, .inr (ci, (fs.set k (i_ x)).map (tr g)))
    rw [List.map_set]
    rfl
  rw [e] at hP1 hD1
  exact kk H1 locs1 ls hP1 hD1 hS1 hl
theorem clampN {x : Int} {n : Nat} (h0 : 0 ≤ x) (h1 : x < n) (hn : n ≤ 2147483647) : ((I x).toNatClampNeg : Int) = x := by
  rw [I_clamp ⟨by omega, by omega⟩]; omega
theorem G_iald {a n : Nat} {q : Int → Int} {x : Int} (hd : decode cc pc = .ok (.iaload, 1)) (ha : h[a]? = some (oI n q)) (h0 : 0 ≤ x) (h1 : x < n) (hn : n ≤ 2147483647 := by decide) (kk : G f cc own nL rt h (pc + 1) lv (i_ (q x) :: st) post) : G f cc own nL rt h pc lv (i_ x :: r_ a :: st) post := by
  refine G_w (fun g p l e s m args below meth c H locs ls M E hK hP hD hS hl kk => ?_) kk
  refine va_iald (D := gD g) (cl := vwCl) (tys := gT g) (n := n) (f := fun k => I (q (k : Int))) M.1 M.2.1 E.1 hP a 0 (wld_get ha) rfl (I_in h0 h1 hn) hd ?_
  show W _ _ _ _ _ _ _ _ _ _ _ _ _ _ _ (F0 m (pc + 1) ls (.int (I (q (((I x).toNatClampNeg : Nat) : Int))) :: _))
  rw [clampN h0 h1 hn]
  exact kk H locs ls hP hD hS hl
theorem G_cald {a n : Nat} {q : Int → Int} {x : Int} (hd : decode cc pc = .ok (.caload, 1)) (ha : h[a]? = some (oC n q)) (h0 : 0 ≤ x) (h1 : x < n) (hn : n ≤ 2147483647 := by decide) (kk : G f cc own nL rt h (pc + 1) lv (i_ (q x) :: st) post) : G f cc own nL rt h pc lv (i_ x :: r_ a :: st) post := by
  refine G_w (fun g p l e s m args below meth c H locs ls M E hK hP hD hS hl kk => ?_) kk
  refine va_cald (D := gD g) (cl := vwCl) (tys := gT g) (n := n) (f := fun k => I (q (k : Int))) M.1 M.2.1 E.1 hP a 1 (wld_get ha) rfl (I_in h0 h1 hn) hd ?_
  show W _ _ _ _ _ _ _ _ _ _ _ _ _ _ _ (F0 m (pc + 1) ls (.int (I (q (((I x).toNatClampNeg : Nat) : Int))) :: _))
  rw [clampN h0 h1 hn]
  exact kk H locs ls hP hD hS hl
theorem fup_I {q : Int → Int} {x v : Int} {n : Nat} (h0 : 0 ≤ x) (h1 : x < n) (hn : n ≤ 2147483647) : upd (fun k => I (q (k : Int))) (I x).toNatClampNeg (I v) = fun k : Nat => I (fup q x v (k : Int)) := by
  funext k
  have e := clampN h0 h1 hn
  unfold upd fup
  by_cases hk : k = (I x).toNatClampNeg
  · rw [if_pos hk, if_pos (by rw [hk]; exact e)]
  · rw [if_neg hk, if_neg (fun z => hk (by omega))]
theorem G_iast {a n : Nat} {q q2 : Int → Int} {x v : Int} (hd : decode cc pc = .ok (.iastore, 1)) (ha : h[a]? = some (oI n q)) (h0 : 0 ≤ x) (h1 : x < n) (hn : n ≤ 2147483647 := by decide) (hq : fup q x v = q2) (kk : G f cc own nL rt (h.set a (oI n q2)) (pc + 1) lv st post) : G f cc own nL rt h pc lv (i_ v :: i_ x :: r_ a :: st) post := by
  subst hq
  refine G_w (fun g p l e s m args below meth c H locs ls M E hK hP hD hS hl kk => ?_) kk
  refine va_iast (D := gD g) (cl := vwCl) (tys := gT g) (n := n) (f := fun k => I (q (k : Int))) (x := I v) M.1 M.2.1 E.1 hP hD hS a 0 (wld_get ha) rfl (I_in h0 h1 hn) hd (fun H1 locs1 hP1 hD1 hS1 => ?_)
  have e : (wld g h).set a (gad g a, .inl (gI g, n, .inl (upd (fun k => I (q (k : Int))) (I x).toNatClampNeg (I v)))) = wld g (h.set a (oI n (fup q x v))) := by
    rw [wld_set, fup_I h0 h1 hn]
    rfl
  exact kk H1 locs1 ls (by rw [← e]; exact hP1) (by rw [← e]; exact hD1) hS1 hl
theorem nar_char {v : Int} (a : 0 ≤ v) (b : v ≤ 65535) : vp_nar .char (I v) = I v := by
  have e : I v = nI v.toNat := by
    unfold I nI
    rw [← Int32.ofInt_eq_ofNat]
    congr 1; omega
  rw [e]
  have h := (pk_charN (q := v.toNat) (by omega)).1
  unfold vp_nar
  rw [h]
theorem G_cast {a n : Nat} {q q2 : Int → Int} {x v : Int} (hd : decode cc pc = .ok (.castore, 1)) (ha : h[a]? = some (oC n q)) (h0 : 0 ≤ x) (h1 : x < n) (hv0 : 0 ≤ v) (hv1 : v ≤ 65535) (hn : n ≤ 2147483647 := by decide) (hq : fup q x v = q2) (kk : G f cc own nL rt (h.set a (oC n q2)) (pc + 1) lv st post) : G f cc own nL rt h pc lv (i_ v :: i_ x :: r_ a :: st) post := by
  subst hq
  refine G_w (fun g p l e s m args below meth c H locs ls M E hK hP hD hS hl kk => ?_) kk
  refine va_cast (D := gD g) (cl := vwCl) (tys := gT g) (n := n) (f := fun k => I (q (k : Int))) (x := I v) M.1 M.2.1 E.1 hP hD hS a 1 (wld_get ha) rfl (I_in h0 h1 hn) hd (fun H1 locs1 hP1 hD1 hS1 => ?_)
  rw [nar_char hv0 hv1] at hP1 hD1
  have e : (wld g h).set a (gad g a, .inl (gC g, n, .inl (upd (fun k => I (q (k : Int))) (I x).toNatClampNeg (I v)))) = wld g (h.set a (oC n (fup q x v))) := by
    rw [wld_set, fup_I h0 h1 hn]
    rfl
  exact kk H1 locs1 ls (by rw [← e]; exact hP1) (by rw [← e]; exact hD1) hS1 hl
theorem G_aald {a n : Nat} {q : Int → Nat} {x : Int} (hd : decode cc pc = .ok (.aaload, 1)) (ha : h[a]? = some (oR n q)) (h0 : 0 ≤ x) (h1 : x < n) (hn : n ≤ 2147483647 := by decide) (kk : G f cc own nL rt h (pc + 1) lv (r_ (q x) :: st) post) : G f cc own nL rt h pc lv (i_ x :: r_ a :: st) post := by
  refine G_w (fun g p l e s m args below meth c H locs ls M E hK hP hD hS hl kk => ?_) kk
  refine va_aldq (D := gD g) (cl := vwCl) (tys := gT g) (n := n) (f := fun k => some (gad g (q (k : Int)))) M.1 M.2.1 E.1 hP a 2 (wld_get ha) rfl (I_in h0 h1 hn) hd ?_
  show W _ _ _ _ _ _ _ _ _ _ _ _ _ _ _ (F0 m (pc + 1) ls (.ref (gad g (q (((I x).toNatClampNeg : Nat) : Int))) :: _))
  rw [clampN h0 h1 hn]
  exact kk H locs ls hP hD hS hl
def fupN (f : Int → Nat) (x : Int) (v : Nat) : Int → Nat := fun j => if j = x then v else f j
theorem G_aast {a n v : Nat} {q q2 : Int → Nat} {x : Int} {vs : List PV} (hd : decode cc pc = .ok (.aastore, 1)) (ha : h[a]? = some (oR n q)) (hv : h[v]? = some (oO 3 vs)) (h0 : 0 ≤ x) (h1 : x < n) (hn : n ≤ 2147483647 := by decide) (hq : fupN q x v = q2) (kk : G f cc own nL rt (h.set a (oR n q2)) (pc + 1) lv st post) : G f cc own nL rt h pc lv (r_ v :: i_ x :: r_ a :: st) post := by
  subst hq
  refine G_w (fun g p l e s m args below meth c H locs ls M E hK hP hD hS hl kk => ?_) kk
  refine va_astq (D := gD g) (cl := vwCl) (tys := gT g) (r := (RX3, TX3, 6)) (ci := 3) (n := n) (f := fun k => some (gad g (q (k : Int)))) M.1 M.2.1 E.1 hP hD hS a 2 v (wld_get ha) rfl (wld_get hv) rfl (I_in h0 h1 hn) hd (fun H1 locs1 hP1 hD1 hS1 => ?_)
  have e : (wld g h).set a (gad g a, .inl (gS g, n, .inr (.inr (.inr (.inr (va_up (fun k => some (gad g (q (k : Int)))) (I x).toNatClampNeg (some (gad g v)))))))) = wld g (h.set a (oR n (fupN q x v))) := by
    rw [wld_set]
    have e2 : (va_up (fun k : Nat => some (gad g (q (k : Int)))) (I x).toNatClampNeg (some (gad g v))) = fun k : Nat => some (gad g (fupN q x v (k : Int))) := by
      funext k
      have e := clampN h0 h1 hn
      unfold va_up fupN
      by_cases hk : k = (I x).toNatClampNeg
      · rw [if_pos hk, if_pos (by rw [hk]; exact e)]
      · rw [if_neg hk, if_neg (fun z => hk (by omega))]
    rw [e2]
    rfl
  rw [e] at hP1 hD1
  exact kk H1 locs1 ls hP1 hD1 hS1 hl
theorem G_alen {a n : Nat} {b : Bool} {q : Int → Int} (hd : decode cc pc = .ok (.arraylength, 1)) (ha : h[a]? = some (.inl (b, n, q))) (kk : G f cc own nL rt h (pc + 1) lv (i_ (n : Int) :: st) post) : G f cc own nL rt h pc lv (r_ a :: st) post := by
  refine G_w (fun g p l e s m args below meth c H locs ls M E hK hP hD hS hl kk => ?_) kk
  cases b with
  | false => exact va_alen (D := gD g) (cl := vwCl) (tys := gT g) (ty := .int) (x := (n, .inl (fun k => I (q (k : Int))))) (v := I (n : Int)) M.1 M.2.1 E.1 hP a 0 (wld_get ha) rfl (by unfold I; rw [Int32.ofInt_eq_ofNat]) hd (kk H locs ls hP hD hS hl)
  | true => exact va_alen (D := gD g) (cl := vwCl) (tys := gT g) (ty := .char) (x := (n, .inl (fun k => I (q (k : Int))))) (v := I (n : Int)) M.1 M.2.1 E.1 hP a 1 (wld_get ha) rfl (by unfold I; rw [Int32.ofInt_eq_ofNat]) hd (kk H locs ls hP hD hS hl)
end GR
end
section
section GC
variable {f : Nat} {cc : ByteArray} {own : String} {nL : Nat} {rt : Option FieldType} {h : List PO} {pc : Nat} {lv : List (Option PV)} {st : List PV} {post : Option PV → List PO → Prop}
theorem G_ireturn {x : Int} (hd : decode cc pc = .ok (.ireturn, 1)) (hr : rt = some .int) (hp : post (some (i_ x)) h) : G f cc own nL rt h pc lv [i_ x] post := by
  intro g p l e s m args below meth c H locs ls M E hK hP hD hS hl
  have hlocks : meth.locks = false := M.2.2.2.2.2.2
  exact W.iret (v := I x) M.1 M.2.1 (M.2.2.2.2.2.1.trans hr) (fun t ht hW => ⟨⟨some (i_ x), h, rfl, hp, by rw [ht]; exact hP, hD⟩, hS.F ht⟩) hS.2.2 hd hlocks
theorem G_zreturn {x : Int} (hd : decode cc pc = .ok (.ireturn, 1)) (hr : rt = some .boolean) (hx : x = 0 ∨ x = 1) (hp : post (some (i_ x)) h) : G f cc own nL rt h pc lv [i_ x] post := by
  intro g p l e s m args below meth c H locs ls M E hK hP hD hS hl
  have hlocks : meth.locks = false := M.2.2.2.2.2.2
  exact W.zret (v := I x) (ty := .boolean) M.1 M.2.1 (M.2.2.2.2.2.1.trans hr) (by rcases hx with rfl | rfl <;> rfl) (fun t ht hW => ⟨⟨some (i_ x), h, rfl, hp, by rw [ht]; exact hP, hD⟩, hS.F ht⟩) hS.2.2 hd hlocks
theorem G_return (hd : decode cc pc = .ok (.return_, 1)) (hr : rt = none) (hp : post none h) : G f cc own nL rt h pc lv [] post := by
  intro g p l e s m args below meth c H locs ls M E hK hP hD hS hl
  have hlocks : meth.locks = false := M.2.2.2.2.2.2
  exact W.vret M.1 M.2.1 (M.2.2.2.2.2.1.trans hr) (fun t ht hW => ⟨⟨none, h, rfl, hp, by rw [ht]; exact hP, hD⟩, hS.F ht⟩) hS.2.2 hd hlocks
/-- what a call of y needs of the tables: y has n parameters and nLy locals -/
def CI (y : MethodName) (cy : ByteArray) (nLy : Nat) (ry : Option FieldType) (n : Nat) : Prop := Cond.initialized y.cls ∈ GW ∧ Cond.code y cy nLy ry ∈ GW ∧ (y.cls ≠ "java/lang/invoke/MethodHandle" ∧ y.cls ≠ "java/lang/invoke/VarHandle" ∧ (parseMethodDescriptor y.desc).map (fun d => d.parameters.length) = some n) ∧ nLy ≤ 14
def CV (C : String) (y : MethodName) (cy : ByteArray) (nLy : Nat) (ry : Option FieldType) (n : Nat) : Prop := CI y cy nLy ry n ∧ Cond.instanceMethod y ∈ GW ∧ Cond.selects C y y ∈ GW ∧ y.cls = C ∧ Cond.initialized C ∈ GW
def CS (y : MethodName) (cy : ByteArray) (nLy : Nat) (ry : Option FieldType) (n : Nat) : Prop := CI y cy nLy ry n ∧ Cond.static y ∈ GW
theorem In.blind {g : GP} {h : List PO} {args : List PV} : FrameBlind (Pcg g h args) := fun _ _ f mk q => ⟨q.1, q.2.1, q.2.2.1, q.2.2.2.1, q.2.2.2.2.blind f mk _⟩
theorem rm_le {fy nLy : Nat} (hf : fy + 1 ≤ f) (hn : nLy ≤ 14) : (rm fy).frames + 1 ≤ (rm f).frames ∧ 8 + (nLy + 11) + (rm fy).locals ≤ (rm f).locals := by
  refine ⟨hf, ?_⟩
  show 8 + (nLy + 11) + 33 * fy ≤ 33 * f
  omega
theorem gw_code {y : MethodName} {cy : ByteArray} {nLy : Nat} {ry : Option FieldType} (hc : Cond.code y cy nLy ry ∈ GW) : ∀ w ∈ (Cond.code y cy nLy ry :: GW), w ∈ GW := fun w hw => (List.mem_cons.mp hw).elim (fun e => by rw [e]; exact hc) id
theorem G_back {posty : Option PV → List PO → Prop} {as : List PV} {rest st0 : List PV} {a : Array Value}
    {g : GP} {p : Program} {l : Launch} {e : Jvm.Env} {s : State} {m : MethodId} {args : Array Value} {below : List Frame} {meth : Method} {c : Code} {H : Heap} {locs : List Loc} {ls : Array Slot}
    (M : Mx p s m args meth c cc own nL rt) (E : Env g s) (hK : gK g ≤ s.heap.size) (hS : va_S (gA g) s.heap H locs) (hl : lvh g ls nL lv)
    (hr : va_Run p l e (rm f) s m args below meth c H locs 0 0 0 0 (F0 m pc ls (st0.map (tr g))) (rest.map (tr g)) (Qcg g posty a) (gA g))
    (k : ∀ r h', posty r h' → G f cc own nL rt h' (pc + 3) lv (r.toList ++ rest) post) :
    W p l e (rm f) s m args below meth c H locs 0 0 (MQ below (Qcg g post) args s 0 0 (gA g)) (F0 m pc ls (st0.map (tr g))) := by
  intro T hT X
  obtain ⟨v, st₀, t, T', L, h0, X', hL, e1, e2, ⟨⟨r, h', hv, hp, hP', hD'⟩, hz, hk⟩, hst⟩ := hr T hT X
  cases hv
  rw [h0] at hz hk
  have hS' : va_S (gA g) s.heap T'.heap (locs ++ L) := ⟨Nat.le_trans hS.1 (by rw [e1]; exact hz), fun q h1 h2 => by rw [e1, hk q (Nat.lt_of_lt_of_le h1 hS.1) h2]; exact hS.2.1 q h1 h2, fun q hq => by
      rcases List.mem_append.mp hq with h | h
      · exact hS.2.2 q h
      · exact hL q h⟩
  obtain ⟨t2, a1, b1⟩ := k r h' hp g p l e s m args below meth c T'.heap (locs ++ L) ls M E hK (by rw [e1]; exact hP') hD' hS' hl T' rfl X'
  refine ⟨t2, hst t2 ?_, b1⟩
  have e3 : ((r.toList ++ rest).map (tr g)) = (r.map (tr g)).toList ++ rest.map (tr g) := by
    cases r <;> rfl
  rw [e3] at a1
  exact a1
theorem G_pre {g : GP} {p : Program} {s : State} {m : MethodId} {args : Array Value} {meth : Method} {c : Code} {H : Heap} {locs : List Loc} (M : Mx p s m args meth c cc own nL rt) (E : Env g s) (hK : gK g ≤ s.heap.size) (hP : va_P (gD g) vwCl (wld g h) H) (hD : va_D (gA g) (wld g h)) (hS : va_S (gA g) s.heap H locs) (as : List PV) (U : State) (hU : U.heap = H) (hW : s.WarmedH U.vm) : Pcg g h as (as.map (tr g)).toArray U :=
  ⟨rfl, by rw [hU]; exact Nat.le_trans hK hS.1, by rw [hU]; exact hP, hD, E.go hW hU hS⟩
theorem G_callV {fy nLy n idx b ci : Nat} {C : String} {y : MethodName} {cy : ByteArray} {ry : Option FieldType} {posty : Option PV → List PO → Prop} {as st0 : List PV} {fs : List PV}
    (hM : PM fy y cy nLy ry h (r_ b :: as) posty) (hd : decode cc pc = .ok (.invokevirtual idx, 3)) (hl : Cond.methodLink own idx y ∈ GW) (hv : CV C y cy nLy ry n)
    (hb : h[b]? = some (oO ci fs)) (hc : (vwCl[ci]?).map (fun q => q.1) = some C) (hn : as.length = n) (hf : fy + 1 ≤ f) (hs : st.length ≤ 8) (e0 : st0 = as.reverse ++ r_ b :: st)
    (k : ∀ r h', posty r h' → G f cc own nL rt h' (pc + 3) lv (r.toList ++ st) post) : G f cc own nL rt h pc lv st0 post := by
  subst e0
  obtain ⟨⟨v1, v2, v3, v4⟩, v5, v6, v7, v8⟩ := hv
  obtain ⟨q, hq, rfl⟩ : ∃ q : vw_C, vwCl[ci]? = some q ∧ q.1 = C := by
    cases hq : vwCl[ci]? with
    | none => rw [hq] at hc; cases hc
    | some q => rw [hq] at hc; exact ⟨q, rfl, Option.some.inj hc⟩
  intro g p l e s m args below meth c H locs ls M E hK hP hD hS hlv
  have hts := M.2.2.2.2.1
  have hm := hM l g
  refine G_back (rest := st) (as := as) M E hK hS hlv (va_runV (As := as.map (tr g)) (rest := st.map (tr g)) ⟨M.1, M.2.1, M.2.2.1, M.2.2.2.1, hts⟩ hm (cwV n hts (gw_in (fun w hw => ?_)) rfl rfl rfl ⟨v7, v3⟩ (rm_le hf v4)) ⟨In.blind, va_recv E.1 hP hq (wld_get hb), fun U hU hW => G_pre M E hK hP hD hS (r_ b :: as) U hU hW⟩ rfl (by simpa using hn) hlv.1 (by simp [tr]) (lv_room (by rw [tr_sum]; exact hs)) hd ⟨Nat.le_refl _, Nat.le_refl _⟩) k
  unfold wsV at hw
  rcases List.mem_append.mp hw with hw | hw
  · simp only [List.mem_cons, List.not_mem_nil, or_false] at hw
    rcases hw with rfl | rfl | rfl | rfl
    · exact hl
    · exact v5
    · exact v6
    · exact v8
  · exact gw_code v2 w hw
theorem G_callS {fy nLy n idx : Nat} {y : MethodName} {cy : ByteArray} {ry : Option FieldType} {posty : Option PV → List PO → Prop} {as st0 : List PV}
    (hM : PM fy y cy nLy ry h as posty) (hd : decode cc pc = .ok (.invokestatic idx, 3)) (hl : Cond.methodLink own idx y ∈ GW) (hv : CS y cy nLy ry n)
    (hn : as.length = n) (hf : fy + 1 ≤ f) (hs : st.length ≤ 8) (e0 : st0 = as.reverse ++ st)
    (k : ∀ r h', posty r h' → G f cc own nL rt h' (pc + 3) lv (r.toList ++ st) post) : G f cc own nL rt h pc lv st0 post := by
  subst e0
  obtain ⟨⟨v1, v2, v3, v4⟩, v5⟩ := hv
  intro g p l e s m args below meth c H locs ls M E hK hP hD hS hlv
  have hts := M.2.2.2.2.1
  have hm := hM l g
  refine G_back (rest := st) (as := as) M E hK hS hlv (va_runS (As := as.map (tr g)) (rest := st.map (tr g)) ⟨M.1, M.2.1, M.2.2.1, M.2.2.2.1, hts⟩ hm (va_cwS n hts (gw_in (fun w hw => ?_)) rfl rfl rfl v3 (rm_le hf v4)) ⟨In.blind, fun U hU hW => G_pre M E hK hP hD hS as U hU hW⟩ rfl (by simpa using hn) hlv.1 (by simp) (lv_room (by rw [tr_sum]; exact hs)) hd ⟨Nat.le_refl _, Nat.le_refl _⟩) k
  unfold va_wsS at hw
  rcases List.mem_append.mp hw with hw | hw
  · simp only [List.mem_cons, List.not_mem_nil, or_false] at hw
    rcases hw with rfl | rfl | rfl
    · exact hl
    · exact v5
    · exact v1
  · exact gw_code v2 w hw
theorem G_callSN {fy nLy n idx : Nat} {y : MethodName} {cy : ByteArray} {ry : Option FieldType} {posty : Option PV → List PO → Prop} {as st0 : List PV}
    (hM : PM fy y cy nLy ry h as posty) (hd : decode cc pc = .ok (.invokestatic idx, 3)) (hl : ∀ (g : GP) (U : State), Env g U → va_Nw (.methodLinkNest own idx y host5) U) (hv : CS y cy nLy ry n)
    (hn : as.length = n) (hf : fy + 1 ≤ f) (hs : st.length ≤ 8) (e0 : st0 = as.reverse ++ st)
    (k : ∀ r h', posty r h' → G f cc own nL rt h' (pc + 3) lv (r.toList ++ st) post) : G f cc own nL rt h pc lv st0 post := by
  subst e0
  obtain ⟨⟨v1, v2, v3, v4⟩, v5⟩ := hv
  intro g p l e s m args below meth c H locs ls M E hK hP hD hS hlv
  have hts := M.2.2.2.2.1
  have hm := hM l g
  exact G_back (rest := st) (as := as) M E hK hS hlv (va_runSN (host := host5) (As := as.map (tr g)) (rest := st.map (tr g)) ⟨M.1, M.2.1, M.2.2.1, M.2.2.2.1, hts⟩ hm ⟨va_cnB n hts (gw_in (gw_code v2)) rfl rfl rfl (hl g s E) (hts _ v1) v3 (rm_le hf v4), hts _ v5, trivial⟩ ⟨In.blind, fun U hU hW => G_pre M E hK hP hD hS as U hU hW⟩ rfl (by simpa using hn) hlv.1 (by simp) (lv_room (by rw [tr_sum]; exact hs)) hd ⟨Nat.le_refl _, Nat.le_refl _⟩) k
/-- Math.min and Math.max -/
def MM (own : String) (idx : Nat) (y : MethodName) (cy : ByteArray) : Prop := Cond.methodLink own idx y ∈ GW ∧ Cond.static y ∈ GW ∧ Cond.initialized "java/lang/Math" ∈ GW ∧ Cond.code y cy 2 (some .int) ∈ GW
theorem G_min {idx : Nat} {x y : Int} (hd : decode cc pc = .ok (.invokestatic idx, 3)) (hm : MM own idx Lib.Math.min.name Lib.Math.min.code) (hx : inR x) (hy : inR y) (hf : 1 ≤ f) (hs : st.length ≤ 8) (k : G f cc own nL rt h (pc + 3) lv (i_ (min x y) :: st) post) : G f cc own nL rt h pc lv (i_ y :: i_ x :: st) post := by
  refine G_w (fun g p l e s m args below meth c H locs ls M E hK hP hD hS hl kk => ?_) k
  have hts := M.2.2.2.2.1
  refine va_mmin (rest := st.map (tr g)) (x := I x) (y := I y) M.1 M.2.1 (M.2.2.1.trans hl.1.symm) M.2.2.2.1 (hts _ hm.1) (hts _ hm.2.1) (hts _ hm.2.2.1) (hts _ hm.2.2.2) hf (by rw [tr_sum]; show _ ≤ 33 * f; omega) (Nat.le_refl 0) (Nat.le_refl 0) hd ?_
  have e : (if I y < I x then I y else I x) = I (min x y) := by
    by_cases q : y < x
    · rw [if_pos ((I_lt hy hx).mpr q), Int.min_eq_right (by omega)]
    · rw [if_neg (fun z => q ((I_lt hy hx).mp z)), Int.min_eq_left (by omega)]
  rw [e]
  exact kk H locs ls hP hD hS hl
theorem G_max {idx : Nat} {x y : Int} (hd : decode cc pc = .ok (.invokestatic idx, 3)) (hm : MM own idx Lib.Math.max.name Lib.Math.max.code) (hx : inR x) (hy : inR y) (hf : 1 ≤ f) (hs : st.length ≤ 8) (k : G f cc own nL rt h (pc + 3) lv (i_ (max x y) :: st) post) : G f cc own nL rt h pc lv (i_ y :: i_ x :: st) post := by
  refine G_w (fun g p l e s m args below meth c H locs ls M E hK hP hD hS hl kk => ?_) k
  have hts := M.2.2.2.2.1
  refine va_mmax (rest := st.map (tr g)) (x := I x) (y := I y) M.1 M.2.1 (M.2.2.1.trans hl.1.symm) M.2.2.2.1 (hts _ hm.1) (hts _ hm.2.1) (hts _ hm.2.2.1) (hts _ hm.2.2.2) hf (by rw [tr_sum]; show _ ≤ 33 * f; omega) (Nat.le_refl 0) (Nat.le_refl 0) hd ?_
  have e : (if I x < I y then I y else I x) = I (max x y) := by
    by_cases q : x < y
    · rw [if_pos ((I_lt hx hy).mpr q), Int.max_eq_right (by omega)]
    · rw [if_neg (fun z => q ((I_lt hx hy).mp z)), Int.max_eq_left (by omega)]
  rw [e]
  exact kk H locs ls hP hD hS hl
/-- System.arraycopy of a whole row of n ints onto another -/
def MC (own : String) (idx : Nat) : Prop := Cond.methodLink own idx arraycopyName ∈ GW ∧ Cond.native arraycopyName ∈ GW ∧ Cond.static arraycopyName ∈ GW ∧ Cond.initialized "java/lang/System" ∈ GW
theorem cell_ext {cA : ClassId} {n : Nat} {q1 q2 : Nat → Int32} (hq : ∀ j, j < n → q1 j = q2 j) : vp_cell cA (n, .inl q1) = vp_cell cA (n, .inl q2) := by
  show arrV cA n (fun j => .int (q1 j)) = arrV cA n (fun j => .int (q2 j))
  unfold arrV
  congr 2
  funext j
  show Value.int (q1 j.val) = Value.int (q2 j.val)
  rw [hq j.val j.isLt]
theorem va_P_ext {D : va_G} {cl : List vw_C} {ws : va_W} {H : Heap} {a k n : Nat} {cA : ClassId} {q1 q2 : Nat → Int32} (hP : va_P D cl (ws.set k (a, .inl (cA, n, .inl q1))) H) (hq : ∀ j, j < n → q1 j = q2 j) : va_P D cl (ws.set k (a, .inl (cA, n, .inl q2))) H := by
  intro i q hi
  by_cases e : k = i
  · subst e
    have hlt : k < ws.length := by
      have := (List.getElem?_eq_some_iff.mp hi).1
      simpa using this
    rw [List.getElem?_set_self hlt] at hi
    cases hi
    have := hP k (a, .inl (cA, n, .inl q1)) (by rw [List.getElem?_set_self hlt])
    show H[a]? = some (vp_cell cA (n, .inl q2))
    rw [← cell_ext hq]
    exact this
  · rw [List.getElem?_set_ne e] at hi
    exact hP i q (by rw [List.getElem?_set_ne e]; exact hi)
theorem va_D_ext {A : Nat → Prop} {ws : va_W} {a k : Nat} {e1 e2 : va_E} (hD : va_D A (ws.set k (a, e1))) : va_D A (ws.set k (a, e2)) := by
  by_cases hk : k < ws.length
  · have h := hD.set (p := k) (a := a) (e0 := e1) (e := e2) (by rw [List.getElem?_set_self hk])
    rwa [List.set_set] at h
  · rw [List.set_eq_of_length_le (by omega)] at hD ⊢
    exact hD
theorem G_ext {a n : Nat} {q1 q2 : Int → Int} (hq : ∀ j : Int, 0 ≤ j → j < n → q1 j = q2 j) (k : G f cc own nL rt (h.set a (oI n q2)) pc lv st post) : G f cc own nL rt (h.set a (oI n q1)) pc lv st post := by
  refine G_w (fun g p l e s m args below meth c H locs ls M E hK hP hD hS hl kk => ?_) k
  rw [wld_set] at hP hD
  refine kk H locs ls ?_ ?_ hS hl
  · rw [wld_set]
    exact va_P_ext hP (fun j hj => by show I (q1 _) = I (q2 _); rw [hq _ (by omega) (by omega)])
  · rw [wld_set]
    exact va_D_ext hD
theorem nfw : nativeFrameWords "java/lang/System" "arraycopy" 5 ≤ 40 := by decide +kernel
theorem copy_room (hf : 2 ≤ f) (hs : st.length ≤ 8) : st.length + (nativeFrameWords "java/lang/System" "arraycopy" 5 + 11) ≤ 33 * f := by
  have e := nfw
  omega
theorem G_copy {idx a b n : Nat} {q1 q2 : Int → Int} {n1 : Int} (hd : decode cc pc = .ok (.invokestatic idx, 3)) (hm : MC own idx) (ha : h[a]? = some (oI n q1)) (hb : h[b]? = some (oI n q2)) (hn1 : n1 = n) (hn : n ≤ 2147483647) (hf : 2 ≤ f) (hs : st.length ≤ 8) (k : G f cc own nL rt (h.set b (oI n q1)) (pc + 3) lv st post) : G f cc own nL rt h pc lv (i_ n1 :: i_ 0 :: r_ b :: i_ 0 :: r_ a :: st) post := by
  subst hn1
  refine G_w (fun g p l e s m args below meth c H locs ls M E hK hP hD hS hl kk => ?_) k
  have hts := M.2.2.2.2.1
  have z0 : (I 0).toNatClampNeg = 0 := rfl
  have zn : (I (n : Int)).toNatClampNeg = n := by rw [I_clamp ⟨by omega, by omega⟩]; omega
  refine va_copyi (D := gD g) (cl := vwCl) (tys := gT g) (rest := st.map (tr g)) (ty := .int) (n0 := n) (n1 := n) (f := fun k => I (q1 (k : Int))) (g := fun k => I (q2 (k : Int))) M.1 M.2.1 (M.2.2.1.trans hl.1.symm) M.2.2.2.1 (hts _ hm.1) (hts _ hm.2.1) (hts _ hm.2.2.1) (hts _ hm.2.2.2) E.1 hP hD hS a b 0 0 (wld_get ha) (wld_get hb) rfl rfl rfl (sp := I 0) (dp := I 0) (n := I (n : Int)) (by decide) (by decide) (by rw [I_lt0 ⟨by omega, by omega⟩]; omega) (by rw [z0, zn]; omega) (by rw [z0, zn]; omega) (fun _ _ => rfl) (by show 1 ≤ f; omega) (by rw [tr_sum]; exact copy_room hf hs) hd (fun H1 locs1 hP1 hD1 hS1 => ?_)
  rw [z0, zn] at hP1 hD1
  refine kk H1 locs1 ls ?_ ?_ hS1 hl
  · rw [wld_set]
    exact va_P_ext hP1 (fun j hj => by
      unfold va_cpy
      rw [if_pos ⟨by omega, by omega⟩]
      simp)
  · rw [wld_set]
    exact va_D_ext hD1
/-- the two static rows -/
theorem G_getsL (own3 : own = RX3) (hd : decode cc pc = .ok (.getstatic 52, 3)) (k : G f cc own nL rt h (pc + 3) lv (r_ rZl :: st) post) : G f cc own nL rt h pc lv st post := by
  subst own3
  refine G_w (fun g p l e s m args below meth c H locs ls M E hK hP hD hS hl kk => ?_) k
  have n4 := E.2.1.2.2.2.1
  exact va_getsN M.1 M.2.1 E.2.2.1.1 hS M.2.2.2.1 (va_Nw.use rfl n4) (fun _ q => q) hd (kk H locs ls hP hD hS hl)
theorem G_getsM (own3 : own = RX3) (hd : decode cc pc = .ok (.getstatic 55, 3)) (k : G f cc own nL rt h (pc + 3) lv (r_ rZm :: st) post) : G f cc own nL rt h pc lv st post := by
  subst own3
  refine G_w (fun g p l e s m args below meth c H locs ls M E hK hP hD hS hl kk => ?_) k
  have n5 := E.2.1.2.2.2.2
  exact va_getsN M.1 M.2.1 E.2.2.1.2 hS M.2.2.2.1 (va_Nw.use rfl n5) (fun _ q => q) hd (kk H locs ls hP hD hS hl)
theorem G_sald {q : Int → Int} {z : Nat} {x : Int} (hd : decode cc pc = .ok (.iaload, 1)) (hz : z = rZl ∧ q = leastF ∨ z = rZm ∧ q = mostF) (h0 : 0 ≤ x) (h1 : x < 3) (kk : G f cc own nL rt h (pc + 1) lv (i_ (q x) :: st) post) : G f cc own nL rt h pc lv (i_ x :: r_ z :: st) post := by
  refine G_w (fun g p l e s m args below meth c H locs ls M E hK hP hD hS hl kk => ?_) kk
  have key : ∀ (z : Nat) (q : Int → Int), va_T .int (gad g z) 3 (fun k => .int (I (q (k : Int)))) (gA g) s s.heap → W p l e (rm f) s m args below meth c H locs 0 0 (MQ below (Qcg g post) args s 0 0 (gA g)) (F0 m (pc + 1) ls (.int (I (q x)) :: st.map (tr g))) → W p l e (rm f) s m args below meth c H locs 0 0 (MQ below (Qcg g post) args s 0 0 (gA g)) (F0 m pc ls (.int (I x) :: .ref (gad g z) :: st.map (tr g))) := by
    intro z q hz kk
    refine va_ti (A := gA g) M.1 M.2.1 hz hS (i := I x) (I_in h0 (by omega) (by decide)) (v := .int (I (q x))) ?_ hd kk
    show Value.int (I (q (((I x).toNatClampNeg : Nat) : Int))) = _
    rw [clampN (n := 3) h0 (by omega) (by decide)]
  rcases hz with ⟨rfl, rfl⟩ | ⟨rfl, rfl⟩
  · exact key rZl leastF E.2.2.2.1 (kk H locs ls hP hD hS hl)
  · exact key rZm mostF E.2.2.2.2.1 (kk H locs ls hP hD hS hl)
end GC
end
section
theorem us0_X0 : ∀ w ∈ u_ws RX0 TX0 4, w ∈ lw_tbl ∧ goodWord w = true := by decide +kernel
theorem us_X0 : ∀ w ∈ u_ws RX0 TX0 4, w ∈ GW := fun w hw => gw_of (us0_X0 w hw).1 (us0_X0 w hw).2
theorem us0_X1 : ∀ w ∈ u_ws RX1 TX1 2, w ∈ lw_tbl ∧ goodWord w = true := by decide +kernel
theorem us_X1 : ∀ w ∈ u_ws RX1 TX1 2, w ∈ GW := fun w hw => gw_of (us0_X1 w hw).1 (us0_X1 w hw).2
theorem us0_X2 : ∀ w ∈ u_ws RX2 TX2 7, w ∈ lw_tbl ∧ goodWord w = true := by decide +kernel
theorem us_X2 : ∀ w ∈ u_ws RX2 TX2 7, w ∈ GW := fun w hw => gw_of (us0_X2 w hw).1 (us0_X2 w hw).2
theorem us0_X3 : ∀ w ∈ u_ws RX3 TX3 6, w ∈ lw_tbl ∧ goodWord w = true := by decide +kernel
theorem us_X3 : ∀ w ∈ u_ws RX3 TX3 6, w ∈ GW := fun w hw => gw_of (us0_X3 w hw).1 (us0_X3 w hw).2
theorem us0_X4 : ∀ w ∈ u_ws RX4 TX4 7, w ∈ lw_tbl ∧ goodWord w = true := by decide +kernel
theorem us_X4 : ∀ w ∈ u_ws RX4 TX4 7, w ∈ GW := fun w hw => gw_of (us0_X4 w hw).1 (us0_X4 w hw).2
theorem us0_X5 : ∀ w ∈ u_ws RX5 TX5 9, w ∈ lw_tbl ∧ goodWord w = true := by decide +kernel
theorem us_X5 : ∀ w ∈ u_ws RX5 TX5 9, w ∈ GW := fun w hw => gw_of (us0_X5 w hw).1 (us0_X5 w hw).2
theorem cn_X3_66 : Cond.constant RX3 66 (I 99999) ∈ GW := gw_at 341 (by decide +kernel) (by decide +kernel)
theorem cn_L_7 : Cond.constant RL 7 (I 1029667733) ∈ GW := gw_at 258 (by decide +kernel) (by decide +kernel)
theorem cn_L_8 : Cond.constant RL 8 (I 490430329) ∈ GW := gw_at 259 (by decide +kernel) (by decide +kernel)
theorem cn_L_9 : Cond.constant RL 9 (I 2147483647) ∈ GW := gw_at 263 (by decide +kernel) (by decide +kernel)
theorem fl_X0_15 : FL RX0 15 0 1 := ⟨RX0, TX0, 4, rfl, by decide, us_X0, gw_at 41 (by decide +kernel) (by decide +kernel)⟩
theorem fl_X0_18 : FL RX0 18 0 2 := ⟨RX0, TX0, 4, rfl, by decide, us_X0, gw_at 43 (by decide +kernel) (by decide +kernel)⟩
theorem fl_X0_21 : FL RX0 21 0 3 := ⟨RX0, TX0, 4, rfl, by decide, us_X0, gw_at 45 (by decide +kernel) (by decide +kernel)⟩
theorem fl_X0_9 : FL RX0 9 0 0 := ⟨RX0, TX0, 4, rfl, by decide, us_X0, gw_at 39 (by decide +kernel) (by decide +kernel)⟩
theorem fl_X1_11 : FL RX1 11 1 0 := ⟨RX1, TX1, 2, rfl, by decide, us_X1, gw_at 123 (by decide +kernel) (by decide +kernel)⟩
theorem fl_X1_18 : FL RX1 18 1 1 := ⟨RX1, TX1, 2, rfl, by decide, us_X1, gw_at 124 (by decide +kernel) (by decide +kernel)⟩
theorem fp_X1_18 : FP RX1 18 1 1 .int := ⟨RX1, TX1, 2, tyX1, rfl, by decide, us_X1, gw_at 124 (by decide +kernel) (by decide +kernel), tyX1_ok, nmX1, rfl, by decide +kernel⟩
theorem fl_X2_15 : FL RX2 15 2 2 := ⟨RX2, TX2, 7, rfl, by decide, us_X2, gw_at 139 (by decide +kernel) (by decide +kernel)⟩
theorem fl_X2_19 : FL RX2 19 2 3 := ⟨RX2, TX2, 7, rfl, by decide, us_X2, gw_at 140 (by decide +kernel) (by decide +kernel)⟩
theorem fl_X2_22 : FL RX2 22 2 4 := ⟨RX2, TX2, 7, rfl, by decide, us_X2, gw_at 141 (by decide +kernel) (by decide +kernel)⟩
theorem fl_X2_9 : FL RX2 9 2 0 := ⟨RX2, TX2, 7, rfl, by decide, us_X2, gw_at 137 (by decide +kernel) (by decide +kernel)⟩
theorem fl_X3_12 : FL RX3 12 3 0 := ⟨RX3, TX3, 6, rfl, by decide, us_X3, gw_at 89 (by decide +kernel) (by decide +kernel)⟩
theorem fl_X3_21 : FL RX3 21 3 1 := ⟨RX3, TX3, 6, rfl, by decide, us_X3, gw_at 91 (by decide +kernel) (by decide +kernel)⟩
theorem fl_X3_25 : FL RX3 25 3 2 := ⟨RX3, TX3, 6, rfl, by decide, us_X3, gw_at 93 (by decide +kernel) (by decide +kernel)⟩
theorem fl_X3_29 : FL RX3 29 3 3 := ⟨RX3, TX3, 6, rfl, by decide, us_X3, gw_at 95 (by decide +kernel) (by decide +kernel)⟩
theorem fp_X3_29 : FP RX3 29 3 3 .int := ⟨RX3, TX3, 6, tyX3, rfl, by decide, us_X3, gw_at 95 (by decide +kernel) (by decide +kernel), tyX3_ok, nmX3, rfl, by decide +kernel⟩
theorem fl_X3_33 : FL RX3 33 3 5 := ⟨RX3, TX3, 6, rfl, by decide, us_X3, gw_at 99 (by decide +kernel) (by decide +kernel)⟩
theorem fp_X3_33 : FP RX3 33 3 5 .int := ⟨RX3, TX3, 6, tyX3, rfl, by decide, us_X3, gw_at 99 (by decide +kernel) (by decide +kernel), tyX3_ok, nmX3, rfl, by decide +kernel⟩
theorem fl_X3_49 : FL RX3 49 3 4 := ⟨RX3, TX3, 6, rfl, by decide, us_X3, gw_at 97 (by decide +kernel) (by decide +kernel)⟩
theorem fp_X3_49 : FP RX3 49 3 4 .int := ⟨RX3, TX3, 6, tyX3, rfl, by decide, us_X3, gw_at 97 (by decide +kernel) (by decide +kernel), tyX3_ok, nmX3, rfl, by decide +kernel⟩
theorem fl_X4_15 : FL RX4 15 4 1 := ⟨RX4, TX4, 7, rfl, by decide, us_X4, gw_at 64 (by decide +kernel) (by decide +kernel)⟩
theorem fl_X4_18 : FL RX4 18 4 2 := ⟨RX4, TX4, 7, rfl, by decide, us_X4, gw_at 65 (by decide +kernel) (by decide +kernel)⟩
theorem fl_X4_21 : FL RX4 21 4 3 := ⟨RX4, TX4, 7, rfl, by decide, us_X4, gw_at 67 (by decide +kernel) (by decide +kernel)⟩
theorem fl_X4_24 : FL RX4 24 4 4 := ⟨RX4, TX4, 7, rfl, by decide, us_X4, gw_at 69 (by decide +kernel) (by decide +kernel)⟩
theorem fl_X4_27 : FL RX4 27 4 5 := ⟨RX4, TX4, 7, rfl, by decide, us_X4, gw_at 71 (by decide +kernel) (by decide +kernel)⟩
theorem fl_X4_36 : FL RX4 36 4 6 := ⟨RX4, TX4, 7, rfl, by decide, us_X4, gw_at 72 (by decide +kernel) (by decide +kernel)⟩
theorem fp_X4_36 : FP RX4 36 4 6 .int := ⟨RX4, TX4, 7, tyX4, rfl, by decide, us_X4, gw_at 72 (by decide +kernel) (by decide +kernel), tyX4_ok, nmX4, rfl, by decide +kernel⟩
theorem fl_X4_9 : FL RX4 9 4 0 := ⟨RX4, TX4, 7, rfl, by decide, us_X4, gw_at 63 (by decide +kernel) (by decide +kernel)⟩
theorem fl_X5_12 : FL RX5 12 5 0 := ⟨RX5, TX5, 9, rfl, by decide, us_X5, gw_at 158 (by decide +kernel) (by decide +kernel)⟩
theorem fl_X5_125 : FL RX5 125 1 1 := ⟨RX1, TX1, 2, rfl, by decide, us_X1, gw_at 125 (by decide +kernel) (by decide +kernel)⟩
theorem fp_X5_125 : FP RX5 125 1 1 .int := ⟨RX1, TX1, 2, tyX1, rfl, by decide, us_X1, gw_at 125 (by decide +kernel) (by decide +kernel), tyX1_ok, nmX1, rfl, by decide +kernel⟩
theorem fl_X5_128 : FL RX5 128 5 3 := ⟨RX5, TX5, 9, rfl, by decide, us_X5, gw_at 161 (by decide +kernel) (by decide +kernel)⟩
theorem fp_X5_128 : FP RX5 128 5 3 .boolean := ⟨RX5, TX5, 9, tyX5, rfl, by decide, us_X5, gw_at 161 (by decide +kernel) (by decide +kernel), tyX5_ok, nmX5, rfl, by decide +kernel⟩
theorem fl_X5_131 : FL RX5 131 3 4 := ⟨RX3, TX3, 6, rfl, by decide, us_X3, gw_at 98 (by decide +kernel) (by decide +kernel)⟩
theorem fp_X5_131 : FP RX5 131 3 4 .int := ⟨RX3, TX3, 6, tyX3, rfl, by decide, us_X3, gw_at 98 (by decide +kernel) (by decide +kernel), tyX3_ok, nmX3, rfl, by decide +kernel⟩
theorem fl_X5_137 : FL RX5 137 0 0 := ⟨RX0, TX0, 4, rfl, by decide, us_X0, gw_at 40 (by decide +kernel) (by decide +kernel)⟩
theorem fl_X5_141 : FL RX5 141 0 1 := ⟨RX0, TX0, 4, rfl, by decide, us_X0, gw_at 42 (by decide +kernel) (by decide +kernel)⟩
theorem fl_X5_144 : FL RX5 144 0 2 := ⟨RX0, TX0, 4, rfl, by decide, us_X0, gw_at 44 (by decide +kernel) (by decide +kernel)⟩
theorem fl_X5_150 : FL RX5 150 0 3 := ⟨RX0, TX0, 4, rfl, by decide, us_X0, gw_at 46 (by decide +kernel) (by decide +kernel)⟩
theorem fl_X5_16 : FL RX5 16 5 1 := ⟨RX5, TX5, 9, rfl, by decide, us_X5, gw_at 159 (by decide +kernel) (by decide +kernel)⟩
theorem fl_X5_19 : FL RX5 19 5 2 := ⟨RX5, TX5, 9, rfl, by decide, us_X5, gw_at 160 (by decide +kernel) (by decide +kernel)⟩
theorem fl_X5_194 : FL RX5 194 3 3 := ⟨RX3, TX3, 6, rfl, by decide, us_X3, gw_at 96 (by decide +kernel) (by decide +kernel)⟩
theorem fp_X5_194 : FP RX5 194 3 3 .int := ⟨RX3, TX3, 6, tyX3, rfl, by decide, us_X3, gw_at 96 (by decide +kernel) (by decide +kernel), tyX3_ok, nmX3, rfl, by decide +kernel⟩
theorem fl_X5_203 : FL RX5 203 4 6 := ⟨RX4, TX4, 7, rfl, by decide, us_X4, gw_at 73 (by decide +kernel) (by decide +kernel)⟩
theorem fp_X5_203 : FP RX5 203 4 6 .int := ⟨RX4, TX4, 7, tyX4, rfl, by decide, us_X4, gw_at 73 (by decide +kernel) (by decide +kernel), tyX4_ok, nmX4, rfl, by decide +kernel⟩
theorem fl_X5_206 : FL RX5 206 4 3 := ⟨RX4, TX4, 7, rfl, by decide, us_X4, gw_at 68 (by decide +kernel) (by decide +kernel)⟩
theorem fl_X5_213 : FL RX5 213 4 2 := ⟨RX4, TX4, 7, rfl, by decide, us_X4, gw_at 66 (by decide +kernel) (by decide +kernel)⟩
theorem fl_X5_216 : FL RX5 216 4 4 := ⟨RX4, TX4, 7, rfl, by decide, us_X4, gw_at 70 (by decide +kernel) (by decide +kernel)⟩
theorem fl_X5_219 : FL RX5 219 3 5 := ⟨RX3, TX3, 6, rfl, by decide, us_X3, gw_at 100 (by decide +kernel) (by decide +kernel)⟩
theorem fp_X5_219 : FP RX5 219 3 5 .int := ⟨RX3, TX3, 6, tyX3, rfl, by decide, us_X3, gw_at 100 (by decide +kernel) (by decide +kernel), tyX3_ok, nmX3, rfl, by decide +kernel⟩
theorem fl_X5_222 : FL RX5 222 3 2 := ⟨RX3, TX3, 6, rfl, by decide, us_X3, gw_at 94 (by decide +kernel) (by decide +kernel)⟩
theorem fl_X5_225 : FL RX5 225 2 1 := ⟨RX2, TX2, 7, rfl, by decide, us_X2, gw_at 138 (by decide +kernel) (by decide +kernel)⟩
theorem fp_X5_225 : FP RX5 225 2 1 .int := ⟨RX2, TX2, 7, tyX2, rfl, by decide, us_X2, gw_at 138 (by decide +kernel) (by decide +kernel), tyX2_ok, nmX2, rfl, by decide +kernel⟩
theorem fl_X5_25 : FL RX5 25 5 4 := ⟨RX5, TX5, 9, rfl, by decide, us_X5, gw_at 162 (by decide +kernel) (by decide +kernel)⟩
theorem fl_X5_32 : FL RX5 32 5 5 := ⟨RX5, TX5, 9, rfl, by decide, us_X5, gw_at 163 (by decide +kernel) (by decide +kernel)⟩
theorem fl_X5_40 : FL RX5 40 3 0 := ⟨RX3, TX3, 6, rfl, by decide, us_X3, gw_at 90 (by decide +kernel) (by decide +kernel)⟩
theorem fl_X5_63 : FL RX5 63 3 1 := ⟨RX3, TX3, 6, rfl, by decide, us_X3, gw_at 92 (by decide +kernel) (by decide +kernel)⟩
theorem ml_X0_46 : Cond.methodLink RX0 46 yX0_markFrom ∈ GW := gw_at 362 (by decide +kernel) (by decide +kernel)
theorem ml_X0_49 : Cond.methodLink RX0 49 yX0_offeredTo ∈ GW := gw_at 450 (by decide +kernel) (by decide +kernel)
theorem ml_X0_53 : Cond.methodLink RX0 53 yX0_stopOf ∈ GW := gw_at 462 (by decide +kernel) (by decide +kernel)
theorem ml_X0_56 : Cond.methodLink RX0 56 yX0_moved ∈ GW := gw_at 369 (by decide +kernel) (by decide +kernel)
theorem ml_X1_22 : Cond.methodLink RX1 22 yX1_dropOldest ∈ GW := gw_at 226 (by decide +kernel) (by decide +kernel)
theorem ml_X1_25 : Cond.methodLink RX1 25 yX3_copyFrom ∈ GW := gw_at 230 (by decide +kernel) (by decide +kernel)
theorem ml_X3_11 : Cond.methodLink RX3 11 yX0_init ∈ GW := gw_at 32 (by decide +kernel) (by decide +kernel)
theorem ml_X3_36 : Cond.methodLink RX3 36 yX0_copyFrom ∈ GW := gw_at 191 (by decide +kernel) (by decide +kernel)
theorem ml_X3_40 : Cond.methodLink RX3 40 yX4_copyFrom ∈ GW := gw_at 198 (by decide +kernel) (by decide +kernel)
theorem ml_X3_58 : Cond.methodLink RX3 58 yX3_pushWith ∈ GW := gw_at 350 (by decide +kernel) (by decide +kernel)
theorem ml_X3_67 : Cond.methodLink RX3 67 yX3_letOneTideCome ∈ GW := gw_at 342 (by decide +kernel) (by decide +kernel)
theorem ml_X3_71 : Cond.methodLink RX3 71 yX0_saltCells ∈ GW := gw_at 397 (by decide +kernel) (by decide +kernel)
theorem ml_X3_75 : Cond.methodLink RX3 75 yX3_pushOf ∈ GW := gw_at 346 (by decide +kernel) (by decide +kernel)
theorem ml_X3_79 : Cond.methodLink RX3 79 yX3_slope ∈ GW := gw_at 354 (by decide +kernel) (by decide +kernel)
theorem ml_X3_82 : Cond.methodLink RX3 82 yX0_follow ∈ GW := gw_at 358 (by decide +kernel) (by decide +kernel)
theorem ml_X3_86 : Cond.methodLink RX3 86 yX4_drawFrom ∈ GW := gw_at 373 (by decide +kernel) (by decide +kernel)
theorem ml_X3_89 : Cond.methodLink RX3 89 yX0_greatestSaltCell ∈ GW := gw_at 392 (by decide +kernel) (by decide +kernel)
theorem ml_X3_97 : Cond.methodLink RX3 97 yX0_markOf ∈ GW := gw_at 474 (by decide +kernel) (by decide +kernel)
theorem ml_X4_40 : Cond.methodLink RX4 40 yX4_has ∈ GW := gw_at 312 (by decide +kernel) (by decide +kernel)
theorem ml_X4_47 : Cond.methodLink RX4 47 yX4_isRate ∈ GW := gw_at 211 (by decide +kernel) (by decide +kernel)
theorem ml_X4_50 : Cond.methodLink RX4 50 yX4_beside ∈ GW := gw_at 214 (by decide +kernel) (by decide +kernel)
theorem ml_X4_54 : Cond.methodLink RX4 54 yX4_closeGap ∈ GW := gw_at 316 (by decide +kernel) (by decide +kernel)
theorem ml_X4_64 : Cond.methodLink RX4 64 yX4_coneOf ∈ GW := gw_at 377 (by decide +kernel) (by decide +kernel)
theorem ml_X4_67 : Cond.methodLink RX4 67 yX0_excess ∈ GW := gw_at 381 (by decide +kernel) (by decide +kernel)
theorem ml_X4_72 : Cond.methodLink RX4 72 yX4_saltBehind ∈ GW := gw_at 385 (by decide +kernel) (by decide +kernel)
theorem ml_X4_75 : Cond.methodLink RX4 75 yX4_turnOrRecover ∈ GW := gw_at 388 (by decide +kernel) (by decide +kernel)
theorem ml_X5_121 : Cond.methodLink RX5 121 yX1_takeLatest ∈ GW := gw_at 235 (by decide +kernel) (by decide +kernel)
theorem ml_X5_134 : Cond.methodLink RX5 134 yX5_isCell ∈ GW := gw_at 413 (by decide +kernel) (by decide +kernel)
theorem ml_X5_147 : Cond.methodLink RX5 147 yX4_beside ∈ GW := gw_at 414 (by decide +kernel) (by decide +kernel)
theorem ml_X5_153 : Cond.methodLink RX5 153 yX4_tell ∈ GW := gw_at 405 (by decide +kernel) (by decide +kernel)
theorem ml_X5_156 : Cond.methodLink RX5 156 yX0_greatestSaltCell ∈ GW := gw_at 422 (by decide +kernel) (by decide +kernel)
theorem ml_X5_159 : Cond.methodLink RX5 159 yX5_isRise ∈ GW := gw_at 435 (by decide +kernel) (by decide +kernel)
theorem ml_X5_162 : Cond.methodLink RX5 162 yX3_pushOf ∈ GW := gw_at 436 (by decide +kernel) (by decide +kernel)
theorem ml_X5_165 : Cond.methodLink RX5 165 yX3_slope ∈ GW := gw_at 437 (by decide +kernel) (by decide +kernel)
theorem ml_X5_168 : Cond.methodLink RX5 168 yX0_markOf ∈ GW := gw_at 446 (by decide +kernel) (by decide +kernel)
theorem ml_X5_172 : Cond.methodLink RX5 172 yX0_stopOf ∈ GW := gw_at 438 (by decide +kernel) (by decide +kernel)
theorem ml_X5_175 : Cond.methodLink RX5 175 yX0_reasonOf ∈ GW := gw_at 458 (by decide +kernel) (by decide +kernel)
theorem ml_X5_178 : Cond.methodLink RX5 178 yX4_has ∈ GW := gw_at 490 (by decide +kernel) (by decide +kernel)
theorem ml_X5_181 : Cond.methodLink RX5 181 yX4_isResting ∈ GW := gw_at 491 (by decide +kernel) (by decide +kernel)
theorem ml_X5_184 : Cond.methodLink RX5 184 yX3_letOneTideCome ∈ GW := gw_at 495 (by decide +kernel) (by decide +kernel)
theorem ml_X5_188 : Cond.methodLink RX5 188 yX3_leastFlowFor ∈ GW := gw_at 470 (by decide +kernel) (by decide +kernel)
theorem ml_X5_191 : Cond.methodLink RX5 191 yX0_bestCellFor ∈ GW := gw_at 479 (by decide +kernel) (by decide +kernel)
theorem ml_X5_197 : Cond.methodLink RX5 197 yX0_saltCells ∈ GW := gw_at 243 (by decide +kernel) (by decide +kernel)
theorem ml_X5_200 : Cond.methodLink RX5 200 yX0_sumOfHeights ∈ GW := gw_at 247 (by decide +kernel) (by decide +kernel)
theorem ml_X5_209 : Cond.methodLink RX5 209 yX4_sumOf ∈ GW := gw_at 251 (by decide +kernel) (by decide +kernel)
theorem ml_X5_228 : Cond.methodLink RX5 228 yX1_add ∈ GW := gw_at 222 (by decide +kernel) (by decide +kernel)
theorem ml_X5_24 : Cond.methodLink RX5 24 yX1_init ∈ GW := gw_at 116 (by decide +kernel) (by decide +kernel)
theorem ml_X5_36 : Cond.methodLink RX5 36 yX3_copyFrom ∈ GW := gw_at 187 (by decide +kernel) (by decide +kernel)
theorem ml_X5_44 : Cond.methodLink RX5 44 yX0_deepen ∈ GW := gw_at 271 (by decide +kernel) (by decide +kernel)
theorem ml_X5_50 : Cond.methodLink RX5 50 yX5_recorded ∈ GW := gw_at 218 (by decide +kernel) (by decide +kernel)
theorem ml_X5_54 : Cond.methodLink RX5 54 yX0_raiseSill ∈ GW := gw_at 280 (by decide +kernel) (by decide +kernel)
theorem ml_X5_57 : Cond.methodLink RX5 57 yX3_changeFlow ∈ GW := gw_at 288 (by decide +kernel) (by decide +kernel)
theorem ml_X5_60 : Cond.methodLink RX5 60 yX3_changeSetting ∈ GW := gw_at 296 (by decide +kernel) (by decide +kernel)
theorem ml_X5_67 : Cond.methodLink RX5 67 yX4_add ∈ GW := gw_at 204 (by decide +kernel) (by decide +kernel)
theorem ml_X5_72 : Cond.methodLink RX5 72 yX4_remove ∈ GW := gw_at 308 (by decide +kernel) (by decide +kernel)
theorem ml_X5_75 : Cond.methodLink RX5 75 yX4_changeRate ∈ GW := gw_at 326 (by decide +kernel) (by decide +kernel)
theorem ml_X5_78 : Cond.methodLink RX5 78 yX3_letTidesCome ∈ GW := gw_at 334 (by decide +kernel) (by decide +kernel)
theorem ml_L_10 : Cond.methodLink RL 10 yL_low ∈ GW := gw_at 260 (by decide +kernel) (by decide +kernel)
theorem ml_L_103 : Cond.methodLink RL 103 yL_cell ∈ GW := gw_at 255 (by decide +kernel) (by decide +kernel)
theorem ml_L_106 : Cond.methodLink RL 106 yL_act ∈ GW := gw_at 264 (by decide +kernel) (by decide +kernel)
theorem ml_L_110 : Cond.methodLink RL 110 yL_keeps ∈ GW := gw_at 463 (by decide +kernel) (by decide +kernel)
theorem ml_L_114 : Cond.methodLink RL 114 yL_rests ∈ GW := gw_at 483 (by decide +kernel) (by decide +kernel)
theorem ml_L_16 : Cond.methodLink RL 16 yX5_dig ∈ GW := gw_at 267 (by decide +kernel) (by decide +kernel)
theorem ml_L_21 : Cond.methodLink RL 21 yX5_build ∈ GW := gw_at 276 (by decide +kernel) (by decide +kernel)
theorem ml_L_24 : Cond.methodLink RL 24 yX5_flow ∈ GW := gw_at 284 (by decide +kernel) (by decide +kernel)
theorem ml_L_28 : Cond.methodLink RL 28 yX5_set ∈ GW := gw_at 292 (by decide +kernel) (by decide +kernel)
theorem ml_L_31 : Cond.methodLink RL 31 yX5_sink ∈ GW := gw_at 183 (by decide +kernel) (by decide +kernel)
theorem ml_L_34 : Cond.methodLink RL 34 yX5_fillIn ∈ GW := gw_at 304 (by decide +kernel) (by decide +kernel)
theorem ml_L_37 : Cond.methodLink RL 37 yX5_setRate ∈ GW := gw_at 322 (by decide +kernel) (by decide +kernel)
theorem ml_L_40 : Cond.methodLink RL 40 yX5_tide ∈ GW := gw_at 330 (by decide +kernel) (by decide +kernel)
theorem ml_L_43 : Cond.methodLink RL 43 yX5_cell ∈ GW := gw_at 409 (by decide +kernel) (by decide +kernel)
theorem ml_L_46 : Cond.methodLink RL 46 yX5_count ∈ GW := gw_at 239 (by decide +kernel) (by decide +kernel)
theorem ml_L_49 : Cond.methodLink RL 49 yX5_well ∈ GW := gw_at 401 (by decide +kernel) (by decide +kernel)
theorem ml_L_52 : Cond.methodLink RL 52 yX5_reach ∈ GW := gw_at 418 (by decide +kernel) (by decide +kernel)
theorem ml_L_56 : Cond.methodLink RL 56 yL_bed ∈ GW := gw_at 415 (by decide +kernel) (by decide +kernel)
theorem ml_L_64 : Cond.methodLink RL 64 yL_print ∈ GW := gw_at 423 (by decide +kernel) (by decide +kernel)
theorem ml_L_68 : Cond.methodLink RL 68 yX5_stopCell ∈ GW := gw_at 431 (by decide +kernel) (by decide +kernel)
theorem ml_L_71 : Cond.methodLink RL 71 yX5_mark ∈ GW := gw_at 442 (by decide +kernel) (by decide +kernel)
theorem ml_L_74 : Cond.methodLink RL 74 yX5_reason ∈ GW := gw_at 454 (by decide +kernel) (by decide +kernel)
theorem ml_L_77 : Cond.methodLink RL 77 yL_hangs ∈ GW := gw_at 398 (by decide +kernel) (by decide +kernel)
theorem ml_L_80 : Cond.methodLink RL 80 yX5_undo ∈ GW := gw_at 231 (by decide +kernel) (by decide +kernel)
theorem ml_L_83 : Cond.methodLink RL 83 yX5_leastFlow ∈ GW := gw_at 466 (by decide +kernel) (by decide +kernel)
theorem ml_L_86 : Cond.methodLink RL 86 yX5_bestSill ∈ GW := gw_at 475 (by decide +kernel) (by decide +kernel)
theorem ml_L_89 : Cond.methodLink RL 89 yX5_restsIn ∈ GW := gw_at 486 (by decide +kernel) (by decide +kernel)
theorem ml_L_92 : Cond.methodLink RL 92 yX5_keep ∈ GW := gw_at 496 (by decide +kernel) (by decide +kernel)
theorem ml_L_95 : Cond.methodLink RL 95 yX5_restore ∈ GW := gw_at 500 (by decide +kernel) (by decide +kernel)
theorem ml_L_98 : Cond.methodLink RL 98 yX5_init ∈ GW := gw_at 18 (by decide +kernel) (by decide +kernel)
theorem ml_L_99 : Cond.methodLink RL 99 yL_comes ∈ GW := gw_at 428 (by decide +kernel) (by decide +kernel)
theorem ci_X0_init : CI yX0_init cX0_init 1 none 0 := ⟨gw_at 9 (by decide +kernel) (by decide +kernel), gw_at 34 (by decide +kernel) (by decide +kernel), by decide +kernel, by decide⟩
-- no selects: X0_init
theorem ci_X0_bestCellFor : CI yX0_bestCellFor cX0_bestCellFor 7 (some .int) 3 := ⟨gw_at 9 (by decide +kernel) (by decide +kernel), gw_at 482 (by decide +kernel) (by decide +kernel), by decide +kernel, by decide⟩
theorem cv_X0_bestCellFor : CV RX0 yX0_bestCellFor cX0_bestCellFor 7 (some .int) 3 := ⟨ci_X0_bestCellFor, gw_at 480 (by decide +kernel) (by decide +kernel), gw_at 481 (by decide +kernel) (by decide +kernel), rfl, gw_at 9 (by decide +kernel) (by decide +kernel)⟩
theorem ci_X0_copyFrom : CI yX0_copyFrom cX0_copyFrom 2 none 1 := ⟨gw_at 9 (by decide +kernel) (by decide +kernel), gw_at 194 (by decide +kernel) (by decide +kernel), by decide +kernel, by decide⟩
theorem cv_X0_copyFrom : CV RX0 yX0_copyFrom cX0_copyFrom 2 none 1 := ⟨ci_X0_copyFrom, gw_at 192 (by decide +kernel) (by decide +kernel), gw_at 193 (by decide +kernel) (by decide +kernel), rfl, gw_at 9 (by decide +kernel) (by decide +kernel)⟩
theorem ci_X0_deepen : CI yX0_deepen cX0_deepen 4 (some .int) 2 := ⟨gw_at 9 (by decide +kernel) (by decide +kernel), gw_at 274 (by decide +kernel) (by decide +kernel), by decide +kernel, by decide⟩
theorem cv_X0_deepen : CV RX0 yX0_deepen cX0_deepen 4 (some .int) 2 := ⟨ci_X0_deepen, gw_at 272 (by decide +kernel) (by decide +kernel), gw_at 273 (by decide +kernel) (by decide +kernel), rfl, gw_at 9 (by decide +kernel) (by decide +kernel)⟩
theorem ci_X0_excess : CI yX0_excess cX0_excess 3 (some .int) 2 := ⟨gw_at 9 (by decide +kernel) (by decide +kernel), gw_at 384 (by decide +kernel) (by decide +kernel), by decide +kernel, by decide⟩
theorem cv_X0_excess : CV RX0 yX0_excess cX0_excess 3 (some .int) 2 := ⟨ci_X0_excess, gw_at 382 (by decide +kernel) (by decide +kernel), gw_at 383 (by decide +kernel) (by decide +kernel), rfl, gw_at 9 (by decide +kernel) (by decide +kernel)⟩
theorem ci_X0_follow : CI yX0_follow cX0_follow 7 none 3 := ⟨gw_at 9 (by decide +kernel) (by decide +kernel), gw_at 361 (by decide +kernel) (by decide +kernel), by decide +kernel, by decide⟩
theorem cv_X0_follow : CV RX0 yX0_follow cX0_follow 7 none 3 := ⟨ci_X0_follow, gw_at 359 (by decide +kernel) (by decide +kernel), gw_at 360 (by decide +kernel) (by decide +kernel), rfl, gw_at 9 (by decide +kernel) (by decide +kernel)⟩
theorem ci_X0_greatestSaltCell : CI yX0_greatestSaltCell cX0_greatestSaltCell 2 (some .int) 0 := ⟨gw_at 9 (by decide +kernel) (by decide +kernel), gw_at 395 (by decide +kernel) (by decide +kernel), by decide +kernel, by decide⟩
theorem cv_X0_greatestSaltCell : CV RX0 yX0_greatestSaltCell cX0_greatestSaltCell 2 (some .int) 0 := ⟨ci_X0_greatestSaltCell, gw_at 393 (by decide +kernel) (by decide +kernel), gw_at 394 (by decide +kernel) (by decide +kernel), rfl, gw_at 9 (by decide +kernel) (by decide +kernel)⟩
theorem ci_X0_markFrom : CI yX0_markFrom cX0_markFrom 3 (some .int) 2 := ⟨gw_at 9 (by decide +kernel) (by decide +kernel), gw_at 365 (by decide +kernel) (by decide +kernel), by decide +kernel, by decide⟩
theorem cv_X0_markFrom : CV RX0 yX0_markFrom cX0_markFrom 3 (some .int) 2 := ⟨ci_X0_markFrom, gw_at 364 (by decide +kernel) (by decide +kernel), gw_at 3 (by decide +kernel) (by decide +kernel), rfl, gw_at 9 (by decide +kernel) (by decide +kernel)⟩
theorem ci_X0_markOf : CI yX0_markOf cX0_markOf 4 (some .int) 3 := ⟨gw_at 9 (by decide +kernel) (by decide +kernel), gw_at 449 (by decide +kernel) (by decide +kernel), by decide +kernel, by decide⟩
theorem cv_X0_markOf : CV RX0 yX0_markOf cX0_markOf 4 (some .int) 3 := ⟨ci_X0_markOf, gw_at 447 (by decide +kernel) (by decide +kernel), gw_at 448 (by decide +kernel) (by decide +kernel), rfl, gw_at 9 (by decide +kernel) (by decide +kernel)⟩
theorem ci_X0_moved : CI yX0_moved cX0_moved 3 (some .int) 3 := ⟨gw_at 9 (by decide +kernel) (by decide +kernel), gw_at 371 (by decide +kernel) (by decide +kernel), by decide +kernel, by decide⟩
theorem cs_X0_moved : CS yX0_moved cX0_moved 3 (some .int) 3 := ⟨ci_X0_moved, gw_at 370 (by decide +kernel) (by decide +kernel)⟩
theorem ci_X0_offeredTo : CI yX0_offeredTo cX0_offeredTo 6 (some .int) 3 := ⟨gw_at 9 (by decide +kernel) (by decide +kernel), gw_at 453 (by decide +kernel) (by decide +kernel), by decide +kernel, by decide⟩
theorem cv_X0_offeredTo : CV RX0 yX0_offeredTo cX0_offeredTo 6 (some .int) 3 := ⟨ci_X0_offeredTo, gw_at 452 (by decide +kernel) (by decide +kernel), gw_at 5 (by decide +kernel) (by decide +kernel), rfl, gw_at 9 (by decide +kernel) (by decide +kernel)⟩
theorem ci_X0_raiseSill : CI yX0_raiseSill cX0_raiseSill 4 (some .int) 2 := ⟨gw_at 9 (by decide +kernel) (by decide +kernel), gw_at 283 (by decide +kernel) (by decide +kernel), by decide +kernel, by decide⟩
theorem cv_X0_raiseSill : CV RX0 yX0_raiseSill cX0_raiseSill 4 (some .int) 2 := ⟨ci_X0_raiseSill, gw_at 281 (by decide +kernel) (by decide +kernel), gw_at 282 (by decide +kernel) (by decide +kernel), rfl, gw_at 9 (by decide +kernel) (by decide +kernel)⟩
theorem ci_X0_reasonOf : CI yX0_reasonOf cX0_reasonOf 5 (some .int) 3 := ⟨gw_at 9 (by decide +kernel) (by decide +kernel), gw_at 461 (by decide +kernel) (by decide +kernel), by decide +kernel, by decide⟩
theorem cv_X0_reasonOf : CV RX0 yX0_reasonOf cX0_reasonOf 5 (some .int) 3 := ⟨ci_X0_reasonOf, gw_at 459 (by decide +kernel) (by decide +kernel), gw_at 460 (by decide +kernel) (by decide +kernel), rfl, gw_at 9 (by decide +kernel) (by decide +kernel)⟩
theorem ci_X0_saltCells : CI yX0_saltCells cX0_saltCells 3 (some .int) 0 := ⟨gw_at 9 (by decide +kernel) (by decide +kernel), gw_at 246 (by decide +kernel) (by decide +kernel), by decide +kernel, by decide⟩
theorem cv_X0_saltCells : CV RX0 yX0_saltCells cX0_saltCells 3 (some .int) 0 := ⟨ci_X0_saltCells, gw_at 244 (by decide +kernel) (by decide +kernel), gw_at 245 (by decide +kernel) (by decide +kernel), rfl, gw_at 9 (by decide +kernel) (by decide +kernel)⟩
theorem ci_X0_stopOf : CI yX0_stopOf cX0_stopOf 6 (some .int) 2 := ⟨gw_at 9 (by decide +kernel) (by decide +kernel), gw_at 441 (by decide +kernel) (by decide +kernel), by decide +kernel, by decide⟩
theorem cv_X0_stopOf : CV RX0 yX0_stopOf cX0_stopOf 6 (some .int) 2 := ⟨ci_X0_stopOf, gw_at 439 (by decide +kernel) (by decide +kernel), gw_at 440 (by decide +kernel) (by decide +kernel), rfl, gw_at 9 (by decide +kernel) (by decide +kernel)⟩
theorem ci_X0_sumOfHeights : CI yX0_sumOfHeights cX0_sumOfHeights 3 (some .int) 0 := ⟨gw_at 9 (by decide +kernel) (by decide +kernel), gw_at 250 (by decide +kernel) (by decide +kernel), by decide +kernel, by decide⟩
theorem cv_X0_sumOfHeights : CV RX0 yX0_sumOfHeights cX0_sumOfHeights 3 (some .int) 0 := ⟨ci_X0_sumOfHeights, gw_at 248 (by decide +kernel) (by decide +kernel), gw_at 249 (by decide +kernel) (by decide +kernel), rfl, gw_at 9 (by decide +kernel) (by decide +kernel)⟩
theorem ci_X1_init : CI yX1_init cX1_init 2 none 0 := ⟨gw_at 12 (by decide +kernel) (by decide +kernel), gw_at 118 (by decide +kernel) (by decide +kernel), by decide +kernel, by decide⟩
-- no selects: X1_init
theorem ci_X1_add : CI yX1_add cX1_add 3 none 1 := ⟨gw_at 12 (by decide +kernel) (by decide +kernel), gw_at 225 (by decide +kernel) (by decide +kernel), by decide +kernel, by decide⟩
theorem cv_X1_add : CV RX1 yX1_add cX1_add 3 none 1 := ⟨ci_X1_add, gw_at 223 (by decide +kernel) (by decide +kernel), gw_at 224 (by decide +kernel) (by decide +kernel), rfl, gw_at 12 (by decide +kernel) (by decide +kernel)⟩
theorem ci_X1_dropOldest : CI yX1_dropOldest cX1_dropOldest 3 none 0 := ⟨gw_at 12 (by decide +kernel) (by decide +kernel), gw_at 229 (by decide +kernel) (by decide +kernel), by decide +kernel, by decide⟩
theorem cv_X1_dropOldest : CV RX1 yX1_dropOldest cX1_dropOldest 3 none 0 := ⟨ci_X1_dropOldest, gw_at 228 (by decide +kernel) (by decide +kernel), gw_at 1 (by decide +kernel) (by decide +kernel), rfl, gw_at 12 (by decide +kernel) (by decide +kernel)⟩
theorem ci_X1_takeLatest : CI yX1_takeLatest cX1_takeLatest 4 (some .boolean) 1 := ⟨gw_at 12 (by decide +kernel) (by decide +kernel), gw_at 238 (by decide +kernel) (by decide +kernel), by decide +kernel, by decide⟩
theorem cv_X1_takeLatest : CV RX1 yX1_takeLatest cX1_takeLatest 4 (some .boolean) 1 := ⟨ci_X1_takeLatest, gw_at 236 (by decide +kernel) (by decide +kernel), gw_at 237 (by decide +kernel) (by decide +kernel), rfl, gw_at 12 (by decide +kernel) (by decide +kernel)⟩
theorem ci_X2_init : CI yX2_init cX2_init 1 none 0 := ⟨gw_at 13 (by decide +kernel) (by decide +kernel), gw_at 135 (by decide +kernel) (by decide +kernel), by decide +kernel, by decide⟩
-- no selects: X2_init
theorem ci_X3_init : CI yX3_init cX3_init 1 none 0 := ⟨gw_at 8 (by decide +kernel) (by decide +kernel), gw_at 28 (by decide +kernel) (by decide +kernel), by decide +kernel, by decide⟩
-- no selects: X3_init
theorem ci_X3_changeFlow : CI yX3_changeFlow cX3_changeFlow 3 (some .int) 1 := ⟨gw_at 8 (by decide +kernel) (by decide +kernel), gw_at 291 (by decide +kernel) (by decide +kernel), by decide +kernel, by decide⟩
theorem cv_X3_changeFlow : CV RX3 yX3_changeFlow cX3_changeFlow 3 (some .int) 1 := ⟨ci_X3_changeFlow, gw_at 289 (by decide +kernel) (by decide +kernel), gw_at 290 (by decide +kernel) (by decide +kernel), rfl, gw_at 8 (by decide +kernel) (by decide +kernel)⟩
theorem ci_X3_changeSetting : CI yX3_changeSetting cX3_changeSetting 4 (some .int) 2 := ⟨gw_at 8 (by decide +kernel) (by decide +kernel), gw_at 299 (by decide +kernel) (by decide +kernel), by decide +kernel, by decide⟩
theorem cv_X3_changeSetting : CV RX3 yX3_changeSetting cX3_changeSetting 4 (some .int) 2 := ⟨ci_X3_changeSetting, gw_at 297 (by decide +kernel) (by decide +kernel), gw_at 298 (by decide +kernel) (by decide +kernel), rfl, gw_at 8 (by decide +kernel) (by decide +kernel)⟩
theorem ci_X3_copyFrom : CI yX3_copyFrom cX3_copyFrom 2 none 1 := ⟨gw_at 8 (by decide +kernel) (by decide +kernel), gw_at 190 (by decide +kernel) (by decide +kernel), by decide +kernel, by decide⟩
theorem cv_X3_copyFrom : CV RX3 yX3_copyFrom cX3_copyFrom 2 none 1 := ⟨ci_X3_copyFrom, gw_at 188 (by decide +kernel) (by decide +kernel), gw_at 189 (by decide +kernel) (by decide +kernel), rfl, gw_at 8 (by decide +kernel) (by decide +kernel)⟩
theorem ci_X3_leastFlowFor : CI yX3_leastFlowFor cX3_leastFlowFor 4 (some .int) 2 := ⟨gw_at 8 (by decide +kernel) (by decide +kernel), gw_at 473 (by decide +kernel) (by decide +kernel), by decide +kernel, by decide⟩
theorem cv_X3_leastFlowFor : CV RX3 yX3_leastFlowFor cX3_leastFlowFor 4 (some .int) 2 := ⟨ci_X3_leastFlowFor, gw_at 471 (by decide +kernel) (by decide +kernel), gw_at 472 (by decide +kernel) (by decide +kernel), rfl, gw_at 8 (by decide +kernel) (by decide +kernel)⟩
theorem ci_X3_letOneTideCome : CI yX3_letOneTideCome cX3_letOneTideCome 2 none 1 := ⟨gw_at 8 (by decide +kernel) (by decide +kernel), gw_at 345 (by decide +kernel) (by decide +kernel), by decide +kernel, by decide⟩
theorem cv_X3_letOneTideCome : CV RX3 yX3_letOneTideCome cX3_letOneTideCome 2 none 1 := ⟨ci_X3_letOneTideCome, gw_at 343 (by decide +kernel) (by decide +kernel), gw_at 344 (by decide +kernel) (by decide +kernel), rfl, gw_at 8 (by decide +kernel) (by decide +kernel)⟩
theorem ci_X3_letTidesCome : CI yX3_letTidesCome cX3_letTidesCome 4 (some .int) 2 := ⟨gw_at 8 (by decide +kernel) (by decide +kernel), gw_at 337 (by decide +kernel) (by decide +kernel), by decide +kernel, by decide⟩
theorem cv_X3_letTidesCome : CV RX3 yX3_letTidesCome cX3_letTidesCome 4 (some .int) 2 := ⟨ci_X3_letTidesCome, gw_at 335 (by decide +kernel) (by decide +kernel), gw_at 336 (by decide +kernel) (by decide +kernel), rfl, gw_at 8 (by decide +kernel) (by decide +kernel)⟩
theorem ci_X3_pushOf : CI yX3_pushOf cX3_pushOf 2 (some .int) 1 := ⟨gw_at 8 (by decide +kernel) (by decide +kernel), gw_at 349 (by decide +kernel) (by decide +kernel), by decide +kernel, by decide⟩
theorem cv_X3_pushOf : CV RX3 yX3_pushOf cX3_pushOf 2 (some .int) 1 := ⟨ci_X3_pushOf, gw_at 347 (by decide +kernel) (by decide +kernel), gw_at 348 (by decide +kernel) (by decide +kernel), rfl, gw_at 8 (by decide +kernel) (by decide +kernel)⟩
theorem ci_X3_pushWith : CI yX3_pushWith cX3_pushWith 3 (some .int) 2 := ⟨gw_at 8 (by decide +kernel) (by decide +kernel), gw_at 353 (by decide +kernel) (by decide +kernel), by decide +kernel, by decide⟩
theorem cv_X3_pushWith : CV RX3 yX3_pushWith cX3_pushWith 3 (some .int) 2 := ⟨ci_X3_pushWith, gw_at 352 (by decide +kernel) (by decide +kernel), gw_at 2 (by decide +kernel) (by decide +kernel), rfl, gw_at 8 (by decide +kernel) (by decide +kernel)⟩
theorem ci_X3_slope : CI yX3_slope cX3_slope 1 (some .int) 0 := ⟨gw_at 8 (by decide +kernel) (by decide +kernel), gw_at 357 (by decide +kernel) (by decide +kernel), by decide +kernel, by decide⟩
theorem cv_X3_slope : CV RX3 yX3_slope cX3_slope 1 (some .int) 0 := ⟨ci_X3_slope, gw_at 355 (by decide +kernel) (by decide +kernel), gw_at 356 (by decide +kernel) (by decide +kernel), rfl, gw_at 8 (by decide +kernel) (by decide +kernel)⟩
theorem ci_X4_init : CI yX4_init cX4_init 1 none 0 := ⟨gw_at 11 (by decide +kernel) (by decide +kernel), gw_at 61 (by decide +kernel) (by decide +kernel), by decide +kernel, by decide⟩
-- no selects: X4_init
theorem ci_X4_add : CI yX4_add cX4_add 4 (some .int) 2 := ⟨gw_at 11 (by decide +kernel) (by decide +kernel), gw_at 207 (by decide +kernel) (by decide +kernel), by decide +kernel, by decide⟩
theorem cv_X4_add : CV RX4 yX4_add cX4_add 4 (some .int) 2 := ⟨ci_X4_add, gw_at 205 (by decide +kernel) (by decide +kernel), gw_at 206 (by decide +kernel) (by decide +kernel), rfl, gw_at 11 (by decide +kernel) (by decide +kernel)⟩
theorem ci_X4_beside : CI yX4_beside cX4_beside 3 (some .int) 1 := ⟨gw_at 11 (by decide +kernel) (by decide +kernel), gw_at 217 (by decide +kernel) (by decide +kernel), by decide +kernel, by decide⟩
theorem cv_X4_beside : CV RX4 yX4_beside cX4_beside 3 (some .int) 1 := ⟨ci_X4_beside, gw_at 215 (by decide +kernel) (by decide +kernel), gw_at 216 (by decide +kernel) (by decide +kernel), rfl, gw_at 11 (by decide +kernel) (by decide +kernel)⟩
theorem ci_X4_changeRate : CI yX4_changeRate cX4_changeRate 4 (some .int) 2 := ⟨gw_at 11 (by decide +kernel) (by decide +kernel), gw_at 329 (by decide +kernel) (by decide +kernel), by decide +kernel, by decide⟩
theorem cv_X4_changeRate : CV RX4 yX4_changeRate cX4_changeRate 4 (some .int) 2 := ⟨ci_X4_changeRate, gw_at 327 (by decide +kernel) (by decide +kernel), gw_at 328 (by decide +kernel) (by decide +kernel), rfl, gw_at 11 (by decide +kernel) (by decide +kernel)⟩
theorem ci_X4_closeGap : CI yX4_closeGap cX4_closeGap 3 none 2 := ⟨gw_at 11 (by decide +kernel) (by decide +kernel), gw_at 318 (by decide +kernel) (by decide +kernel), by decide +kernel, by decide⟩
theorem cs_X4_closeGap : CS yX4_closeGap cX4_closeGap 3 none 2 := ⟨ci_X4_closeGap, gw_at 317 (by decide +kernel) (by decide +kernel)⟩
theorem ci_X4_coneOf : CI yX4_coneOf cX4_coneOf 5 (some .int) 1 := ⟨gw_at 11 (by decide +kernel) (by decide +kernel), gw_at 380 (by decide +kernel) (by decide +kernel), by decide +kernel, by decide⟩
theorem cv_X4_coneOf : CV RX4 yX4_coneOf cX4_coneOf 5 (some .int) 1 := ⟨ci_X4_coneOf, gw_at 378 (by decide +kernel) (by decide +kernel), gw_at 379 (by decide +kernel) (by decide +kernel), rfl, gw_at 11 (by decide +kernel) (by decide +kernel)⟩
theorem ci_X4_copyFrom : CI yX4_copyFrom cX4_copyFrom 2 none 1 := ⟨gw_at 11 (by decide +kernel) (by decide +kernel), gw_at 201 (by decide +kernel) (by decide +kernel), by decide +kernel, by decide⟩
theorem cv_X4_copyFrom : CV RX4 yX4_copyFrom cX4_copyFrom 2 none 1 := ⟨ci_X4_copyFrom, gw_at 199 (by decide +kernel) (by decide +kernel), gw_at 200 (by decide +kernel) (by decide +kernel), rfl, gw_at 11 (by decide +kernel) (by decide +kernel)⟩
theorem ci_X4_drawFrom : CI yX4_drawFrom cX4_drawFrom 4 none 1 := ⟨gw_at 11 (by decide +kernel) (by decide +kernel), gw_at 376 (by decide +kernel) (by decide +kernel), by decide +kernel, by decide⟩
theorem cv_X4_drawFrom : CV RX4 yX4_drawFrom cX4_drawFrom 4 none 1 := ⟨ci_X4_drawFrom, gw_at 374 (by decide +kernel) (by decide +kernel), gw_at 375 (by decide +kernel) (by decide +kernel), rfl, gw_at 11 (by decide +kernel) (by decide +kernel)⟩
theorem ci_X4_has : CI yX4_has cX4_has 2 (some .boolean) 1 := ⟨gw_at 11 (by decide +kernel) (by decide +kernel), gw_at 315 (by decide +kernel) (by decide +kernel), by decide +kernel, by decide⟩
theorem cv_X4_has : CV RX4 yX4_has cX4_has 2 (some .boolean) 1 := ⟨ci_X4_has, gw_at 313 (by decide +kernel) (by decide +kernel), gw_at 314 (by decide +kernel) (by decide +kernel), rfl, gw_at 11 (by decide +kernel) (by decide +kernel)⟩
theorem ci_X4_isRate : CI yX4_isRate cX4_isRate 1 (some .boolean) 1 := ⟨gw_at 11 (by decide +kernel) (by decide +kernel), gw_at 213 (by decide +kernel) (by decide +kernel), by decide +kernel, by decide⟩
theorem cs_X4_isRate : CS yX4_isRate cX4_isRate 1 (some .boolean) 1 := ⟨ci_X4_isRate, gw_at 212 (by decide +kernel) (by decide +kernel)⟩
theorem ci_X4_isResting : CI yX4_isResting cX4_isResting 2 (some .boolean) 1 := ⟨gw_at 11 (by decide +kernel) (by decide +kernel), gw_at 494 (by decide +kernel) (by decide +kernel), by decide +kernel, by decide⟩
theorem cv_X4_isResting : CV RX4 yX4_isResting cX4_isResting 2 (some .boolean) 1 := ⟨ci_X4_isResting, gw_at 492 (by decide +kernel) (by decide +kernel), gw_at 493 (by decide +kernel) (by decide +kernel), rfl, gw_at 11 (by decide +kernel) (by decide +kernel)⟩
theorem ci_X4_remove : CI yX4_remove cX4_remove 3 (some .int) 1 := ⟨gw_at 11 (by decide +kernel) (by decide +kernel), gw_at 311 (by decide +kernel) (by decide +kernel), by decide +kernel, by decide⟩
theorem cv_X4_remove : CV RX4 yX4_remove cX4_remove 3 (some .int) 1 := ⟨ci_X4_remove, gw_at 309 (by decide +kernel) (by decide +kernel), gw_at 310 (by decide +kernel) (by decide +kernel), rfl, gw_at 11 (by decide +kernel) (by decide +kernel)⟩
theorem ci_X4_saltBehind : CI yX4_saltBehind cX4_saltBehind 2 (some .int) 2 := ⟨gw_at 11 (by decide +kernel) (by decide +kernel), gw_at 387 (by decide +kernel) (by decide +kernel), by decide +kernel, by decide⟩
theorem cs_X4_saltBehind : CS yX4_saltBehind cX4_saltBehind 2 (some .int) 2 := ⟨ci_X4_saltBehind, gw_at 386 (by decide +kernel) (by decide +kernel)⟩
theorem ci_X4_sumOf : CI yX4_sumOf cX4_sumOf 4 (some .int) 1 := ⟨gw_at 11 (by decide +kernel) (by decide +kernel), gw_at 254 (by decide +kernel) (by decide +kernel), by decide +kernel, by decide⟩
theorem cv_X4_sumOf : CV RX4 yX4_sumOf cX4_sumOf 4 (some .int) 1 := ⟨ci_X4_sumOf, gw_at 252 (by decide +kernel) (by decide +kernel), gw_at 253 (by decide +kernel) (by decide +kernel), rfl, gw_at 11 (by decide +kernel) (by decide +kernel)⟩
theorem ci_X4_tell : CI yX4_tell cX4_tell 3 (some .int) 2 := ⟨gw_at 11 (by decide +kernel) (by decide +kernel), gw_at 408 (by decide +kernel) (by decide +kernel), by decide +kernel, by decide⟩
theorem cv_X4_tell : CV RX4 yX4_tell cX4_tell 3 (some .int) 2 := ⟨ci_X4_tell, gw_at 406 (by decide +kernel) (by decide +kernel), gw_at 407 (by decide +kernel) (by decide +kernel), rfl, gw_at 11 (by decide +kernel) (by decide +kernel)⟩
theorem ci_X4_turnOrRecover : CI yX4_turnOrRecover cX4_turnOrRecover 2 none 0 := ⟨gw_at 11 (by decide +kernel) (by decide +kernel), gw_at 391 (by decide +kernel) (by decide +kernel), by decide +kernel, by decide⟩
theorem cv_X4_turnOrRecover : CV RX4 yX4_turnOrRecover cX4_turnOrRecover 2 none 0 := ⟨ci_X4_turnOrRecover, gw_at 390 (by decide +kernel) (by decide +kernel), gw_at 4 (by decide +kernel) (by decide +kernel), rfl, gw_at 11 (by decide +kernel) (by decide +kernel)⟩
theorem ci_X5_init : CI yX5_init cX5_init 1 none 0 := ⟨gw_at 7 (by decide +kernel) (by decide +kernel), gw_at 20 (by decide +kernel) (by decide +kernel), by decide +kernel, by decide⟩
-- no selects: X5_init
theorem ci_X5_bestSill : CI yX5_bestSill cX5_bestSill 3 (some .int) 2 := ⟨gw_at 7 (by decide +kernel) (by decide +kernel), gw_at 478 (by decide +kernel) (by decide +kernel), by decide +kernel, by decide⟩
theorem cv_X5_bestSill : CV RX5 yX5_bestSill cX5_bestSill 3 (some .int) 2 := ⟨ci_X5_bestSill, gw_at 476 (by decide +kernel) (by decide +kernel), gw_at 477 (by decide +kernel) (by decide +kernel), rfl, gw_at 7 (by decide +kernel) (by decide +kernel)⟩
theorem ci_X5_build : CI yX5_build cX5_build 3 (some .int) 2 := ⟨gw_at 7 (by decide +kernel) (by decide +kernel), gw_at 279 (by decide +kernel) (by decide +kernel), by decide +kernel, by decide⟩
theorem cv_X5_build : CV RX5 yX5_build cX5_build 3 (some .int) 2 := ⟨ci_X5_build, gw_at 277 (by decide +kernel) (by decide +kernel), gw_at 278 (by decide +kernel) (by decide +kernel), rfl, gw_at 7 (by decide +kernel) (by decide +kernel)⟩
theorem ci_X5_cell : CI yX5_cell cX5_cell 3 (some .int) 2 := ⟨gw_at 7 (by decide +kernel) (by decide +kernel), gw_at 412 (by decide +kernel) (by decide +kernel), by decide +kernel, by decide⟩
theorem cv_X5_cell : CV RX5 yX5_cell cX5_cell 3 (some .int) 2 := ⟨ci_X5_cell, gw_at 410 (by decide +kernel) (by decide +kernel), gw_at 411 (by decide +kernel) (by decide +kernel), rfl, gw_at 7 (by decide +kernel) (by decide +kernel)⟩
theorem ci_X5_count : CI yX5_count cX5_count 2 (some .int) 1 := ⟨gw_at 7 (by decide +kernel) (by decide +kernel), gw_at 242 (by decide +kernel) (by decide +kernel), by decide +kernel, by decide⟩
theorem cv_X5_count : CV RX5 yX5_count cX5_count 2 (some .int) 1 := ⟨ci_X5_count, gw_at 240 (by decide +kernel) (by decide +kernel), gw_at 241 (by decide +kernel) (by decide +kernel), rfl, gw_at 7 (by decide +kernel) (by decide +kernel)⟩
theorem ci_X5_dig : CI yX5_dig cX5_dig 3 (some .int) 2 := ⟨gw_at 7 (by decide +kernel) (by decide +kernel), gw_at 270 (by decide +kernel) (by decide +kernel), by decide +kernel, by decide⟩
theorem cv_X5_dig : CV RX5 yX5_dig cX5_dig 3 (some .int) 2 := ⟨ci_X5_dig, gw_at 268 (by decide +kernel) (by decide +kernel), gw_at 269 (by decide +kernel) (by decide +kernel), rfl, gw_at 7 (by decide +kernel) (by decide +kernel)⟩
theorem ci_X5_fillIn : CI yX5_fillIn cX5_fillIn 2 (some .int) 1 := ⟨gw_at 7 (by decide +kernel) (by decide +kernel), gw_at 307 (by decide +kernel) (by decide +kernel), by decide +kernel, by decide⟩
theorem cv_X5_fillIn : CV RX5 yX5_fillIn cX5_fillIn 2 (some .int) 1 := ⟨ci_X5_fillIn, gw_at 305 (by decide +kernel) (by decide +kernel), gw_at 306 (by decide +kernel) (by decide +kernel), rfl, gw_at 7 (by decide +kernel) (by decide +kernel)⟩
theorem ci_X5_flow : CI yX5_flow cX5_flow 2 (some .int) 1 := ⟨gw_at 7 (by decide +kernel) (by decide +kernel), gw_at 287 (by decide +kernel) (by decide +kernel), by decide +kernel, by decide⟩
theorem cv_X5_flow : CV RX5 yX5_flow cX5_flow 2 (some .int) 1 := ⟨ci_X5_flow, gw_at 285 (by decide +kernel) (by decide +kernel), gw_at 286 (by decide +kernel) (by decide +kernel), rfl, gw_at 7 (by decide +kernel) (by decide +kernel)⟩
theorem ci_X5_isCell : CI yX5_isCell cX5_isCell 1 (some .boolean) 1 := ⟨gw_at 7 (by decide +kernel) (by decide +kernel), gw_at 210 (by decide +kernel) (by decide +kernel), by decide +kernel, by decide⟩
theorem cs_X5_isCell : CS yX5_isCell cX5_isCell 1 (some .boolean) 1 := ⟨ci_X5_isCell, gw_at 209 (by decide +kernel) (by decide +kernel)⟩
theorem ci_X5_isRise : CI yX5_isRise cX5_isRise 1 (some .boolean) 1 := ⟨gw_at 7 (by decide +kernel) (by decide +kernel), gw_at 340 (by decide +kernel) (by decide +kernel), by decide +kernel, by decide⟩
theorem cs_X5_isRise : CS yX5_isRise cX5_isRise 1 (some .boolean) 1 := ⟨ci_X5_isRise, gw_at 339 (by decide +kernel) (by decide +kernel)⟩
theorem ci_X5_keep : CI yX5_keep cX5_keep 1 (some .int) 0 := ⟨gw_at 7 (by decide +kernel) (by decide +kernel), gw_at 499 (by decide +kernel) (by decide +kernel), by decide +kernel, by decide⟩
theorem cv_X5_keep : CV RX5 yX5_keep cX5_keep 1 (some .int) 0 := ⟨ci_X5_keep, gw_at 497 (by decide +kernel) (by decide +kernel), gw_at 498 (by decide +kernel) (by decide +kernel), rfl, gw_at 7 (by decide +kernel) (by decide +kernel)⟩
theorem ci_X5_leastFlow : CI yX5_leastFlow cX5_leastFlow 3 (some .int) 2 := ⟨gw_at 7 (by decide +kernel) (by decide +kernel), gw_at 469 (by decide +kernel) (by decide +kernel), by decide +kernel, by decide⟩
theorem cv_X5_leastFlow : CV RX5 yX5_leastFlow cX5_leastFlow 3 (some .int) 2 := ⟨ci_X5_leastFlow, gw_at 467 (by decide +kernel) (by decide +kernel), gw_at 468 (by decide +kernel) (by decide +kernel), rfl, gw_at 7 (by decide +kernel) (by decide +kernel)⟩
theorem ci_X5_mark : CI yX5_mark cX5_mark 3 (some .int) 2 := ⟨gw_at 7 (by decide +kernel) (by decide +kernel), gw_at 445 (by decide +kernel) (by decide +kernel), by decide +kernel, by decide⟩
theorem cv_X5_mark : CV RX5 yX5_mark cX5_mark 3 (some .int) 2 := ⟨ci_X5_mark, gw_at 443 (by decide +kernel) (by decide +kernel), gw_at 444 (by decide +kernel) (by decide +kernel), rfl, gw_at 7 (by decide +kernel) (by decide +kernel)⟩
theorem ci_X5_reach : CI yX5_reach cX5_reach 1 (some .int) 0 := ⟨gw_at 7 (by decide +kernel) (by decide +kernel), gw_at 421 (by decide +kernel) (by decide +kernel), by decide +kernel, by decide⟩
theorem cv_X5_reach : CV RX5 yX5_reach cX5_reach 1 (some .int) 0 := ⟨ci_X5_reach, gw_at 419 (by decide +kernel) (by decide +kernel), gw_at 420 (by decide +kernel) (by decide +kernel), rfl, gw_at 7 (by decide +kernel) (by decide +kernel)⟩
theorem ci_X5_reason : CI yX5_reason cX5_reason 3 (some .int) 2 := ⟨gw_at 7 (by decide +kernel) (by decide +kernel), gw_at 457 (by decide +kernel) (by decide +kernel), by decide +kernel, by decide⟩
theorem cv_X5_reason : CV RX5 yX5_reason cX5_reason 3 (some .int) 2 := ⟨ci_X5_reason, gw_at 455 (by decide +kernel) (by decide +kernel), gw_at 456 (by decide +kernel) (by decide +kernel), rfl, gw_at 7 (by decide +kernel) (by decide +kernel)⟩
theorem ci_X5_recorded : CI yX5_recorded cX5_recorded 2 (some .int) 1 := ⟨gw_at 7 (by decide +kernel) (by decide +kernel), gw_at 221 (by decide +kernel) (by decide +kernel), by decide +kernel, by decide⟩
theorem cv_X5_recorded : CV RX5 yX5_recorded cX5_recorded 2 (some .int) 1 := ⟨ci_X5_recorded, gw_at 220 (by decide +kernel) (by decide +kernel), gw_at 0 (by decide +kernel) (by decide +kernel), rfl, gw_at 7 (by decide +kernel) (by decide +kernel)⟩
theorem ci_X5_restore : CI yX5_restore cX5_restore 1 (some .int) 0 := ⟨gw_at 7 (by decide +kernel) (by decide +kernel), gw_at 503 (by decide +kernel) (by decide +kernel), by decide +kernel, by decide⟩
theorem cv_X5_restore : CV RX5 yX5_restore cX5_restore 1 (some .int) 0 := ⟨ci_X5_restore, gw_at 501 (by decide +kernel) (by decide +kernel), gw_at 502 (by decide +kernel) (by decide +kernel), rfl, gw_at 7 (by decide +kernel) (by decide +kernel)⟩
theorem ci_X5_restsIn : CI yX5_restsIn cX5_restsIn 4 (some .int) 2 := ⟨gw_at 7 (by decide +kernel) (by decide +kernel), gw_at 489 (by decide +kernel) (by decide +kernel), by decide +kernel, by decide⟩
theorem cv_X5_restsIn : CV RX5 yX5_restsIn cX5_restsIn 4 (some .int) 2 := ⟨ci_X5_restsIn, gw_at 487 (by decide +kernel) (by decide +kernel), gw_at 488 (by decide +kernel) (by decide +kernel), rfl, gw_at 7 (by decide +kernel) (by decide +kernel)⟩
theorem ci_X5_set : CI yX5_set cX5_set 3 (some .int) 2 := ⟨gw_at 7 (by decide +kernel) (by decide +kernel), gw_at 295 (by decide +kernel) (by decide +kernel), by decide +kernel, by decide⟩
theorem cv_X5_set : CV RX5 yX5_set cX5_set 3 (some .int) 2 := ⟨ci_X5_set, gw_at 293 (by decide +kernel) (by decide +kernel), gw_at 294 (by decide +kernel) (by decide +kernel), rfl, gw_at 7 (by decide +kernel) (by decide +kernel)⟩
theorem ci_X5_setRate : CI yX5_setRate cX5_setRate 3 (some .int) 2 := ⟨gw_at 7 (by decide +kernel) (by decide +kernel), gw_at 325 (by decide +kernel) (by decide +kernel), by decide +kernel, by decide⟩
theorem cv_X5_setRate : CV RX5 yX5_setRate cX5_setRate 3 (some .int) 2 := ⟨ci_X5_setRate, gw_at 323 (by decide +kernel) (by decide +kernel), gw_at 324 (by decide +kernel) (by decide +kernel), rfl, gw_at 7 (by decide +kernel) (by decide +kernel)⟩
theorem ci_X5_sink : CI yX5_sink cX5_sink 3 (some .int) 2 := ⟨gw_at 7 (by decide +kernel) (by decide +kernel), gw_at 186 (by decide +kernel) (by decide +kernel), by decide +kernel, by decide⟩
theorem cv_X5_sink : CV RX5 yX5_sink cX5_sink 3 (some .int) 2 := ⟨ci_X5_sink, gw_at 184 (by decide +kernel) (by decide +kernel), gw_at 185 (by decide +kernel) (by decide +kernel), rfl, gw_at 7 (by decide +kernel) (by decide +kernel)⟩
theorem ci_X5_stopCell : CI yX5_stopCell cX5_stopCell 3 (some .int) 1 := ⟨gw_at 7 (by decide +kernel) (by decide +kernel), gw_at 434 (by decide +kernel) (by decide +kernel), by decide +kernel, by decide⟩
theorem cv_X5_stopCell : CV RX5 yX5_stopCell cX5_stopCell 3 (some .int) 1 := ⟨ci_X5_stopCell, gw_at 432 (by decide +kernel) (by decide +kernel), gw_at 433 (by decide +kernel) (by decide +kernel), rfl, gw_at 7 (by decide +kernel) (by decide +kernel)⟩
theorem ci_X5_tide : CI yX5_tide cX5_tide 3 (some .int) 2 := ⟨gw_at 7 (by decide +kernel) (by decide +kernel), gw_at 333 (by decide +kernel) (by decide +kernel), by decide +kernel, by decide⟩
theorem cv_X5_tide : CV RX5 yX5_tide cX5_tide 3 (some .int) 2 := ⟨ci_X5_tide, gw_at 331 (by decide +kernel) (by decide +kernel), gw_at 332 (by decide +kernel) (by decide +kernel), rfl, gw_at 7 (by decide +kernel) (by decide +kernel)⟩
theorem ci_X5_undo : CI yX5_undo cX5_undo 1 (some .int) 0 := ⟨gw_at 7 (by decide +kernel) (by decide +kernel), gw_at 234 (by decide +kernel) (by decide +kernel), by decide +kernel, by decide⟩
theorem cv_X5_undo : CV RX5 yX5_undo cX5_undo 1 (some .int) 0 := ⟨ci_X5_undo, gw_at 232 (by decide +kernel) (by decide +kernel), gw_at 233 (by decide +kernel) (by decide +kernel), rfl, gw_at 7 (by decide +kernel) (by decide +kernel)⟩
theorem ci_X5_well : CI yX5_well cX5_well 3 (some .int) 2 := ⟨gw_at 7 (by decide +kernel) (by decide +kernel), gw_at 404 (by decide +kernel) (by decide +kernel), by decide +kernel, by decide⟩
theorem cv_X5_well : CV RX5 yX5_well cX5_well 3 (some .int) 2 := ⟨ci_X5_well, gw_at 402 (by decide +kernel) (by decide +kernel), gw_at 403 (by decide +kernel) (by decide +kernel), rfl, gw_at 7 (by decide +kernel) (by decide +kernel)⟩
theorem ci_L_act : CI yL_act cL_act 5 (some .int) 3 := ⟨gw_at 6 (by decide +kernel) (by decide +kernel), gw_at 266 (by decide +kernel) (by decide +kernel), by decide +kernel, by decide⟩
theorem cs_L_act : CS yL_act cL_act 5 (some .int) 3 := ⟨ci_L_act, gw_at 265 (by decide +kernel) (by decide +kernel)⟩
theorem ci_L_bed : CI yL_bed cL_bed 8 (some .boolean) 1 := ⟨gw_at 6 (by decide +kernel) (by decide +kernel), gw_at 417 (by decide +kernel) (by decide +kernel), by decide +kernel, by decide⟩
theorem cs_L_bed : CS yL_bed cL_bed 8 (some .boolean) 1 := ⟨ci_L_bed, gw_at 416 (by decide +kernel) (by decide +kernel)⟩
theorem ci_L_cell : CI yL_cell cL_cell 2 (some .int) 2 := ⟨gw_at 6 (by decide +kernel) (by decide +kernel), gw_at 257 (by decide +kernel) (by decide +kernel), by decide +kernel, by decide⟩
theorem cs_L_cell : CS yL_cell cL_cell 2 (some .int) 2 := ⟨ci_L_cell, gw_at 256 (by decide +kernel) (by decide +kernel)⟩
theorem ci_L_comes : CI yL_comes cL_comes 14 (some .boolean) 2 := ⟨gw_at 6 (by decide +kernel) (by decide +kernel), gw_at 430 (by decide +kernel) (by decide +kernel), by decide +kernel, by decide⟩
theorem cs_L_comes : CS yL_comes cL_comes 14 (some .boolean) 2 := ⟨ci_L_comes, gw_at 429 (by decide +kernel) (by decide +kernel)⟩
theorem ci_L_hangs : CI yL_hangs cL_hangs 9 (some .boolean) 1 := ⟨gw_at 6 (by decide +kernel) (by decide +kernel), gw_at 400 (by decide +kernel) (by decide +kernel), by decide +kernel, by decide⟩
theorem cs_L_hangs : CS yL_hangs cL_hangs 9 (some .boolean) 1 := ⟨ci_L_hangs, gw_at 399 (by decide +kernel) (by decide +kernel)⟩
theorem ci_L_keeps : CI yL_keeps cL_keeps 14 (some .boolean) 4 := ⟨gw_at 6 (by decide +kernel) (by decide +kernel), gw_at 465 (by decide +kernel) (by decide +kernel), by decide +kernel, by decide⟩
theorem cs_L_keeps : CS yL_keeps cL_keeps 14 (some .boolean) 4 := ⟨ci_L_keeps, gw_at 464 (by decide +kernel) (by decide +kernel)⟩
theorem ci_L_low : CI yL_low cL_low 2 (some .int) 2 := ⟨gw_at 6 (by decide +kernel) (by decide +kernel), gw_at 262 (by decide +kernel) (by decide +kernel), by decide +kernel, by decide⟩
theorem cs_L_low : CS yL_low cL_low 2 (some .int) 2 := ⟨ci_L_low, gw_at 261 (by decide +kernel) (by decide +kernel)⟩
theorem ci_L_print : CI yL_print cL_print 4 (some .long) 1 := ⟨gw_at 6 (by decide +kernel) (by decide +kernel), gw_at 425 (by decide +kernel) (by decide +kernel), by decide +kernel, by decide⟩
theorem cs_L_print : CS yL_print cL_print 4 (some .long) 1 := ⟨ci_L_print, gw_at 424 (by decide +kernel) (by decide +kernel)⟩
theorem ci_L_rests : CI yL_rests cL_rests 10 (some .boolean) 3 := ⟨gw_at 6 (by decide +kernel) (by decide +kernel), gw_at 485 (by decide +kernel) (by decide +kernel), by decide +kernel, by decide⟩
theorem cs_L_rests : CS yL_rests cL_rests 10 (some .boolean) 3 := ⟨ci_L_rests, gw_at 484 (by decide +kernel) (by decide +kernel)⟩
theorem mc_X0_30 : MC RX0 30 := ⟨gw_at 195 (by decide +kernel) (by decide +kernel), gw_at 197 (by decide +kernel) (by decide +kernel), gw_at 196 (by decide +kernel) (by decide +kernel), gw_at 15 (by decide +kernel) (by decide +kernel)⟩
theorem mm_X0_40 : MM RX0 40 Lib.Math.min.name Lib.Math.min.code := ⟨gw_at 366 (by decide +kernel) (by decide +kernel), gw_at 367 (by decide +kernel) (by decide +kernel), gw_at 14 (by decide +kernel) (by decide +kernel), gw_at 368 (by decide +kernel) (by decide +kernel)⟩
theorem mm_X0_59 : MM RX0 59 Lib.Math.max.name Lib.Math.max.code := ⟨gw_at 372 (by decide +kernel) (by decide +kernel), gw_at 320 (by decide +kernel) (by decide +kernel), gw_at 14 (by decide +kernel) (by decide +kernel), gw_at 321 (by decide +kernel) (by decide +kernel)⟩
theorem mc_X3_43 : MC RX3 43 := ⟨gw_at 203 (by decide +kernel) (by decide +kernel), gw_at 197 (by decide +kernel) (by decide +kernel), gw_at 196 (by decide +kernel) (by decide +kernel), gw_at 15 (by decide +kernel) (by decide +kernel)⟩
theorem mm_X3_92 : MM RX3 92 Lib.Math.max.name Lib.Math.max.code := ⟨gw_at 396 (by decide +kernel) (by decide +kernel), gw_at 320 (by decide +kernel) (by decide +kernel), gw_at 14 (by decide +kernel) (by decide +kernel), gw_at 321 (by decide +kernel) (by decide +kernel)⟩
theorem mc_X4_30 : MC RX4 30 := ⟨gw_at 202 (by decide +kernel) (by decide +kernel), gw_at 197 (by decide +kernel) (by decide +kernel), gw_at 196 (by decide +kernel) (by decide +kernel), gw_at 15 (by decide +kernel) (by decide +kernel)⟩
theorem mm_X4_58 : MM RX4 58 Lib.Math.max.name Lib.Math.max.code := ⟨gw_at 319 (by decide +kernel) (by decide +kernel), gw_at 320 (by decide +kernel) (by decide +kernel), gw_at 14 (by decide +kernel) (by decide +kernel), gw_at 321 (by decide +kernel) (by decide +kernel)⟩
end
section
/-! what a state is, and what is told of it, in Int -/
def RG (lo hi : Int) (n : Int) (q : Int → Int) : Prop := ∀ j : Int, 0 ≤ j → j < n → lo ≤ q j ∧ q j ≤ hi
theorem G_ialdR {f : Nat} {cc : ByteArray} {own : String} {nL : Nat} {rt : Option FieldType} {h : List PO} {pc : Nat} {lv : List (Option PV)} {st : List PV} {post : Option PV → List PO → Prop} {a n : Nat} {q : Int → Int} {x lo hi : Int} (hd : decode cc pc = .ok (.iaload, 1)) (ha : h[a]? = some (oI n q)) (hr : RG lo hi n q) (h0 : 0 ≤ x) (h1 : x < n) (hn : n ≤ 2147483647) (kk : lo ≤ q x → q x ≤ hi → G f cc own nL rt h (pc + 1) lv (i_ (q x) :: st) post) : G f cc own nL rt h pc lv (i_ x :: r_ a :: st) post :=
  G_iald hd ha h0 h1 hn (kk (hr x h0 h1).1 (hr x h0 h1).2)
abbrev oBed (b : Nat) : PO := oO 0 [r_ (b + 1), r_ (b + 2), r_ (b + 3), r_ (b + 4)]
def bedAt (h : List PO) (b : Nat) (dep sil hei wet : Int → Int) : Prop := h[b]? = some (oBed b) ∧ h[b + 1]? = some (oI 40 dep) ∧ h[b + 2]? = some (oI 40 sil) ∧ h[b + 3]? = some (oI 40 hei) ∧ h[b + 4]? = some (oI 40 wet)
/-- nothing but the cells from lo on, before hi, may differ -/
def Fr (h h2 : List PO) (lo hi : Nat) : Prop := h2.length = h.length ∧ ∀ j : Nat, j < lo ∨ hi ≤ j → h2[j]? = h[j]?
theorem Fr.rf {h : List PO} {lo hi : Nat} : Fr h h lo hi := ⟨rfl, fun _ _ => rfl⟩
theorem Fr.tr {h h1 h2 : List PO} {lo hi : Nat} (a : Fr h h1 lo hi) (b : Fr h1 h2 lo hi) : Fr h h2 lo hi := ⟨b.1.trans a.1, fun j q => (b.2 j q).trans (a.2 j q)⟩
theorem Fr.wide {h h2 : List PO} {lo hi lo2 hi2 : Nat} (a : Fr h h2 lo hi) (q1 : lo2 ≤ lo) (q2 : hi ≤ hi2) : Fr h h2 lo2 hi2 := ⟨a.1, fun j q => a.2 j (by omega)⟩
theorem Fr.set {h : List PO} {lo hi i : Nat} {o : PO} (a : lo ≤ i) (b : i < hi) : Fr h (h.set i o) lo hi := ⟨by simp, fun j q => List.getElem?_set_ne (by omega)⟩
theorem Fr.at' {h h2 : List PO} {lo hi j : Nat} {o : PO} (a : Fr h h2 lo hi) (e : h[j]? = some o) (q : j < lo ∨ hi ≤ j) : h2[j]? = some o := (a.2 j q).trans e
theorem set_at {h : List PO} {i : Nat} {o o2 : PO} (e : h[i]? = some o2) : (h.set i o)[i]? = some o := by
  rw [List.getElem?_set_self (List.getElem?_eq_some_iff.mp e).1]
theorem set_off {h : List PO} {i j : Nat} {o o2 : PO} (e : h[j]? = some o2) (q : i ≠ j) : (h.set i o)[j]? = some o2 := by
  rw [List.getElem?_set_ne q]; exact e
/-- marks: what is offered to a cell, and its mark -/
def mkf (o s d : Int) : Int := if o ≤ s then 0 else min o d
def off (push slope : Int) (sil dep : Int → Int) : Nat → Int
  | 0 => push
  | n + 1 => mkf (off push slope sil dep n) (sil n) (dep n) - slope
def offI (push slope : Int) (sil dep : Int → Int) (c : Int) : Int := off push slope sil dep c.toNat
def mkI (push slope : Int) (sil dep : Int → Int) (c : Int) : Int := mkf (offI push slope sil dep c) (sil c) (dep c)
theorem offI_0 (push slope : Int) (sil dep : Int → Int) : offI push slope sil dep 0 = push := rfl
theorem offI_s (push slope : Int) (sil dep : Int → Int) {c : Int} (h : 0 ≤ c) : offI push slope sil dep (c + 1) = mkI push slope sil dep c - slope := by
  have e : (c + 1).toNat = c.toNat + 1 := by omega
  have e2 : ((c.toNat : Nat) : Int) = c := by omega
  unfold offI mkI offI
  rw [e]
  show mkf _ (sil ((c.toNat : Nat) : Int)) (dep ((c.toNat : Nat) : Int)) - slope = _
  rw [e2]
theorem mkf_le {o s d : Int} (hs : o ≤ s) : mkf o s d = 0 := if_pos hs
theorem mkf_gt {o s d : Int} (hs : s < o) : mkf o s d = min o d := if_neg (by omega)
theorem mkf_rng {o s d : Int} (hs : 0 ≤ s) (hd : 1 ≤ d) : 0 ≤ mkf o s d ∧ mkf o s d ≤ d := by
  unfold mkf
  by_cases q : o ≤ s
  · rw [if_pos q]; omega
  · rw [if_neg q]; omega
theorem mkf_0 {o s d : Int} (hs : 0 ≤ s) (hd : 1 ≤ d) : mkf o s d = 0 ↔ o ≤ s := by
  unfold mkf
  by_cases q : o ≤ s
  · rw [if_pos q]; omega
  · rw [if_neg q]; omega
theorem offI_rng {push slope : Int} {sil dep : Int → Int} (hp : -200 ≤ push ∧ push ≤ 200) (hl : 0 ≤ slope ∧ slope ≤ 9) (hs : RG 0 60 40 sil) (hd : RG 1 60 40 dep) (c : Int) (h0 : 0 ≤ c) (h1 : c ≤ 40) : -200 ≤ offI push slope sil dep c ∧ offI push slope sil dep c ≤ 200 := by
  rcases Int.le_iff_lt_or_eq.mp h0 with q | q
  · have e : c = (c - 1) + 1 := by omega
    rw [e, offI_s _ _ _ _ (by omega)]
    have a := hs (c - 1) (by omega) (by omega)
    have b := hd (c - 1) (by omega) (by omega)
    have m := mkf_rng (o := offI push slope sil dep (c - 1)) a.1 b.1
    unfold mkI
    omega
  · subst q
    rw [offI_0]; omega
/-- the stop: the lowest cell whose offer is not above its sill; 40 without one -/
def IsStop (push slope : Int) (sil dep : Int → Int) (t : Int) : Prop := 0 ≤ t ∧ t ≤ 40 ∧ (∀ c, 0 ≤ c → c < t → sil c < offI push slope sil dep c) ∧ (t < 40 → offI push slope sil dep t ≤ sil t)
theorem IsStop.uniq {push slope : Int} {sil dep : Int → Int} {t u : Int} (a : IsStop push slope sil dep t) (b : IsStop push slope sil dep u) : t = u := by
  rcases Int.lt_trichotomy t u with q | q | q
  · have x := a.2.2.2 (by have := b.2.1; omega)
    have y := b.2.2.1 t a.1 q
    omega
  · exact q
  · have x := b.2.2.2 (by have := a.2.1; omega)
    have y := a.2.2.1 u b.1 q
    omega
/-- behind the stop nothing is offered above 0 -/
theorem off_dead {push slope : Int} {sil dep : Int → Int} (hl : 0 ≤ slope) (hs : RG 0 60 40 sil) {t : Int} (h0 : 0 ≤ t) (h : offI push slope sil dep t ≤ sil t) : ∀ n : Nat, t + n < 40 → offI push slope sil dep (t + n) ≤ sil (t + n) := by
  intro n
  induction n with
  | zero => intro _; simpa using h
  | succ n ih =>
    intro q
    have a := ih (by omega)
    have e : t + ((n + 1 : Nat) : Int) = (t + n) + 1 := by omega
    rw [e, offI_s _ _ _ _ (by omega)]
    unfold mkI
    rw [mkf_le a]
    have b := hs (t + n + 1) (by omega) (by omega)
    omega
theorem mk_dead {push slope : Int} {sil dep : Int → Int} (hl : 0 ≤ slope) (hs : RG 0 60 40 sil) {t c : Int} (h0 : 0 ≤ t) (h : offI push slope sil dep t ≤ sil t) (hc : t ≤ c) (h40 : c < 40) : mkI push slope sil dep c = 0 := by
  have e : c = t + ((c - t).toNat : Nat) := by omega
  have a := off_dead hl hs h0 h (c - t).toNat (by omega)
  rw [← e] at a
  exact mkf_le a
theorem mk_live {push slope : Int} {sil dep : Int → Int} (hs : RG 0 60 40 sil) (hd : RG 1 60 40 dep) {t c : Int} (h : IsStop push slope sil dep t) (h0 : 0 ≤ c) (hc : c < t) : 1 ≤ mkI push slope sil dep c := by
  have a := h.2.2.1 c h0 hc
  have b := hs c h0 (by have := h.2.1; omega)
  have d := hd c h0 (by have := h.2.1; omega)
  unfold mkI
  rw [mkf_gt a]; omega
theorem mk_iff {push slope : Int} {sil dep : Int → Int} (hl : 0 ≤ slope) (hs : RG 0 60 40 sil) (hd : RG 1 60 40 dep) {t c : Int} (h : IsStop push slope sil dep t) (h0 : 0 ≤ c) (h40 : c < 40) : mkI push slope sil dep c = 0 ↔ t ≤ c := by
  constructor
  · intro q
    rcases Int.lt_or_le c t with z | z
    · have := mk_live hs hd h h0 z
      omega
    · exact z
  · intro q
    exact mk_dead hl hs h.1 (h.2.2.2 (by omega)) q h40
end
section
/-! a state: v 0 depths, 1 sills, 2 heights, 3 tides with salt water; of the wells 4 cells, 5 rates, 6 salts, 7 rests, 8 drawn, 9 turned; 10 settings; 11: 0 how many wells, 1 flow, 2 tides, 3 farthest -/
abbrev SV : Type := Nat → Int → Int
def vset (v : SV) (i : Nat) (q : Int → Int) : SV := fun j => if j = i then q else v j
theorem fup_eq {q : Int → Int} {x v : Int} : fup q x v x = v := if_pos rfl
theorem fup_ne {q : Int → Int} {x v j : Int} (h : ¬ j = x) : fup q x v j = q j := if_neg h
theorem fup_same {q : Int → Int} {x v : Int} (h : q x = v) : fup q x v = q := by
  funext j
  unfold fup
  by_cases e : j = x
  · rw [if_pos e, e, h]
  · rw [if_neg e]
theorem RG.fup {lo hi n : Int} {q : Int → Int} {x v : Int} (h : RG lo hi n q) (a : lo ≤ v) (b : v ≤ hi) : RG lo hi n (fup q x v) := by
  intro j h0 h1
  unfold _root_.Jvm.Pilot.CSaltWedgeLaw_law_r1546_e26649.fup
  by_cases e : j = x
  · rw [if_pos e]; exact ⟨a, b⟩
  · rw [if_neg e]; exact h j h0 h1
def moveI (q m by' : Int) : Int := if q < m then min m (q + by') else max m (q - by')
def reachN (q : Int → Int) : Nat → Int
  | 0 => -5
  | n + 1 => if 0 < q n then n else reachN q n
def sumN (q : Int → Int) : Nat → Int
  | 0 => 0
  | n + 1 => sumN q n + q n
def wetI (q : Int → Int) (j : Int) : Int := if 0 < q j then 1 else 0
def besN (q : Int → Int) (c : Int) : Nat → Int
  | 0 => -5
  | n + 1 => if q n = c then n else besN q c n
def stN (push slope : Int) (sil dep : Int → Int) : Nat → Int
  | 0 => 40
  | n + 1 => if offI push slope sil dep (39 - n) ≤ sil (39 - n) then 39 - n else stN push slope sil dep n
def bsN (push slope : Int) (sil dep : Int → Int) (k : Int) : Nat → Int
  | 0 => -5
  | n + 1 => if offI push slope sil dep (39 - n) ≤ sil (39 - n) then -5 else if offI push slope sil dep (39 - n) ≤ k ∧ sil (39 - n) < k ∧ k ≤ dep (39 - n) then 39 - n else bsN push slope sil dep k n
theorem stN_is {push slope : Int} {sil dep : Int → Int} : ∀ n : Nat, n ≤ 40 → (40 - (n : Int)) ≤ stN push slope sil dep n ∧ stN push slope sil dep n ≤ 40 ∧ (∀ c : Int, 40 - (n : Int) ≤ c → c < stN push slope sil dep n → sil c < offI push slope sil dep c) ∧ (stN push slope sil dep n < 40 → offI push slope sil dep (stN push slope sil dep n) ≤ sil (stN push slope sil dep n)) := by
  intro n
  induction n with
  | zero => intro _; refine ⟨by simp [stN], by simp [stN], fun c a b => ?_, fun a => ?_⟩ <;> simp [stN] at * <;> omega
  | succ n ih =>
    intro hn
    obtain ⟨a1, a2, a3, a4⟩ := ih (by omega)
    by_cases q : offI push slope sil dep (39 - n) ≤ sil (39 - n)
    · have e : stN push slope sil dep (n + 1) = 39 - n := if_pos q
      rw [e]
      exact ⟨by omega, by omega, fun c x y => by omega, fun _ => q⟩
    · have e : stN push slope sil dep (n + 1) = stN push slope sil dep n := if_neg q
      rw [e]
      refine ⟨by omega, a2, fun c x y => ?_, a4⟩
      by_cases z : c = 39 - n
      · rw [z]; omega
      · exact a3 c (by omega) y
def stI (push slope : Int) (sil dep : Int → Int) : Int := stN push slope sil dep 40
theorem stI_is (push slope : Int) (sil dep : Int → Int) : IsStop push slope sil dep (stI push slope sil dep) := by
  obtain ⟨a, b, c, d⟩ := stN_is (push := push) (slope := slope) (sil := sil) (dep := dep) 40 (by omega)
  exact ⟨by unfold stI; omega, b, fun x y z => c x (by omega) z, d⟩
/-- how a call of a bed answers -/
def digR (v : SV) (c d : Int) : Int := if ¬ (0 ≤ c ∧ c < 40) then -1 else if ¬ (1 ≤ d ∧ d ≤ 60) then -2 else if d < v 2 c ∨ d < v 1 c then -4 else if v 0 c = d then -5 else v 0 c
def buildR (v : SV) (c d : Int) : Int := if ¬ (0 ≤ c ∧ c < 40) then -1 else if ¬ (0 ≤ d ∧ d ≤ 60) then -2 else if v 0 c < d then -4 else if v 1 c = d then -5 else v 1 c
def reasonR (push slope : Int) (sil dep : Int → Int) (c : Int) : Int := if c < stI push slope sil dep then 0 else if push ≤ 0 then 1 else if 0 < offI push slope sil dep (stI push slope sil dep) then 2 else 3
abbrev oWel (b : Nat) (n : Int) : PO := oO 4 [r_ (b + 1), r_ (b + 2), r_ (b + 3), r_ (b + 4), r_ (b + 5), r_ (b + 6), i_ n]
def welF (h : List PO) (b : Nat) (c r s z d t : Int → Int) (n : Int) : Prop := h[b]? = some (oWel b n) ∧ h[b + 1]? = some (oI 6 c) ∧ h[b + 2]? = some (oI 6 r) ∧ h[b + 3]? = some (oI 6 s) ∧ h[b + 4]? = some (oI 6 z) ∧ h[b + 5]? = some (oI 6 d) ∧ h[b + 6]? = some (oI 6 t)
abbrev oSta (k : Nat) (v : SV) : PO := oO 3 [r_ (k + 1), r_ (k + 6), r_ (k + 13), i_ (v 11 1), i_ (v 11 2), i_ (v 11 3)]
def stAt (h : List PO) (k : Nat) (v : SV) : Prop := h[k]? = some (oSta k v) ∧ bedAt h (k + 1) (v 0) (v 1) (v 2) (v 3) ∧ welF h (k + 6) (v 4) (v 5) (v 6) (v 7) (v 8) (v 9) (v 11 0) ∧ h[k + 13]? = some (oI 3 (v 10))
theorem bedAt.fr {h h2 : List PO} {b lo hi : Nat} {d s e w : Int → Int} (a : bedAt h b d s e w) (f : Fr h h2 lo hi) (q : b + 5 ≤ lo ∨ hi ≤ b) : bedAt h2 b d s e w := by
  obtain ⟨a0, a1, a2, a3, a4⟩ := a
  exact ⟨f.at' a0 (by omega), f.at' a1 (by omega), f.at' a2 (by omega), f.at' a3 (by omega), f.at' a4 (by omega)⟩
theorem welF.fr {h h2 : List PO} {b lo hi : Nat} {c r s z d t : Int → Int} {n : Int} (a : welF h b c r s z d t n) (f : Fr h h2 lo hi) (q : b + 7 ≤ lo ∨ hi ≤ b) : welF h2 b c r s z d t n := by
  obtain ⟨a0, a1, a2, a3, a4, a5, a6⟩ := a
  exact ⟨f.at' a0 (by omega), f.at' a1 (by omega), f.at' a2 (by omega), f.at' a3 (by omega), f.at' a4 (by omega), f.at' a5 (by omega), f.at' a6 (by omega)⟩
theorem stAt.fr {h h2 : List PO} {k lo hi : Nat} {v : SV} (a : stAt h k v) (f : Fr h h2 lo hi) (q : k + 14 ≤ lo ∨ hi ≤ k) : stAt h2 k v := by
  obtain ⟨a0, a1, a2, a3⟩ := a
  exact ⟨f.at' a0 (by omega), a1.fr f (by omega), a2.fr f (by omega), f.at' a3 (by omega)⟩
/-- what holds of every state -/
def OK (v : SV) : Prop := (RG 1 60 40 (v 0) ∧ RG 0 60 40 (v 1) ∧ RG 0 60 40 (v 2)) ∧ ((0 ≤ v 10 0 ∧ v 10 0 ≤ 60) ∧ (0 ≤ v 10 1 ∧ v 10 1 ≤ 9) ∧ (1 ≤ v 10 2 ∧ v 10 2 ≤ 60)) ∧ ((0 ≤ v 11 0 ∧ v 11 0 ≤ 6) ∧ (0 ≤ v 11 1 ∧ v 11 1 ≤ 99) ∧ (-5 ≤ v 11 3 ∧ v 11 3 ≤ 39)) ∧
  (RG 0 39 (v 11 0) (v 4) ∧ RG 1 30 (v 11 0) (v 5) ∧ RG 0 300 (v 11 0) (v 6) ∧ RG 0 1 (v 11 0) (v 7)) ∧ (∀ w : Int, 0 ≤ w → w < v 11 0 → v 7 w = 0 → v 6 w ≤ 49) ∧ (∀ w u : Int, 0 ≤ w → w < v 11 0 → 0 ≤ u → u < v 11 0 → v 4 w = v 4 u → w = u)
theorem G_norm {f : Nat} {cc : ByteArray} {own : String} {nL : Nat} {rt : Option FieldType} {h : List PO} {pc : Nat} {lv : List (Option PV)} {st : List PV} {post : Option PV → List PO → Prop} {a n : Nat} {q1 : Int → Int} (q2 : Int → Int) (ha : h[a]? = some (oI n q1)) (hq : ∀ j : Int, 0 ≤ j → j < n → q1 j = q2 j) (k : G f cc own nL rt (h.set a (oI n q2)) pc lv st post) : G f cc own nL rt h pc lv st post := by
  have e : h = h.set a (oI n q1) := by
    apply List.ext_getElem?
    intro j
    by_cases z : a = j
    · subst z
      rw [set_at ha, ha]
    · rw [List.getElem?_set_ne z]
  rw [e]
  have k2 : G f cc own nL rt (h.set a (oI n q2)) pc lv st post := k
  exact G_ext hq k2
theorem bedAt.set1 {h : List PO} {b : Nat} {d s e w : Int → Int} (a : bedAt h b d s e w) (q : Int → Int) : bedAt (h.set (b + 1) (oI 40 q)) b q s e w := by
  obtain ⟨a0, a1, a2, a3, a4⟩ := a
  exact ⟨set_off a0 (by omega), set_at a1, set_off a2 (by omega), set_off a3 (by omega), set_off a4 (by omega)⟩
theorem bedAt.set2 {h : List PO} {b : Nat} {d s e w : Int → Int} (a : bedAt h b d s e w) (q : Int → Int) : bedAt (h.set (b + 2) (oI 40 q)) b d q e w := by
  obtain ⟨a0, a1, a2, a3, a4⟩ := a
  exact ⟨set_off a0 (by omega), set_off a1 (by omega), set_at a2, set_off a3 (by omega), set_off a4 (by omega)⟩
theorem bedAt.set3 {h : List PO} {b : Nat} {d s e w : Int → Int} (a : bedAt h b d s e w) (q : Int → Int) : bedAt (h.set (b + 3) (oI 40 q)) b d s q w := by
  obtain ⟨a0, a1, a2, a3, a4⟩ := a
  exact ⟨set_off a0 (by omega), set_off a1 (by omega), set_off a2 (by omega), set_at a3, set_off a4 (by omega)⟩
theorem bedAt.set4 {h : List PO} {b : Nat} {d s e w : Int → Int} (a : bedAt h b d s e w) (q : Int → Int) : bedAt (h.set (b + 4) (oI 40 q)) b d s e q := by
  obtain ⟨a0, a1, a2, a3, a4⟩ := a
  exact ⟨set_off a0 (by omega), set_off a1 (by omega), set_off a2 (by omega), set_off a3 (by omega), set_at a4⟩
theorem welF.set0 {h : List PO} {b : Nat} {c r s z d t : Int → Int} {n : Int} (a : welF h b c r s z d t n) (q : Int) : welF (h.set b (oWel b q)) b c r s z d t q := by
  obtain ⟨a0, a1, a2, a3, a4, a5, a6⟩ := a
  exact ⟨set_at a0, set_off a1 (by omega), set_off a2 (by omega), set_off a3 (by omega), set_off a4 (by omega), set_off a5 (by omega), set_off a6 (by omega)⟩
theorem welF.set1 {h : List PO} {b : Nat} {c r s z d t : Int → Int} {n : Int} (a : welF h b c r s z d t n) (q : Int → Int) : welF (h.set (b + 1) (oI 6 q)) b q r s z d t n := by
  obtain ⟨a0, a1, a2, a3, a4, a5, a6⟩ := a
  exact ⟨set_off a0 (by omega), set_at a1, set_off a2 (by omega), set_off a3 (by omega), set_off a4 (by omega), set_off a5 (by omega), set_off a6 (by omega)⟩
theorem welF.set2 {h : List PO} {b : Nat} {c r s z d t : Int → Int} {n : Int} (a : welF h b c r s z d t n) (q : Int → Int) : welF (h.set (b + 2) (oI 6 q)) b c q s z d t n := by
  obtain ⟨a0, a1, a2, a3, a4, a5, a6⟩ := a
  exact ⟨set_off a0 (by omega), set_off a1 (by omega), set_at a2, set_off a3 (by omega), set_off a4 (by omega), set_off a5 (by omega), set_off a6 (by omega)⟩
theorem welF.set3 {h : List PO} {b : Nat} {c r s z d t : Int → Int} {n : Int} (a : welF h b c r s z d t n) (q : Int → Int) : welF (h.set (b + 3) (oI 6 q)) b c r q z d t n := by
  obtain ⟨a0, a1, a2, a3, a4, a5, a6⟩ := a
  exact ⟨set_off a0 (by omega), set_off a1 (by omega), set_off a2 (by omega), set_at a3, set_off a4 (by omega), set_off a5 (by omega), set_off a6 (by omega)⟩
theorem welF.set4 {h : List PO} {b : Nat} {c r s z d t : Int → Int} {n : Int} (a : welF h b c r s z d t n) (q : Int → Int) : welF (h.set (b + 4) (oI 6 q)) b c r s q d t n := by
  obtain ⟨a0, a1, a2, a3, a4, a5, a6⟩ := a
  exact ⟨set_off a0 (by omega), set_off a1 (by omega), set_off a2 (by omega), set_off a3 (by omega), set_at a4, set_off a5 (by omega), set_off a6 (by omega)⟩
theorem welF.set5 {h : List PO} {b : Nat} {c r s z d t : Int → Int} {n : Int} (a : welF h b c r s z d t n) (q : Int → Int) : welF (h.set (b + 5) (oI 6 q)) b c r s z q t n := by
  obtain ⟨a0, a1, a2, a3, a4, a5, a6⟩ := a
  exact ⟨set_off a0 (by omega), set_off a1 (by omega), set_off a2 (by omega), set_off a3 (by omega), set_off a4 (by omega), set_at a5, set_off a6 (by omega)⟩
theorem welF.set6 {h : List PO} {b : Nat} {c r s z d t : Int → Int} {n : Int} (a : welF h b c r s z d t n) (q : Int → Int) : welF (h.set (b + 6) (oI 6 q)) b c r s z d q n := by
  obtain ⟨a0, a1, a2, a3, a4, a5, a6⟩ := a
  exact ⟨set_off a0 (by omega), set_off a1 (by omega), set_off a2 (by omega), set_off a3 (by omega), set_off a4 (by omega), set_off a5 (by omega), set_at a6⟩
theorem set_same {h : List PO} {i : Nat} {o : PO} (e : h[i]? = some o) : h.set i o = h := by
  apply List.ext_getElem?
  intro j
  by_cases z : i = j
  · subst z
    rw [set_at e, e]
  · rw [List.getElem?_set_ne z]
end
section
set_option maxRecDepth 100000 in
set_option maxHeartbeats 4000000 in
theorem c_X5_isCell (h : List PO) (c : Int) (hc : inR c)  : PM 0 yX5_isCell cX5_isCell 1 (some .boolean) h [i_ c] (fun r h2 => ∃ z : Int, r = some (i_ z) ∧ h = h2 ∧ (z = 1 ∧ 0 ≤ c ∧ c < 40 ∨ z = 0 ∧ (c < 0 ∨ 40 ≤ c))) := by
  refine PM_of_G RX5 [some (i_ c)] rfl (by decide +kernel) (Nat.le_of_ble_eq_true rfl) rfl ?_
  have hc1 := hc.1
  have hc2 := hc.2
  refine G_iload_n dX5_isCell_0 rfl rfl ?_
  refine G_if_lt (tgt := 14) dX5_isCell_1 (by decide) (inR_of (by omega) (by omega)) (fun hc1 => ?_) (fun hc1 => ?_)
  · skip
    refine G_iconst dX5_isCell_14 ?_
    refine G_zreturn dX5_isCell_15 rfl (by first | exact Or.inl rfl | exact Or.inr rfl) ?_
    exact ⟨_, rfl, rfl, by omega⟩
  · skip
    refine G_iload_n dX5_isCell_4 rfl rfl ?_
    refine G_bipush dX5_isCell_5 rfl ?_
    refine G_icmp_ge (tgt := 14) dX5_isCell_7 (by decide) (inR_of (by omega) (by omega)) (inR_of (by omega) (by omega)) (fun hc7 => ?_) (fun hc7 => ?_)
    · skip
      refine G_iconst dX5_isCell_14 ?_
      refine G_zreturn dX5_isCell_15 rfl (by first | exact Or.inl rfl | exact Or.inr rfl) ?_
      exact ⟨_, rfl, rfl, by omega⟩
    · skip
      refine G_iconst dX5_isCell_10 ?_
      refine G_goto (tgt := 15) dX5_isCell_11 (by decide) ?_
      refine G_zreturn dX5_isCell_15 rfl (by first | exact Or.inl rfl | exact Or.inr rfl) ?_
      exact ⟨_, rfl, rfl, by omega⟩
set_option maxRecDepth 100000 in
set_option maxHeartbeats 4000000 in
theorem c_X5_isRise (h : List PO) (c : Int) (hc : inR c)  : PM 0 yX5_isRise cX5_isRise 1 (some .boolean) h [i_ c] (fun r h2 => ∃ z : Int, r = some (i_ z) ∧ h = h2 ∧ (z = 1 ∧ -30 ≤ c ∧ c ≤ 30 ∨ z = 0 ∧ (c < -30 ∨ 30 < c))) := by
  refine PM_of_G RX5 [some (i_ c)] rfl (by decide +kernel) (Nat.le_of_ble_eq_true rfl) rfl ?_
  have hc1 := hc.1
  have hc2 := hc.2
  refine G_iload_n dX5_isRise_0 rfl rfl ?_
  refine G_bipush dX5_isRise_1 rfl ?_
  refine G_icmp_lt (tgt := 16) dX5_isRise_3 (by decide) (inR_of (by omega) (by omega)) (inR_of (by omega) (by omega)) (fun hc3 => ?_) (fun hc3 => ?_)
  · skip
    refine G_iconst dX5_isRise_16 ?_
    refine G_zreturn dX5_isRise_17 rfl (by first | exact Or.inl rfl | exact Or.inr rfl) ?_
    exact ⟨_, rfl, rfl, by omega⟩
  · skip
    refine G_iload_n dX5_isRise_6 rfl rfl ?_
    refine G_bipush dX5_isRise_7 rfl ?_
    refine G_icmp_gt (tgt := 16) dX5_isRise_9 (by decide) (inR_of (by omega) (by omega)) (inR_of (by omega) (by omega)) (fun hc9 => ?_) (fun hc9 => ?_)
    · skip
      refine G_iconst dX5_isRise_16 ?_
      refine G_zreturn dX5_isRise_17 rfl (by first | exact Or.inl rfl | exact Or.inr rfl) ?_
      exact ⟨_, rfl, rfl, by omega⟩
    · skip
      refine G_iconst dX5_isRise_12 ?_
      refine G_goto (tgt := 17) dX5_isRise_13 (by decide) ?_
      refine G_zreturn dX5_isRise_17 rfl (by first | exact Or.inl rfl | exact Or.inr rfl) ?_
      exact ⟨_, rfl, rfl, by omega⟩
set_option maxRecDepth 100000 in
set_option maxHeartbeats 4000000 in
theorem c_X0_markFrom (h : List PO) (b : Nat) (dep sil hei wet : Int → Int) (c x : Int) (hB : bedAt h b dep sil hei wet) (hrd : RG 1 60 40 dep) (hrs : RG 0 60 40 sil) (hc : inR c) (hx : inR x) : PM 1 yX0_markFrom cX0_markFrom 3 (some .int) h [r_ b, i_ c, i_ x] (fun r h2 => r = some (i_ (if 0 ≤ c ∧ c < 40 then mkf x (sil c) (dep c) else 0)) ∧ h = h2) := by
  refine PM_of_G RX0 [some (r_ b), some (i_ c), some (i_ x)] rfl (by decide +kernel) (Nat.le_of_ble_eq_true rfl) rfl ?_
  have hc1 := hc.1
  have hc2 := hc.2
  have hx1 := hx.1
  have hx2 := hx.2
  obtain ⟨hB0, hB1, hB2, hB3, hB4⟩ := hB
  refine G_iload_n dX0_markFrom_0 rfl rfl ?_
  refine G_callSN (as := [_]) (c_X5_isCell h c hc) dX0_markFrom_1 (fun _ _ E => E.2.1.1) cs_X5_isCell rfl (Nat.le_of_ble_eq_true rfl) (Nat.le_of_ble_eq_true rfl) rfl (fun r h2 hp => ?_)
  obtain ⟨z, rfl, rfl, hz⟩ := hp
  refine G_if_eq (tgt := 17) dX0_markFrom_4 (by decide) (inR_of (by omega) (by omega)) (fun hc4 => ?_) (fun hc4 => ?_)
  · skip
    refine G_iconst dX0_markFrom_17 ?_
    refine G_ireturn dX0_markFrom_18 rfl ?_
    refine ⟨?_, rfl⟩
    by_cases q : 0 ≤ c ∧ c < 40
    · rw [if_pos q, mkf_le (by omega)]
    · rw [if_neg q]
  · skip
    refine G_iload_n dX0_markFrom_7 rfl rfl ?_
    refine G_aload_n dX0_markFrom_8 rfl rfl ?_
    refine G_getf fl_X0_15 dX0_markFrom_9 (by assumption) rfl ?_
    refine G_iload_n dX0_markFrom_12 rfl rfl ?_
    refine G_ialdR dX0_markFrom_13 (by assumption) (by assumption) (by omega) (by omega) (by decide) (fun _ _ => ?_)
    refine G_icmp_gt (tgt := 19) dX0_markFrom_14 (by decide) (inR_of (by omega) (by omega)) (inR_of (by omega) (by omega)) (fun hc14 => ?_) (fun hc14 => ?_)
    · skip
      refine G_iload_n dX0_markFrom_19 rfl rfl ?_
      refine G_aload_n dX0_markFrom_20 rfl rfl ?_
      refine G_getf fl_X0_9 dX0_markFrom_21 (by assumption) rfl ?_
      refine G_iload_n dX0_markFrom_24 rfl rfl ?_
      refine G_ialdR dX0_markFrom_25 (by assumption) (by assumption) (by omega) (by omega) (by decide) (fun _ _ => ?_)
      refine G_min dX0_markFrom_26 mm_X0_40 (inR_of (by omega) (by omega)) (inR_of (by omega) (by omega)) (Nat.le_of_ble_eq_true rfl) (Nat.le_of_ble_eq_true rfl) ?_
      refine G_ireturn dX0_markFrom_29 rfl ?_
      refine ⟨?_, rfl⟩
      rw [if_pos (by omega), mkf_gt (by omega)]
    · skip
      refine G_iconst dX0_markFrom_17 ?_
      refine G_ireturn dX0_markFrom_18 rfl ?_
      refine ⟨?_, rfl⟩
      by_cases q : 0 ≤ c ∧ c < 40
      · rw [if_pos q, mkf_le (by omega)]
      · rw [if_neg q]
set_option maxHeartbeats 4000000 in
theorem c_X0_markFrom' (h : List PO) (b : Nat) (dep sil hei wet : Int → Int) (c x : Int) (hB : bedAt h b dep sil hei wet) (hrd : RG 1 60 40 dep) (hrs : RG 0 60 40 sil) (h0 : 0 ≤ c) (h1 : c < 40) (hx : -500 ≤ x ∧ x ≤ 500) : PM 1 yX0_markFrom cX0_markFrom 3 (some .int) h [r_ b, i_ c, i_ x] (fun r h2 => r = some (i_ (mkf x (sil c) (dep c))) ∧ h = h2) := by
  have k := c_X0_markFrom h b dep sil hei wet c x hB hrd hrs (inR_of (by omega) (by omega)) (inR_of (by omega) (by omega))
  rw [if_pos ⟨h0, h1⟩] at k
  exact k
set_option maxRecDepth 100000 in
set_option maxHeartbeats 4000000 in
theorem c_X0_offeredTo (h : List PO) (b : Nat) (dep sil hei wet : Int → Int) (c push slope : Int) (hB : bedAt h b dep sil hei wet) (hrd : RG 1 60 40 dep) (hrs : RG 0 60 40 sil) (h0 : 0 ≤ c) (h1 : c ≤ 40) (hp : -200 ≤ push ∧ push ≤ 200) (hl : 0 ≤ slope ∧ slope ≤ 9) : PM 2 yX0_offeredTo cX0_offeredTo 6 (some .int) h [r_ b, i_ c, i_ push, i_ slope] (fun r h2 => r = some (i_ (offI push slope sil dep c)) ∧ h = h2) := by
  refine PM_of_G RX0 [some (r_ b), some (i_ c), some (i_ push), some (i_ slope), none, none] rfl (by decide +kernel) (Nat.le_of_ble_eq_true rfl) rfl ?_
  obtain ⟨hB0, hB1, hB2, hB3, hB4⟩ := id hB
  have L : ∀ (n : Nat) (i : Int), 0 ≤ i → i ≤ c → c - i < n → G 2 cX0_offeredTo RX0 6 (some .int) h 6 [some (r_ b), some (i_ c), some (i_ push), some (i_ slope), some (i_ (offI push slope sil dep i)), some (i_ i)] [] (fun r h2 => r = some (i_ (offI push slope sil dep c)) ∧ h = h2) := by
    intro n
    induction n with
    | zero => intro i a1 a2 a3; exfalso; omega
    | succ n ih =>
      intro i a1 a2 a3
      have ho := offI_rng hp hl hrs hrd i a1 (by omega)
      refine G_iload dX0_offeredTo_6 rfl ?_
      refine G_iload_n dX0_offeredTo_8 rfl rfl ?_
      refine G_icmp_ge (tgt := 37) dX0_offeredTo_9 (by decide) (inR_of (by omega) (by omega)) (inR_of (by omega) (by omega)) (fun hc9 => ?_) (fun hc9 => ?_)
      · skip
        have e : i = c := by omega
        subst e
        refine G_iload dX0_offeredTo_37 rfl ?_
        refine G_ireturn dX0_offeredTo_39 rfl ?_
        exact ⟨rfl, rfl⟩
      · skip
        refine G_iload dX0_offeredTo_12 rfl ?_
        refine G_bipush dX0_offeredTo_14 rfl ?_
        refine G_icmp_ge (tgt := 37) dX0_offeredTo_16 (by decide) (inR_of (by omega) (by omega)) (inR_of (by omega) (by omega)) (fun hc16 => ?_) (fun hc16 => ?_)
        · skip
          exfalso; omega
        · skip
          refine G_aload_n dX0_offeredTo_19 rfl rfl ?_
          refine G_iload dX0_offeredTo_20 rfl ?_
          refine G_iload dX0_offeredTo_22 rfl ?_
          refine G_callV (ci := 0) (as := [_, _]) (c_X0_markFrom' h b dep sil hei wet i _ hB hrd hrs (by omega) (by omega) (by omega)) dX0_offeredTo_24 ml_X0_46 cv_X0_markFrom (by assumption) rfl rfl (Nat.le_of_ble_eq_true rfl) (Nat.le_of_ble_eq_true rfl) rfl (fun r h2 hp => ?_)
          obtain ⟨rfl, rfl⟩ := hp
          refine G_iload_n dX0_offeredTo_27 rfl rfl ?_
          refine G_isub dX0_offeredTo_28 ?_
          refine G_istore (lv2 := [some (r_ b), some (i_ c), some (i_ push), some (i_ slope), some (i_ (offI push slope sil dep (i + 1))), some (i_ i)]) dX0_offeredTo_29 (by decide) (by rw [offI_s _ _ _ _ a1]; rfl) ?_
          refine G_iinc dX0_offeredTo_31 (by decide) rfl rfl ?_
          refine G_goto (tgt := 6) dX0_offeredTo_34 (by decide) ?_
          exact ih (i + 1) (by omega) (by omega) (by omega)
  refine G_iload_n dX0_offeredTo_0 rfl rfl ?_
  refine G_istore dX0_offeredTo_1 (by decide) rfl ?_
  refine G_iconst dX0_offeredTo_3 ?_
  refine G_istore dX0_offeredTo_4 (by decide) rfl ?_
  exact L (c.toNat + 1) 0 (by omega) h0 (by omega)
end
section
set_option maxRecDepth 100000 in
set_option maxHeartbeats 4000000 in
theorem c_X0_markOf (h : List PO) (b : Nat) (dep sil hei wet : Int → Int) (c push slope : Int) (hB : bedAt h b dep sil hei wet) (hrd : RG 1 60 40 dep) (hrs : RG 0 60 40 sil) (h0 : 0 ≤ c) (h1 : c < 40) (hp : -200 ≤ push ∧ push ≤ 200) (hl : 0 ≤ slope ∧ slope ≤ 9) : PM 3 yX0_markOf cX0_markOf 4 (some .int) h [r_ b, i_ c, i_ push, i_ slope] (fun r h2 => r = some (i_ (mkI push slope sil dep c)) ∧ h = h2) := by
  refine PM_of_G RX0 [some (r_ b), some (i_ c), some (i_ push), some (i_ slope)] rfl (by decide +kernel) (Nat.le_of_ble_eq_true rfl) rfl ?_
  obtain ⟨hB0, hB1, hB2, hB3, hB4⟩ := id hB
  have ho := offI_rng hp hl hrs hrd c h0 (by omega)
  refine G_aload_n dX0_markOf_0 rfl rfl ?_
  refine G_iload_n dX0_markOf_1 rfl rfl ?_
  refine G_aload_n dX0_markOf_2 rfl rfl ?_
  refine G_iload_n dX0_markOf_3 rfl rfl ?_
  refine G_iload_n dX0_markOf_4 rfl rfl ?_
  refine G_iload_n dX0_markOf_5 rfl rfl ?_
  refine G_callV (ci := 0) (as := [_, _, _]) (c_X0_offeredTo h b dep sil hei wet c push slope hB hrd hrs h0 (by omega) hp hl) dX0_markOf_6 ml_X0_49 cv_X0_offeredTo (by assumption) rfl rfl (Nat.le_of_ble_eq_true rfl) (Nat.le_of_ble_eq_true rfl) rfl (fun r h2 hp => ?_)
  obtain ⟨rfl, rfl⟩ := hp
  refine G_callV (ci := 0) (as := [_, _]) (c_X0_markFrom' h b dep sil hei wet c _ hB hrd hrs h0 h1 (by omega)) dX0_markOf_9 ml_X0_46 cv_X0_markFrom (by assumption) rfl rfl (Nat.le_of_ble_eq_true rfl) (Nat.le_of_ble_eq_true rfl) rfl (fun r h2 hp => ?_)
  obtain ⟨rfl, rfl⟩ := hp
  refine G_ireturn dX0_markOf_12 rfl ?_
  exact ⟨rfl, rfl⟩
theorem stN_go {push slope : Int} {sil dep : Int → Int} {i : Int} (h0 : 0 ≤ i) (h1 : i < 40) (q : sil i < offI push slope sil dep i) : stN push slope sil dep (40 - i).toNat = stN push slope sil dep (40 - (i + 1)).toNat := by
  have e : (40 - i).toNat = (40 - (i + 1)).toNat + 1 := by omega
  have e2 : (39 : Int) - ((40 - (i + 1)).toNat : Nat) = i := by omega
  rw [e]
  show (if _ then _ else _) = _
  rw [e2, if_neg (by omega)]
theorem stN_hit {push slope : Int} {sil dep : Int → Int} {i : Int} (h0 : 0 ≤ i) (h1 : i < 40) (q : offI push slope sil dep i ≤ sil i) : stN push slope sil dep (40 - i).toNat = i := by
  have e : (40 - i).toNat = (40 - (i + 1)).toNat + 1 := by omega
  have e2 : (39 : Int) - ((40 - (i + 1)).toNat : Nat) = i := by omega
  rw [e]
  show (if _ then _ else _) = _
  rw [e2, if_pos q]
theorem bsN_step {push slope : Int} {sil dep : Int → Int} {k i : Int} (h0 : 0 ≤ i) (h1 : i < 40) : bsN push slope sil dep k (40 - i).toNat = if offI push slope sil dep i ≤ sil i then -5 else if offI push slope sil dep i ≤ k ∧ sil i < k ∧ k ≤ dep i then i else bsN push slope sil dep k (40 - (i + 1)).toNat := by
  have e : (40 - i).toNat = (40 - (i + 1)).toNat + 1 := by omega
  have e2 : (39 : Int) - ((40 - (i + 1)).toNat : Nat) = i := by omega
  rw [e]
  show (if _ then _ else _) = _
  rw [e2]
set_option maxRecDepth 100000 in
set_option maxHeartbeats 4000000 in
theorem c_X0_stopOf (h : List PO) (b : Nat) (dep sil hei wet : Int → Int) (push slope : Int) (hB : bedAt h b dep sil hei wet) (hrd : RG 1 60 40 dep) (hrs : RG 0 60 40 sil) (hp : -200 ≤ push ∧ push ≤ 200) (hl : 0 ≤ slope ∧ slope ≤ 9) : PM 3 yX0_stopOf cX0_stopOf 6 (some .int) h [r_ b, i_ push, i_ slope] (fun r h2 => r = some (i_ (stI push slope sil dep)) ∧ h = h2) := by
  refine PM_of_G RX0 [some (r_ b), some (i_ push), some (i_ slope), none, none, none] rfl (by decide +kernel) (Nat.le_of_ble_eq_true rfl) rfl ?_
  obtain ⟨hB0, hB1, hB2, hB3, hB4⟩ := id hB
  have L : ∀ (n : Nat) (i : Int), 0 ≤ i → i ≤ 40 → stI push slope sil dep = stN push slope sil dep (40 - i).toNat → 40 - i < n → G 3 cX0_stopOf RX0 6 (some .int) h 5 [some (r_ b), some (i_ push), some (i_ slope), some (i_ (offI push slope sil dep i)), some (i_ i), none] [] (fun r h2 => r = some (i_ (stI push slope sil dep)) ∧ h = h2) := by
    intro n
    induction n with
    | zero => intro i a1 a2 hst hmeas; exfalso; omega
    | succ n ih =>
      intro i a1 a2 hst hmeas
      have ho := offI_rng hp hl hrs hrd i a1 a2
      refine G_iload dX0_stopOf_5 rfl ?_
      refine G_bipush dX0_stopOf_7 rfl ?_
      refine G_icmp_ge (tgt := 40) dX0_stopOf_9 (by decide) (inR_of (by omega) (by omega)) (inR_of (by omega) (by omega)) (fun hc9 => ?_) (fun hc9 => ?_)
      · skip
        have e : i = 40 := by omega
        subst e
        refine G_bipush dX0_stopOf_40 rfl ?_
        refine G_ireturn dX0_stopOf_42 rfl ?_
        exact ⟨by rw [hst]; rfl, rfl⟩
      · skip
        refine G_aload_n dX0_stopOf_12 rfl rfl ?_
        refine G_iload dX0_stopOf_13 rfl ?_
        refine G_iload_n dX0_stopOf_15 rfl rfl ?_
        refine G_callV (ci := 0) (as := [_, _]) (c_X0_markFrom' h b dep sil hei wet i _ hB hrd hrs (by omega) (by omega) (by omega)) dX0_stopOf_16 ml_X0_46 cv_X0_markFrom (by assumption) rfl rfl (Nat.le_of_ble_eq_true rfl) (Nat.le_of_ble_eq_true rfl) rfl (fun r h2 hp => ?_)
        obtain ⟨rfl, rfl⟩ := hp
        have hmz := mkf_0 (o := offI push slope sil dep i) (hrs i (by omega) (by omega)).1 (hrd i (by omega) (by omega)).1
        have hmr := mkf_rng (o := offI push slope sil dep i) (hrs i (by omega) (by omega)).1 (hrd i (by omega) (by omega)).1
        have hmd := hrd i (by omega) (by omega)
        refine G_istore dX0_stopOf_19 (by decide) rfl ?_
        refine G_iload dX0_stopOf_21 rfl ?_
        refine G_if_ne (tgt := 29) dX0_stopOf_23 (by decide) (inR_of (by omega) (by omega)) (fun hc23 => ?_) (fun hc23 => ?_)
        · skip
          have hs16 : sil i < offI push slope sil dep i := by omega
          refine G_iload dX0_stopOf_29 rfl ?_
          refine G_iload_n dX0_stopOf_31 rfl rfl ?_
          refine G_isub dX0_stopOf_32 ?_
          refine G_istore_n (lv2 := [some (r_ b), some (i_ push), some (i_ slope), some (i_ (offI push slope sil dep (i + 1))), some (i_ i), some (i_ (mkf (offI push slope sil dep i) (sil i) (dep i)))]) dX0_stopOf_33 rfl (by decide) (by rw [offI_s _ _ _ _ a1]; rfl) ?_
          refine G_iinc dX0_stopOf_34 (by decide) rfl rfl ?_
          refine G_goto (tgt := 5) dX0_stopOf_37 (by decide) ?_
          refine G_forget 5 ?_
          exact ih (i + 1) (by omega) (by omega) (by rw [hst, stN_go a1 (by omega) hs16]) (by omega)
        · skip
          have hs16 : offI push slope sil dep i ≤ sil i := by omega
          refine G_iload dX0_stopOf_26 rfl ?_
          refine G_ireturn dX0_stopOf_28 rfl ?_
          exact ⟨by rw [hst, stN_hit a1 (by omega) hs16], rfl⟩
  refine G_iload_n dX0_stopOf_0 rfl rfl ?_
  refine G_istore_n dX0_stopOf_1 rfl (by decide) rfl ?_
  refine G_iconst dX0_stopOf_2 ?_
  refine G_istore dX0_stopOf_3 (by decide) rfl ?_
  exact L 41 0 (by omega) (by omega) rfl (by omega)
set_option maxRecDepth 100000 in
set_option maxHeartbeats 4000000 in
theorem c_X0_reasonOf (h : List PO) (b : Nat) (dep sil hei wet : Int → Int) (c push slope : Int) (hB : bedAt h b dep sil hei wet) (hrd : RG 1 60 40 dep) (hrs : RG 0 60 40 sil) (h0 : 0 ≤ c) (h1 : c < 40) (hp : -200 ≤ push ∧ push ≤ 200) (hl : 0 ≤ slope ∧ slope ≤ 9) : PM 4 yX0_reasonOf cX0_reasonOf 5 (some .int) h [r_ b, i_ c, i_ push, i_ slope] (fun r h2 => r = some (i_ (reasonR push slope sil dep c)) ∧ h = h2) := by
  refine PM_of_G RX0 [some (r_ b), some (i_ c), some (i_ push), some (i_ slope), none] rfl (by decide +kernel) (Nat.le_of_ble_eq_true rfl) rfl ?_
  obtain ⟨hB0, hB1, hB2, hB3, hB4⟩ := id hB
  have hs := stI_is push slope sil dep
  have hs1 := hs.1
  have hs2 := hs.2.1
  have ho := offI_rng hp hl hrs hrd (stI push slope sil dep) hs.1 hs.2.1
  refine G_aload_n dX0_reasonOf_0 rfl rfl ?_
  refine G_iload_n dX0_reasonOf_1 rfl rfl ?_
  refine G_iload_n dX0_reasonOf_2 rfl rfl ?_
  refine G_callV (ci := 0) (as := [_, _]) (c_X0_stopOf h b dep sil hei wet push slope hB hrd hrs hp hl) dX0_reasonOf_3 ml_X0_53 cv_X0_stopOf (by assumption) rfl rfl (Nat.le_of_ble_eq_true rfl) (Nat.le_of_ble_eq_true rfl) rfl (fun r h2 hp => ?_)
  obtain ⟨rfl, rfl⟩ := hp
  refine G_istore dX0_reasonOf_6 (by decide) rfl ?_
  refine G_iload_n dX0_reasonOf_8 rfl rfl ?_
  refine G_iload dX0_reasonOf_9 rfl ?_
  refine G_icmp_ge (tgt := 16) dX0_reasonOf_11 (by decide) (inR_of (by omega) (by omega)) (inR_of (by omega) (by omega)) (fun hc11 => ?_) (fun hc11 => ?_)
  · skip
    refine G_iload_n dX0_reasonOf_16 rfl rfl ?_
    refine G_if_gt (tgt := 22) dX0_reasonOf_17 (by decide) (inR_of (by omega) (by omega)) (fun hc17 => ?_) (fun hc17 => ?_)
    · skip
      refine G_aload_n dX0_reasonOf_22 rfl rfl ?_
      refine G_iload dX0_reasonOf_23 rfl ?_
      refine G_iload_n dX0_reasonOf_25 rfl rfl ?_
      refine G_iload_n dX0_reasonOf_26 rfl rfl ?_
      refine G_callV (ci := 0) (as := [_, _, _]) (c_X0_offeredTo h b dep sil hei wet _ push slope hB hrd hrs hs1 hs2 hp hl) dX0_reasonOf_27 ml_X0_49 cv_X0_offeredTo (by assumption) rfl rfl (Nat.le_of_ble_eq_true rfl) (Nat.le_of_ble_eq_true rfl) rfl (fun r h2 hp => ?_)
      obtain ⟨rfl, rfl⟩ := hp
      refine G_if_le (tgt := 37) dX0_reasonOf_30 (by decide) (inR_of (by omega) (by omega)) (fun hc30 => ?_) (fun hc30 => ?_)
      · skip
        refine G_iconst dX0_reasonOf_37 ?_
        refine G_ireturn dX0_reasonOf_38 rfl ?_
        exact ⟨by unfold reasonR; rw [if_neg (by omega), if_neg (by omega)]; first | rw [if_pos (by omega)] | rw [if_neg (by omega)], rfl⟩
      · skip
        refine G_iconst dX0_reasonOf_33 ?_
        refine G_goto (tgt := 38) dX0_reasonOf_34 (by decide) ?_
        refine G_ireturn dX0_reasonOf_38 rfl ?_
        exact ⟨by unfold reasonR; rw [if_neg (by omega), if_neg (by omega)]; first | rw [if_pos (by omega)] | rw [if_neg (by omega)], rfl⟩
    · skip
      refine G_iconst dX0_reasonOf_20 ?_
      refine G_ireturn dX0_reasonOf_21 rfl ?_
      exact ⟨by unfold reasonR; rw [if_neg (by omega), if_pos (by omega)], rfl⟩
  · skip
    refine G_iconst dX0_reasonOf_14 ?_
    refine G_ireturn dX0_reasonOf_15 rfl ?_
    exact ⟨by unfold reasonR; rw [if_pos (by omega)], rfl⟩
set_option maxRecDepth 100000 in
set_option maxHeartbeats 4000000 in
theorem c_X0_bestCellFor (h : List PO) (b : Nat) (dep sil hei wet : Int → Int) (k push slope : Int) (hB : bedAt h b dep sil hei wet) (hrd : RG 1 60 40 dep) (hrs : RG 0 60 40 sil) (hk : 1 ≤ k ∧ k ≤ 60) (hp : -200 ≤ push ∧ push ≤ 200) (hl : 0 ≤ slope ∧ slope ≤ 9) : PM 3 yX0_bestCellFor cX0_bestCellFor 7 (some .int) h [r_ b, i_ k, i_ push, i_ slope] (fun r h2 => r = some (i_ (bsN push slope sil dep k 40)) ∧ h = h2) := by
  refine PM_of_G RX0 [some (r_ b), some (i_ k), some (i_ push), some (i_ slope), none, none, none] rfl (by decide +kernel) (Nat.le_of_ble_eq_true rfl) rfl ?_
  obtain ⟨hB0, hB1, hB2, hB3, hB4⟩ := id hB
  have L : ∀ (n : Nat) (i : Int), 0 ≤ i → i ≤ 40 → bsN push slope sil dep k 40 = bsN push slope sil dep k (40 - i).toNat → 40 - i < n → G 3 cX0_bestCellFor RX0 7 (some .int) h 6 [some (r_ b), some (i_ k), some (i_ push), some (i_ slope), some (i_ (offI push slope sil dep i)), some (i_ i), none] [] (fun r h2 => r = some (i_ (bsN push slope sil dep k 40)) ∧ h = h2) := by
    intro n
    induction n with
    | zero => intro i a1 a2 hst hmeas; exfalso; omega
    | succ n ih =>
      intro i a1 a2 hst hmeas
      have ho := offI_rng hp hl hrs hrd i a1 a2
      refine G_iload dX0_bestCellFor_6 rfl ?_
      refine G_bipush dX0_bestCellFor_8 rfl ?_
      refine G_icmp_ge (tgt := 74) dX0_bestCellFor_10 (by decide) (inR_of (by omega) (by omega)) (inR_of (by omega) (by omega)) (fun hc10 => ?_) (fun hc10 => ?_)
      · skip
        have e : i = 40 := by omega
        subst e
        refine G_bipush dX0_bestCellFor_74 rfl ?_
        refine G_ireturn dX0_bestCellFor_76 rfl ?_
        exact ⟨by rw [hst]; rfl, rfl⟩
      · skip
        refine G_aload_n dX0_bestCellFor_13 rfl rfl ?_
        refine G_iload dX0_bestCellFor_14 rfl ?_
        refine G_iload dX0_bestCellFor_16 rfl ?_
        refine G_callV (ci := 0) (as := [_, _]) (c_X0_markFrom' h b dep sil hei wet i _ hB hrd hrs (by omega) (by omega) (by omega)) dX0_bestCellFor_18 ml_X0_46 cv_X0_markFrom (by assumption) rfl rfl (Nat.le_of_ble_eq_true rfl) (Nat.le_of_ble_eq_true rfl) rfl (fun r h2 hp => ?_)
        obtain ⟨rfl, rfl⟩ := hp
        have hmd := hrd i (by omega) (by omega)
        have hms := hrs i (by omega) (by omega)
        have hmz := mkf_0 (o := offI push slope sil dep i) hms.1 hmd.1
        have hmr := mkf_rng (o := offI push slope sil dep i) hms.1 hmd.1
        refine G_istore dX0_bestCellFor_21 (by decide) rfl ?_
        refine G_iload dX0_bestCellFor_23 rfl ?_
        refine G_if_ne (tgt := 31) dX0_bestCellFor_25 (by decide) (inR_of (by omega) (by omega)) (fun hc25 => ?_) (fun hc25 => ?_)
        · skip
          refine G_iload dX0_bestCellFor_31 rfl ?_
          refine G_iload_n dX0_bestCellFor_33 rfl rfl ?_
          refine G_icmp_gt (tgt := 62) dX0_bestCellFor_34 (by decide) (inR_of (by omega) (by omega)) (inR_of (by omega) (by omega)) (fun hc34 => ?_) (fun hc34 => ?_)
          · skip
            refine G_iload dX0_bestCellFor_62 rfl ?_
            refine G_iload_n dX0_bestCellFor_64 rfl rfl ?_
            refine G_isub dX0_bestCellFor_65 ?_
            refine G_istore (lv2 := [some (r_ b), some (i_ k), some (i_ push), some (i_ slope), some (i_ (offI push slope sil dep (i + 1))), some (i_ i), some (i_ (mkf (offI push slope sil dep i) (sil i) (dep i)))]) dX0_bestCellFor_66 (by decide) (by rw [offI_s _ _ _ _ a1]; rfl) ?_
            refine G_iinc dX0_bestCellFor_68 (by decide) rfl rfl ?_
            refine G_goto (tgt := 6) dX0_bestCellFor_71 (by decide) ?_
            refine G_forget 6 ?_
            exact ih (i + 1) (by omega) (by omega) (by rw [hst, bsN_step a1 (by omega), if_neg (by omega), if_neg (by omega)]) (by omega)
          · skip
            refine G_aload_n dX0_bestCellFor_37 rfl rfl ?_
            refine G_getf fl_X0_15 dX0_bestCellFor_38 (by assumption) rfl ?_
            refine G_iload dX0_bestCellFor_41 rfl ?_
            refine G_iald dX0_bestCellFor_43 (by assumption) (by omega) (by omega) (by decide) ?_
            refine G_iload_n dX0_bestCellFor_44 rfl rfl ?_
            refine G_icmp_ge (tgt := 62) dX0_bestCellFor_45 (by decide) (inR_of (by omega) (by omega)) (inR_of (by omega) (by omega)) (fun hc45 => ?_) (fun hc45 => ?_)
            · skip
              refine G_iload dX0_bestCellFor_62 rfl ?_
              refine G_iload_n dX0_bestCellFor_64 rfl rfl ?_
              refine G_isub dX0_bestCellFor_65 ?_
              refine G_istore (lv2 := [some (r_ b), some (i_ k), some (i_ push), some (i_ slope), some (i_ (offI push slope sil dep (i + 1))), some (i_ i), some (i_ (mkf (offI push slope sil dep i) (sil i) (dep i)))]) dX0_bestCellFor_66 (by decide) (by rw [offI_s _ _ _ _ a1]; rfl) ?_
              refine G_iinc dX0_bestCellFor_68 (by decide) rfl rfl ?_
              refine G_goto (tgt := 6) dX0_bestCellFor_71 (by decide) ?_
              refine G_forget 6 ?_
              exact ih (i + 1) (by omega) (by omega) (by rw [hst, bsN_step a1 (by omega), if_neg (by omega), if_neg (by omega)]) (by omega)
            · skip
              refine G_aload_n dX0_bestCellFor_48 rfl rfl ?_
              refine G_getf fl_X0_9 dX0_bestCellFor_49 (by assumption) rfl ?_
              refine G_iload dX0_bestCellFor_52 rfl ?_
              refine G_iald dX0_bestCellFor_54 (by assumption) (by omega) (by omega) (by decide) ?_
              refine G_iload_n dX0_bestCellFor_55 rfl rfl ?_
              refine G_icmp_lt (tgt := 62) dX0_bestCellFor_56 (by decide) (inR_of (by omega) (by omega)) (inR_of (by omega) (by omega)) (fun hc56 => ?_) (fun hc56 => ?_)
              · skip
                refine G_iload dX0_bestCellFor_62 rfl ?_
                refine G_iload_n dX0_bestCellFor_64 rfl rfl ?_
                refine G_isub dX0_bestCellFor_65 ?_
                refine G_istore (lv2 := [some (r_ b), some (i_ k), some (i_ push), some (i_ slope), some (i_ (offI push slope sil dep (i + 1))), some (i_ i), some (i_ (mkf (offI push slope sil dep i) (sil i) (dep i)))]) dX0_bestCellFor_66 (by decide) (by rw [offI_s _ _ _ _ a1]; rfl) ?_
                refine G_iinc dX0_bestCellFor_68 (by decide) rfl rfl ?_
                refine G_goto (tgt := 6) dX0_bestCellFor_71 (by decide) ?_
                refine G_forget 6 ?_
                exact ih (i + 1) (by omega) (by omega) (by rw [hst, bsN_step a1 (by omega), if_neg (by omega), if_neg (by omega)]) (by omega)
              · skip
                refine G_iload dX0_bestCellFor_59 rfl ?_
                refine G_ireturn dX0_bestCellFor_61 rfl ?_
                exact ⟨by rw [hst, bsN_step a1 (by omega), if_neg (by omega), if_pos (by omega)], rfl⟩
        · skip
          refine G_bipush dX0_bestCellFor_28 rfl ?_
          refine G_ireturn dX0_bestCellFor_30 rfl ?_
          exact ⟨by rw [hst, bsN_step a1 (by omega), if_pos (by omega)], rfl⟩
  refine G_iload_n dX0_bestCellFor_0 rfl rfl ?_
  refine G_istore dX0_bestCellFor_1 (by decide) rfl ?_
  refine G_iconst dX0_bestCellFor_3 ?_
  refine G_istore dX0_bestCellFor_4 (by decide) rfl ?_
  exact L 41 0 (by omega) (by omega) rfl (by omega)
set_option maxRecDepth 100000 in
set_option maxHeartbeats 4000000 in
theorem c_X0_moved (h : List PO) (q mk s : Int) (hq : 0 ≤ q ∧ q ≤ 60) (hm : 0 ≤ mk ∧ mk ≤ 60) (hs : 1 ≤ s ∧ s ≤ 60) : PM 1 yX0_moved cX0_moved 3 (some .int) h [i_ q, i_ mk, i_ s] (fun r h2 => r = some (i_ (moveI q mk s)) ∧ h = h2) := by
  refine PM_of_G RX0 [some (i_ q), some (i_ mk), some (i_ s)] rfl (by decide +kernel) (Nat.le_of_ble_eq_true rfl) rfl ?_
  refine G_iload_n dX0_moved_0 rfl rfl ?_
  refine G_iload_n dX0_moved_1 rfl rfl ?_
  refine G_icmp_le (tgt := 13) dX0_moved_2 (by decide) (inR_of (by omega) (by omega)) (inR_of (by omega) (by omega)) (fun hc2 => ?_) (fun hc2 => ?_)
  · skip
    refine G_iload_n dX0_moved_13 rfl rfl ?_
    refine G_iload_n dX0_moved_14 rfl rfl ?_
    refine G_iload_n dX0_moved_15 rfl rfl ?_
    refine G_isub dX0_moved_16 ?_
    refine G_max dX0_moved_17 mm_X0_59 (inR_of (by omega) (by omega)) (inR_of (by omega) (by omega)) (Nat.le_of_ble_eq_true rfl) (Nat.le_of_ble_eq_true rfl) ?_
    refine G_ireturn dX0_moved_20 rfl ?_
    exact ⟨by unfold moveI; rw [if_neg (by omega)], rfl⟩
  · skip
    refine G_iload_n dX0_moved_5 rfl rfl ?_
    refine G_iload_n dX0_moved_6 rfl rfl ?_
    refine G_iload_n dX0_moved_7 rfl rfl ?_
    refine G_iadd dX0_moved_8 ?_
    refine G_min dX0_moved_9 mm_X0_40 (inR_of (by omega) (by omega)) (inR_of (by omega) (by omega)) (Nat.le_of_ble_eq_true rfl) (Nat.le_of_ble_eq_true rfl) ?_
    refine G_ireturn dX0_moved_12 rfl ?_
    exact ⟨by unfold moveI; rw [if_pos (by omega)], rfl⟩
set_option maxRecDepth 100000 in
set_option maxHeartbeats 4000000 in
theorem c_X0_excess (h : List PO) (b : Nat) (dep sil hei wet : Int → Int) (c k : Int) (hB : bedAt h b dep sil hei wet) (hrd : RG 1 60 40 dep) (hrs : RG 0 60 40 sil) (hrh : RG 0 60 40 hei) (h0 : 0 ≤ c) (h1 : c < 40) : PM 1 yX0_excess cX0_excess 3 (some .int) h [r_ b, i_ c, i_ k] (fun r h2 => r = some (i_ (hei c + k - (dep c - sil c))) ∧ h = h2) := by
  refine PM_of_G RX0 [some (r_ b), some (i_ c), some (i_ k)] rfl (by decide +kernel) (Nat.le_of_ble_eq_true rfl) rfl ?_
  obtain ⟨hB0, hB1, hB2, hB3, hB4⟩ := id hB
  refine G_iload_n dX0_excess_0 rfl rfl ?_
  refine G_callSN (as := [_]) (c_X5_isCell h c (inR_of (by omega) (by omega))) dX0_excess_1 (fun _ _ E => E.2.1.1) cs_X5_isCell rfl (Nat.le_of_ble_eq_true rfl) (Nat.le_of_ble_eq_true rfl) rfl (fun r h2 hp => ?_)
  obtain ⟨z, rfl, rfl, hz⟩ := hp
  refine G_if_ne (tgt := 9) dX0_excess_4 (by decide) (inR_of (by omega) (by omega)) (fun hc4 => ?_) (fun hc4 => ?_)
  · skip
    refine G_aload_n dX0_excess_9 rfl rfl ?_
    refine G_getf fl_X0_18 dX0_excess_10 (by assumption) rfl ?_
    refine G_iload_n dX0_excess_13 rfl rfl ?_
    refine G_iald dX0_excess_14 (by assumption) (by omega) (by omega) (by decide) ?_
    refine G_iload_n dX0_excess_15 rfl rfl ?_
    refine G_iadd dX0_excess_16 ?_
    refine G_aload_n dX0_excess_17 rfl rfl ?_
    refine G_getf fl_X0_9 dX0_excess_18 (by assumption) rfl ?_
    refine G_iload_n dX0_excess_21 rfl rfl ?_
    refine G_iald dX0_excess_22 (by assumption) (by omega) (by omega) (by decide) ?_
    refine G_aload_n dX0_excess_23 rfl rfl ?_
    refine G_getf fl_X0_15 dX0_excess_24 (by assumption) rfl ?_
    refine G_iload_n dX0_excess_27 rfl rfl ?_
    refine G_iald dX0_excess_28 (by assumption) (by omega) (by omega) (by decide) ?_
    refine G_isub dX0_excess_29 ?_
    refine G_isub dX0_excess_30 ?_
    refine G_ireturn dX0_excess_31 rfl ?_
    exact ⟨rfl, rfl⟩
  · skip
    exfalso; omega
set_option maxRecDepth 100000 in
set_option maxHeartbeats 4000000 in
theorem c_X0_greatestSaltCell (h : List PO) (b : Nat) (dep sil hei wet : Int → Int) (hB : bedAt h b dep sil hei wet) (hrh : RG 0 60 40 hei) : PM 1 yX0_greatestSaltCell cX0_greatestSaltCell 2 (some .int) h [r_ b] (fun r h2 => r = some (i_ (reachN hei 40)) ∧ h = h2) := by
  refine PM_of_G RX0 [some (r_ b), none] rfl (by decide +kernel) (Nat.le_of_ble_eq_true rfl) rfl ?_
  obtain ⟨hB0, hB1, hB2, hB3, hB4⟩ := id hB
  have L : ∀ (n : Nat) (i : Int), -1 ≤ i → i ≤ 39 → reachN hei 40 = reachN hei (i + 1).toNat → i + 1 < n → G 1 cX0_greatestSaltCell RX0 2 (some .int) h 3 [some (r_ b), some (i_ i)] [] (fun r h2 => r = some (i_ (reachN hei 40)) ∧ h = h2) := by
    intro n
    induction n with
    | zero => intro i a1 a2 hst hmeas; exfalso; omega
    | succ n ih =>
      intro i a1 a2 hst hmeas
      refine G_iload_n dX0_greatestSaltCell_3 rfl rfl ?_
      refine G_if_lt (tgt := 24) dX0_greatestSaltCell_4 (by decide) (inR_of (by omega) (by omega)) (fun hc4 => ?_) (fun hc4 => ?_)
      · skip
        have e : i = -1 := by omega
        subst e
        refine G_bipush dX0_greatestSaltCell_24 rfl ?_
        refine G_ireturn dX0_greatestSaltCell_26 rfl ?_
        exact ⟨by rw [hst]; rfl, rfl⟩
      · skip
        have e1 : (i + 1).toNat = (i + -1 + 1).toNat + 1 := by omega
        have e2 : (((i + -1 + 1).toNat : Nat) : Int) = i := by omega
        refine G_aload_n dX0_greatestSaltCell_7 rfl rfl ?_
        refine G_getf fl_X0_18 dX0_greatestSaltCell_8 (by assumption) rfl ?_
        refine G_iload_n dX0_greatestSaltCell_11 rfl rfl ?_
        refine G_ialdR dX0_greatestSaltCell_12 (by assumption) (by assumption) (by omega) (by omega) (by decide) (fun _ _ => ?_)
        refine G_if_le (tgt := 18) dX0_greatestSaltCell_13 (by decide) (inR_of (by omega) (by omega)) (fun hc13 => ?_) (fun hc13 => ?_)
        · skip
          refine G_iinc dX0_greatestSaltCell_18 (by decide) rfl rfl ?_
          refine G_goto (tgt := 3) dX0_greatestSaltCell_21 (by decide) ?_
          exact ih (i + -1) (by omega) (by omega) (by rw [hst, e1]; show (if _ then _ else _) = _; rw [e2, if_neg (by omega)]) (by omega)
        · skip
          refine G_iload_n dX0_greatestSaltCell_16 rfl rfl ?_
          refine G_ireturn dX0_greatestSaltCell_17 rfl ?_
          exact ⟨by rw [hst, e1]; show _ = some (i_ (if _ then _ else _)); rw [e2, if_pos (by omega)], rfl⟩
  refine G_bipush dX0_greatestSaltCell_0 rfl ?_
  refine G_istore_n dX0_greatestSaltCell_2 rfl (by decide) rfl ?_
  exact L 41 39 (by omega) (by omega) rfl (by omega)
theorem sumN_s {q : Int → Int} {i : Int} (h : 0 ≤ i) : sumN q (i + 1).toNat = sumN q i.toNat + q i := by
  have e : (i + 1).toNat = i.toNat + 1 := by omega
  have e2 : ((i.toNat : Nat) : Int) = i := by omega
  rw [e]
  show _ + q ((i.toNat : Nat) : Int) = _
  rw [e2]
theorem wet_rng {q : Int → Int} : ∀ n : Nat, 0 ≤ sumN (wetI q) n ∧ sumN (wetI q) n ≤ n := by
  intro n
  induction n with
  | zero => simp [sumN]
  | succ n ih =>
    show 0 ≤ sumN (wetI q) n + wetI q n ∧ sumN (wetI q) n + wetI q n ≤ ((n + 1 : Nat) : Int)
    have e : 0 ≤ wetI q n ∧ wetI q n ≤ 1 := by unfold wetI; by_cases z : 0 < q n <;> simp [z]
    omega
theorem wetI_1 {q : Int → Int} {i : Int} (h : 0 < q i) : wetI q i = 1 := if_pos h
theorem wetI_0 {q : Int → Int} {i : Int} (h : q i ≤ 0) : wetI q i = 0 := if_neg (by omega)
set_option maxRecDepth 100000 in
set_option maxHeartbeats 4000000 in
theorem c_X0_saltCells (h : List PO) (b : Nat) (dep sil hei wet : Int → Int) (hB : bedAt h b dep sil hei wet) (hrh : RG 0 60 40 hei) : PM 1 yX0_saltCells cX0_saltCells 3 (some .int) h [r_ b] (fun r h2 => r = some (i_ (sumN (wetI hei) 40)) ∧ h = h2) := by
  refine PM_of_G RX0 [some (r_ b), none, none] rfl (by decide +kernel) (Nat.le_of_ble_eq_true rfl) rfl ?_
  obtain ⟨hB0, hB1, hB2, hB3, hB4⟩ := id hB
  have L : ∀ (n : Nat) (i : Int), 0 ≤ i → i ≤ 40 → 40 - i < n → G 1 cX0_saltCells RX0 3 (some .int) h 4 [some (r_ b), some (i_ (sumN (wetI hei) i.toNat)), some (i_ i)] [] (fun r h2 => r = some (i_ (sumN (wetI hei) 40)) ∧ h = h2) := by
    intro n
    induction n with
    | zero => intro i a1 a2 hmeas; exfalso; omega
    | succ n ih =>
      intro i a1 a2 hmeas
      refine G_iload_n dX0_saltCells_4 rfl rfl ?_
      refine G_bipush dX0_saltCells_5 rfl ?_
      refine G_icmp_ge (tgt := 28) dX0_saltCells_7 (by decide) (inR_of (by omega) (by omega)) (inR_of (by omega) (by omega)) (fun hc7 => ?_) (fun hc7 => ?_)
      · skip
        have e : i = 40 := by omega
        subst e
        refine G_iload_n dX0_saltCells_28 rfl rfl ?_
        refine G_ireturn dX0_saltCells_29 rfl ?_
        exact ⟨rfl, rfl⟩
      · skip
        refine G_aload_n dX0_saltCells_10 rfl rfl ?_
        refine G_getf fl_X0_18 dX0_saltCells_11 (by assumption) rfl ?_
        refine G_iload_n dX0_saltCells_14 rfl rfl ?_
        refine G_ialdR dX0_saltCells_15 (by assumption) (by assumption) (by omega) (by omega) (by decide) (fun _ _ => ?_)
        refine G_if_le (tgt := 22) dX0_saltCells_16 (by decide) (inR_of (by omega) (by omega)) (fun hc16 => ?_) (fun hc16 => ?_)
        · skip
          refine G_iinc dX0_saltCells_22 (by decide) rfl rfl ?_
          refine G_goto (tgt := 4) dX0_saltCells_25 (by decide) ?_
          have e : sumN (wetI hei) (i + 1).toNat = _ := sumN_s a1
          first | rw [wetI_1 (by omega)] at e | rw [wetI_0 (by omega), Int.add_zero] at e
          rw [← e]
          exact ih (i + 1) (by omega) (by omega) (by omega)
        · skip
          refine G_iinc dX0_saltCells_19 (by decide) rfl rfl ?_
          refine G_iinc dX0_saltCells_22 (by decide) rfl rfl ?_
          refine G_goto (tgt := 4) dX0_saltCells_25 (by decide) ?_
          have e : sumN (wetI hei) (i + 1).toNat = _ := sumN_s a1
          first | rw [wetI_1 (by omega)] at e | rw [wetI_0 (by omega), Int.add_zero] at e
          rw [← e]
          exact ih (i + 1) (by omega) (by omega) (by omega)
  refine G_iconst dX0_saltCells_0 ?_
  refine G_istore_n dX0_saltCells_1 rfl (by decide) rfl ?_
  refine G_iconst dX0_saltCells_2 ?_
  refine G_istore_n dX0_saltCells_3 rfl (by decide) rfl ?_
  exact L 41 0 (by omega) (by omega) (by omega)
set_option maxRecDepth 100000 in
set_option maxHeartbeats 4000000 in
theorem c_X0_sumOfHeights (h : List PO) (b : Nat) (dep sil hei wet : Int → Int) (hB : bedAt h b dep sil hei wet) : PM 1 yX0_sumOfHeights cX0_sumOfHeights 3 (some .int) h [r_ b] (fun r h2 => r = some (i_ (sumN hei 40)) ∧ h = h2) := by
  refine PM_of_G RX0 [some (r_ b), none, none] rfl (by decide +kernel) (Nat.le_of_ble_eq_true rfl) rfl ?_
  obtain ⟨hB0, hB1, hB2, hB3, hB4⟩ := id hB
  have L : ∀ (n : Nat) (i : Int), 0 ≤ i → i ≤ 40 → 40 - i < n → G 1 cX0_sumOfHeights RX0 3 (some .int) h 4 [some (r_ b), some (i_ (sumN hei i.toNat)), some (i_ i)] [] (fun r h2 => r = some (i_ (sumN hei 40)) ∧ h = h2) := by
    intro n
    induction n with
    | zero => intro i a1 a2 hmeas; exfalso; omega
    | succ n ih =>
      intro i a1 a2 hmeas
      refine G_iload_n dX0_sumOfHeights_4 rfl rfl ?_
      refine G_bipush dX0_sumOfHeights_5 rfl ?_
      refine G_icmp_ge (tgt := 25) dX0_sumOfHeights_7 (by decide) (inR_of (by omega) (by omega)) (inR_of (by omega) (by omega)) (fun hc7 => ?_) (fun hc7 => ?_)
      · skip
        have e : i = 40 := by omega
        subst e
        refine G_iload_n dX0_sumOfHeights_25 rfl rfl ?_
        refine G_ireturn dX0_sumOfHeights_26 rfl ?_
        exact ⟨rfl, rfl⟩
      · skip
        refine G_iload_n dX0_sumOfHeights_10 rfl rfl ?_
        refine G_aload_n dX0_sumOfHeights_11 rfl rfl ?_
        refine G_getf fl_X0_18 dX0_sumOfHeights_12 (by assumption) rfl ?_
        refine G_iload_n dX0_sumOfHeights_15 rfl rfl ?_
        refine G_iald dX0_sumOfHeights_16 (by assumption) (by omega) (by omega) (by decide) ?_
        refine G_iadd dX0_sumOfHeights_17 ?_
        refine G_istore_n dX0_sumOfHeights_18 rfl (by decide) rfl ?_
        refine G_iinc dX0_sumOfHeights_19 (by decide) rfl rfl ?_
        refine G_goto (tgt := 4) dX0_sumOfHeights_22 (by decide) ?_
        rw [← sumN_s a1]
        exact ih (i + 1) (by omega) (by omega) (by omega)
  refine G_iconst dX0_sumOfHeights_0 ?_
  refine G_istore_n dX0_sumOfHeights_1 rfl (by decide) rfl ?_
  refine G_iconst dX0_sumOfHeights_2 ?_
  refine G_istore_n dX0_sumOfHeights_3 rfl (by decide) rfl ?_
  exact L 41 0 (by omega) (by omega) (by omega)
end
section
set_option maxRecDepth 100000 in
set_option maxHeartbeats 4000000 in
theorem c_X0_deepen (h : List PO) (b : Nat) (v : SV) (c d : Int) (hB : bedAt h b (v 0) (v 1) (v 2) (v 3)) (hrd : RG 1 60 40 (v 0)) (hrs : RG 0 60 40 (v 1)) (hrh : RG 0 60 40 (v 2)) (hc : inR c) (hd : inR d) : PM 1 yX0_deepen cX0_deepen 4 (some .int) h [r_ b, i_ c, i_ d] (fun r h2 => r = some (i_ (digR v c d)) ∧ (if 0 ≤ digR v c d then h.set (b + 1) (oI 40 (fup (v 0) c d)) else h) = h2) := by
  refine PM_of_G RX0 [some (r_ b), some (i_ c), some (i_ d), none] rfl (by decide +kernel) (Nat.le_of_ble_eq_true rfl) rfl ?_
  obtain ⟨hB0, hB1, hB2, hB3, hB4⟩ := id hB
  have hc1 := hc.1
  have hc2 := hc.2
  have hd1 := hd.1
  have hd2 := hd.2
  refine G_iload_n dX0_deepen_0 rfl rfl ?_
  refine G_callSN (as := [_]) (c_X5_isCell h c hc) dX0_deepen_1 (fun _ _ E => E.2.1.1) cs_X5_isCell rfl (Nat.le_of_ble_eq_true rfl) (Nat.le_of_ble_eq_true rfl) rfl (fun r h2 hp => ?_)
  obtain ⟨z, rfl, rfl, hz⟩ := hp
  refine G_if_ne (tgt := 9) dX0_deepen_4 (by decide) (inR_of (by omega) (by omega)) (fun hc4 => ?_) (fun hc4 => ?_)
  · skip
    refine G_iload_n dX0_deepen_9 rfl rfl ?_
    refine G_iconst dX0_deepen_10 ?_
    refine G_icmp_lt (tgt := 20) dX0_deepen_11 (by decide) (inR_of (by omega) (by omega)) (inR_of (by omega) (by omega)) (fun hc11 => ?_) (fun hc11 => ?_)
    · skip
      refine G_bipush dX0_deepen_20 rfl ?_
      refine G_ireturn dX0_deepen_22 rfl ?_
      have e : digR v c d = -2 := by unfold digR; rw [if_neg (by omega), if_pos (by omega)]
      exact ⟨by rw [e], by rw [e, if_neg (by omega)]⟩
    · skip
      refine G_iload_n dX0_deepen_14 rfl rfl ?_
      refine G_bipush dX0_deepen_15 rfl ?_
      refine G_icmp_le (tgt := 23) dX0_deepen_17 (by decide) (inR_of (by omega) (by omega)) (inR_of (by omega) (by omega)) (fun hc17 => ?_) (fun hc17 => ?_)
      · skip
        refine G_aload_n dX0_deepen_23 rfl rfl ?_
        refine G_getf fl_X0_18 dX0_deepen_24 (by assumption) rfl ?_
        refine G_iload_n dX0_deepen_27 rfl rfl ?_
        refine G_ialdR dX0_deepen_28 (by assumption) (by assumption) (by omega) (by omega) (by decide) (fun _ _ => ?_)
        refine G_iload_n dX0_deepen_29 rfl rfl ?_
        refine G_icmp_gt (tgt := 43) dX0_deepen_30 (by decide) (inR_of (by omega) (by omega)) (inR_of (by omega) (by omega)) (fun hc30 => ?_) (fun hc30 => ?_)
        · skip
          refine G_bipush dX0_deepen_43 rfl ?_
          refine G_ireturn dX0_deepen_45 rfl ?_
          have e : digR v c d = -4 := by unfold digR; rw [if_neg (by omega), if_neg (by omega), if_pos (by omega)]
          exact ⟨by rw [e], by rw [e, if_neg (by omega)]⟩
        · skip
          refine G_aload_n dX0_deepen_33 rfl rfl ?_
          refine G_getf fl_X0_15 dX0_deepen_34 (by assumption) rfl ?_
          refine G_iload_n dX0_deepen_37 rfl rfl ?_
          refine G_ialdR dX0_deepen_38 (by assumption) (by assumption) (by omega) (by omega) (by decide) (fun _ _ => ?_)
          refine G_iload_n dX0_deepen_39 rfl rfl ?_
          refine G_icmp_le (tgt := 46) dX0_deepen_40 (by decide) (inR_of (by omega) (by omega)) (inR_of (by omega) (by omega)) (fun hc40 => ?_) (fun hc40 => ?_)
          · skip
            refine G_aload_n dX0_deepen_46 rfl rfl ?_
            refine G_getf fl_X0_9 dX0_deepen_47 (by assumption) rfl ?_
            refine G_iload_n dX0_deepen_50 rfl rfl ?_
            refine G_ialdR dX0_deepen_51 (by assumption) (by assumption) (by omega) (by omega) (by decide) (fun _ _ => ?_)
            refine G_istore_n dX0_deepen_52 rfl (by decide) rfl ?_
            refine G_aload_n dX0_deepen_53 rfl rfl ?_
            refine G_getf fl_X0_9 dX0_deepen_54 (by assumption) rfl ?_
            refine G_iload_n dX0_deepen_57 rfl rfl ?_
            refine G_iload_n dX0_deepen_58 rfl rfl ?_
            refine G_iast dX0_deepen_59 (by assumption) (by omega) (by omega) (by decide) rfl ?_
            refine G_iload_n dX0_deepen_60 rfl rfl ?_
            refine G_iload_n dX0_deepen_61 rfl rfl ?_
            refine G_icmp_ne (tgt := 70) dX0_deepen_62 (by decide) (inR_of (by omega) (by omega)) (inR_of (by omega) (by omega)) (fun hc62 => ?_) (fun hc62 => ?_)
            · skip
              refine G_iload_n dX0_deepen_70 rfl rfl ?_
              refine G_ireturn dX0_deepen_71 rfl ?_
              first
                | (have e : digR v c d = -5 := by unfold digR; rw [if_neg (by omega), if_neg (by omega), if_neg (by omega), if_pos (by omega)]
                   exact ⟨by rw [e], by rw [e, if_neg (by omega), fup_same (by omega)]; exact (set_same hB1).symm⟩)
                | (have e : digR v c d = v 0 c := by unfold digR; rw [if_neg (by omega), if_neg (by omega), if_neg (by omega), if_neg (by omega)]
                   exact ⟨by rw [e], by rw [e, if_pos (by omega)]⟩)
            · skip
              refine G_bipush dX0_deepen_65 rfl ?_
              refine G_goto (tgt := 71) dX0_deepen_67 (by decide) ?_
              refine G_ireturn dX0_deepen_71 rfl ?_
              first
                | (have e : digR v c d = -5 := by unfold digR; rw [if_neg (by omega), if_neg (by omega), if_neg (by omega), if_pos (by omega)]
                   exact ⟨by rw [e], by rw [e, if_neg (by omega), fup_same (by omega)]; exact (set_same hB1).symm⟩)
                | (have e : digR v c d = v 0 c := by unfold digR; rw [if_neg (by omega), if_neg (by omega), if_neg (by omega), if_neg (by omega)]
                   exact ⟨by rw [e], by rw [e, if_pos (by omega)]⟩)
          · skip
            refine G_bipush dX0_deepen_43 rfl ?_
            refine G_ireturn dX0_deepen_45 rfl ?_
            have e : digR v c d = -4 := by unfold digR; rw [if_neg (by omega), if_neg (by omega), if_pos (by omega)]
            exact ⟨by rw [e], by rw [e, if_neg (by omega)]⟩
      · skip
        refine G_bipush dX0_deepen_20 rfl ?_
        refine G_ireturn dX0_deepen_22 rfl ?_
        have e : digR v c d = -2 := by unfold digR; rw [if_neg (by omega), if_pos (by omega)]
        exact ⟨by rw [e], by rw [e, if_neg (by omega)]⟩
  · skip
    refine G_iconst dX0_deepen_7 ?_
    refine G_ireturn dX0_deepen_8 rfl ?_
    have e : digR v c d = -1 := by unfold digR; rw [if_pos (by omega)]
    exact ⟨by rw [e], by rw [e, if_neg (by omega)]⟩
set_option maxRecDepth 100000 in
set_option maxHeartbeats 4000000 in
theorem c_X0_raiseSill (h : List PO) (b : Nat) (v : SV) (c d : Int) (hB : bedAt h b (v 0) (v 1) (v 2) (v 3)) (hrd : RG 1 60 40 (v 0)) (hrs : RG 0 60 40 (v 1)) (hrh : RG 0 60 40 (v 2)) (hc : inR c) (hd : inR d) : PM 1 yX0_raiseSill cX0_raiseSill 4 (some .int) h [r_ b, i_ c, i_ d] (fun r h2 => r = some (i_ (buildR v c d)) ∧ (if 0 ≤ buildR v c d then h.set (b + 2) (oI 40 (fup (v 1) c d)) else h) = h2) := by
  refine PM_of_G RX0 [some (r_ b), some (i_ c), some (i_ d), none] rfl (by decide +kernel) (Nat.le_of_ble_eq_true rfl) rfl ?_
  obtain ⟨hB0, hB1, hB2, hB3, hB4⟩ := id hB
  have hc1 := hc.1
  have hc2 := hc.2
  have hd1 := hd.1
  have hd2 := hd.2
  refine G_iload_n dX0_raiseSill_0 rfl rfl ?_
  refine G_callSN (as := [_]) (c_X5_isCell h c hc) dX0_raiseSill_1 (fun _ _ E => E.2.1.1) cs_X5_isCell rfl (Nat.le_of_ble_eq_true rfl) (Nat.le_of_ble_eq_true rfl) rfl (fun r h2 hp => ?_)
  obtain ⟨z, rfl, rfl, hz⟩ := hp
  refine G_if_ne (tgt := 9) dX0_raiseSill_4 (by decide) (inR_of (by omega) (by omega)) (fun hc4 => ?_) (fun hc4 => ?_)
  · skip
    refine G_iload_n dX0_raiseSill_9 rfl rfl ?_
    refine G_if_lt (tgt := 19) dX0_raiseSill_10 (by decide) (inR_of (by omega) (by omega)) (fun hc10 => ?_) (fun hc10 => ?_)
    · skip
      refine G_bipush dX0_raiseSill_19 rfl ?_
      refine G_ireturn dX0_raiseSill_21 rfl ?_
      have e : buildR v c d = -2 := by unfold buildR; rw [if_neg (by omega), if_pos (by omega)]
      exact ⟨by rw [e], by rw [e, if_neg (by omega)]⟩
    · skip
      refine G_iload_n dX0_raiseSill_13 rfl rfl ?_
      refine G_bipush dX0_raiseSill_14 rfl ?_
      refine G_icmp_le (tgt := 22) dX0_raiseSill_16 (by decide) (inR_of (by omega) (by omega)) (inR_of (by omega) (by omega)) (fun hc16 => ?_) (fun hc16 => ?_)
      · skip
        refine G_iload_n dX0_raiseSill_22 rfl rfl ?_
        refine G_aload_n dX0_raiseSill_23 rfl rfl ?_
        refine G_getf fl_X0_9 dX0_raiseSill_24 (by assumption) rfl ?_
        refine G_iload_n dX0_raiseSill_27 rfl rfl ?_
        refine G_ialdR dX0_raiseSill_28 (by assumption) (by assumption) (by omega) (by omega) (by decide) (fun _ _ => ?_)
        refine G_icmp_le (tgt := 35) dX0_raiseSill_29 (by decide) (inR_of (by omega) (by omega)) (inR_of (by omega) (by omega)) (fun hc29 => ?_) (fun hc29 => ?_)
        · skip
          refine G_aload_n dX0_raiseSill_35 rfl rfl ?_
          refine G_getf fl_X0_15 dX0_raiseSill_36 (by assumption) rfl ?_
          refine G_iload_n dX0_raiseSill_39 rfl rfl ?_
          refine G_ialdR dX0_raiseSill_40 (by assumption) (by assumption) (by omega) (by omega) (by decide) (fun _ _ => ?_)
          refine G_istore_n dX0_raiseSill_41 rfl (by decide) rfl ?_
          refine G_aload_n dX0_raiseSill_42 rfl rfl ?_
          refine G_getf fl_X0_15 dX0_raiseSill_43 (by assumption) rfl ?_
          refine G_iload_n dX0_raiseSill_46 rfl rfl ?_
          refine G_iload_n dX0_raiseSill_47 rfl rfl ?_
          refine G_iast dX0_raiseSill_48 (by assumption) (by omega) (by omega) (by decide) rfl ?_
          refine G_iload_n dX0_raiseSill_49 rfl rfl ?_
          refine G_iload_n dX0_raiseSill_50 rfl rfl ?_
          refine G_icmp_ne (tgt := 59) dX0_raiseSill_51 (by decide) (inR_of (by omega) (by omega)) (inR_of (by omega) (by omega)) (fun hc51 => ?_) (fun hc51 => ?_)
          · skip
            refine G_iload_n dX0_raiseSill_59 rfl rfl ?_
            refine G_ireturn dX0_raiseSill_60 rfl ?_
            first
              | (have e : buildR v c d = -5 := by unfold buildR; rw [if_neg (by omega), if_neg (by omega), if_neg (by omega), if_pos (by omega)]
                 exact ⟨by rw [e], by rw [e, if_neg (by omega), fup_same (by omega)]; exact (set_same hB2).symm⟩)
              | (have e : buildR v c d = v 1 c := by unfold buildR; rw [if_neg (by omega), if_neg (by omega), if_neg (by omega), if_neg (by omega)]
                 exact ⟨by rw [e], by rw [e, if_pos (by omega)]⟩)
          · skip
            refine G_bipush dX0_raiseSill_54 rfl ?_
            refine G_goto (tgt := 60) dX0_raiseSill_56 (by decide) ?_
            refine G_ireturn dX0_raiseSill_60 rfl ?_
            first
              | (have e : buildR v c d = -5 := by unfold buildR; rw [if_neg (by omega), if_neg (by omega), if_neg (by omega), if_pos (by omega)]
                 exact ⟨by rw [e], by rw [e, if_neg (by omega), fup_same (by omega)]; exact (set_same hB2).symm⟩)
              | (have e : buildR v c d = v 1 c := by unfold buildR; rw [if_neg (by omega), if_neg (by omega), if_neg (by omega), if_neg (by omega)]
                 exact ⟨by rw [e], by rw [e, if_pos (by omega)]⟩)
        · skip
          refine G_bipush dX0_raiseSill_32 rfl ?_
          refine G_ireturn dX0_raiseSill_34 rfl ?_
          have e : buildR v c d = -4 := by unfold buildR; rw [if_neg (by omega), if_neg (by omega), if_pos (by omega)]
          exact ⟨by rw [e], by rw [e, if_neg (by omega)]⟩
      · skip
        refine G_bipush dX0_raiseSill_19 rfl ?_
        refine G_ireturn dX0_raiseSill_21 rfl ?_
        have e : buildR v c d = -2 := by unfold buildR; rw [if_neg (by omega), if_pos (by omega)]
        exact ⟨by rw [e], by rw [e, if_neg (by omega)]⟩
  · skip
    refine G_iconst dX0_raiseSill_7 ?_
    refine G_ireturn dX0_raiseSill_8 rfl ?_
    have e : buildR v c d = -1 := by unfold buildR; rw [if_pos (by omega)]
    exact ⟨by rw [e], by rw [e, if_neg (by omega)]⟩
def heiF (push slope step : Int) (dep sil hei : Int → Int) : Int → Int := fun j => moveI (hei j) (mkI push slope sil dep j) step
def wetF (hei2 wet : Int → Int) : Int → Int := fun j => wet j + wetI hei2 j
theorem mkI_rng {push slope : Int} {sil dep : Int → Int} (hs : RG 0 60 40 sil) (hd : RG 1 60 40 dep) {c : Int} (h0 : 0 ≤ c) (h1 : c < 40) : 0 ≤ mkI push slope sil dep c ∧ mkI push slope sil dep c ≤ 60 := by
  have a := mkf_rng (o := offI push slope sil dep c) (hs c h0 h1).1 (hd c h0 h1).1
  have b := (hd c h0 h1).2
  unfold mkI; omega
theorem moveI_rng {q mk s : Int} (hq : 0 ≤ q ∧ q ≤ 60) (hm : 0 ≤ mk ∧ mk ≤ 60) (hs : 1 ≤ s) : 0 ≤ moveI q mk s ∧ moveI q mk s ≤ 60 := by
  unfold moveI
  by_cases z : q < mk
  · rw [if_pos z]; omega
  · rw [if_neg z]; omega
theorem heiF_rng {push slope step : Int} {dep sil hei : Int → Int} (hd : RG 1 60 40 dep) (hs : RG 0 60 40 sil) (hh : RG 0 60 40 hei) (h1 : 1 ≤ step) : RG 0 60 40 (heiF push slope step dep sil hei) :=
  fun j a b => moveI_rng (hh j a b) (mkI_rng hs hd a b) h1
set_option maxRecDepth 100000 in
set_option maxHeartbeats 4000000 in
theorem c_X0_follow (h : List PO) (b : Nat) (dep sil hei wet : Int → Int) (push slope step : Int) (hB : bedAt h b dep sil hei wet) (hrd : RG 1 60 40 dep) (hrs : RG 0 60 40 sil) (hrh : RG 0 60 40 hei) (hp : -200 ≤ push ∧ push ≤ 200) (hl : 0 ≤ slope ∧ slope ≤ 9) (hst : 1 ≤ step ∧ step ≤ 60) : PM 2 yX0_follow cX0_follow 7 none h [r_ b, i_ push, i_ slope, i_ step] (fun r h2 => r = none ∧ Fr h h2 b (b + 5) ∧ bedAt h2 b dep sil (heiF push slope step dep sil hei) (wetF (heiF push slope step dep sil hei) wet)) := by
  refine PM_of_G RX0 [some (r_ b), some (i_ push), some (i_ slope), some (i_ step), none, none, none] rfl (by decide +kernel) (Nat.le_of_ble_eq_true rfl) rfl ?_
  have L : ∀ (n : Nat) (i : Int) (hh : List PO) (he : Int → Int) (we : Int → Int), 0 ≤ i → i ≤ 40 → bedAt hh b dep sil he we → Fr h hh b (b + 5) → (∀ j : Int, 0 ≤ j → j < 40 → he j = if j < i then heiF push slope step dep sil hei j else hei j) → (∀ j : Int, 0 ≤ j → j < 40 → we j = if j < i then wetF (heiF push slope step dep sil hei) wet j else wet j) → 40 - i < n → G 2 cX0_follow RX0 7 none hh 6 [some (r_ b), some (i_ push), some (i_ slope), some (i_ step), some (i_ (offI push slope sil dep i)), some (i_ i), none] [] (fun r h2 => r = none ∧ Fr h h2 b (b + 5) ∧ bedAt h2 b dep sil (heiF push slope step dep sil hei) (wetF (heiF push slope step dep sil hei) wet)) := by
    intro n
    induction n with
    | zero => intro i hh he we a1 a2 hBB hF he1 hw1 hmeas; exfalso; omega
    | succ n ih =>
      intro i hh he we a1 a2 hBB hF he1 hw1 hmeas
      have ho := offI_rng hp hl hrs hrd i a1 a2
      obtain ⟨hHH0, hHH1, hHH2, hHH3, hHH4⟩ := id hBB
      refine G_iload dX0_follow_6 rfl ?_
      refine G_bipush dX0_follow_8 rfl ?_
      refine G_icmp_ge (tgt := 76) dX0_follow_10 (by decide) (inR_of (by omega) (by omega)) (inR_of (by omega) (by omega)) (fun hc10 => ?_) (fun hc10 => ?_)
      · skip
        have e : i = 40 := by omega
        subst e
        refine G_norm (heiF push slope step dep sil hei) hHH3 (fun j j0 j1 => by rw [he1 j j0 j1, if_pos (by exact j1)]) ?_
        have hBx := hBB.set3 (heiF push slope step dep sil hei)
        obtain ⟨hX0, hX1, hX2, hX3, hX4⟩ := id hBx
        refine G_norm (wetF (heiF push slope step dep sil hei) wet) hX4 (fun j j0 j1 => by rw [hw1 j j0 j1, if_pos (by exact j1)]) ?_
        refine G_return dX0_follow_76 rfl ?_
        exact ⟨rfl, (hF.tr (Fr.set (by omega) (by omega))).tr (Fr.set (by omega) (by omega)), hBx.set4 _⟩
      · skip
        refine G_aload_n dX0_follow_13 rfl rfl ?_
        refine G_iload dX0_follow_14 rfl ?_
        refine G_iload dX0_follow_16 rfl ?_
        refine G_callV (ci := 0) (as := [_, _]) (c_X0_markFrom' hh b dep sil he we i _ hBB hrd hrs (by omega) (by omega) (by omega)) dX0_follow_18 ml_X0_46 cv_X0_markFrom (by assumption) rfl rfl (Nat.le_of_ble_eq_true rfl) (Nat.le_of_ble_eq_true rfl) rfl (fun r h2 hp => ?_)
        obtain ⟨rfl, rfl⟩ := hp
        refine G_istore dX0_follow_21 (by decide) rfl ?_
        refine G_aload_n dX0_follow_23 rfl rfl ?_
        refine G_getf fl_X0_18 dX0_follow_24 (by assumption) rfl ?_
        refine G_iload dX0_follow_27 rfl ?_
        refine G_aload_n dX0_follow_29 rfl rfl ?_
        refine G_getf fl_X0_18 dX0_follow_30 (by assumption) rfl ?_
        refine G_iload dX0_follow_33 rfl ?_
        refine G_iald dX0_follow_35 (by assumption) (by omega) (by omega) (by decide) ?_
        have hei_i : he i = hei i := by rw [he1 i a1 (by omega), if_neg (by omega)]
        have hrhi := hrh i a1 (by omega)
        refine G_iload dX0_follow_36 rfl ?_
        refine G_iload_n dX0_follow_38 rfl rfl ?_
        refine G_callS (as := [_, _, _]) (c_X0_moved hh (he i) _ step (by omega) (by have := mkI_rng (push := push) (slope := slope) hrs hrd a1 (by omega); unfold mkI at this; omega) hst) dX0_follow_39 ml_X0_56 cs_X0_moved rfl (Nat.le_of_ble_eq_true rfl) (Nat.le_of_ble_eq_true rfl) rfl (fun r h2 hp => ?_)
        obtain ⟨rfl, rfl⟩ := hp
        refine G_iast dX0_follow_42 (by assumption) (by omega) (by omega) (by decide) (by rw [hei_i]) ?_
        have hBx := hBB.set3 (fup he i (heiF push slope step dep sil hei i))
        obtain ⟨hX0, hX1, hX2, hX3, hX4⟩ := id hBx
        have hFx : Fr h (hh.set (b + 3) (oI 40 (fup he i (heiF push slope step dep sil hei i)))) b (b + 5) := hF.tr (Fr.set (by omega) (by omega))
        have hni := heiF_rng (push := push) (slope := slope) hrd hrs hrh hst.1 i a1 (by omega)
        refine G_aload_n dX0_follow_43 rfl rfl ?_
        refine G_getf fl_X0_18 dX0_follow_44 (by assumption) rfl ?_
        refine G_iload dX0_follow_47 rfl ?_
        refine G_iald dX0_follow_49 (by assumption) (by omega) (by omega) (by decide) ?_
        rw [fup_eq]
        refine G_if_le (tgt := 64) dX0_follow_50 (by decide) (inR_of (by omega) (by omega)) (fun hc50 => ?_) (fun hc50 => ?_)
        · skip
          refine G_iload dX0_follow_64 rfl ?_
          refine G_iload_n dX0_follow_66 rfl rfl ?_
          refine G_isub dX0_follow_67 ?_
          refine G_istore (lv2 := [some (r_ b), some (i_ push), some (i_ slope), some (i_ step), some (i_ (offI push slope sil dep (i + 1))), some (i_ i), some (i_ (mkf (offI push slope sil dep i) (sil i) (dep i)))]) dX0_follow_68 (by decide) (by rw [offI_s _ _ _ _ a1]; rfl) ?_
          refine G_iinc dX0_follow_70 (by decide) rfl rfl ?_
          refine G_goto (tgt := 6) dX0_follow_73 (by decide) ?_
          have hwi : we i = wet i := by rw [hw1 i a1 (by omega), if_neg (by omega)]
          refine G_forget 6 ?_
          refine ih (i + 1) _ _ _ (by omega) (by omega) (by assumption) (by assumption) ?_ ?_ (by omega)
          · intro j j0 j1
            by_cases z : j = i
            · rw [z, fup_eq, if_pos (by omega)]
            · rw [fup_ne z, he1 j j0 j1]
              by_cases z2 : j < i
              · rw [if_pos z2, if_pos (by omega)]
              · rw [if_neg z2, if_neg (by omega)]
          · intro j j0 j1
            by_cases z : j = i
            · rw [z, if_pos (by omega), hwi]; unfold wetF; rw [wetI_0 (by omega), Int.add_zero]
            · rw [hw1 j j0 j1]
              by_cases z2 : j < i
              · rw [if_pos z2, if_pos (by omega)]
              · rw [if_neg z2, if_neg (by omega)]
        · skip
          refine G_aload_n dX0_follow_53 rfl rfl ?_
          refine G_getf fl_X0_21 dX0_follow_54 (by assumption) rfl ?_
          refine G_iload dX0_follow_57 rfl ?_
          refine G_dup2 dX0_follow_59 ?_
          refine G_iald dX0_follow_60 (by assumption) (by omega) (by omega) (by decide) ?_
          have hwi : we i = wet i := by rw [hw1 i a1 (by omega), if_neg (by omega)]
          refine G_iconst dX0_follow_61 ?_
          refine G_iadd dX0_follow_62 ?_
          refine G_iast dX0_follow_63 (by assumption) (by omega) (by omega) (by decide) rfl ?_
          have hBy := hBx.set4 (fup we i (we i + 1))
          have hFy := hFx.tr (Fr.set (o := oI 40 (fup we i (we i + 1))) (show b ≤ b + 4 by omega) (show b + 4 < b + 5 by omega))
          refine G_iload dX0_follow_64 rfl ?_
          refine G_iload_n dX0_follow_66 rfl rfl ?_
          refine G_isub dX0_follow_67 ?_
          refine G_istore (lv2 := [some (r_ b), some (i_ push), some (i_ slope), some (i_ step), some (i_ (offI push slope sil dep (i + 1))), some (i_ i), some (i_ (mkf (offI push slope sil dep i) (sil i) (dep i)))]) dX0_follow_68 (by decide) (by rw [offI_s _ _ _ _ a1]; rfl) ?_
          refine G_iinc dX0_follow_70 (by decide) rfl rfl ?_
          refine G_goto (tgt := 6) dX0_follow_73 (by decide) ?_
          refine G_forget 6 ?_
          refine ih (i + 1) _ _ _ (by omega) (by omega) (by assumption) (by assumption) ?_ ?_ (by omega)
          · intro j j0 j1
            by_cases z : j = i
            · rw [z, fup_eq, if_pos (by omega)]
            · rw [fup_ne z, he1 j j0 j1]
              by_cases z2 : j < i
              · rw [if_pos z2, if_pos (by omega)]
              · rw [if_neg z2, if_neg (by omega)]
          · intro j j0 j1
            by_cases z : j = i
            · rw [z, fup_eq, if_pos (by omega), hwi]; unfold wetF; rw [wetI_1 (by omega)]
            · rw [fup_ne z, hw1 j j0 j1]
              by_cases z2 : j < i
              · rw [if_pos z2, if_pos (by omega)]
              · rw [if_neg z2, if_neg (by omega)]
  refine G_iload_n dX0_follow_0 rfl rfl ?_
  refine G_istore dX0_follow_1 (by decide) rfl ?_
  refine G_iconst dX0_follow_3 ?_
  refine G_istore dX0_follow_4 (by decide) rfl ?_
  exact L 41 0 h hei wet (by omega) (by omega) hB Fr.rf (fun j j0 j1 => by rw [if_neg (by omega)]) (fun j j0 j1 => by rw [if_neg (by omega)]) (by omega)
set_option maxRecDepth 100000 in
set_option maxHeartbeats 4000000 in
theorem c_X0_copyFrom (h : List PO) (b a : Nat) (dep sil hei wet d2 s2 e2 w2 : Int → Int) (hT : bedAt h b d2 s2 e2 w2) (hO : bedAt h a dep sil hei wet) (hab : a + 5 ≤ b ∨ b + 5 ≤ a) : PM 2 yX0_copyFrom cX0_copyFrom 2 none h [r_ b, r_ a] (fun r h2 => r = none ∧ Fr h h2 b (b + 5) ∧ bedAt h2 b dep sil hei wet) := by
  refine PM_of_G RX0 [some (r_ b), some (r_ a)] rfl (by decide +kernel) (Nat.le_of_ble_eq_true rfl) rfl ?_
  obtain ⟨hT0, hT1, hT2, hT3, hT4⟩ := id hT
  obtain ⟨hO0, hO1, hO2, hO3, hO4⟩ := id hO
  have hF : Fr h h b (b + 5) := Fr.rf
  refine G_aload_n dX0_copyFrom_0 rfl rfl ?_
  refine G_getf fl_X0_9 dX0_copyFrom_1 (by assumption) rfl ?_
  refine G_iconst dX0_copyFrom_4 ?_
  refine G_aload_n dX0_copyFrom_5 rfl rfl ?_
  refine G_getf fl_X0_9 dX0_copyFrom_6 (by assumption) rfl ?_
  refine G_iconst dX0_copyFrom_9 ?_
  refine G_bipush dX0_copyFrom_10 rfl ?_
  refine G_copy dX0_copyFrom_12 mc_X0_30 (by assumption) (by assumption) rfl (by decide) (Nat.le_of_ble_eq_true rfl) (Nat.le_of_ble_eq_true rfl) ?_
  have hT := hT.set1 dep
  obtain ⟨hT0, hT1, hT2, hT3, hT4⟩ := id hT
  have hF := hF.tr (Fr.set (o := oI 40 dep) (show b ≤ b + 1 by omega) (show b + 1 < b + 5 by omega))
  have hO := hO.fr (Fr.set (lo := b) (hi := b + 5) (o := oI 40 dep) (show b ≤ b + 1 by omega) (show b + 1 < b + 5 by omega)) (by omega)
  obtain ⟨hO0, hO1, hO2, hO3, hO4⟩ := id hO
  refine G_aload_n dX0_copyFrom_15 rfl rfl ?_
  refine G_getf fl_X0_15 dX0_copyFrom_16 (by assumption) rfl ?_
  refine G_iconst dX0_copyFrom_19 ?_
  refine G_aload_n dX0_copyFrom_20 rfl rfl ?_
  refine G_getf fl_X0_15 dX0_copyFrom_21 (by assumption) rfl ?_
  refine G_iconst dX0_copyFrom_24 ?_
  refine G_bipush dX0_copyFrom_25 rfl ?_
  refine G_copy dX0_copyFrom_27 mc_X0_30 (by assumption) (by assumption) rfl (by decide) (Nat.le_of_ble_eq_true rfl) (Nat.le_of_ble_eq_true rfl) ?_
  have hT := hT.set2 sil
  obtain ⟨hT0, hT1, hT2, hT3, hT4⟩ := id hT
  have hF := hF.tr (Fr.set (o := oI 40 sil) (show b ≤ b + 2 by omega) (show b + 2 < b + 5 by omega))
  have hO := hO.fr (Fr.set (lo := b) (hi := b + 5) (o := oI 40 sil) (show b ≤ b + 2 by omega) (show b + 2 < b + 5 by omega)) (by omega)
  obtain ⟨hO0, hO1, hO2, hO3, hO4⟩ := id hO
  refine G_aload_n dX0_copyFrom_30 rfl rfl ?_
  refine G_getf fl_X0_18 dX0_copyFrom_31 (by assumption) rfl ?_
  refine G_iconst dX0_copyFrom_34 ?_
  refine G_aload_n dX0_copyFrom_35 rfl rfl ?_
  refine G_getf fl_X0_18 dX0_copyFrom_36 (by assumption) rfl ?_
  refine G_iconst dX0_copyFrom_39 ?_
  refine G_bipush dX0_copyFrom_40 rfl ?_
  refine G_copy dX0_copyFrom_42 mc_X0_30 (by assumption) (by assumption) rfl (by decide) (Nat.le_of_ble_eq_true rfl) (Nat.le_of_ble_eq_true rfl) ?_
  have hT := hT.set3 hei
  obtain ⟨hT0, hT1, hT2, hT3, hT4⟩ := id hT
  have hF := hF.tr (Fr.set (o := oI 40 hei) (show b ≤ b + 3 by omega) (show b + 3 < b + 5 by omega))
  have hO := hO.fr (Fr.set (lo := b) (hi := b + 5) (o := oI 40 hei) (show b ≤ b + 3 by omega) (show b + 3 < b + 5 by omega)) (by omega)
  obtain ⟨hO0, hO1, hO2, hO3, hO4⟩ := id hO
  refine G_aload_n dX0_copyFrom_45 rfl rfl ?_
  refine G_getf fl_X0_21 dX0_copyFrom_46 (by assumption) rfl ?_
  refine G_iconst dX0_copyFrom_49 ?_
  refine G_aload_n dX0_copyFrom_50 rfl rfl ?_
  refine G_getf fl_X0_21 dX0_copyFrom_51 (by assumption) rfl ?_
  refine G_iconst dX0_copyFrom_54 ?_
  refine G_bipush dX0_copyFrom_55 rfl ?_
  refine G_copy dX0_copyFrom_57 mc_X0_30 (by assumption) (by assumption) rfl (by decide) (Nat.le_of_ble_eq_true rfl) (Nat.le_of_ble_eq_true rfl) ?_
  have hT := hT.set4 wet
  obtain ⟨hT0, hT1, hT2, hT3, hT4⟩ := id hT
  have hF := hF.tr (Fr.set (o := oI 40 wet) (show b ≤ b + 4 by omega) (show b + 4 < b + 5 by omega))
  have hO := hO.fr (Fr.set (lo := b) (hi := b + 5) (o := oI 40 wet) (show b ≤ b + 4 by omega) (show b + 4 < b + 5 by omega)) (by omega)
  obtain ⟨hO0, hO1, hO2, hO3, hO4⟩ := id hO
  refine G_return dX0_copyFrom_60 rfl ?_
  exact ⟨rfl, hF, hT⟩
end
section
/-! wells -/
def conN (c r z : Int → Int) (w : Int) : Nat → Int
  | 0 => r w
  | n + 1 => conN c r z w n - (if (c n - c w = 1 ∨ c n - c w = -1) ∧ z n = 0 then r n else 0)
def conI (c r z : Int → Int) (n w : Int) : Int := if ¬ (0 ≤ w ∧ w < n) ∨ z w = 1 then 0 else max (conN c r z w n.toNat) 0
theorem conN_s {c r z : Int → Int} {w i : Int} (h : 0 ≤ i) : conN c r z w (i + 1).toNat = conN c r z w i.toNat - (if (c i - c w = 1 ∨ c i - c w = -1) ∧ z i = 0 then r i else 0) := by
  have e : (i + 1).toNat = i.toNat + 1 := by omega
  have e2 : ((i.toNat : Nat) : Int) = i := by omega
  rw [e]
  show _ - (if (c ((i.toNat : Nat) : Int) - c w = 1 ∨ c ((i.toNat : Nat) : Int) - c w = -1) ∧ z ((i.toNat : Nat) : Int) = 0 then r ((i.toNat : Nat) : Int) else 0) = _
  rw [e2]
theorem conN_rng {c r z : Int → Int} {n w : Int} (hr : RG 1 30 n r) (h0 : 0 ≤ w) (h1 : w < n) : ∀ k : Nat, (k : Int) ≤ n → -30 * (k : Int) ≤ conN c r z w k ∧ conN c r z w k ≤ 30 := by
  intro k
  induction k with
  | zero =>
    intro _
    have := hr w h0 h1
    show -30 * ((0 : Nat) : Int) ≤ r w ∧ r w ≤ 30
    omega
  | succ k ih =>
    intro hk
    have a := ih (by omega)
    have b := hr k (by omega) (by omega)
    show -30 * ((k + 1 : Nat) : Int) ≤ conN c r z w k - (if (c k - c w = 1 ∨ c k - c w = -1) ∧ z k = 0 then r k else 0) ∧ conN c r z w k - (if (c k - c w = 1 ∨ c k - c w = -1) ∧ z k = 0 then r k else 0) ≤ 30
    by_cases q : (c k - c w = 1 ∨ c k - c w = -1) ∧ z k = 0
    · rw [if_pos q]; omega
    · rw [if_neg q]; omega
theorem conI_rng {c r z : Int → Int} {n w : Int} (hr : RG 1 30 n r) : 0 ≤ conI c r z n w ∧ conI c r z n w ≤ 30 := by
  unfold conI
  by_cases q : ¬ (0 ≤ w ∧ w < n) ∨ z w = 1
  · rw [if_pos q]; omega
  · rw [if_neg q]
    have a := conN_rng (c := c) (z := z) hr (w := w) (by omega) (by omega) n.toNat (by omega)
    omega
def sbI (s g : Int) : Int := if 0 < g then s + g else max (s - 2) 0
def gapN (q : Int → Int) (g i : Int) : Int → Int := fun j => if g ≤ j ∧ j < i then q (j + 1) else q j
def gapF (q : Int → Int) (g : Int) : Int → Int := gapN q g 5
theorem gapN_0 (q : Int → Int) (g : Int) : gapN q g g = q := by
  funext j
  unfold gapN
  rw [if_neg (by omega)]
theorem gapN_s {q : Int → Int} {g i : Int} (h : g ≤ i) : fup (gapN q g i) i (gapN q g i (i + 1)) = gapN q g (i + 1) := by
  funext j
  unfold fup gapN
  by_cases e : j = i
  · rw [if_pos e, if_neg (by omega), if_pos (by omega), e]
  · rw [if_neg e]
    by_cases z : g ≤ j ∧ j < i
    · rw [if_pos z, if_pos (by omega)]
    · rw [if_neg z, if_neg (by omega)]
def exF (dep sil hei c r z : Int → Int) (n w : Int) : Int := hei (c w) + conI c r z n w - (dep (c w) - sil (c w))
def salF (dep sil hei c r z : Int → Int) (n : Int) (s : Int → Int) : Int → Int := fun w => if 0 ≤ w ∧ w < n then sbI (s w) (if z w = 0 then exF dep sil hei c r z n w else 0) else s w
def draF (r z : Int → Int) (n : Int) (d : Int → Int) : Int → Int := fun w => if (0 ≤ w ∧ w < n) ∧ z w = 0 then d w + r w else d w
def resF (s : Int → Int) (n : Int) (z : Int → Int) : Int → Int := fun w => if 0 ≤ w ∧ w < n then (if z w = 0 ∧ 50 ≤ s w then 1 else if s w = 0 then 0 else z w) else z w
def turF (s z : Int → Int) (n : Int) (t : Int → Int) : Int → Int := fun w => if (0 ≤ w ∧ w < n) ∧ z w = 0 ∧ 50 ≤ s w then t w + 1 else t w
theorem besN_s {q : Int → Int} {c i : Int} (h : 0 ≤ i) : besN q c (i + 1).toNat = if q i = c then i else besN q c i.toNat := by
  have e : (i + 1).toNat = i.toNat + 1 := by omega
  have e2 : ((i.toNat : Nat) : Int) = i := by omega
  rw [e]
  show (if q ((i.toNat : Nat) : Int) = c then ((i.toNat : Nat) : Int) else _) = _
  rw [e2]
theorem besN_none {q : Int → Int} {c : Int} : ∀ n : Nat, (∀ j : Int, 0 ≤ j → j < n → q j ≠ c) → besN q c n = -5 := by
  intro n
  induction n with
  | zero => intro _; rfl
  | succ n ih =>
    intro h
    show (if q n = c then (n : Int) else besN q c n) = -5
    rw [if_neg (h n (by omega) (by omega))]
    exact ih (fun j a b => h j a (by omega))
theorem besN_hit {q : Int → Int} {c w : Int} (h0 : 0 ≤ w) (hq : q w = c) : ∀ n : Nat, w < n → (∀ j : Int, 0 ≤ j → j < n → q j = c → j = w) → besN q c n = w := by
  intro n
  induction n with
  | zero => intro h; omega
  | succ n ih =>
    intro h1 h2
    show (if q n = c then (n : Int) else besN q c n) = w
    by_cases e : q n = c
    · rw [if_pos e]; exact h2 n (by omega) (by omega) e
    · rw [if_neg e]
      have hne : w ≠ n := fun z => e (by rw [← z]; exact hq)
      exact ih (by omega) (fun j a b => h2 j a (by omega))
theorem besN_rng {q : Int → Int} {c : Int} : ∀ n : Nat, -5 ≤ besN q c n ∧ besN q c n < n := by
  intro n
  induction n with
  | zero => exact ⟨by show (-5 : Int) ≤ -5; omega, by show (-5 : Int) < 0; omega⟩
  | succ n ih =>
    show -5 ≤ (if q n = c then (n : Int) else besN q c n) ∧ (if q n = c then (n : Int) else besN q c n) < ((n + 1 : Nat) : Int)
    by_cases e : q n = c
    · rw [if_pos e]; omega
    · rw [if_neg e]; omega
set_option maxRecDepth 100000 in
set_option maxHeartbeats 4000000 in
theorem c_X4_has (h : List PO) (b : Nat) (c r s z d t : Int → Int) (n : Int) (w : Int) (hW : welF h b c r s z d t n) (hn : 0 ≤ n ∧ n ≤ 6) (hw : inR w) : PM 0 yX4_has cX4_has 2 (some .boolean) h [r_ b, i_ w] (fun r0 h2 => ∃ y : Int, r0 = some (i_ y) ∧ h = h2 ∧ (y = 1 ∧ 0 ≤ w ∧ w < n ∨ y = 0 ∧ (w < 0 ∨ n ≤ w))) := by
  refine PM_of_G RX4 [some (r_ b), some (i_ w)] rfl (by decide +kernel) (Nat.le_of_ble_eq_true rfl) rfl ?_
  obtain ⟨hW0, hW1, hW2, hW3, hW4, hW5, hW6⟩ := id hW
  have hw1 := hw.1
  have hw2 := hw.2
  refine G_iload_n dX4_has_0 rfl rfl ?_
  refine G_if_lt (tgt := 22) dX4_has_1 (by decide) (inR_of (by omega) (by omega)) (fun hc1 => ?_) (fun hc1 => ?_)
  · skip
    refine G_iconst dX4_has_22 ?_
    refine G_zreturn dX4_has_23 rfl (by first | exact Or.inl rfl | exact Or.inr rfl) ?_
    exact ⟨_, rfl, rfl, by omega⟩
  · skip
    refine G_iload_n dX4_has_4 rfl rfl ?_
    refine G_aload_n dX4_has_5 rfl rfl ?_
    refine G_getf fl_X4_36 dX4_has_6 (by assumption) rfl ?_
    refine G_icmp_ge (tgt := 22) dX4_has_9 (by decide) (inR_of (by omega) (by omega)) (inR_of (by omega) (by omega)) (fun hc9 => ?_) (fun hc9 => ?_)
    · skip
      refine G_iconst dX4_has_22 ?_
      refine G_zreturn dX4_has_23 rfl (by first | exact Or.inl rfl | exact Or.inr rfl) ?_
      exact ⟨_, rfl, rfl, by omega⟩
    · skip
      refine G_iload_n dX4_has_12 rfl rfl ?_
      refine G_bipush dX4_has_13 rfl ?_
      refine G_icmp_ge (tgt := 22) dX4_has_15 (by decide) (inR_of (by omega) (by omega)) (inR_of (by omega) (by omega)) (fun hc15 => ?_) (fun hc15 => ?_)
      · skip
        refine G_iconst dX4_has_22 ?_
        refine G_zreturn dX4_has_23 rfl (by first | exact Or.inl rfl | exact Or.inr rfl) ?_
        exact ⟨_, rfl, rfl, by omega⟩
      · skip
        refine G_iconst dX4_has_18 ?_
        refine G_goto (tgt := 23) dX4_has_19 (by decide) ?_
        refine G_zreturn dX4_has_23 rfl (by first | exact Or.inl rfl | exact Or.inr rfl) ?_
        exact ⟨_, rfl, rfl, by omega⟩
set_option maxRecDepth 100000 in
set_option maxHeartbeats 4000000 in
theorem c_X4_isResting (h : List PO) (b : Nat) (c r s z d t : Int → Int) (n : Int) (w : Int) (hW : welF h b c r s z d t n) (hn : 0 ≤ n ∧ n ≤ 6) (hz : RG 0 1 n z) (hw : inR w) : PM 1 yX4_isResting cX4_isResting 2 (some .boolean) h [r_ b, i_ w] (fun r0 h2 => ∃ y : Int, r0 = some (i_ y) ∧ h = h2 ∧ (y = 1 ∧ (0 ≤ w ∧ w < n ∧ z w = 1) ∨ y = 0 ∧ (w < 0 ∨ n ≤ w ∨ z w = 0))) := by
  refine PM_of_G RX4 [some (r_ b), some (i_ w)] rfl (by decide +kernel) (Nat.le_of_ble_eq_true rfl) rfl ?_
  obtain ⟨hW0, hW1, hW2, hW3, hW4, hW5, hW6⟩ := id hW
  have hw1 := hw.1
  have hw2 := hw.2
  refine G_aload_n dX4_isResting_0 rfl rfl ?_
  refine G_iload_n dX4_isResting_1 rfl rfl ?_
  refine G_callV (ci := 4) (as := [_]) (c_X4_has h b c r s z d t n w hW hn (inR_of (by omega) (by omega))) dX4_isResting_2 ml_X4_40 cv_X4_has (by assumption) rfl rfl (Nat.le_of_ble_eq_true rfl) (Nat.le_of_ble_eq_true rfl) rfl (fun r h2 hp => ?_)
  obtain ⟨y, rfl, rfl, hy⟩ := hp
  refine G_if_eq (tgt := 22) dX4_isResting_5 (by decide) (inR_of (by omega) (by omega)) (fun hc5 => ?_) (fun hc5 => ?_)
  · skip
    refine G_iconst dX4_isResting_22 ?_
    refine G_zreturn dX4_isResting_23 rfl (by first | exact Or.inl rfl | exact Or.inr rfl) ?_
    exact ⟨_, rfl, rfl, by omega⟩
  · skip
    refine G_aload_n dX4_isResting_8 rfl rfl ?_
    refine G_getf fl_X4_21 dX4_isResting_9 (by assumption) rfl ?_
    refine G_iload_n dX4_isResting_12 rfl rfl ?_
    refine G_iald dX4_isResting_13 (by assumption) (by omega) (by omega) (by decide) ?_
    have hzw := hz w (by omega) (by omega)
    refine G_iconst dX4_isResting_14 ?_
    refine G_icmp_ne (tgt := 22) dX4_isResting_15 (by decide) (inR_of (by omega) (by omega)) (inR_of (by omega) (by omega)) (fun hc15 => ?_) (fun hc15 => ?_)
    · skip
      refine G_iconst dX4_isResting_22 ?_
      refine G_zreturn dX4_isResting_23 rfl (by first | exact Or.inl rfl | exact Or.inr rfl) ?_
      exact ⟨_, rfl, rfl, by omega⟩
    · skip
      refine G_iconst dX4_isResting_18 ?_
      refine G_goto (tgt := 23) dX4_isResting_19 (by decide) ?_
      refine G_zreturn dX4_isResting_23 rfl (by first | exact Or.inl rfl | exact Or.inr rfl) ?_
      exact ⟨_, rfl, rfl, by omega⟩
set_option maxRecDepth 100000 in
set_option maxHeartbeats 4000000 in
theorem c_X4_beside (h : List PO) (b : Nat) (c r s z d t : Int → Int) (n : Int) (k : Int) (hW : welF h b c r s z d t n) (hn : 0 ≤ n ∧ n ≤ 6) (hc : RG 0 39 n c) (hdi : ∀ w u : Int, 0 ≤ w → w < n → 0 ≤ u → u < n → c w = c u → w = u) (hk : inR k) : PM 1 yX4_beside cX4_beside 3 (some .int) h [r_ b, i_ k] (fun r0 h2 => r0 = some (i_ (besN c k n.toNat)) ∧ h = h2) := by
  refine PM_of_G RX4 [some (r_ b), some (i_ k), none] rfl (by decide +kernel) (Nat.le_of_ble_eq_true rfl) rfl ?_
  obtain ⟨hW0, hW1, hW2, hW3, hW4, hW5, hW6⟩ := id hW
  have hk1 := hk.1
  have hk2 := hk.2
  have L : ∀ (fu : Nat) (i : Int), 0 ≤ i → i ≤ n → (∀ j : Int, 0 ≤ j → j < i → c j ≠ k) → n - i < fu → G 1 cX4_beside RX4 3 (some .int) h 2 [some (r_ b), some (i_ k), some (i_ i)] [] (fun r0 h2 => r0 = some (i_ (besN c k n.toNat)) ∧ h = h2) := by
    intro fu
    induction fu with
    | zero => intro i a1 a2 hne hmeas; exfalso; omega
    | succ fu ih =>
      intro i a1 a2 hne hmeas
      refine G_iload_n dX4_beside_2 rfl rfl ?_
      refine G_aload_n dX4_beside_3 rfl rfl ?_
      refine G_getf fl_X4_36 dX4_beside_4 (by assumption) rfl ?_
      refine G_icmp_ge (tgt := 34) dX4_beside_7 (by decide) (inR_of (by omega) (by omega)) (inR_of (by omega) (by omega)) (fun hc7 => ?_) (fun hc7 => ?_)
      · skip
        have e : i = n := by omega
        refine G_bipush dX4_beside_34 rfl ?_
        refine G_ireturn dX4_beside_36 rfl ?_
        exact ⟨by rw [besN_none n.toNat (fun j j0 j1 => hne j j0 (by omega))], rfl⟩
      · skip
        refine G_iload_n dX4_beside_10 rfl rfl ?_
        refine G_bipush dX4_beside_11 rfl ?_
        refine G_icmp_ge (tgt := 34) dX4_beside_13 (by decide) (inR_of (by omega) (by omega)) (inR_of (by omega) (by omega)) (fun hc13 => ?_) (fun hc13 => ?_)
        · skip
          exfalso; omega
        · skip
          refine G_aload_n dX4_beside_16 rfl rfl ?_
          refine G_getf fl_X4_9 dX4_beside_17 (by assumption) rfl ?_
          refine G_iload_n dX4_beside_20 rfl rfl ?_
          refine G_iald dX4_beside_21 (by assumption) (by omega) (by omega) (by decide) ?_
          have hci := hc i (by omega) (by omega)
          refine G_iload_n dX4_beside_22 rfl rfl ?_
          refine G_icmp_ne (tgt := 28) dX4_beside_23 (by decide) (inR_of (by omega) (by omega)) (inR_of (by omega) (by omega)) (fun hc23 => ?_) (fun hc23 => ?_)
          · skip
            refine G_iinc dX4_beside_28 (by decide) rfl rfl ?_
            refine G_goto (tgt := 2) dX4_beside_31 (by decide) ?_
            refine ih (i + 1) (by omega) (by omega) (fun j j0 j1 => ?_) (by omega)
            by_cases e : j = i
            · rw [e]; omega
            · exact hne j j0 (by omega)
          · skip
            refine G_iload_n dX4_beside_26 rfl rfl ?_
            refine G_ireturn dX4_beside_27 rfl ?_
            exact ⟨by rw [besN_hit a1 (by omega) n.toNat (by omega) (fun j j0 j1 e => hdi j i j0 (by omega) (by omega) (by omega) (by omega))], rfl⟩
  refine G_iconst dX4_beside_0 ?_
  refine G_istore_n dX4_beside_1 rfl (by decide) rfl ?_
  exact L (n.toNat + 1) 0 (by omega) (by omega) (fun j j0 j1 => by omega) (by omega)
set_option maxRecDepth 100000 in
set_option maxHeartbeats 4000000 in
theorem c_X4_coneOf (h : List PO) (b : Nat) (c r s z d t : Int → Int) (n : Int) (w : Int) (hW : welF h b c r s z d t n) (hn : 0 ≤ n ∧ n ≤ 6) (hc : RG 0 39 n c) (hr : RG 1 30 n r) (hz : RG 0 1 n z) (hw : inR w) : PM 1 yX4_coneOf cX4_coneOf 5 (some .int) h [r_ b, i_ w] (fun r0 h2 => r0 = some (i_ (conI c r z n w)) ∧ h = h2) := by
  refine PM_of_G RX4 [some (r_ b), some (i_ w), none, none, none] rfl (by decide +kernel) (Nat.le_of_ble_eq_true rfl) rfl ?_
  obtain ⟨hW0, hW1, hW2, hW3, hW4, hW5, hW6⟩ := id hW
  have hw1 := hw.1
  have hw2 := hw.2
  refine G_aload_n dX4_coneOf_0 rfl rfl ?_
  refine G_iload_n dX4_coneOf_1 rfl rfl ?_
  refine G_callV (ci := 4) (as := [_]) (c_X4_has h b c r s z d t n w hW hn (inR_of (by omega) (by omega))) dX4_coneOf_2 ml_X4_40 cv_X4_has (by assumption) rfl rfl (Nat.le_of_ble_eq_true rfl) (Nat.le_of_ble_eq_true rfl) rfl (fun r h2 hp => ?_)
  obtain ⟨y, rfl, rfl, hy⟩ := hp
  refine G_if_eq (tgt := 18) dX4_coneOf_5 (by decide) (inR_of (by omega) (by omega)) (fun hc5 => ?_) (fun hc5 => ?_)
  · skip
    refine G_iconst dX4_coneOf_18 ?_
    refine G_ireturn dX4_coneOf_19 rfl ?_
    exact ⟨by unfold conI; rw [if_pos (by omega)], rfl⟩
  · skip
    refine G_aload_n dX4_coneOf_8 rfl rfl ?_
    refine G_getf fl_X4_21 dX4_coneOf_9 (by assumption) rfl ?_
    refine G_iload_n dX4_coneOf_12 rfl rfl ?_
    refine G_iald dX4_coneOf_13 (by assumption) (by omega) (by omega) (by decide) ?_
    have hzw := hz w (by omega) (by omega)
    refine G_iconst dX4_coneOf_14 ?_
    refine G_icmp_ne (tgt := 20) dX4_coneOf_15 (by decide) (inR_of (by omega) (by omega)) (inR_of (by omega) (by omega)) (fun hc15 => ?_) (fun hc15 => ?_)
    · skip
      have w0 : 0 ≤ w := by omega
      have w1 : w < n := by omega
      have hcw := hc w w0 w1
      have hrw := hr w w0 w1
      have L : ∀ (fu : Nat) (i : Int) (x : Int), 0 ≤ i → i ≤ n → x = conN c r z w i.toNat → n - i < fu → G 1 cX4_coneOf RX4 5 (some .int) h 29 [some (r_ b), some (i_ w), some (i_ x), some (i_ i), none] [] (fun r0 h2 => r0 = some (i_ (conI c r z n w)) ∧ h = h2) := by
        intro fu
        induction fu with
        | zero => intro i x a1 a2 hx hmeas; exfalso; omega
        | succ fu ih =>
          intro i x a1 a2 hx hmeas
          have hxr := conN_rng (c := c) (z := z) hr w0 w1 i.toNat (by omega)
          rw [← hx] at hxr
          refine G_iload_n dX4_coneOf_29 rfl rfl ?_
          refine G_aload_n dX4_coneOf_30 rfl rfl ?_
          refine G_getf fl_X4_36 dX4_coneOf_31 (by assumption) rfl ?_
          refine G_icmp_ge (tgt := 94) dX4_coneOf_34 (by decide) (inR_of (by omega) (by omega)) (inR_of (by omega) (by omega)) (fun hc34 => ?_) (fun hc34 => ?_)
          · skip
            have e : i = n := by omega
            subst e
            refine G_iload_n dX4_coneOf_94 rfl rfl ?_
            refine G_iconst dX4_coneOf_95 ?_
            refine G_max dX4_coneOf_96 mm_X4_58 (inR_of (by omega) (by omega)) (inR_of (by omega) (by omega)) (Nat.le_of_ble_eq_true rfl) (Nat.le_of_ble_eq_true rfl) ?_
            refine G_ireturn dX4_coneOf_99 rfl ?_
            exact ⟨by unfold conI; rw [if_neg (by omega), hx], rfl⟩
          · skip
            refine G_iload_n dX4_coneOf_37 rfl rfl ?_
            refine G_bipush dX4_coneOf_38 rfl ?_
            refine G_icmp_ge (tgt := 94) dX4_coneOf_40 (by decide) (inR_of (by omega) (by omega)) (inR_of (by omega) (by omega)) (fun hc40 => ?_) (fun hc40 => ?_)
            · skip
              exfalso; omega
            · skip
              refine G_aload_n dX4_coneOf_43 rfl rfl ?_
              refine G_getf fl_X4_9 dX4_coneOf_44 (by assumption) rfl ?_
              refine G_iload_n dX4_coneOf_47 rfl rfl ?_
              refine G_iald dX4_coneOf_48 (by assumption) (by omega) (by omega) (by decide) ?_
              have hcj := hc i (by omega) (by omega)
              have hzj := hz i (by omega) (by omega)
              have hrj := hr i (by omega) (by omega)
              refine G_aload_n dX4_coneOf_49 rfl rfl ?_
              refine G_getf fl_X4_9 dX4_coneOf_50 (by assumption) rfl ?_
              refine G_iload_n dX4_coneOf_53 rfl rfl ?_
              refine G_iald dX4_coneOf_54 (by assumption) (by omega) (by omega) (by decide) ?_
              refine G_isub dX4_coneOf_55 ?_
              refine G_istore dX4_coneOf_56 (by decide) rfl ?_
              refine G_iload dX4_coneOf_58 rfl ?_
              refine G_iconst dX4_coneOf_60 ?_
              refine G_icmp_eq (tgt := 70) dX4_coneOf_61 (by decide) (inR_of (by omega) (by omega)) (inR_of (by omega) (by omega)) (fun hc61 => ?_) (fun hc61 => ?_)
              · skip
                refine G_aload_n dX4_coneOf_70 rfl rfl ?_
                refine G_getf fl_X4_21 dX4_coneOf_71 (by assumption) rfl ?_
                refine G_iload_n dX4_coneOf_74 rfl rfl ?_
                refine G_iald dX4_coneOf_75 (by assumption) (by omega) (by omega) (by decide) ?_
                refine G_if_ne (tgt := 88) dX4_coneOf_76 (by decide) (inR_of (by omega) (by omega)) (fun hc76 => ?_) (fun hc76 => ?_)
                · skip
                  refine G_iinc dX4_coneOf_88 (by decide) rfl rfl ?_
                  refine G_goto (tgt := 29) dX4_coneOf_91 (by decide) ?_
                  refine G_forget 4 ?_
                  refine ih (i + 1) _ (by omega) (by omega) ?_ (by omega)
                  rw [conN_s a1, ← hx]
                  rw [if_neg (by omega), Int.sub_zero]
                · skip
                  refine G_iload_n dX4_coneOf_79 rfl rfl ?_
                  refine G_aload_n dX4_coneOf_80 rfl rfl ?_
                  refine G_getf fl_X4_15 dX4_coneOf_81 (by assumption) rfl ?_
                  refine G_iload_n dX4_coneOf_84 rfl rfl ?_
                  refine G_iald dX4_coneOf_85 (by assumption) (by omega) (by omega) (by decide) ?_
                  refine G_isub dX4_coneOf_86 ?_
                  refine G_istore_n dX4_coneOf_87 rfl (by decide) rfl ?_
                  refine G_iinc dX4_coneOf_88 (by decide) rfl rfl ?_
                  refine G_goto (tgt := 29) dX4_coneOf_91 (by decide) ?_
                  refine G_forget 4 ?_
                  refine ih (i + 1) _ (by omega) (by omega) ?_ (by omega)
                  rw [conN_s a1, ← hx]
                  rw [if_pos (by omega)]
              · skip
                refine G_iload dX4_coneOf_64 rfl ?_
                refine G_iconst dX4_coneOf_66 ?_
                refine G_icmp_ne (tgt := 88) dX4_coneOf_67 (by decide) (inR_of (by omega) (by omega)) (inR_of (by omega) (by omega)) (fun hc67 => ?_) (fun hc67 => ?_)
                · skip
                  refine G_iinc dX4_coneOf_88 (by decide) rfl rfl ?_
                  refine G_goto (tgt := 29) dX4_coneOf_91 (by decide) ?_
                  refine G_forget 4 ?_
                  refine ih (i + 1) _ (by omega) (by omega) ?_ (by omega)
                  rw [conN_s a1, ← hx]
                  rw [if_neg (by omega), Int.sub_zero]
                · skip
                  refine G_aload_n dX4_coneOf_70 rfl rfl ?_
                  refine G_getf fl_X4_21 dX4_coneOf_71 (by assumption) rfl ?_
                  refine G_iload_n dX4_coneOf_74 rfl rfl ?_
                  refine G_iald dX4_coneOf_75 (by assumption) (by omega) (by omega) (by decide) ?_
                  refine G_if_ne (tgt := 88) dX4_coneOf_76 (by decide) (inR_of (by omega) (by omega)) (fun hc76 => ?_) (fun hc76 => ?_)
                  · skip
                    refine G_iinc dX4_coneOf_88 (by decide) rfl rfl ?_
                    refine G_goto (tgt := 29) dX4_coneOf_91 (by decide) ?_
                    refine G_forget 4 ?_
                    refine ih (i + 1) _ (by omega) (by omega) ?_ (by omega)
                    rw [conN_s a1, ← hx]
                    rw [if_neg (by omega), Int.sub_zero]
                  · skip
                    refine G_iload_n dX4_coneOf_79 rfl rfl ?_
                    refine G_aload_n dX4_coneOf_80 rfl rfl ?_
                    refine G_getf fl_X4_15 dX4_coneOf_81 (by assumption) rfl ?_
                    refine G_iload_n dX4_coneOf_84 rfl rfl ?_
                    refine G_iald dX4_coneOf_85 (by assumption) (by omega) (by omega) (by decide) ?_
                    refine G_isub dX4_coneOf_86 ?_
                    refine G_istore_n dX4_coneOf_87 rfl (by decide) rfl ?_
                    refine G_iinc dX4_coneOf_88 (by decide) rfl rfl ?_
                    refine G_goto (tgt := 29) dX4_coneOf_91 (by decide) ?_
                    refine G_forget 4 ?_
                    refine ih (i + 1) _ (by omega) (by omega) ?_ (by omega)
                    rw [conN_s a1, ← hx]
                    rw [if_pos (by omega)]
      refine G_aload_n dX4_coneOf_20 rfl rfl ?_
      refine G_getf fl_X4_15 dX4_coneOf_21 (by assumption) rfl ?_
      refine G_iload_n dX4_coneOf_24 rfl rfl ?_
      refine G_iald dX4_coneOf_25 (by assumption) (by omega) (by omega) (by decide) ?_
      refine G_istore_n dX4_coneOf_26 rfl (by decide) rfl ?_
      refine G_iconst dX4_coneOf_27 ?_
      refine G_istore_n dX4_coneOf_28 rfl (by decide) rfl ?_
      exact L (n.toNat + 1) 0 _ (by omega) (by omega) rfl (by omega)
    · skip
      refine G_iconst dX4_coneOf_18 ?_
      refine G_ireturn dX4_coneOf_19 rfl ?_
      exact ⟨by unfold conI; rw [if_pos (by omega)], rfl⟩
set_option maxRecDepth 100000 in
set_option maxHeartbeats 4000000 in
theorem c_X4_saltBehind (h : List PO) (s g : Int) (hs : 0 ≤ s ∧ s ≤ 300) (hg : -1000 ≤ g ∧ g ≤ 1000) : PM 1 yX4_saltBehind cX4_saltBehind 2 (some .int) h [i_ s, i_ g] (fun r0 h2 => r0 = some (i_ (sbI s g)) ∧ h = h2) := by
  refine PM_of_G RX4 [some (i_ s), some (i_ g)] rfl (by decide +kernel) (Nat.le_of_ble_eq_true rfl) rfl ?_
  refine G_iload_n dX4_saltBehind_0 rfl rfl ?_
  refine G_if_le (tgt := 10) dX4_saltBehind_1 (by decide) (inR_of (by omega) (by omega)) (fun hc1 => ?_) (fun hc1 => ?_)
  · skip
    refine G_iload_n dX4_saltBehind_10 rfl rfl ?_
    refine G_iconst dX4_saltBehind_11 ?_
    refine G_isub dX4_saltBehind_12 ?_
    refine G_iconst dX4_saltBehind_13 ?_
    refine G_max dX4_saltBehind_14 mm_X4_58 (inR_of (by omega) (by omega)) (inR_of (by omega) (by omega)) (Nat.le_of_ble_eq_true rfl) (Nat.le_of_ble_eq_true rfl) ?_
    refine G_ireturn dX4_saltBehind_17 rfl ?_
    exact ⟨by unfold sbI; first | rw [if_pos (by omega)] | rw [if_neg (by omega)], rfl⟩
  · skip
    refine G_iload_n dX4_saltBehind_4 rfl rfl ?_
    refine G_iload_n dX4_saltBehind_5 rfl rfl ?_
    refine G_iadd dX4_saltBehind_6 ?_
    refine G_goto (tgt := 17) dX4_saltBehind_7 (by decide) ?_
    refine G_ireturn dX4_saltBehind_17 rfl ?_
    exact ⟨by unfold sbI; first | rw [if_pos (by omega)] | rw [if_neg (by omega)], rfl⟩
set_option maxRecDepth 100000 in
set_option maxHeartbeats 4000000 in
theorem c_X4_isRate (h : List PO) (c : Int) (hc : inR c)  : PM 0 yX4_isRate cX4_isRate 1 (some .boolean) h [i_ c] (fun r0 h2 => ∃ y : Int, r0 = some (i_ y) ∧ h = h2 ∧ (y = 1 ∧ 1 ≤ c ∧ c ≤ 30 ∨ y = 0 ∧ (c < 1 ∨ 30 < c))) := by
  refine PM_of_G RX4 [some (i_ c)] rfl (by decide +kernel) (Nat.le_of_ble_eq_true rfl) rfl ?_
  have hc1 := hc.1
  have hc2 := hc.2
  refine G_iload_n dX4_isRate_0 rfl rfl ?_
  refine G_iconst dX4_isRate_1 ?_
  refine G_icmp_lt (tgt := 15) dX4_isRate_2 (by decide) (inR_of (by omega) (by omega)) (inR_of (by omega) (by omega)) (fun hc2 => ?_) (fun hc2 => ?_)
  · skip
    refine G_iconst dX4_isRate_15 ?_
    refine G_zreturn dX4_isRate_16 rfl (by first | exact Or.inl rfl | exact Or.inr rfl) ?_
    exact ⟨_, rfl, rfl, by omega⟩
  · skip
    refine G_iload_n dX4_isRate_5 rfl rfl ?_
    refine G_bipush dX4_isRate_6 rfl ?_
    refine G_icmp_gt (tgt := 15) dX4_isRate_8 (by decide) (inR_of (by omega) (by omega)) (inR_of (by omega) (by omega)) (fun hc8 => ?_) (fun hc8 => ?_)
    · skip
      refine G_iconst dX4_isRate_15 ?_
      refine G_zreturn dX4_isRate_16 rfl (by first | exact Or.inl rfl | exact Or.inr rfl) ?_
      exact ⟨_, rfl, rfl, by omega⟩
    · skip
      refine G_iconst dX4_isRate_11 ?_
      refine G_goto (tgt := 16) dX4_isRate_12 (by decide) ?_
      refine G_zreturn dX4_isRate_16 rfl (by first | exact Or.inl rfl | exact Or.inr rfl) ?_
      exact ⟨_, rfl, rfl, by omega⟩
set_option maxRecDepth 100000 in
set_option maxHeartbeats 4000000 in
theorem c_X4_closeGap (h : List PO) (a : Nat) (q : Int → Int) (g : Int) (ha : h[a]? = some (oI 6 q)) (hg : 0 ≤ g ∧ g < 6) : PM 1 yX4_closeGap cX4_closeGap 3 none h [r_ a, i_ g] (fun r0 h2 => r0 = none ∧ h.set a (oI 6 (gapF q g)) = h2) := by
  refine PM_of_G RX4 [some (r_ a), some (i_ g), none] rfl (by decide +kernel) (Nat.le_of_ble_eq_true rfl) rfl ?_
  have L : ∀ (fu : Nat) (i : Int), g ≤ i → i ≤ 5 → 5 - i < fu → G 1 cX4_closeGap RX4 3 none (h.set a (oI 6 (gapN q g i))) 6 [some (r_ a), some (i_ g), some (i_ i)] [] (fun r0 h2 => r0 = none ∧ h.set a (oI 6 (gapF q g)) = h2) := by
    intro fu
    induction fu with
    | zero => intro i a1 a2 hmeas; exfalso; omega
    | succ fu ih =>
      intro i a1 a2 hmeas
      have hA := set_at (o := oI 6 (gapN q g i)) ha
      refine G_iload_n dX4_closeGap_6 rfl rfl ?_
      refine G_iconst dX4_closeGap_7 ?_
      refine G_iadd dX4_closeGap_8 ?_
      refine G_aload_n dX4_closeGap_9 rfl rfl ?_
      refine G_alen dX4_closeGap_10 (by assumption) ?_
      refine G_icmp_ge (tgt := 28) dX4_closeGap_11 (by decide) (inR_of (by omega) (by omega)) (inR_of (by omega) (by omega)) (fun hc11 => ?_) (fun hc11 => ?_)
      · skip
        have e : i = 5 := by omega
        subst e
        refine G_return dX4_closeGap_28 rfl ?_
        exact ⟨rfl, rfl⟩
      · skip
        refine G_aload_n dX4_closeGap_14 rfl rfl ?_
        refine G_iload_n dX4_closeGap_15 rfl rfl ?_
        refine G_aload_n dX4_closeGap_16 rfl rfl ?_
        refine G_iload_n dX4_closeGap_17 rfl rfl ?_
        refine G_iconst dX4_closeGap_18 ?_
        refine G_iadd dX4_closeGap_19 ?_
        refine G_iald dX4_closeGap_20 (by assumption) (by omega) (by omega) (by decide) ?_
        refine G_iast dX4_closeGap_21 (by assumption) (by omega) (by omega) (by decide) rfl ?_
        refine G_iinc dX4_closeGap_22 (by decide) rfl rfl ?_
        refine G_goto (tgt := 6) dX4_closeGap_25 (by decide) ?_
        rw [List.set_set, gapN_s (by omega)]
        exact ih (i + 1) (by omega) (by omega) (by omega)
  refine G_iload_n dX4_closeGap_0 rfl rfl ?_
  refine G_iconst dX4_closeGap_1 ?_
  refine G_max dX4_closeGap_2 mm_X4_58 (inR_of (by omega) (by omega)) (inR_of (by omega) (by omega)) (Nat.le_of_ble_eq_true rfl) (Nat.le_of_ble_eq_true rfl) ?_
  refine G_istore_n dX4_closeGap_5 rfl (by decide) rfl ?_
  rw [show max g 0 = g by omega]
  have e0 : h = h.set a (oI 6 (gapN q g g)) := by rw [gapN_0]; exact (set_same ha).symm
  have k := L 6 g (by omega) (by omega) (by omega)
  rw [← e0] at k
  exact k
end
section
def sinkR (c : Int → Int) (n k q : Int) : Int := if ¬ (0 ≤ k ∧ k < 40) then -1 else if ¬ (1 ≤ q ∧ q ≤ 30) then -2 else if besN c k n.toNat ≠ -5 then -4 else if 6 ≤ n then -3 else n
def fillR (s : Int → Int) (n w : Int) : Int := if 0 ≤ w ∧ w < n then s w else -1
def rateR (r : Int → Int) (n w q : Int) : Int := if ¬ (0 ≤ w ∧ w < n) then -1 else if ¬ (1 ≤ q ∧ q ≤ 30) then -2 else if r w = q then -5 else r w
def tellR (c r s z d t : Int → Int) (n w k : Int) : Int := if ¬ (0 ≤ w ∧ w < n) then -1 else if k = 0 then c w else if k = 1 then r w else if k = 2 then s w else if k = 3 then z w else if k = 4 then conI c r z n w else if k = 5 then d w else if k = 6 then t w else -2
set_option maxRecDepth 100000 in
set_option maxHeartbeats 4000000 in
theorem c_X4_add (h : List PO) (b : Nat) (c r s z d t : Int → Int) (n : Int) (k q : Int) (hW : welF h b c r s z d t n) (hn : 0 ≤ n ∧ n ≤ 6) (hc : RG 0 39 n c) (hdi : ∀ w u : Int, 0 ≤ w → w < n → 0 ≤ u → u < n → c w = c u → w = u) (hk : inR k) (hq : inR q) : PM 2 yX4_add cX4_add 4 (some .int) h [r_ b, i_ k, i_ q] (fun r0 h2 => r0 = some (i_ (sinkR c n k q)) ∧ Fr h h2 b (b + 7) ∧ (if 0 ≤ sinkR c n k q then welF h2 b (fup c n k) (fup r n q) (fup s n 0) (fup z n 0) (fup d n 0) (fup t n 0) (n + 1) else h = h2)) := by
  refine PM_of_G RX4 [some (r_ b), some (i_ k), some (i_ q), none] rfl (by decide +kernel) (Nat.le_of_ble_eq_true rfl) rfl ?_
  obtain ⟨hW0, hW1, hW2, hW3, hW4, hW5, hW6⟩ := id hW
  have hk1 := hk.1
  have hk2 := hk.2
  have hq1 := hq.1
  have hq2 := hq.2
  have hF : Fr h h b (b + 7) := Fr.rf
  have hbr := besN_rng (q := c) (c := k) n.toNat
  refine G_iload_n dX4_add_0 rfl rfl ?_
  refine G_callSN (as := [_]) (c_X5_isCell h k hk) dX4_add_1 (fun _ _ E => E.2.1.2.1) cs_X5_isCell rfl (Nat.le_of_ble_eq_true rfl) (Nat.le_of_ble_eq_true rfl) rfl (fun r h2 hp => ?_)
  obtain ⟨y, rfl, rfl, hy⟩ := hp
  refine G_if_ne (tgt := 9) dX4_add_4 (by decide) (inR_of (by omega) (by omega)) (fun hc4 => ?_) (fun hc4 => ?_)
  · skip
    refine G_iload_n dX4_add_9 rfl rfl ?_
    refine G_callS (as := [_]) (c_X4_isRate h q hq) dX4_add_10 ml_X4_47 cs_X4_isRate rfl (Nat.le_of_ble_eq_true rfl) (Nat.le_of_ble_eq_true rfl) rfl (fun r h2 hp => ?_)
    obtain ⟨x, rfl, rfl, hx⟩ := hp
    refine G_if_ne (tgt := 19) dX4_add_13 (by decide) (inR_of (by omega) (by omega)) (fun hc13 => ?_) (fun hc13 => ?_)
    · skip
      refine G_aload_n dX4_add_19 rfl rfl ?_
      refine G_iload_n dX4_add_20 rfl rfl ?_
      refine G_callV (ci := 4) (as := [_]) (c_X4_beside h b c r s z d t n k hW hn hc hdi hk) dX4_add_21 ml_X4_50 cv_X4_beside (by assumption) rfl rfl (Nat.le_of_ble_eq_true rfl) (Nat.le_of_ble_eq_true rfl) rfl (fun r h2 hp => ?_)
      obtain ⟨rfl, rfl⟩ := hp
      refine G_bipush dX4_add_24 rfl ?_
      refine G_icmp_eq (tgt := 32) dX4_add_26 (by decide) (inR_of (by omega) (by omega)) (inR_of (by omega) (by omega)) (fun hc26 => ?_) (fun hc26 => ?_)
      · skip
        refine G_aload_n dX4_add_32 rfl rfl ?_
        refine G_getf fl_X4_36 dX4_add_33 (by assumption) rfl ?_
        refine G_istore_n dX4_add_36 rfl (by decide) rfl ?_
        refine G_iload_n dX4_add_37 rfl rfl ?_
        refine G_if_lt (tgt := 47) dX4_add_38 (by decide) (inR_of (by omega) (by omega)) (fun hc38 => ?_) (fun hc38 => ?_)
        · skip
          exfalso; omega
        · skip
          refine G_iload_n dX4_add_41 rfl rfl ?_
          refine G_bipush dX4_add_42 rfl ?_
          refine G_icmp_lt (tgt := 50) dX4_add_44 (by decide) (inR_of (by omega) (by omega)) (inR_of (by omega) (by omega)) (fun hc44 => ?_) (fun hc44 => ?_)
          · skip
            refine G_aload_n dX4_add_50 rfl rfl ?_
            refine G_getf fl_X4_9 dX4_add_51 (by assumption) rfl ?_
            refine G_iload_n dX4_add_54 rfl rfl ?_
            refine G_iload_n dX4_add_55 rfl rfl ?_
            refine G_iast dX4_add_56 (by assumption) (by omega) (by omega) (by decide) rfl ?_
            have hW := hW.set1 (fup c n k)
            obtain ⟨hW0, hW1, hW2, hW3, hW4, hW5, hW6⟩ := id hW
            have hF := hF.tr (Fr.set (o := oI 6 (fup c n k)) (show b ≤ b + 1 by omega) (show b + 1 < b + 7 by omega))
            refine G_aload_n dX4_add_57 rfl rfl ?_
            refine G_getf fl_X4_15 dX4_add_58 (by assumption) rfl ?_
            refine G_iload_n dX4_add_61 rfl rfl ?_
            refine G_iload_n dX4_add_62 rfl rfl ?_
            refine G_iast dX4_add_63 (by assumption) (by omega) (by omega) (by decide) rfl ?_
            have hW := hW.set2 (fup r n q)
            obtain ⟨hW0, hW1, hW2, hW3, hW4, hW5, hW6⟩ := id hW
            have hF := hF.tr (Fr.set (o := oI 6 (fup r n q)) (show b ≤ b + 2 by omega) (show b + 2 < b + 7 by omega))
            refine G_aload_n dX4_add_64 rfl rfl ?_
            refine G_getf fl_X4_18 dX4_add_65 (by assumption) rfl ?_
            refine G_iload_n dX4_add_68 rfl rfl ?_
            refine G_iconst dX4_add_69 ?_
            refine G_iast dX4_add_70 (by assumption) (by omega) (by omega) (by decide) rfl ?_
            have hW := hW.set3 (fup s n 0)
            obtain ⟨hW0, hW1, hW2, hW3, hW4, hW5, hW6⟩ := id hW
            have hF := hF.tr (Fr.set (o := oI 6 (fup s n 0)) (show b ≤ b + 3 by omega) (show b + 3 < b + 7 by omega))
            refine G_aload_n dX4_add_71 rfl rfl ?_
            refine G_getf fl_X4_21 dX4_add_72 (by assumption) rfl ?_
            refine G_iload_n dX4_add_75 rfl rfl ?_
            refine G_iconst dX4_add_76 ?_
            refine G_iast dX4_add_77 (by assumption) (by omega) (by omega) (by decide) rfl ?_
            have hW := hW.set4 (fup z n 0)
            obtain ⟨hW0, hW1, hW2, hW3, hW4, hW5, hW6⟩ := id hW
            have hF := hF.tr (Fr.set (o := oI 6 (fup z n 0)) (show b ≤ b + 4 by omega) (show b + 4 < b + 7 by omega))
            refine G_aload_n dX4_add_78 rfl rfl ?_
            refine G_getf fl_X4_24 dX4_add_79 (by assumption) rfl ?_
            refine G_iload_n dX4_add_82 rfl rfl ?_
            refine G_iconst dX4_add_83 ?_
            refine G_iast dX4_add_84 (by assumption) (by omega) (by omega) (by decide) rfl ?_
            have hW := hW.set5 (fup d n 0)
            obtain ⟨hW0, hW1, hW2, hW3, hW4, hW5, hW6⟩ := id hW
            have hF := hF.tr (Fr.set (o := oI 6 (fup d n 0)) (show b ≤ b + 5 by omega) (show b + 5 < b + 7 by omega))
            refine G_aload_n dX4_add_85 rfl rfl ?_
            refine G_getf fl_X4_27 dX4_add_86 (by assumption) rfl ?_
            refine G_iload_n dX4_add_89 rfl rfl ?_
            refine G_iconst dX4_add_90 ?_
            refine G_iast dX4_add_91 (by assumption) (by omega) (by omega) (by decide) rfl ?_
            have hW := hW.set6 (fup t n 0)
            obtain ⟨hW0, hW1, hW2, hW3, hW4, hW5, hW6⟩ := id hW
            have hF := hF.tr (Fr.set (o := oI 6 (fup t n 0)) (show b ≤ b + 6 by omega) (show b + 6 < b + 7 by omega))
            refine G_aload_n dX4_add_92 rfl rfl ?_
            refine G_iload_n dX4_add_93 rfl rfl ?_
            refine G_iconst dX4_add_94 ?_
            refine G_iadd dX4_add_95 ?_
            refine G_putI fp_X4_36 dX4_add_96 (by assumption) (Nat.le_of_ble_eq_true rfl) rfl ?_
            have hW := hW.set0 (n + 1)
            have hF := hF.tr (Fr.set (o := oWel b (n + 1)) (show b ≤ b by omega) (show b < b + 7 by omega))
            refine G_iload_n dX4_add_99 rfl rfl ?_
            refine G_ireturn dX4_add_100 rfl ?_
            have e : sinkR c n k q = n := by unfold sinkR; rw [if_neg (by omega), if_neg (by omega), if_neg (by omega), if_neg (by omega)]
            exact ⟨by rw [e], hF, by rw [e, if_pos (by omega)]; exact hW⟩
          · skip
            refine G_bipush dX4_add_47 rfl ?_
            refine G_ireturn dX4_add_49 rfl ?_
            have e : sinkR c n k q = -3 := by unfold sinkR; rw [if_neg (by omega), if_neg (by omega), if_neg (by omega), if_pos (by omega)]
            exact ⟨by rw [e], Fr.rf, by rw [e, if_neg (by omega)]⟩
      · skip
        refine G_bipush dX4_add_29 rfl ?_
        refine G_ireturn dX4_add_31 rfl ?_
        have e : sinkR c n k q = -4 := by unfold sinkR; rw [if_neg (by omega), if_neg (by omega), if_pos (by omega)]
        exact ⟨by rw [e], Fr.rf, by rw [e, if_neg (by omega)]⟩
    · skip
      refine G_bipush dX4_add_16 rfl ?_
      refine G_ireturn dX4_add_18 rfl ?_
      have e : sinkR c n k q = -2 := by unfold sinkR; rw [if_neg (by omega), if_pos (by omega)]
      exact ⟨by rw [e], Fr.rf, by rw [e, if_neg (by omega)]⟩
  · skip
    refine G_iconst dX4_add_7 ?_
    refine G_ireturn dX4_add_8 rfl ?_
    have e : sinkR c n k q = -1 := by unfold sinkR; rw [if_pos (by omega)]
    exact ⟨by rw [e], Fr.rf, by rw [e, if_neg (by omega)]⟩
set_option maxRecDepth 100000 in
set_option maxHeartbeats 4000000 in
theorem c_X4_remove (h : List PO) (b : Nat) (c r s z d t : Int → Int) (n : Int) (w : Int) (hW : welF h b c r s z d t n) (hn : 0 ≤ n ∧ n ≤ 6) (hw : inR w) : PM 2 yX4_remove cX4_remove 3 (some .int) h [r_ b, i_ w] (fun r0 h2 => r0 = some (i_ (fillR s n w)) ∧ Fr h h2 b (b + 7) ∧ (if 0 ≤ w ∧ w < n then welF h2 b (gapF c w) (gapF r w) (gapF s w) (gapF z w) (gapF d w) (gapF t w) (n - 1) else h = h2)) := by
  refine PM_of_G RX4 [some (r_ b), some (i_ w), none] rfl (by decide +kernel) (Nat.le_of_ble_eq_true rfl) rfl ?_
  obtain ⟨hW0, hW1, hW2, hW3, hW4, hW5, hW6⟩ := id hW
  have hw1 := hw.1
  have hw2 := hw.2
  have hF : Fr h h b (b + 7) := Fr.rf
  refine G_aload_n dX4_remove_0 rfl rfl ?_
  refine G_iload_n dX4_remove_1 rfl rfl ?_
  refine G_callV (ci := 4) (as := [_]) (c_X4_has h b c r s z d t n w hW hn (inR_of (by omega) (by omega))) dX4_remove_2 ml_X4_40 cv_X4_has (by assumption) rfl rfl (Nat.le_of_ble_eq_true rfl) (Nat.le_of_ble_eq_true rfl) rfl (fun r h2 hp => ?_)
  obtain ⟨y, rfl, rfl, hy⟩ := hp
  refine G_if_ne (tgt := 10) dX4_remove_5 (by decide) (inR_of (by omega) (by omega)) (fun hc5 => ?_) (fun hc5 => ?_)
  · skip
    refine G_aload_n dX4_remove_10 rfl rfl ?_
    refine G_getf fl_X4_18 dX4_remove_11 (by assumption) rfl ?_
    refine G_iload_n dX4_remove_14 rfl rfl ?_
    refine G_iald dX4_remove_15 (by assumption) (by omega) (by omega) (by decide) ?_
    refine G_istore_n dX4_remove_16 rfl (by decide) rfl ?_
    refine G_aload_n dX4_remove_17 rfl rfl ?_
    refine G_getf fl_X4_9 dX4_remove_18 (by assumption) rfl ?_
    refine G_iload_n dX4_remove_21 rfl rfl ?_
    refine G_callS (as := [_, _]) (c_X4_closeGap _ (b + 1) c w (by assumption) ⟨by omega, by omega⟩) dX4_remove_22 ml_X4_54 cs_X4_closeGap rfl (Nat.le_of_ble_eq_true rfl) (Nat.le_of_ble_eq_true rfl) rfl (fun r h2 hp => ?_)
    obtain ⟨rfl, rfl⟩ := hp
    have hW := hW.set1 (gapF c w)
    obtain ⟨hW0, hW1, hW2, hW3, hW4, hW5, hW6⟩ := id hW
    have hF := hF.tr (Fr.set (o := oI 6 (gapF c w)) (show b ≤ b + 1 by omega) (show b + 1 < b + 7 by omega))
    refine G_aload_n dX4_remove_25 rfl rfl ?_
    refine G_getf fl_X4_15 dX4_remove_26 (by assumption) rfl ?_
    refine G_iload_n dX4_remove_29 rfl rfl ?_
    refine G_callS (as := [_, _]) (c_X4_closeGap _ (b + 2) r w (by assumption) ⟨by omega, by omega⟩) dX4_remove_30 ml_X4_54 cs_X4_closeGap rfl (Nat.le_of_ble_eq_true rfl) (Nat.le_of_ble_eq_true rfl) rfl (fun r h2 hp => ?_)
    obtain ⟨rfl, rfl⟩ := hp
    have hW := hW.set2 (gapF r w)
    obtain ⟨hW0, hW1, hW2, hW3, hW4, hW5, hW6⟩ := id hW
    have hF := hF.tr (Fr.set (o := oI 6 (gapF r w)) (show b ≤ b + 2 by omega) (show b + 2 < b + 7 by omega))
    refine G_aload_n dX4_remove_33 rfl rfl ?_
    refine G_getf fl_X4_18 dX4_remove_34 (by assumption) rfl ?_
    refine G_iload_n dX4_remove_37 rfl rfl ?_
    refine G_callS (as := [_, _]) (c_X4_closeGap _ (b + 3) s w (by assumption) ⟨by omega, by omega⟩) dX4_remove_38 ml_X4_54 cs_X4_closeGap rfl (Nat.le_of_ble_eq_true rfl) (Nat.le_of_ble_eq_true rfl) rfl (fun r h2 hp => ?_)
    obtain ⟨rfl, rfl⟩ := hp
    have hW := hW.set3 (gapF s w)
    obtain ⟨hW0, hW1, hW2, hW3, hW4, hW5, hW6⟩ := id hW
    have hF := hF.tr (Fr.set (o := oI 6 (gapF s w)) (show b ≤ b + 3 by omega) (show b + 3 < b + 7 by omega))
    refine G_aload_n dX4_remove_41 rfl rfl ?_
    refine G_getf fl_X4_21 dX4_remove_42 (by assumption) rfl ?_
    refine G_iload_n dX4_remove_45 rfl rfl ?_
    refine G_callS (as := [_, _]) (c_X4_closeGap _ (b + 4) z w (by assumption) ⟨by omega, by omega⟩) dX4_remove_46 ml_X4_54 cs_X4_closeGap rfl (Nat.le_of_ble_eq_true rfl) (Nat.le_of_ble_eq_true rfl) rfl (fun r h2 hp => ?_)
    obtain ⟨rfl, rfl⟩ := hp
    have hW := hW.set4 (gapF z w)
    obtain ⟨hW0, hW1, hW2, hW3, hW4, hW5, hW6⟩ := id hW
    have hF := hF.tr (Fr.set (o := oI 6 (gapF z w)) (show b ≤ b + 4 by omega) (show b + 4 < b + 7 by omega))
    refine G_aload_n dX4_remove_49 rfl rfl ?_
    refine G_getf fl_X4_24 dX4_remove_50 (by assumption) rfl ?_
    refine G_iload_n dX4_remove_53 rfl rfl ?_
    refine G_callS (as := [_, _]) (c_X4_closeGap _ (b + 5) d w (by assumption) ⟨by omega, by omega⟩) dX4_remove_54 ml_X4_54 cs_X4_closeGap rfl (Nat.le_of_ble_eq_true rfl) (Nat.le_of_ble_eq_true rfl) rfl (fun r h2 hp => ?_)
    obtain ⟨rfl, rfl⟩ := hp
    have hW := hW.set5 (gapF d w)
    obtain ⟨hW0, hW1, hW2, hW3, hW4, hW5, hW6⟩ := id hW
    have hF := hF.tr (Fr.set (o := oI 6 (gapF d w)) (show b ≤ b + 5 by omega) (show b + 5 < b + 7 by omega))
    refine G_aload_n dX4_remove_57 rfl rfl ?_
    refine G_getf fl_X4_27 dX4_remove_58 (by assumption) rfl ?_
    refine G_iload_n dX4_remove_61 rfl rfl ?_
    refine G_callS (as := [_, _]) (c_X4_closeGap _ (b + 6) t w (by assumption) ⟨by omega, by omega⟩) dX4_remove_62 ml_X4_54 cs_X4_closeGap rfl (Nat.le_of_ble_eq_true rfl) (Nat.le_of_ble_eq_true rfl) rfl (fun r h2 hp => ?_)
    obtain ⟨rfl, rfl⟩ := hp
    have hW := hW.set6 (gapF t w)
    obtain ⟨hW0, hW1, hW2, hW3, hW4, hW5, hW6⟩ := id hW
    have hF := hF.tr (Fr.set (o := oI 6 (gapF t w)) (show b ≤ b + 6 by omega) (show b + 6 < b + 7 by omega))
    refine G_aload_n dX4_remove_65 rfl rfl ?_
    refine G_dup dX4_remove_66 ?_
    refine G_getf fl_X4_36 dX4_remove_67 (by assumption) rfl ?_
    refine G_iconst dX4_remove_70 ?_
    refine G_isub dX4_remove_71 ?_
    refine G_putI fp_X4_36 dX4_remove_72 (by assumption) (Nat.le_of_ble_eq_true rfl) rfl ?_
    have hW := hW.set0 (n - 1)
    have hF := hF.tr (Fr.set (o := oWel b (n - 1)) (show b ≤ b by omega) (show b < b + 7 by omega))
    refine G_iload_n dX4_remove_75 rfl rfl ?_
    refine G_ireturn dX4_remove_76 rfl ?_
    exact ⟨by unfold fillR; rw [if_pos (by omega)], hF, by rw [if_pos (by omega)]; exact hW⟩
  · skip
    refine G_iconst dX4_remove_8 ?_
    refine G_ireturn dX4_remove_9 rfl ?_
    exact ⟨by unfold fillR; rw [if_neg (by omega)], Fr.rf, by rw [if_neg (by omega)]⟩
set_option maxRecDepth 100000 in
set_option maxHeartbeats 4000000 in
theorem c_X4_changeRate (h : List PO) (b : Nat) (c r s z d t : Int → Int) (n : Int) (w q : Int) (hW : welF h b c r s z d t n) (hn : 0 ≤ n ∧ n ≤ 6) (hr : RG 1 30 n r) (hw : inR w) (hq : inR q) : PM 1 yX4_changeRate cX4_changeRate 4 (some .int) h [r_ b, i_ w, i_ q] (fun r0 h2 => r0 = some (i_ (rateR r n w q)) ∧ (if 0 ≤ rateR r n w q then h.set (b + 2) (oI 6 (fup r w q)) else h) = h2) := by
  refine PM_of_G RX4 [some (r_ b), some (i_ w), some (i_ q), none] rfl (by decide +kernel) (Nat.le_of_ble_eq_true rfl) rfl ?_
  obtain ⟨hW0, hW1, hW2, hW3, hW4, hW5, hW6⟩ := id hW
  have hw1 := hw.1
  have hw2 := hw.2
  have hq1 := hq.1
  have hq2 := hq.2
  refine G_aload_n dX4_changeRate_0 rfl rfl ?_
  refine G_iload_n dX4_changeRate_1 rfl rfl ?_
  refine G_callV (ci := 4) (as := [_]) (c_X4_has h b c r s z d t n w hW hn (inR_of (by omega) (by omega))) dX4_changeRate_2 ml_X4_40 cv_X4_has (by assumption) rfl rfl (Nat.le_of_ble_eq_true rfl) (Nat.le_of_ble_eq_true rfl) rfl (fun r h2 hp => ?_)
  obtain ⟨y, rfl, rfl, hy⟩ := hp
  refine G_if_ne (tgt := 10) dX4_changeRate_5 (by decide) (inR_of (by omega) (by omega)) (fun hc5 => ?_) (fun hc5 => ?_)
  · skip
    refine G_iload_n dX4_changeRate_10 rfl rfl ?_
    refine G_callS (as := [_]) (c_X4_isRate h q hq) dX4_changeRate_11 ml_X4_47 cs_X4_isRate rfl (Nat.le_of_ble_eq_true rfl) (Nat.le_of_ble_eq_true rfl) rfl (fun r h2 hp => ?_)
    obtain ⟨x, rfl, rfl, hx⟩ := hp
    refine G_if_ne (tgt := 20) dX4_changeRate_14 (by decide) (inR_of (by omega) (by omega)) (fun hc14 => ?_) (fun hc14 => ?_)
    · skip
      refine G_aload_n dX4_changeRate_20 rfl rfl ?_
      refine G_getf fl_X4_15 dX4_changeRate_21 (by assumption) rfl ?_
      refine G_iload_n dX4_changeRate_24 rfl rfl ?_
      refine G_iald dX4_changeRate_25 (by assumption) (by omega) (by omega) (by decide) ?_
      have hrw := hr w (by omega) (by omega)
      refine G_istore_n dX4_changeRate_26 rfl (by decide) rfl ?_
      refine G_aload_n dX4_changeRate_27 rfl rfl ?_
      refine G_getf fl_X4_15 dX4_changeRate_28 (by assumption) rfl ?_
      refine G_iload_n dX4_changeRate_31 rfl rfl ?_
      refine G_iload_n dX4_changeRate_32 rfl rfl ?_
      refine G_iast dX4_changeRate_33 (by assumption) (by omega) (by omega) (by decide) rfl ?_
      refine G_iload_n dX4_changeRate_34 rfl rfl ?_
      refine G_iload_n dX4_changeRate_35 rfl rfl ?_
      refine G_icmp_ne (tgt := 44) dX4_changeRate_36 (by decide) (inR_of (by omega) (by omega)) (inR_of (by omega) (by omega)) (fun hc36 => ?_) (fun hc36 => ?_)
      · skip
        refine G_iload_n dX4_changeRate_44 rfl rfl ?_
        refine G_ireturn dX4_changeRate_45 rfl ?_
        first
          | (have e : rateR r n w q = -5 := by unfold rateR; rw [if_neg (by omega), if_neg (by omega), if_pos (by omega)]
             exact ⟨by rw [e], by rw [e, if_neg (by omega), fup_same (by omega)]; exact (set_same hW2).symm⟩)
          | (have e : rateR r n w q = r w := by unfold rateR; rw [if_neg (by omega), if_neg (by omega), if_neg (by omega)]
             exact ⟨by rw [e], by rw [e, if_pos (by omega)]⟩)
      · skip
        refine G_bipush dX4_changeRate_39 rfl ?_
        refine G_goto (tgt := 45) dX4_changeRate_41 (by decide) ?_
        refine G_ireturn dX4_changeRate_45 rfl ?_
        first
          | (have e : rateR r n w q = -5 := by unfold rateR; rw [if_neg (by omega), if_neg (by omega), if_pos (by omega)]
             exact ⟨by rw [e], by rw [e, if_neg (by omega), fup_same (by omega)]; exact (set_same hW2).symm⟩)
          | (have e : rateR r n w q = r w := by unfold rateR; rw [if_neg (by omega), if_neg (by omega), if_neg (by omega)]
             exact ⟨by rw [e], by rw [e, if_pos (by omega)]⟩)
    · skip
      refine G_bipush dX4_changeRate_17 rfl ?_
      refine G_ireturn dX4_changeRate_19 rfl ?_
      have e : rateR r n w q = -2 := by unfold rateR; rw [if_neg (by omega), if_pos (by omega)]
      exact ⟨by rw [e], by rw [e, if_neg (by omega)]⟩
  · skip
    refine G_iconst dX4_changeRate_8 ?_
    refine G_ireturn dX4_changeRate_9 rfl ?_
    have e : rateR r n w q = -1 := by unfold rateR; rw [if_pos (by omega)]
    exact ⟨by rw [e], by rw [e, if_neg (by omega)]⟩
set_option maxRecDepth 100000 in
set_option maxHeartbeats 4000000 in
theorem c_X4_tell (h : List PO) (b : Nat) (c r s z d t : Int → Int) (n : Int) (w k : Int) (hW : welF h b c r s z d t n) (hn : 0 ≤ n ∧ n ≤ 6) (hc : RG 0 39 n c) (hr : RG 1 30 n r) (hz : RG 0 1 n z) (hw : inR w) (hk : inR k) : PM 2 yX4_tell cX4_tell 3 (some .int) h [r_ b, i_ w, i_ k] (fun r0 h2 => r0 = some (i_ (tellR c r s z d t n w k)) ∧ h = h2) := by
  refine PM_of_G RX4 [some (r_ b), some (i_ w), some (i_ k)] rfl (by decide +kernel) (Nat.le_of_ble_eq_true rfl) rfl ?_
  obtain ⟨hW0, hW1, hW2, hW3, hW4, hW5, hW6⟩ := id hW
  have hw1 := hw.1
  have hw2 := hw.2
  have hk1 := hk.1
  have hk2 := hk.2
  refine G_aload_n dX4_tell_0 rfl rfl ?_
  refine G_iload_n dX4_tell_1 rfl rfl ?_
  refine G_callV (ci := 4) (as := [_]) (c_X4_has h b c r s z d t n w hW hn (inR_of (by omega) (by omega))) dX4_tell_2 ml_X4_40 cv_X4_has (by assumption) rfl rfl (Nat.le_of_ble_eq_true rfl) (Nat.le_of_ble_eq_true rfl) rfl (fun r h2 hp => ?_)
  obtain ⟨y, rfl, rfl, hy⟩ := hp
  refine G_if_ne (tgt := 10) dX4_tell_5 (by decide) (inR_of (by omega) (by omega)) (fun hc5 => ?_) (fun hc5 => ?_)
  · skip
    refine G_iload_n dX4_tell_10 rfl rfl ?_
    rcases (show (k < 0 ∨ 6 < k) ∨ k = 0 ∨ k = 1 ∨ k = 2 ∨ k = 3 ∨ k = 4 ∨ k = 5 ∨ k = 6 from by omega) with hsw | hsw | hsw | hsw | hsw | hsw | hsw | hsw
    · skip
      refine G_tblOut (tgt := 100) dX4_tell_11 (inR_of (by omega) (by omega)) hsw (by decide) ?_
      refine G_bipush dX4_tell_100 rfl ?_
      refine G_ireturn dX4_tell_102 rfl ?_
      exact ⟨by unfold tellR; rw [if_neg (by omega), if_neg (by omega), if_neg (by omega), if_neg (by omega), if_neg (by omega), if_neg (by omega), if_neg (by omega), if_neg (by omega)], rfl⟩
    · skip
      subst hsw
      refine G_tblIn (tgt := 52) dX4_tell_11 (inR_of (by omega) (by omega)) (by omega) (by omega) rfl (by decide) ?_
      refine G_aload_n dX4_tell_52 rfl rfl ?_
      refine G_getf fl_X4_9 dX4_tell_53 (by assumption) rfl ?_
      refine G_iload_n dX4_tell_56 rfl rfl ?_
      refine G_iald dX4_tell_57 (by assumption) (by omega) (by omega) (by decide) ?_
      refine G_ireturn dX4_tell_58 rfl ?_
      exact ⟨by unfold tellR; rw [if_neg (by omega), if_pos (by omega)], rfl⟩
    · skip
      subst hsw
      refine G_tblIn (tgt := 59) dX4_tell_11 (inR_of (by omega) (by omega)) (by omega) (by omega) rfl (by decide) ?_
      refine G_aload_n dX4_tell_59 rfl rfl ?_
      refine G_getf fl_X4_15 dX4_tell_60 (by assumption) rfl ?_
      refine G_iload_n dX4_tell_63 rfl rfl ?_
      refine G_iald dX4_tell_64 (by assumption) (by omega) (by omega) (by decide) ?_
      refine G_ireturn dX4_tell_65 rfl ?_
      exact ⟨by unfold tellR; rw [if_neg (by omega), if_neg (by omega), if_pos (by omega)], rfl⟩
    · skip
      subst hsw
      refine G_tblIn (tgt := 66) dX4_tell_11 (inR_of (by omega) (by omega)) (by omega) (by omega) rfl (by decide) ?_
      refine G_aload_n dX4_tell_66 rfl rfl ?_
      refine G_getf fl_X4_18 dX4_tell_67 (by assumption) rfl ?_
      refine G_iload_n dX4_tell_70 rfl rfl ?_
      refine G_iald dX4_tell_71 (by assumption) (by omega) (by omega) (by decide) ?_
      refine G_ireturn dX4_tell_72 rfl ?_
      exact ⟨by unfold tellR; rw [if_neg (by omega), if_neg (by omega), if_neg (by omega), if_pos (by omega)], rfl⟩
    · skip
      subst hsw
      refine G_tblIn (tgt := 73) dX4_tell_11 (inR_of (by omega) (by omega)) (by omega) (by omega) rfl (by decide) ?_
      refine G_aload_n dX4_tell_73 rfl rfl ?_
      refine G_getf fl_X4_21 dX4_tell_74 (by assumption) rfl ?_
      refine G_iload_n dX4_tell_77 rfl rfl ?_
      refine G_iald dX4_tell_78 (by assumption) (by omega) (by omega) (by decide) ?_
      refine G_ireturn dX4_tell_79 rfl ?_
      exact ⟨by unfold tellR; rw [if_neg (by omega), if_neg (by omega), if_neg (by omega), if_neg (by omega), if_pos (by omega)], rfl⟩
    · skip
      subst hsw
      refine G_tblIn (tgt := 80) dX4_tell_11 (inR_of (by omega) (by omega)) (by omega) (by omega) rfl (by decide) ?_
      refine G_aload_n dX4_tell_80 rfl rfl ?_
      refine G_iload_n dX4_tell_81 rfl rfl ?_
      refine G_callV (ci := 4) (as := [_]) (c_X4_coneOf h b c r s z d t n w hW hn hc hr hz hw) dX4_tell_82 ml_X4_64 cv_X4_coneOf (by assumption) rfl rfl (Nat.le_of_ble_eq_true rfl) (Nat.le_of_ble_eq_true rfl) rfl (fun r h2 hp => ?_)
      obtain ⟨rfl, rfl⟩ := hp
      refine G_ireturn dX4_tell_85 rfl ?_
      exact ⟨by unfold tellR; rw [if_neg (by omega), if_neg (by omega), if_neg (by omega), if_neg (by omega), if_neg (by omega), if_pos (by omega)], rfl⟩
    · skip
      subst hsw
      refine G_tblIn (tgt := 86) dX4_tell_11 (inR_of (by omega) (by omega)) (by omega) (by omega) rfl (by decide) ?_
      refine G_aload_n dX4_tell_86 rfl rfl ?_
      refine G_getf fl_X4_24 dX4_tell_87 (by assumption) rfl ?_
      refine G_iload_n dX4_tell_90 rfl rfl ?_
      refine G_iald dX4_tell_91 (by assumption) (by omega) (by omega) (by decide) ?_
      refine G_ireturn dX4_tell_92 rfl ?_
      exact ⟨by unfold tellR; rw [if_neg (by omega), if_neg (by omega), if_neg (by omega), if_neg (by omega), if_neg (by omega), if_neg (by omega), if_pos (by omega)], rfl⟩
    · skip
      subst hsw
      refine G_tblIn (tgt := 93) dX4_tell_11 (inR_of (by omega) (by omega)) (by omega) (by omega) rfl (by decide) ?_
      refine G_aload_n dX4_tell_93 rfl rfl ?_
      refine G_getf fl_X4_27 dX4_tell_94 (by assumption) rfl ?_
      refine G_iload_n dX4_tell_97 rfl rfl ?_
      refine G_iald dX4_tell_98 (by assumption) (by omega) (by omega) (by decide) ?_
      refine G_ireturn dX4_tell_99 rfl ?_
      exact ⟨by unfold tellR; rw [if_neg (by omega), if_neg (by omega), if_neg (by omega), if_neg (by omega), if_neg (by omega), if_neg (by omega), if_neg (by omega), if_pos (by omega)], rfl⟩
  · skip
    refine G_iconst dX4_tell_8 ?_
    refine G_ireturn dX4_tell_9 rfl ?_
    exact ⟨by unfold tellR; rw [if_pos (by omega)], rfl⟩
set_option maxRecDepth 100000 in
set_option maxHeartbeats 4000000 in
theorem c_X4_sumOf (h : List PO) (b : Nat) (c r s z d t : Int → Int) (n : Int) (a : Nat) (q : Int → Int) (hW : welF h b c r s z d t n) (hn : 0 ≤ n ∧ n ≤ 6) (ha : h[a]? = some (oI 6 q)) : PM 0 yX4_sumOf cX4_sumOf 4 (some .int) h [r_ b, r_ a] (fun r0 h2 => r0 = some (i_ (sumN q n.toNat)) ∧ h = h2) := by
  refine PM_of_G RX4 [some (r_ b), some (r_ a), none, none] rfl (by decide +kernel) (Nat.le_of_ble_eq_true rfl) rfl ?_
  obtain ⟨hW0, hW1, hW2, hW3, hW4, hW5, hW6⟩ := id hW
  have L : ∀ (fu : Nat) (i : Int), 0 ≤ i → i ≤ n → n - i < fu → G 0 cX4_sumOf RX4 4 (some .int) h 4 [some (r_ b), some (r_ a), some (i_ (sumN q i.toNat)), some (i_ i)] [] (fun r0 h2 => r0 = some (i_ (sumN q n.toNat)) ∧ h = h2) := by
    intro fu
    induction fu with
    | zero => intro i a1 a2 hmeas; exfalso; omega
    | succ fu ih =>
      intro i a1 a2 hmeas
      refine G_iload_n dX4_sumOf_4 rfl rfl ?_
      refine G_aload_n dX4_sumOf_5 rfl rfl ?_
      refine G_getf fl_X4_36 dX4_sumOf_6 (by assumption) rfl ?_
      refine G_icmp_ge (tgt := 30) dX4_sumOf_9 (by decide) (inR_of (by omega) (by omega)) (inR_of (by omega) (by omega)) (fun hc9 => ?_) (fun hc9 => ?_)
      · skip
        have e : i = n := by omega
        subst e
        refine G_iload_n dX4_sumOf_30 rfl rfl ?_
        refine G_ireturn dX4_sumOf_31 rfl ?_
        exact ⟨rfl, rfl⟩
      · skip
        refine G_iload_n dX4_sumOf_12 rfl rfl ?_
        refine G_aload_n dX4_sumOf_13 rfl rfl ?_
        refine G_alen dX4_sumOf_14 (by assumption) ?_
        refine G_icmp_ge (tgt := 30) dX4_sumOf_15 (by decide) (inR_of (by omega) (by omega)) (inR_of (by omega) (by omega)) (fun hc15 => ?_) (fun hc15 => ?_)
        · skip
          exfalso; omega
        · skip
          refine G_iload_n dX4_sumOf_18 rfl rfl ?_
          refine G_aload_n dX4_sumOf_19 rfl rfl ?_
          refine G_iload_n dX4_sumOf_20 rfl rfl ?_
          refine G_iald dX4_sumOf_21 (by assumption) (by omega) (by omega) (by decide) ?_
          refine G_iadd dX4_sumOf_22 ?_
          refine G_istore_n dX4_sumOf_23 rfl (by decide) rfl ?_
          refine G_iinc dX4_sumOf_24 (by decide) rfl rfl ?_
          refine G_goto (tgt := 4) dX4_sumOf_27 (by decide) ?_
          rw [← sumN_s a1]
          exact ih (i + 1) (by omega) (by omega) (by omega)
  refine G_iconst dX4_sumOf_0 ?_
  refine G_istore_n dX4_sumOf_1 rfl (by decide) rfl ?_
  refine G_iconst dX4_sumOf_2 ?_
  refine G_istore_n dX4_sumOf_3 rfl (by decide) rfl ?_
  exact L (n.toNat + 1) 0 (by omega) (by omega) (by omega)
set_option maxRecDepth 100000 in
set_option maxHeartbeats 4000000 in
theorem c_X4_copyFrom (h : List PO) (b a : Nat) (c r s z d t : Int → Int) (n : Int) (c2 r2 s2 z2 d2 t2 : Int → Int) (n2 : Int) (hT : welF h b c2 r2 s2 z2 d2 t2 n2) (hO : welF h a c r s z d t n) (hab : a + 7 ≤ b ∨ b + 7 ≤ a) : PM 2 yX4_copyFrom cX4_copyFrom 2 none h [r_ b, r_ a] (fun r0 h2 => r0 = none ∧ Fr h h2 b (b + 7) ∧ welF h2 b c r s z d t n) := by
  refine PM_of_G RX4 [some (r_ b), some (r_ a)] rfl (by decide +kernel) (Nat.le_of_ble_eq_true rfl) rfl ?_
  obtain ⟨hT0, hT1, hT2, hT3, hT4, hT5, hT6⟩ := id hT
  obtain ⟨hO0, hO1, hO2, hO3, hO4, hO5, hO6⟩ := id hO
  have hF : Fr h h b (b + 7) := Fr.rf
  refine G_aload_n dX4_copyFrom_0 rfl rfl ?_
  refine G_getf fl_X4_9 dX4_copyFrom_1 (by assumption) rfl ?_
  refine G_iconst dX4_copyFrom_4 ?_
  refine G_aload_n dX4_copyFrom_5 rfl rfl ?_
  refine G_getf fl_X4_9 dX4_copyFrom_6 (by assumption) rfl ?_
  refine G_iconst dX4_copyFrom_9 ?_
  refine G_bipush dX4_copyFrom_10 rfl ?_
  refine G_copy dX4_copyFrom_12 mc_X4_30 (by assumption) (by assumption) rfl (by decide) (Nat.le_of_ble_eq_true rfl) (Nat.le_of_ble_eq_true rfl) ?_
  have hT := hT.set1 c
  obtain ⟨hT0, hT1, hT2, hT3, hT4, hT5, hT6⟩ := id hT
  have hF := hF.tr (Fr.set (o := oI 6 c) (show b ≤ b + 1 by omega) (show b + 1 < b + 7 by omega))
  have hO := hO.fr (Fr.set (lo := b) (hi := b + 7) (o := oI 6 c) (show b ≤ b + 1 by omega) (show b + 1 < b + 7 by omega)) (by omega)
  obtain ⟨hO0, hO1, hO2, hO3, hO4, hO5, hO6⟩ := id hO
  refine G_aload_n dX4_copyFrom_15 rfl rfl ?_
  refine G_getf fl_X4_15 dX4_copyFrom_16 (by assumption) rfl ?_
  refine G_iconst dX4_copyFrom_19 ?_
  refine G_aload_n dX4_copyFrom_20 rfl rfl ?_
  refine G_getf fl_X4_15 dX4_copyFrom_21 (by assumption) rfl ?_
  refine G_iconst dX4_copyFrom_24 ?_
  refine G_bipush dX4_copyFrom_25 rfl ?_
  refine G_copy dX4_copyFrom_27 mc_X4_30 (by assumption) (by assumption) rfl (by decide) (Nat.le_of_ble_eq_true rfl) (Nat.le_of_ble_eq_true rfl) ?_
  have hT := hT.set2 r
  obtain ⟨hT0, hT1, hT2, hT3, hT4, hT5, hT6⟩ := id hT
  have hF := hF.tr (Fr.set (o := oI 6 r) (show b ≤ b + 2 by omega) (show b + 2 < b + 7 by omega))
  have hO := hO.fr (Fr.set (lo := b) (hi := b + 7) (o := oI 6 r) (show b ≤ b + 2 by omega) (show b + 2 < b + 7 by omega)) (by omega)
  obtain ⟨hO0, hO1, hO2, hO3, hO4, hO5, hO6⟩ := id hO
  refine G_aload_n dX4_copyFrom_30 rfl rfl ?_
  refine G_getf fl_X4_18 dX4_copyFrom_31 (by assumption) rfl ?_
  refine G_iconst dX4_copyFrom_34 ?_
  refine G_aload_n dX4_copyFrom_35 rfl rfl ?_
  refine G_getf fl_X4_18 dX4_copyFrom_36 (by assumption) rfl ?_
  refine G_iconst dX4_copyFrom_39 ?_
  refine G_bipush dX4_copyFrom_40 rfl ?_
  refine G_copy dX4_copyFrom_42 mc_X4_30 (by assumption) (by assumption) rfl (by decide) (Nat.le_of_ble_eq_true rfl) (Nat.le_of_ble_eq_true rfl) ?_
  have hT := hT.set3 s
  obtain ⟨hT0, hT1, hT2, hT3, hT4, hT5, hT6⟩ := id hT
  have hF := hF.tr (Fr.set (o := oI 6 s) (show b ≤ b + 3 by omega) (show b + 3 < b + 7 by omega))
  have hO := hO.fr (Fr.set (lo := b) (hi := b + 7) (o := oI 6 s) (show b ≤ b + 3 by omega) (show b + 3 < b + 7 by omega)) (by omega)
  obtain ⟨hO0, hO1, hO2, hO3, hO4, hO5, hO6⟩ := id hO
  refine G_aload_n dX4_copyFrom_45 rfl rfl ?_
  refine G_getf fl_X4_21 dX4_copyFrom_46 (by assumption) rfl ?_
  refine G_iconst dX4_copyFrom_49 ?_
  refine G_aload_n dX4_copyFrom_50 rfl rfl ?_
  refine G_getf fl_X4_21 dX4_copyFrom_51 (by assumption) rfl ?_
  refine G_iconst dX4_copyFrom_54 ?_
  refine G_bipush dX4_copyFrom_55 rfl ?_
  refine G_copy dX4_copyFrom_57 mc_X4_30 (by assumption) (by assumption) rfl (by decide) (Nat.le_of_ble_eq_true rfl) (Nat.le_of_ble_eq_true rfl) ?_
  have hT := hT.set4 z
  obtain ⟨hT0, hT1, hT2, hT3, hT4, hT5, hT6⟩ := id hT
  have hF := hF.tr (Fr.set (o := oI 6 z) (show b ≤ b + 4 by omega) (show b + 4 < b + 7 by omega))
  have hO := hO.fr (Fr.set (lo := b) (hi := b + 7) (o := oI 6 z) (show b ≤ b + 4 by omega) (show b + 4 < b + 7 by omega)) (by omega)
  obtain ⟨hO0, hO1, hO2, hO3, hO4, hO5, hO6⟩ := id hO
  refine G_aload_n dX4_copyFrom_60 rfl rfl ?_
  refine G_getf fl_X4_24 dX4_copyFrom_61 (by assumption) rfl ?_
  refine G_iconst dX4_copyFrom_64 ?_
  refine G_aload_n dX4_copyFrom_65 rfl rfl ?_
  refine G_getf fl_X4_24 dX4_copyFrom_66 (by assumption) rfl ?_
  refine G_iconst dX4_copyFrom_69 ?_
  refine G_bipush dX4_copyFrom_70 rfl ?_
  refine G_copy dX4_copyFrom_72 mc_X4_30 (by assumption) (by assumption) rfl (by decide) (Nat.le_of_ble_eq_true rfl) (Nat.le_of_ble_eq_true rfl) ?_
  have hT := hT.set5 d
  obtain ⟨hT0, hT1, hT2, hT3, hT4, hT5, hT6⟩ := id hT
  have hF := hF.tr (Fr.set (o := oI 6 d) (show b ≤ b + 5 by omega) (show b + 5 < b + 7 by omega))
  have hO := hO.fr (Fr.set (lo := b) (hi := b + 7) (o := oI 6 d) (show b ≤ b + 5 by omega) (show b + 5 < b + 7 by omega)) (by omega)
  obtain ⟨hO0, hO1, hO2, hO3, hO4, hO5, hO6⟩ := id hO
  refine G_aload_n dX4_copyFrom_75 rfl rfl ?_
  refine G_getf fl_X4_27 dX4_copyFrom_76 (by assumption) rfl ?_
  refine G_iconst dX4_copyFrom_79 ?_
  refine G_aload_n dX4_copyFrom_80 rfl rfl ?_
  refine G_getf fl_X4_27 dX4_copyFrom_81 (by assumption) rfl ?_
  refine G_iconst dX4_copyFrom_84 ?_
  refine G_bipush dX4_copyFrom_85 rfl ?_
  refine G_copy dX4_copyFrom_87 mc_X4_30 (by assumption) (by assumption) rfl (by decide) (Nat.le_of_ble_eq_true rfl) (Nat.le_of_ble_eq_true rfl) ?_
  have hT := hT.set6 t
  obtain ⟨hT0, hT1, hT2, hT3, hT4, hT5, hT6⟩ := id hT
  have hF := hF.tr (Fr.set (o := oI 6 t) (show b ≤ b + 6 by omega) (show b + 6 < b + 7 by omega))
  have hO := hO.fr (Fr.set (lo := b) (hi := b + 7) (o := oI 6 t) (show b ≤ b + 6 by omega) (show b + 6 < b + 7 by omega)) (by omega)
  obtain ⟨hO0, hO1, hO2, hO3, hO4, hO5, hO6⟩ := id hO
  refine G_aload_n dX4_copyFrom_90 rfl rfl ?_
  refine G_aload_n dX4_copyFrom_91 rfl rfl ?_
  refine G_getf fl_X4_36 dX4_copyFrom_92 (by assumption) rfl ?_
  refine G_putI fp_X4_36 dX4_copyFrom_95 (by assumption) (Nat.le_of_ble_eq_true rfl) rfl ?_
  have hT := hT.set0 n
  have hF := hF.tr (Fr.set (o := oWel b n) (show b ≤ b by omega) (show b < b + 7 by omega))
  refine G_return dX4_copyFrom_98 rfl ?_
  exact ⟨rfl, hF, hT⟩
set_option maxRecDepth 100000 in
set_option maxHeartbeats 4000000 in
theorem c_X4_turnOrRecover (h : List PO) (b : Nat) (c r s z d t : Int → Int) (n : Int) (hW : welF h b c r s z d t n) (hn : 0 ≤ n ∧ n ≤ 6) (hs : RG 0 600 n s) (hz : RG 0 1 n z) : PM 0 yX4_turnOrRecover cX4_turnOrRecover 2 none h [r_ b] (fun r0 h2 => r0 = none ∧ Fr h h2 b (b + 7) ∧ welF h2 b c r s (resF s n z) d (turF s z n t) n) := by
  refine PM_of_G RX4 [some (r_ b), none] rfl (by decide +kernel) (Nat.le_of_ble_eq_true rfl) rfl ?_
  have L : ∀ (fu : Nat) (i : Int) (hh : List PO) (zi : Int → Int) (ti : Int → Int), 0 ≤ i → i ≤ n → welF hh b c r s zi d ti n → Fr h hh b (b + 7) → (∀ j : Int, 0 ≤ j → j < 6 → zi j = if j < i then resF s n z j else z j) → (∀ j : Int, 0 ≤ j → j < 6 → ti j = if j < i then turF s z n t j else t j) → n - i < fu → G 0 cX4_turnOrRecover RX4 2 none hh 2 [some (r_ b), some (i_ i)] [] (fun r0 h2 => r0 = none ∧ Fr h h2 b (b + 7) ∧ welF h2 b c r s (resF s n z) d (turF s z n t) n) := by
    intro fu
    induction fu with
    | zero => intro i hh zi ti a1 a2 hWW hF hz1 ht1 hmeas; exfalso; omega
    | succ fu ih =>
      intro i hh zi ti a1 a2 hWW hF hz1 ht1 hmeas
      obtain ⟨hV0, hV1, hV2, hV3, hV4, hV5, hV6⟩ := id hWW
      refine G_iload_n dX4_turnOrRecover_2 rfl rfl ?_
      refine G_aload_n dX4_turnOrRecover_3 rfl rfl ?_
      refine G_getf fl_X4_36 dX4_turnOrRecover_4 (by assumption) rfl ?_
      refine G_icmp_ge (tgt := 78) dX4_turnOrRecover_7 (by decide) (inR_of (by omega) (by omega)) (inR_of (by omega) (by omega)) (fun hc7 => ?_) (fun hc7 => ?_)
      · skip
        have e : i = n := by omega
        subst e
        refine G_norm (resF s i z) hV4 (fun j j0 j1 => ?_) ?_
        · rw [hz1 j j0 j1]
          by_cases e2 : j < i
          · rw [if_pos e2]
          · rw [if_neg e2]; unfold resF; rw [if_neg (by omega)]
        have hWW := hWW.set4 (resF s i z)
        obtain ⟨hV0, hV1, hV2, hV3, hV4, hV5, hV6⟩ := id hWW
        refine G_norm (turF s z i t) hV6 (fun j j0 j1 => ?_) ?_
        · rw [ht1 j j0 j1]
          by_cases e2 : j < i
          · rw [if_pos e2]
          · rw [if_neg e2]; unfold turF; rw [if_neg (by omega)]
        refine G_return dX4_turnOrRecover_78 rfl ?_
        exact ⟨rfl, (hF.tr (Fr.set (by omega) (by omega))).tr (Fr.set (by omega) (by omega)), hWW.set6 _⟩
      · skip
        refine G_iload_n dX4_turnOrRecover_10 rfl rfl ?_
        refine G_bipush dX4_turnOrRecover_11 rfl ?_
        refine G_icmp_ge (tgt := 78) dX4_turnOrRecover_13 (by decide) (inR_of (by omega) (by omega)) (inR_of (by omega) (by omega)) (fun hc13 => ?_) (fun hc13 => ?_)
        · skip
          exfalso; omega
        · skip
          refine G_aload_n dX4_turnOrRecover_16 rfl rfl ?_
          refine G_getf fl_X4_21 dX4_turnOrRecover_17 (by assumption) rfl ?_
          refine G_iload_n dX4_turnOrRecover_20 rfl rfl ?_
          refine G_iald dX4_turnOrRecover_21 (by assumption) (by omega) (by omega) (by decide) ?_
          have hsi := hs i (by omega) (by omega)
          have hzi := hz i (by omega) (by omega)
          have hz_i : zi i = z i := by rw [hz1 i a1 (by omega), if_neg (by omega)]
          have ht_i : ti i = t i := by rw [ht1 i a1 (by omega), if_neg (by omega)]
          refine G_if_ne (tgt := 56) dX4_turnOrRecover_22 (by decide) (inR_of (by omega) (by omega)) (fun hc22 => ?_) (fun hc22 => ?_)
          · skip
            refine G_aload_n dX4_turnOrRecover_56 rfl rfl ?_
            refine G_getf fl_X4_18 dX4_turnOrRecover_57 (by assumption) rfl ?_
            refine G_iload_n dX4_turnOrRecover_60 rfl rfl ?_
            refine G_iald dX4_turnOrRecover_61 (by assumption) (by omega) (by omega) (by decide) ?_
            refine G_if_ne (tgt := 72) dX4_turnOrRecover_62 (by decide) (inR_of (by omega) (by omega)) (fun hc62 => ?_) (fun hc62 => ?_)
            · skip
              refine G_iinc dX4_turnOrRecover_72 (by decide) rfl rfl ?_
              refine G_goto (tgt := 2) dX4_turnOrRecover_75 (by decide) ?_
              refine ih (i + 1) _ _ _ (by omega) (by omega) (by assumption) (by assumption) ?_ ?_ (by omega)
              · intro j j0 j1
                by_cases e : j = i
                · rw [e, if_pos (by omega), hz1 i a1 (by omega), if_neg (by omega)]; unfold resF; rw [if_pos (by omega), if_neg (by omega), if_neg (by omega)]
                · rw [hz1 j j0 j1]
                  by_cases e2 : j < i
                  · rw [if_pos e2, if_pos (by omega)]
                  · rw [if_neg e2, if_neg (by omega)]
              · intro j j0 j1
                by_cases e : j = i
                · rw [e, if_pos (by omega), ht1 i a1 (by omega), if_neg (by omega)]; unfold turF; rw [if_neg (by omega)]
                · rw [ht1 j j0 j1]
                  by_cases e2 : j < i
                  · rw [if_pos e2, if_pos (by omega)]
                  · rw [if_neg e2, if_neg (by omega)]
            · skip
              refine G_aload_n dX4_turnOrRecover_65 rfl rfl ?_
              refine G_getf fl_X4_21 dX4_turnOrRecover_66 (by assumption) rfl ?_
              refine G_iload_n dX4_turnOrRecover_69 rfl rfl ?_
              refine G_iconst dX4_turnOrRecover_70 ?_
              refine G_iast dX4_turnOrRecover_71 (by assumption) (by omega) (by omega) (by decide) rfl ?_
              have hWW := hWW.set4 (fup zi i 0)
              obtain ⟨hV0, hV1, hV2, hV3, hV4, hV5, hV6⟩ := id hWW
              have hF := hF.tr (Fr.set (o := oI 6 (fup zi i 0)) (show b ≤ b + 4 by omega) (show b + 4 < b + 7 by omega))
              refine G_iinc dX4_turnOrRecover_72 (by decide) rfl rfl ?_
              refine G_goto (tgt := 2) dX4_turnOrRecover_75 (by decide) ?_
              refine ih (i + 1) _ _ _ (by omega) (by omega) (by assumption) (by assumption) ?_ ?_ (by omega)
              · intro j j0 j1
                by_cases e : j = i
                · rw [e, fup_eq, if_pos (by omega)]; unfold resF; rw [if_pos (by omega), if_neg (by omega), if_pos (by omega)]
                · rw [fup_ne e, hz1 j j0 j1]
                  by_cases e2 : j < i
                  · rw [if_pos e2, if_pos (by omega)]
                  · rw [if_neg e2, if_neg (by omega)]
              · intro j j0 j1
                by_cases e : j = i
                · rw [e, if_pos (by omega), ht1 i a1 (by omega), if_neg (by omega)]; unfold turF; rw [if_neg (by omega)]
                · rw [ht1 j j0 j1]
                  by_cases e2 : j < i
                  · rw [if_pos e2, if_pos (by omega)]
                  · rw [if_neg e2, if_neg (by omega)]
          · skip
            refine G_aload_n dX4_turnOrRecover_25 rfl rfl ?_
            refine G_getf fl_X4_18 dX4_turnOrRecover_26 (by assumption) rfl ?_
            refine G_iload_n dX4_turnOrRecover_29 rfl rfl ?_
            refine G_iald dX4_turnOrRecover_30 (by assumption) (by omega) (by omega) (by decide) ?_
            refine G_bipush dX4_turnOrRecover_31 rfl ?_
            refine G_icmp_lt (tgt := 56) dX4_turnOrRecover_33 (by decide) (inR_of (by omega) (by omega)) (inR_of (by omega) (by omega)) (fun hc33 => ?_) (fun hc33 => ?_)
            · skip
              refine G_aload_n dX4_turnOrRecover_56 rfl rfl ?_
              refine G_getf fl_X4_18 dX4_turnOrRecover_57 (by assumption) rfl ?_
              refine G_iload_n dX4_turnOrRecover_60 rfl rfl ?_
              refine G_iald dX4_turnOrRecover_61 (by assumption) (by omega) (by omega) (by decide) ?_
              refine G_if_ne (tgt := 72) dX4_turnOrRecover_62 (by decide) (inR_of (by omega) (by omega)) (fun hc62 => ?_) (fun hc62 => ?_)
              · skip
                refine G_iinc dX4_turnOrRecover_72 (by decide) rfl rfl ?_
                refine G_goto (tgt := 2) dX4_turnOrRecover_75 (by decide) ?_
                refine ih (i + 1) _ _ _ (by omega) (by omega) (by assumption) (by assumption) ?_ ?_ (by omega)
                · intro j j0 j1
                  by_cases e : j = i
                  · rw [e, if_pos (by omega), hz1 i a1 (by omega), if_neg (by omega)]; unfold resF; rw [if_pos (by omega), if_neg (by omega), if_neg (by omega)]
                  · rw [hz1 j j0 j1]
                    by_cases e2 : j < i
                    · rw [if_pos e2, if_pos (by omega)]
                    · rw [if_neg e2, if_neg (by omega)]
                · intro j j0 j1
                  by_cases e : j = i
                  · rw [e, if_pos (by omega), ht1 i a1 (by omega), if_neg (by omega)]; unfold turF; rw [if_neg (by omega)]
                  · rw [ht1 j j0 j1]
                    by_cases e2 : j < i
                    · rw [if_pos e2, if_pos (by omega)]
                    · rw [if_neg e2, if_neg (by omega)]
              · skip
                refine G_aload_n dX4_turnOrRecover_65 rfl rfl ?_
                refine G_getf fl_X4_21 dX4_turnOrRecover_66 (by assumption) rfl ?_
                refine G_iload_n dX4_turnOrRecover_69 rfl rfl ?_
                refine G_iconst dX4_turnOrRecover_70 ?_
                refine G_iast dX4_turnOrRecover_71 (by assumption) (by omega) (by omega) (by decide) rfl ?_
                have hWW := hWW.set4 (fup zi i 0)
                obtain ⟨hV0, hV1, hV2, hV3, hV4, hV5, hV6⟩ := id hWW
                have hF := hF.tr (Fr.set (o := oI 6 (fup zi i 0)) (show b ≤ b + 4 by omega) (show b + 4 < b + 7 by omega))
                refine G_iinc dX4_turnOrRecover_72 (by decide) rfl rfl ?_
                refine G_goto (tgt := 2) dX4_turnOrRecover_75 (by decide) ?_
                refine ih (i + 1) _ _ _ (by omega) (by omega) (by assumption) (by assumption) ?_ ?_ (by omega)
                · intro j j0 j1
                  by_cases e : j = i
                  · rw [e, fup_eq, if_pos (by omega)]; unfold resF; rw [if_pos (by omega), if_neg (by omega), if_pos (by omega)]
                  · rw [fup_ne e, hz1 j j0 j1]
                    by_cases e2 : j < i
                    · rw [if_pos e2, if_pos (by omega)]
                    · rw [if_neg e2, if_neg (by omega)]
                · intro j j0 j1
                  by_cases e : j = i
                  · rw [e, if_pos (by omega), ht1 i a1 (by omega), if_neg (by omega)]; unfold turF; rw [if_neg (by omega)]
                  · rw [ht1 j j0 j1]
                    by_cases e2 : j < i
                    · rw [if_pos e2, if_pos (by omega)]
                    · rw [if_neg e2, if_neg (by omega)]
            · skip
              refine G_aload_n dX4_turnOrRecover_36 rfl rfl ?_
              refine G_getf fl_X4_21 dX4_turnOrRecover_37 (by assumption) rfl ?_
              refine G_iload_n dX4_turnOrRecover_40 rfl rfl ?_
              refine G_iconst dX4_turnOrRecover_41 ?_
              refine G_iast dX4_turnOrRecover_42 (by assumption) (by omega) (by omega) (by decide) rfl ?_
              have hWW := hWW.set4 (fup zi i 1)
              obtain ⟨hV0, hV1, hV2, hV3, hV4, hV5, hV6⟩ := id hWW
              have hF := hF.tr (Fr.set (o := oI 6 (fup zi i 1)) (show b ≤ b + 4 by omega) (show b + 4 < b + 7 by omega))
              refine G_aload_n dX4_turnOrRecover_43 rfl rfl ?_
              refine G_getf fl_X4_27 dX4_turnOrRecover_44 (by assumption) rfl ?_
              refine G_iload_n dX4_turnOrRecover_47 rfl rfl ?_
              refine G_dup2 dX4_turnOrRecover_48 ?_
              refine G_iald dX4_turnOrRecover_49 (by assumption) (by omega) (by omega) (by decide) ?_
              refine G_iconst dX4_turnOrRecover_50 ?_
              refine G_iadd dX4_turnOrRecover_51 ?_
              refine G_iast dX4_turnOrRecover_52 (by assumption) (by omega) (by omega) (by decide) rfl ?_
              have hWW := hWW.set6 (fup ti i (ti i + 1))
              obtain ⟨hV0, hV1, hV2, hV3, hV4, hV5, hV6⟩ := id hWW
              have hF := hF.tr (Fr.set (o := oI 6 (fup ti i (ti i + 1))) (show b ≤ b + 6 by omega) (show b + 6 < b + 7 by omega))
              refine G_goto (tgt := 72) dX4_turnOrRecover_53 (by decide) ?_
              refine G_iinc dX4_turnOrRecover_72 (by decide) rfl rfl ?_
              refine G_goto (tgt := 2) dX4_turnOrRecover_75 (by decide) ?_
              refine ih (i + 1) _ _ _ (by omega) (by omega) (by assumption) (by assumption) ?_ ?_ (by omega)
              · intro j j0 j1
                by_cases e : j = i
                · rw [e, fup_eq, if_pos (by omega)]; unfold resF; rw [if_pos (by omega), if_pos (by omega)]
                · rw [fup_ne e, hz1 j j0 j1]
                  by_cases e2 : j < i
                  · rw [if_pos e2, if_pos (by omega)]
                  · rw [if_neg e2, if_neg (by omega)]
              · intro j j0 j1
                by_cases e : j = i
                · rw [e, fup_eq, if_pos (by omega)]; rw [ht_i]; unfold turF; rw [if_pos (by omega)]
                · rw [fup_ne e, ht1 j j0 j1]
                  by_cases e2 : j < i
                  · rw [if_pos e2, if_pos (by omega)]
                  · rw [if_neg e2, if_neg (by omega)]
  refine G_iconst dX4_turnOrRecover_0 ?_
  refine G_istore_n dX4_turnOrRecover_1 rfl (by decide) rfl ?_
  exact L (n.toNat + 1) 0 h z t (by omega) (by omega) hW Fr.rf (fun j j0 j1 => by rw [if_neg (by omega)]) (fun j j0 j1 => by rw [if_neg (by omega)]) (by omega)
theorem sbI_rng {s g : Int} (hs : 0 ≤ s ∧ s ≤ 300) (hg : g ≤ 200) : 0 ≤ sbI s g ∧ sbI s g ≤ 600 := by
  unfold sbI
  by_cases q : 0 < g
  · rw [if_pos q]; omega
  · rw [if_neg q]; omega
theorem salF_rng {dep sil hei c r z s : Int → Int} {n : Int} (hrd : RG 1 60 40 dep) (hrs : RG 0 60 40 sil) (hrh : RG 0 60 40 hei) (hc : RG 0 39 n c) (hr : RG 1 30 n r) (hz : RG 0 1 n z) (hs : RG 0 300 n s) : RG 0 600 n (salF dep sil hei c r z n s) := by
  intro j j0 j1
  unfold salF
  rw [if_pos ⟨j0, j1⟩]
  refine sbI_rng (hs j j0 j1) ?_
  by_cases q : z j = 0
  · rw [if_pos q]
    unfold exF
    have a := hc j j0 j1
    have b := conI_rng (c := c) (z := z) (w := j) hr
    have d := hrd (c j) (by omega) (by omega)
    have e := hrs (c j) (by omega) (by omega)
    have f := hrh (c j) (by omega) (by omega)
    omega
  · rw [if_neg q]; omega
set_option maxRecDepth 100000 in
set_option maxHeartbeats 4000000 in
theorem c_X4_drawFrom (h : List PO) (b : Nat) (c r s z d t : Int → Int) (n : Int) (b2 : Nat) (dep sil hei wet : Int → Int) (hW : welF h b c r s z d t n) (hn : 0 ≤ n ∧ n ≤ 6) (hB : bedAt h b2 dep sil hei wet) (hbb : b2 + 5 ≤ b ∨ b + 7 ≤ b2) (hrd : RG 1 60 40 dep) (hrs : RG 0 60 40 sil) (hrh : RG 0 60 40 hei) (hc : RG 0 39 n c) (hr : RG 1 30 n r) (hs : RG 0 300 n s) (hz : RG 0 1 n z) : PM 2 yX4_drawFrom cX4_drawFrom 4 none h [r_ b, r_ b2] (fun r0 h2 => r0 = none ∧ Fr h h2 b (b + 7) ∧ welF h2 b c r (salF dep sil hei c r z n s) (resF (salF dep sil hei c r z n s) n z) (draF r z n d) (turF (salF dep sil hei c r z n s) z n t) n) := by
  refine PM_of_G RX4 [some (r_ b), some (r_ b2), none, none] rfl (by decide +kernel) (Nat.le_of_ble_eq_true rfl) rfl ?_
  have L : ∀ (fu : Nat) (i : Int) (hh : List PO) (si : Int → Int) (di : Int → Int), 0 ≤ i → i ≤ n → welF hh b c r si z di t n → Fr h hh b (b + 7) → (∀ j : Int, 0 ≤ j → j < 6 → si j = if j < i then salF dep sil hei c r z n s j else s j) → (∀ j : Int, 0 ≤ j → j < 6 → di j = if j < i then draF r z n d j else d j) → n - i < fu → G 2 cX4_drawFrom RX4 4 none hh 2 [some (r_ b), some (r_ b2), some (i_ i), none] [] (fun r0 h2 => r0 = none ∧ Fr h h2 b (b + 7) ∧ welF h2 b c r (salF dep sil hei c r z n s) (resF (salF dep sil hei c r z n s) n z) (draF r z n d) (turF (salF dep sil hei c r z n s) z n t) n) := by
    intro fu
    induction fu with
    | zero => intro i hh si di a1 a2 hWW hF hs1 hd1 hmeas; exfalso; omega
    | succ fu ih =>
      intro i hh si di a1 a2 hWW hF hs1 hd1 hmeas
      obtain ⟨hV0, hV1, hV2, hV3, hV4, hV5, hV6⟩ := id hWW
      have hBB := hB.fr hF (by omega)
      obtain ⟨hB0, hB1, hB2, hB3, hB4⟩ := id hBB
      refine G_iload_n dX4_drawFrom_2 rfl rfl ?_
      refine G_aload_n dX4_drawFrom_3 rfl rfl ?_
      refine G_getf fl_X4_36 dX4_drawFrom_4 (by assumption) rfl ?_
      refine G_icmp_ge (tgt := 80) dX4_drawFrom_7 (by decide) (inR_of (by omega) (by omega)) (inR_of (by omega) (by omega)) (fun hc7 => ?_) (fun hc7 => ?_)
      · skip
        have e : i = n := by omega
        subst e
        refine G_norm (salF dep sil hei c r z i s) hV3 (fun j j0 j1 => ?_) ?_
        · rw [hs1 j j0 j1]
          by_cases e2 : j < i
          · rw [if_pos e2]
          · rw [if_neg e2]; unfold salF; rw [if_neg (by omega)]
        have hWW := hWW.set3 (salF dep sil hei c r z i s)
        obtain ⟨hV0, hV1, hV2, hV3, hV4, hV5, hV6⟩ := id hWW
        refine G_norm (draF r z i d) hV5 (fun j j0 j1 => ?_) ?_
        · rw [hd1 j j0 j1]
          by_cases e2 : j < i
          · rw [if_pos e2]
          · rw [if_neg e2]; unfold draF; rw [if_neg (by omega)]
        have hWW := hWW.set5 (draF r z i d)
        obtain ⟨hV0, hV1, hV2, hV3, hV4, hV5, hV6⟩ := id hWW
        have hsF := salF_rng hrd hrs hrh hc hr hz hs
        refine G_aload_n dX4_drawFrom_80 rfl rfl ?_
        refine G_callV (ci := 4) (as := []) (c_X4_turnOrRecover _ b c r (salF dep sil hei c r z i s) z (draF r z i d) t i hWW hn hsF hz) dX4_drawFrom_81 ml_X4_75 cv_X4_turnOrRecover (by assumption) rfl rfl (Nat.le_of_ble_eq_true rfl) (Nat.le_of_ble_eq_true rfl) rfl (fun r h2 hp => ?_)
        obtain ⟨rfl, hF2, hW2⟩ := hp
        refine G_return dX4_drawFrom_84 rfl ?_
        exact ⟨rfl, ((hF.tr (Fr.set (by omega) (by omega))).tr (Fr.set (by omega) (by omega))).tr hF2, hW2⟩
      · skip
        refine G_iload_n dX4_drawFrom_10 rfl rfl ?_
        refine G_bipush dX4_drawFrom_11 rfl ?_
        refine G_icmp_ge (tgt := 80) dX4_drawFrom_13 (by decide) (inR_of (by omega) (by omega)) (inR_of (by omega) (by omega)) (fun hc13 => ?_) (fun hc13 => ?_)
        · skip
          exfalso; omega
        · skip
          refine G_iconst dX4_drawFrom_16 ?_
          refine G_istore_n dX4_drawFrom_17 rfl (by decide) rfl ?_
          refine G_aload_n dX4_drawFrom_18 rfl rfl ?_
          refine G_getf fl_X4_21 dX4_drawFrom_19 (by assumption) rfl ?_
          refine G_iload_n dX4_drawFrom_22 rfl rfl ?_
          refine G_iald dX4_drawFrom_23 (by assumption) (by omega) (by omega) (by decide) ?_
          have hsi := hs i (by omega) (by omega)
          have hzi := hz i (by omega) (by omega)
          have hri := hr i (by omega) (by omega)
          have hci := hc i (by omega) (by omega)
          have hcn := conI_rng (c := c) (z := z) (w := i) hr
          have hdp := hrd (c i) (by omega) (by omega)
          have hsl := hrs (c i) (by omega) (by omega)
          have hhe := hrh (c i) (by omega) (by omega)
          have hs_i : si i = s i := by rw [hs1 i a1 (by omega), if_neg (by omega)]
          have hd_i : di i = d i := by rw [hd1 i a1 (by omega), if_neg (by omega)]
          refine G_if_ne (tgt := 58) dX4_drawFrom_24 (by decide) (inR_of (by omega) (by omega)) (fun hc24 => ?_) (fun hc24 => ?_)
          · skip
            refine G_aload_n dX4_drawFrom_58 rfl rfl ?_
            refine G_getf fl_X4_18 dX4_drawFrom_59 (by assumption) rfl ?_
            refine G_iload_n dX4_drawFrom_62 rfl rfl ?_
            refine G_aload_n dX4_drawFrom_63 rfl rfl ?_
            refine G_getf fl_X4_18 dX4_drawFrom_64 (by assumption) rfl ?_
            refine G_iload_n dX4_drawFrom_67 rfl rfl ?_
            refine G_iald dX4_drawFrom_68 (by assumption) (by omega) (by omega) (by decide) ?_
            rw [hs_i]
            refine G_iload_n dX4_drawFrom_69 rfl rfl ?_
            refine G_callS (as := [_, _]) (c_X4_saltBehind _ (s i) _ ⟨by omega, by omega⟩ ⟨by omega, by omega⟩) dX4_drawFrom_70 ml_X4_72 cs_X4_saltBehind rfl (Nat.le_of_ble_eq_true rfl) (Nat.le_of_ble_eq_true rfl) rfl (fun r h2 hp => ?_)
            obtain ⟨rfl, rfl⟩ := hp
            refine G_iast dX4_drawFrom_73 (by assumption) (by omega) (by omega) (by decide) rfl ?_
            have hWW := hWW.set3 (fup si i (sbI (s i) 0))
            obtain ⟨hV0, hV1, hV2, hV3, hV4, hV5, hV6⟩ := id hWW
            have hF := hF.tr (Fr.set (o := oI 6 (fup si i (sbI (s i) 0))) (show b ≤ b + 3 by omega) (show b + 3 < b + 7 by omega))
            refine G_iinc dX4_drawFrom_74 (by decide) rfl rfl ?_
            refine G_goto (tgt := 2) dX4_drawFrom_77 (by decide) ?_
            refine G_forget 3 ?_
            refine ih (i + 1) _ _ _ (by omega) (by omega) (by assumption) (by assumption) ?_ ?_ (by omega)
            · intro j j0 j1
              by_cases e : j = i
              · rw [e, fup_eq, if_pos (by omega)]; unfold salF; rw [if_pos (by omega), if_neg (by omega)]
              · rw [fup_ne e, hs1 j j0 j1]
                by_cases e2 : j < i
                · rw [if_pos e2, if_pos (by omega)]
                · rw [if_neg e2, if_neg (by omega)]
            · intro j j0 j1
              by_cases e : j = i
              · rw [e, if_pos (by omega), hd1 i a1 (by omega), if_neg (by omega)]; unfold draF; rw [if_neg (by omega)]
              · rw [hd1 j j0 j1]
                by_cases e2 : j < i
                · rw [if_pos e2, if_pos (by omega)]
                · rw [if_neg e2, if_neg (by omega)]
          · skip
            refine G_aload_n dX4_drawFrom_27 rfl rfl ?_
            refine G_getf fl_X4_24 dX4_drawFrom_28 (by assumption) rfl ?_
            refine G_iload_n dX4_drawFrom_31 rfl rfl ?_
            refine G_dup2 dX4_drawFrom_32 ?_
            refine G_iald dX4_drawFrom_33 (by assumption) (by omega) (by omega) (by decide) ?_
            refine G_aload_n dX4_drawFrom_34 rfl rfl ?_
            refine G_getf fl_X4_15 dX4_drawFrom_35 (by assumption) rfl ?_
            refine G_iload_n dX4_drawFrom_38 rfl rfl ?_
            refine G_iald dX4_drawFrom_39 (by assumption) (by omega) (by omega) (by decide) ?_
            refine G_iadd dX4_drawFrom_40 ?_
            refine G_iast dX4_drawFrom_41 (by assumption) (by omega) (by omega) (by decide) rfl ?_
            have hWW := hWW.set5 (fup di i (di i + r i))
            obtain ⟨hV0, hV1, hV2, hV3, hV4, hV5, hV6⟩ := id hWW
            have hF := hF.tr (Fr.set (o := oI 6 (fup di i (di i + r i))) (show b ≤ b + 5 by omega) (show b + 5 < b + 7 by omega))
            have hBB := hBB.fr (Fr.set (lo := b) (hi := b + 7) (o := oI 6 (fup di i (di i + r i))) (show b ≤ b + 5 by omega) (show b + 5 < b + 7 by omega)) (by omega)
            obtain ⟨hB0, hB1, hB2, hB3, hB4⟩ := id hBB
            refine G_aload_n dX4_drawFrom_42 rfl rfl ?_
            refine G_aload_n dX4_drawFrom_43 rfl rfl ?_
            refine G_getf fl_X4_9 dX4_drawFrom_44 (by assumption) rfl ?_
            refine G_iload_n dX4_drawFrom_47 rfl rfl ?_
            refine G_iald dX4_drawFrom_48 (by assumption) (by omega) (by omega) (by decide) ?_
            refine G_aload_n dX4_drawFrom_49 rfl rfl ?_
            refine G_iload_n dX4_drawFrom_50 rfl rfl ?_
            refine G_callV (ci := 4) (as := [_]) (c_X4_coneOf _ b c r si z _ t n i hWW hn hc hr hz (inR_of (by omega) (by omega))) dX4_drawFrom_51 ml_X4_64 cv_X4_coneOf (by assumption) rfl rfl (Nat.le_of_ble_eq_true rfl) (Nat.le_of_ble_eq_true rfl) rfl (fun r h2 hp => ?_)
            obtain ⟨rfl, rfl⟩ := hp
            refine G_callV (ci := 0) (as := [_, _]) (c_X0_excess _ b2 dep sil hei wet (c i) _ hBB hrd hrs hrh (by omega) (by omega)) dX4_drawFrom_54 ml_X4_67 cv_X0_excess (by assumption) rfl rfl (Nat.le_of_ble_eq_true rfl) (Nat.le_of_ble_eq_true rfl) rfl (fun r h2 hp => ?_)
            obtain ⟨rfl, rfl⟩ := hp
            refine G_istore_n dX4_drawFrom_57 rfl (by decide) rfl ?_
            refine G_aload_n dX4_drawFrom_58 rfl rfl ?_
            refine G_getf fl_X4_18 dX4_drawFrom_59 (by assumption) rfl ?_
            refine G_iload_n dX4_drawFrom_62 rfl rfl ?_
            refine G_aload_n dX4_drawFrom_63 rfl rfl ?_
            refine G_getf fl_X4_18 dX4_drawFrom_64 (by assumption) rfl ?_
            refine G_iload_n dX4_drawFrom_67 rfl rfl ?_
            refine G_iald dX4_drawFrom_68 (by assumption) (by omega) (by omega) (by decide) ?_
            rw [hs_i]
            refine G_iload_n dX4_drawFrom_69 rfl rfl ?_
            refine G_callS (as := [_, _]) (c_X4_saltBehind _ (s i) _ ⟨by omega, by omega⟩ ⟨by omega, by omega⟩) dX4_drawFrom_70 ml_X4_72 cs_X4_saltBehind rfl (Nat.le_of_ble_eq_true rfl) (Nat.le_of_ble_eq_true rfl) rfl (fun r h2 hp => ?_)
            obtain ⟨rfl, rfl⟩ := hp
            refine G_iast dX4_drawFrom_73 (by assumption) (by omega) (by omega) (by decide) rfl ?_
            have hWW := hWW.set3 (fup si i (sbI (s i) (hei (c i) + conI c r z n i - (dep (c i) - sil (c i)))))
            obtain ⟨hV0, hV1, hV2, hV3, hV4, hV5, hV6⟩ := id hWW
            have hF := hF.tr (Fr.set (o := oI 6 (fup si i (sbI (s i) (hei (c i) + conI c r z n i - (dep (c i) - sil (c i)))))) (show b ≤ b + 3 by omega) (show b + 3 < b + 7 by omega))
            refine G_iinc dX4_drawFrom_74 (by decide) rfl rfl ?_
            refine G_goto (tgt := 2) dX4_drawFrom_77 (by decide) ?_
            refine G_forget 3 ?_
            refine ih (i + 1) _ _ _ (by omega) (by omega) (by assumption) (by assumption) ?_ ?_ (by omega)
            · intro j j0 j1
              by_cases e : j = i
              · rw [e, fup_eq, if_pos (by omega)]; unfold salF; rw [if_pos (by omega), if_pos (by omega)]; rfl
              · rw [fup_ne e, hs1 j j0 j1]
                by_cases e2 : j < i
                · rw [if_pos e2, if_pos (by omega)]
                · rw [if_neg e2, if_neg (by omega)]
            · intro j j0 j1
              by_cases e : j = i
              · rw [e, fup_eq, if_pos (by omega)]; rw [hd_i]; unfold draF; rw [if_pos (by omega)]
              · rw [fup_ne e, hd1 j j0 j1]
                by_cases e2 : j < i
                · rw [if_pos e2, if_pos (by omega)]
                · rw [if_neg e2, if_neg (by omega)]
  refine G_iconst dX4_drawFrom_0 ?_
  refine G_istore_n dX4_drawFrom_1 rfl (by decide) rfl ?_
  exact L (n.toNat + 1) 0 h s d (by omega) (by omega) hW Fr.rf (fun j j0 j1 => by rw [if_neg (by omega)]) (fun j j0 j1 => by rw [if_neg (by omega)]) (by omega)
end
section
def staF (h : List PO) (k : Nat) (d s e w c r sa z dr t : Int → Int) (n : Int) (se : Int → Int) (x y f : Int) : Prop := h[k]? = some (oO 3 [r_ (k + 1), r_ (k + 6), r_ (k + 13), i_ x, i_ y, i_ f]) ∧ bedAt h (k + 1) d s e w ∧ welF h (k + 6) c r sa z dr t n ∧ h[k + 13]? = some (oI 3 se)
theorem staF.bed {h h2 : List PO} {k : Nat} {d s e w c r sa z dr t : Int → Int} {n : Int} {se : Int → Int} {x y f : Int} {d2 s2 e2 w2 : Int → Int} (a : staF h k d s e w c r sa z dr t n se x y f) (q : Fr h h2 (k + 1) (k + 1 + 5)) (b : bedAt h2 (k + 1) d2 s2 e2 w2) : staF h2 k d2 s2 e2 w2 c r sa z dr t n se x y f :=
  ⟨q.at' a.1 (by omega), b, a.2.2.1.fr q (by omega), q.at' a.2.2.2 (by omega)⟩
theorem staF.wel {h h2 : List PO} {k : Nat} {d s e w c r sa z dr t : Int → Int} {n : Int} {se : Int → Int} {x y f : Int} {c2 r2 sa2 z2 dr2 t2 : Int → Int} {n2 : Int} (a : staF h k d s e w c r sa z dr t n se x y f) (q : Fr h h2 (k + 6) (k + 6 + 7)) (b : welF h2 (k + 6) c2 r2 sa2 z2 dr2 t2 n2) : staF h2 k d s e w c2 r2 sa2 z2 dr2 t2 n2 se x y f :=
  ⟨q.at' a.1 (by omega), a.2.1.fr q (by omega), b, q.at' a.2.2.2 (by omega)⟩
theorem staF.obj {h : List PO} {k : Nat} {d s e w c r sa z dr t : Int → Int} {n : Int} {se : Int → Int} {x y f : Int} (a : staF h k d s e w c r sa z dr t n se x y f) (x2 y2 f2 : Int) : staF (h.set k (oO 3 [r_ (k + 1), r_ (k + 6), r_ (k + 13), i_ x2, i_ y2, i_ f2])) k d s e w c r sa z dr t n se x2 y2 f2 :=
  ⟨set_at a.1, a.2.1.fr (Fr.set (lo := k) (hi := k + 1) (by omega) (by omega)) (by omega), a.2.2.1.fr (Fr.set (lo := k) (hi := k + 1) (by omega) (by omega)) (by omega), set_off a.2.2.2 (by omega)⟩
theorem staF.sets {h : List PO} {k : Nat} {d s e w c r sa z dr t : Int → Int} {n : Int} {se : Int → Int} {x y f : Int} (a : staF h k d s e w c r sa z dr t n se x y f) (q : Int → Int) : staF (h.set (k + 13) (oI 3 q)) k d s e w c r sa z dr t n q x y f :=
  ⟨set_off a.1 (by omega), a.2.1.fr (Fr.set (lo := k + 13) (hi := k + 14) (by omega) (by omega)) (by omega), a.2.2.1.fr (Fr.set (lo := k + 13) (hi := k + 14) (by omega) (by omega)) (by omega), set_at a.2.2.2⟩
theorem staF.fr {h h2 : List PO} {k lo hi : Nat} {d s e w c r sa z dr t : Int → Int} {n : Int} {se : Int → Int} {x y f : Int} (a : staF h k d s e w c r sa z dr t n se x y f) (q : Fr h h2 lo hi) (b : k + 14 ≤ lo ∨ hi ≤ k) : staF h2 k d s e w c r sa z dr t n se x y f :=
  ⟨q.at' a.1 (by omega), a.2.1.fr q (by omega), a.2.2.1.fr q (by omega), q.at' a.2.2.2 (by omega)⟩
/-- one tide -/
def pushI (v : SV) (rise : Int) : Int := v 10 0 + rise - v 11 1
def tideH (rise : Int) (v : SV) : Int → Int := heiF (pushI v rise) (v 10 1) (v 10 2) (v 0) (v 1) (v 2)
def tideS (rise : Int) (v : SV) : Int → Int := salF (v 0) (v 1) (tideH rise v) (v 4) (v 5) (v 7) (v 11 0) (v 6)
def tideV (rise : Int) (v : SV) : SV := fun i => match i with
  | 2 => tideH rise v
  | 3 => wetF (tideH rise v) (v 3)
  | 6 => tideS rise v
  | 7 => resF (tideS rise v) (v 11 0) (v 7)
  | 8 => draF (v 5) (v 7) (v 11 0) (v 8)
  | 9 => turF (tideS rise v) (v 7) (v 11 0) (v 9)
  | 11 => fun j => if j = 2 then v 11 2 + 1 else if j = 3 then max (v 11 3) (reachN (tideH rise v) 40) else v 11 j
  | j => v j
def itV (rise : Int) (v : SV) : Nat → SV
  | 0 => v
  | n + 1 => tideV rise (itV rise v n)
theorem reachN_rng {q : Int → Int} : ∀ n : Nat, -5 ≤ reachN q n ∧ reachN q n < n := by
  intro n
  induction n with
  | zero => exact ⟨by show (-5 : Int) ≤ -5; omega, by show (-5 : Int) < 0; omega⟩
  | succ n ih =>
    show -5 ≤ (if 0 < q n then (n : Int) else reachN q n) ∧ (if 0 < q n then (n : Int) else reachN q n) < ((n + 1 : Nat) : Int)
    by_cases e : 0 < q n
    · rw [if_pos e]; omega
    · rw [if_neg e]; omega
theorem OK.tide {v : SV} {rise : Int} (h : OK v) : OK (tideV rise v) := by
  obtain ⟨⟨hrd, hrs, hrh⟩, hset, ⟨hn, hf, hfa⟩, ⟨hc, hr, hs, hz⟩, h49, hdi⟩ := h
  have hH : RG 0 60 40 (tideH rise v) := heiF_rng hrd hrs hrh hset.2.2.1
  have key : ∀ w : Int, 0 ≤ w → w < v 11 0 → 0 ≤ tideS rise v w ∧ tideS rise v w ≤ 300 ∧ (v 7 w = 0 → tideS rise v w ≤ 250) := by
    intro w w0 w1
    have a := hs w w0 w1
    have b := hz w w0 w1
    have c9 := h49 w w0 w1
    unfold tideS salF
    rw [if_pos ⟨w0, w1⟩]
    by_cases q : v 7 w = 0
    · rw [if_pos q]
      have e1 := hc w w0 w1
      have e2 := conI_rng (c := v 4) (z := v 7) (w := w) hr
      have e3 := hrd (v 4 w) (by omega) (by omega)
      have e4 := hrs (v 4 w) (by omega) (by omega)
      have e5 := hH (v 4 w) (by omega) (by omega)
      have e6 : exF (v 0) (v 1) (tideH rise v) (v 4) (v 5) (v 7) (v 11 0) w ≤ 149 := by unfold exF; omega
      have e7 := c9 q
      unfold sbI
      by_cases q2 : 0 < exF (v 0) (v 1) (tideH rise v) (v 4) (v 5) (v 7) (v 11 0) w
      · rw [if_pos q2]; omega
      · rw [if_neg q2]; omega
    · rw [if_neg q]
      unfold sbI
      rw [if_neg (by omega)]
      omega
  refine ⟨⟨hrd, hrs, hH⟩, hset, ⟨hn, hf, ?_⟩, ⟨hc, hr, fun w w0 w1 => ⟨(key w w0 w1).1, (key w w0 w1).2.1⟩, ?_⟩, ?_, hdi⟩
  · have a := reachN_rng (q := tideH rise v) 40
    show -5 ≤ max (v 11 3) (reachN (tideH rise v) 40) ∧ max (v 11 3) (reachN (tideH rise v) 40) ≤ 39
    omega
  · intro w w0 w1
    have w1' : w < v 11 0 := w1
    have b := hz w w0 w1'
    show 0 ≤ resF (tideS rise v) (v 11 0) (v 7) w ∧ resF (tideS rise v) (v 11 0) (v 7) w ≤ 1
    unfold resF
    rw [if_pos ⟨w0, w1'⟩]
    by_cases q : v 7 w = 0 ∧ 50 ≤ tideS rise v w
    · rw [if_pos q]; omega
    · rw [if_neg q]
      by_cases q2 : tideS rise v w = 0
      · rw [if_pos q2]; omega
      · rw [if_neg q2]; omega
  · intro w w0 w1 e
    have w1' : w < v 11 0 := w1
    have e' : resF (tideS rise v) (v 11 0) (v 7) w = 0 := e
    show tideS rise v w ≤ 49
    unfold resF at e'
    rw [if_pos ⟨w0, w1'⟩] at e'
    by_cases q : v 7 w = 0 ∧ 50 ≤ tideS rise v w
    · rw [if_pos q] at e'; omega
    · rw [if_neg q] at e'
      by_cases q2 : tideS rise v w = 0
      · omega
      · rw [if_neg q2] at e'; omega
theorem OK.it {v : SV} {rise : Int} (h : OK v) : ∀ n : Nat, OK (itV rise v n) := by
  intro n
  induction n with
  | zero => exact h
  | succ n ih => exact ih.tide
theorem itV_tides {v : SV} {rise : Int} : ∀ n : Nat, itV rise v n 11 2 = v 11 2 + n := by
  intro n
  induction n with
  | zero => show v 11 2 = _; omega
  | succ n ih =>
    show itV rise v n 11 2 + 1 = _
    rw [ih]; omega
def flowR (v : SV) (q : Int) : Int := if ¬ (0 ≤ q ∧ q ≤ 99) then -2 else if v 11 1 = q then -5 else v 11 1
def flowV (v : SV) (q : Int) : SV := if 0 ≤ flowR v q then vset v 11 (fup (v 11) 1 q) else v
def setR (v : SV) (w q : Int) : Int := if ¬ (0 ≤ w ∧ w < 3) then -1 else if q < leastF w ∨ mostF w < q then -2 else if v 10 w = q then -5 else v 10 w
def setV (v : SV) (w q : Int) : SV := if 0 ≤ setR v w q then vset v 10 (fup (v 10) w q) else v
def tidesR (v : SV) (rise times : Int) : Int := if ¬ ((-30 ≤ rise ∧ rise ≤ 30) ∧ (1 ≤ times ∧ times ≤ 99)) then -2 else if 99999 < v 11 2 + times then -3 else sumN (wetI (itV rise v times.toNat 2)) 40
def tidesV (v : SV) (rise times : Int) : SV := if 0 ≤ tidesR v rise times then itV rise v times.toNat else v
def lfN (v : SV) (c rise : Int) : Nat → Int
  | 0 => -5
  | n + 1 => if mkI (v 10 0 + rise - (99 - n)) (v 10 1) (v 1) (v 0) c = 0 then 99 - n else lfN v c rise n
theorem lfN_s {v : SV} {c rise i : Int} (h0 : 0 ≤ i) (h1 : i ≤ 99) : lfN v c rise (100 - i).toNat = if mkI (v 10 0 + rise - i) (v 10 1) (v 1) (v 0) c = 0 then i else lfN v c rise (100 - (i + 1)).toNat := by
  have e : (100 - i).toNat = (100 - (i + 1)).toNat + 1 := by omega
  have e2 : (99 : Int) - ((100 - (i + 1)).toNat : Nat) = i := by omega
  rw [e]
  show (if _ then _ else _) = _
  rw [e2]
theorem least_rng (w : Int) : 0 ≤ leastF w ∧ leastF w ≤ 1 ∧ 9 ≤ mostF w ∧ mostF w ≤ 60 := by
  unfold leastF mostF
  by_cases a : w = 2
  · rw [if_pos a, if_neg (by omega)]; omega
  · rw [if_neg a]
    by_cases b : w = 1
    · rw [if_pos b]; omega
    · rw [if_neg b]; omega
set_option maxRecDepth 100000 in
set_option maxHeartbeats 4000000 in
theorem c_X3_slope (h : List PO) (k : Nat) (v : SV) (hA : stAt h k v) : PM 0 yX3_slope cX3_slope 1 (some .int) h [r_ k] (fun r0 h2 => r0 = some (i_ (v 10 1)) ∧ h = h2) := by
  refine PM_of_G RX3 [some (r_ k)] rfl (by decide +kernel) (Nat.le_of_ble_eq_true rfl) rfl ?_
  obtain ⟨hA0, hAb, hAw, hAs⟩ := id hA
  obtain ⟨hB0, hB1, hB2, hB3, hB4⟩ := id hAb
  obtain ⟨hW0, hW1, hW2, hW3, hW4, hW5, hW6⟩ := id hAw
  refine G_aload_n dX3_slope_0 rfl rfl ?_
  refine G_getf fl_X3_25 dX3_slope_1 (by assumption) rfl ?_
  refine G_iconst dX3_slope_4 ?_
  refine G_iald dX3_slope_5 (by assumption) (by omega) (by omega) (by decide) ?_
  refine G_ireturn dX3_slope_6 rfl ?_
  exact ⟨rfl, rfl⟩
set_option maxRecDepth 100000 in
set_option maxHeartbeats 4000000 in
theorem c_X3_pushWith (h : List PO) (k : Nat) (v : SV) (river rise : Int) (hA : stAt h k v) : PM 0 yX3_pushWith cX3_pushWith 3 (some .int) h [r_ k, i_ river, i_ rise] (fun r0 h2 => r0 = some (i_ (v 10 0 + rise - river)) ∧ h = h2) := by
  refine PM_of_G RX3 [some (r_ k), some (i_ river), some (i_ rise)] rfl (by decide +kernel) (Nat.le_of_ble_eq_true rfl) rfl ?_
  obtain ⟨hA0, hAb, hAw, hAs⟩ := id hA
  obtain ⟨hB0, hB1, hB2, hB3, hB4⟩ := id hAb
  obtain ⟨hW0, hW1, hW2, hW3, hW4, hW5, hW6⟩ := id hAw
  refine G_aload_n dX3_pushWith_0 rfl rfl ?_
  refine G_getf fl_X3_25 dX3_pushWith_1 (by assumption) rfl ?_
  refine G_iconst dX3_pushWith_4 ?_
  refine G_iald dX3_pushWith_5 (by assumption) (by omega) (by omega) (by decide) ?_
  refine G_iload_n dX3_pushWith_6 rfl rfl ?_
  refine G_iadd dX3_pushWith_7 ?_
  refine G_iload_n dX3_pushWith_8 rfl rfl ?_
  refine G_isub dX3_pushWith_9 ?_
  refine G_ireturn dX3_pushWith_10 rfl ?_
  exact ⟨rfl, rfl⟩
set_option maxRecDepth 100000 in
set_option maxHeartbeats 4000000 in
theorem c_X3_pushOf (h : List PO) (k : Nat) (v : SV) (rise : Int) (hA : stAt h k v) : PM 1 yX3_pushOf cX3_pushOf 2 (some .int) h [r_ k, i_ rise] (fun r0 h2 => r0 = some (i_ (pushI v rise)) ∧ h = h2) := by
  refine PM_of_G RX3 [some (r_ k), some (i_ rise)] rfl (by decide +kernel) (Nat.le_of_ble_eq_true rfl) rfl ?_
  obtain ⟨hA0, hAb, hAw, hAs⟩ := id hA
  obtain ⟨hB0, hB1, hB2, hB3, hB4⟩ := id hAb
  obtain ⟨hW0, hW1, hW2, hW3, hW4, hW5, hW6⟩ := id hAw
  refine G_aload_n dX3_pushOf_0 rfl rfl ?_
  refine G_aload_n dX3_pushOf_1 rfl rfl ?_
  refine G_getf fl_X3_29 dX3_pushOf_2 (by assumption) rfl ?_
  refine G_iload_n dX3_pushOf_5 rfl rfl ?_
  refine G_callV (ci := 3) (as := [_, _]) (c_X3_pushWith h k v _ rise hA) dX3_pushOf_6 ml_X3_58 cv_X3_pushWith (by assumption) rfl rfl (Nat.le_of_ble_eq_true rfl) (Nat.le_of_ble_eq_true rfl) rfl (fun r h2 hp => ?_)
  obtain ⟨rfl, rfl⟩ := hp
  refine G_ireturn dX3_pushOf_9 rfl ?_
  exact ⟨rfl, rfl⟩
set_option maxRecDepth 100000 in
set_option maxHeartbeats 4000000 in
theorem c_X3_changeFlow (h : List PO) (k : Nat) (v : SV) (q : Int) (hA : stAt h k v) (hV : OK v) (hq : inR q) : PM 0 yX3_changeFlow cX3_changeFlow 3 (some .int) h [r_ k, i_ q] (fun r0 h2 => r0 = some (i_ (flowR v q)) ∧ Fr h h2 k (k + 14) ∧ stAt h2 k (flowV v q)) := by
  refine PM_of_G RX3 [some (r_ k), some (i_ q), none] rfl (by decide +kernel) (Nat.le_of_ble_eq_true rfl) rfl ?_
  obtain ⟨⟨hrd, hrs, hrh⟩, ⟨hs0, hs1, hs2⟩, ⟨hn, hf, hfa⟩, ⟨hc, hr, hs, hz⟩, h49, hdi⟩ := id hV
  obtain ⟨hA0, hAb, hAw, hAs⟩ := id hA
  obtain ⟨hB0, hB1, hB2, hB3, hB4⟩ := id hAb
  obtain ⟨hW0, hW1, hW2, hW3, hW4, hW5, hW6⟩ := id hAw
  have hq1 := hq.1
  have hq2 := hq.2
  refine G_iload_n dX3_changeFlow_0 rfl rfl ?_
  refine G_if_lt (tgt := 10) dX3_changeFlow_1 (by decide) (inR_of (by omega) (by omega)) (fun hc1 => ?_) (fun hc1 => ?_)
  · skip
    refine G_bipush dX3_changeFlow_10 rfl ?_
    refine G_ireturn dX3_changeFlow_12 rfl ?_
    have e : flowR v q = -2 := by unfold flowR; rw [if_pos (by omega)]
    have e2 : flowV v q = v := by unfold flowV; rw [if_neg (by omega)]
    rw [e2]
    exact ⟨by rw [e], Fr.rf, hA⟩
  · skip
    refine G_iload_n dX3_changeFlow_4 rfl rfl ?_
    refine G_bipush dX3_changeFlow_5 rfl ?_
    refine G_icmp_le (tgt := 13) dX3_changeFlow_7 (by decide) (inR_of (by omega) (by omega)) (inR_of (by omega) (by omega)) (fun hc7 => ?_) (fun hc7 => ?_)
    · skip
      refine G_aload_n dX3_changeFlow_13 rfl rfl ?_
      refine G_getf fl_X3_29 dX3_changeFlow_14 (by assumption) rfl ?_
      refine G_istore_n dX3_changeFlow_17 rfl (by decide) rfl ?_
      refine G_aload_n dX3_changeFlow_18 rfl rfl ?_
      refine G_iload_n dX3_changeFlow_19 rfl rfl ?_
      refine G_putI (fs2 := [r_ (k + 1), r_ (k + 6), r_ (k + 13), i_ q, i_ (v 11 2), i_ (v 11 3)]) fp_X3_29 dX3_changeFlow_20 (by assumption) (Nat.le_of_ble_eq_true rfl) rfl ?_
      have hA2 := staF.obj hA q (v 11 2) (v 11 3)
      refine G_iload_n dX3_changeFlow_23 rfl rfl ?_
      refine G_iload_n dX3_changeFlow_24 rfl rfl ?_
      refine G_icmp_ne (tgt := 33) dX3_changeFlow_25 (by decide) (inR_of (by omega) (by omega)) (inR_of (by omega) (by omega)) (fun hc25 => ?_) (fun hc25 => ?_)
      · skip
        refine G_iload_n dX3_changeFlow_33 rfl rfl ?_
        refine G_ireturn dX3_changeFlow_34 rfl ?_
        first
          | (have e : flowR v q = -5 := by unfold flowR; rw [if_neg (by omega), if_pos (by omega)]
             have e2 : flowV v q = v := by unfold flowV; rw [if_neg (by omega)]
             have e3 : q = v 11 1 := by omega
             subst e3
             rw [e2]
             exact ⟨by rw [e], Fr.set (by omega) (by omega), hA2⟩)
          | (have e : flowR v q = v 11 1 := by unfold flowR; rw [if_neg (by omega), if_neg (by omega)]
             have e2 : flowV v q = vset v 11 (fup (v 11) 1 q) := by unfold flowV; rw [if_pos (by omega)]
             rw [e2]
             exact ⟨by rw [e], Fr.set (by omega) (by omega), hA2⟩)
      · skip
        refine G_bipush dX3_changeFlow_28 rfl ?_
        refine G_goto (tgt := 34) dX3_changeFlow_30 (by decide) ?_
        refine G_ireturn dX3_changeFlow_34 rfl ?_
        first
          | (have e : flowR v q = -5 := by unfold flowR; rw [if_neg (by omega), if_pos (by omega)]
             have e2 : flowV v q = v := by unfold flowV; rw [if_neg (by omega)]
             have e3 : q = v 11 1 := by omega
             subst e3
             rw [e2]
             exact ⟨by rw [e], Fr.set (by omega) (by omega), hA2⟩)
          | (have e : flowR v q = v 11 1 := by unfold flowR; rw [if_neg (by omega), if_neg (by omega)]
             have e2 : flowV v q = vset v 11 (fup (v 11) 1 q) := by unfold flowV; rw [if_pos (by omega)]
             rw [e2]
             exact ⟨by rw [e], Fr.set (by omega) (by omega), hA2⟩)
    · skip
      refine G_bipush dX3_changeFlow_10 rfl ?_
      refine G_ireturn dX3_changeFlow_12 rfl ?_
      have e : flowR v q = -2 := by unfold flowR; rw [if_pos (by omega)]
      have e2 : flowV v q = v := by unfold flowV; rw [if_neg (by omega)]
      rw [e2]
      exact ⟨by rw [e], Fr.rf, hA⟩
set_option maxRecDepth 100000 in
set_option maxHeartbeats 4000000 in
theorem c_X3_changeSetting (h : List PO) (k : Nat) (v : SV) (w q : Int) (hA : stAt h k v) (hV : OK v) (hw : inR w) (hq : inR q) : PM 0 yX3_changeSetting cX3_changeSetting 4 (some .int) h [r_ k, i_ w, i_ q] (fun r0 h2 => r0 = some (i_ (setR v w q)) ∧ Fr h h2 k (k + 14) ∧ stAt h2 k (setV v w q)) := by
  refine PM_of_G RX3 [some (r_ k), some (i_ w), some (i_ q), none] rfl (by decide +kernel) (Nat.le_of_ble_eq_true rfl) rfl ?_
  obtain ⟨⟨hrd, hrs, hrh⟩, ⟨hs0, hs1, hs2⟩, ⟨hn, hf, hfa⟩, ⟨hc, hr, hs, hz⟩, h49, hdi⟩ := id hV
  obtain ⟨hA0, hAb, hAw, hAs⟩ := id hA
  obtain ⟨hB0, hB1, hB2, hB3, hB4⟩ := id hAb
  obtain ⟨hW0, hW1, hW2, hW3, hW4, hW5, hW6⟩ := id hAw
  have hq1 := hq.1
  have hq2 := hq.2
  have hw1 := hw.1
  have hw2 := hw.2
  have hlr := least_rng w
  refine G_iload_n dX3_changeSetting_0 rfl rfl ?_
  refine G_if_lt (tgt := 9) dX3_changeSetting_1 (by decide) (inR_of (by omega) (by omega)) (fun hc1 => ?_) (fun hc1 => ?_)
  · skip
    refine G_iconst dX3_changeSetting_9 ?_
    refine G_ireturn dX3_changeSetting_10 rfl ?_
    have e : setR v w q = -1 := by unfold setR; rw [if_pos (by omega)]
    have e2 : setV v w q = v := by unfold setV; rw [if_neg (by omega)]
    rw [e2]
    exact ⟨by rw [e], Fr.rf, hA⟩
  · skip
    refine G_iload_n dX3_changeSetting_4 rfl rfl ?_
    refine G_iconst dX3_changeSetting_5 ?_
    refine G_icmp_lt (tgt := 11) dX3_changeSetting_6 (by decide) (inR_of (by omega) (by omega)) (inR_of (by omega) (by omega)) (fun hc6 => ?_) (fun hc6 => ?_)
    · skip
      refine G_iload_n dX3_changeSetting_11 rfl rfl ?_
      refine G_getsL rfl dX3_changeSetting_12 ?_
      refine G_iload_n dX3_changeSetting_15 rfl rfl ?_
      refine G_sald dX3_changeSetting_16 (Or.inl ⟨rfl, rfl⟩) (by omega) (by omega) ?_
      refine G_icmp_lt (tgt := 29) dX3_changeSetting_17 (by decide) (inR_of (by omega) (by omega)) (inR_of (by omega) (by omega)) (fun hc17 => ?_) (fun hc17 => ?_)
      · skip
        refine G_bipush dX3_changeSetting_29 rfl ?_
        refine G_ireturn dX3_changeSetting_31 rfl ?_
        have e : setR v w q = -2 := by unfold setR; rw [if_neg (by omega), if_pos (by omega)]
        have e2 : setV v w q = v := by unfold setV; rw [if_neg (by omega)]
        rw [e2]
        exact ⟨by rw [e], Fr.rf, hA⟩
      · skip
        refine G_iload_n dX3_changeSetting_20 rfl rfl ?_
        refine G_getsM rfl dX3_changeSetting_21 ?_
        refine G_iload_n dX3_changeSetting_24 rfl rfl ?_
        refine G_sald dX3_changeSetting_25 (Or.inr ⟨rfl, rfl⟩) (by omega) (by omega) ?_
        refine G_icmp_le (tgt := 32) dX3_changeSetting_26 (by decide) (inR_of (by omega) (by omega)) (inR_of (by omega) (by omega)) (fun hc26 => ?_) (fun hc26 => ?_)
        · skip
          refine G_aload_n dX3_changeSetting_32 rfl rfl ?_
          refine G_getf fl_X3_25 dX3_changeSetting_33 (by assumption) rfl ?_
          refine G_iload_n dX3_changeSetting_36 rfl rfl ?_
          refine G_iald dX3_changeSetting_37 (by assumption) (by omega) (by omega) (by decide) ?_
          have hvw : 0 ≤ v 10 w ∧ v 10 w ≤ 60 := by
            rcases (show w = 0 ∨ w = 1 ∨ w = 2 from by omega) with e | e | e <;> rw [e] <;> omega
          refine G_istore_n dX3_changeSetting_38 rfl (by decide) rfl ?_
          refine G_aload_n dX3_changeSetting_39 rfl rfl ?_
          refine G_getf fl_X3_25 dX3_changeSetting_40 (by assumption) rfl ?_
          refine G_iload_n dX3_changeSetting_43 rfl rfl ?_
          refine G_iload_n dX3_changeSetting_44 rfl rfl ?_
          refine G_iast dX3_changeSetting_45 (by assumption) (by omega) (by omega) (by decide) rfl ?_
          have hA2 := staF.sets hA (fup (v 10) w q)
          refine G_iload_n dX3_changeSetting_46 rfl rfl ?_
          refine G_iload_n dX3_changeSetting_47 rfl rfl ?_
          refine G_icmp_ne (tgt := 56) dX3_changeSetting_48 (by decide) (inR_of (by omega) (by omega)) (inR_of (by omega) (by omega)) (fun hc48 => ?_) (fun hc48 => ?_)
          · skip
            refine G_iload_n dX3_changeSetting_56 rfl rfl ?_
            refine G_ireturn dX3_changeSetting_57 rfl ?_
            first
              | (have e : setR v w q = -5 := by unfold setR; rw [if_neg (by omega), if_neg (by omega), if_pos (by omega)]
                 have e2 : setV v w q = v := by unfold setV; rw [if_neg (by omega)]
                 rw [fup_same (by omega)] at hA2 ⊢
                 rw [e2]
                 exact ⟨by rw [e], Fr.set (by omega) (by omega), hA2⟩)
              | (have e : setR v w q = v 10 w := by unfold setR; rw [if_neg (by omega), if_neg (by omega), if_neg (by omega)]
                 have e2 : setV v w q = vset v 10 (fup (v 10) w q) := by unfold setV; rw [if_pos (by omega)]
                 rw [e2]
                 exact ⟨by rw [e], Fr.set (by omega) (by omega), hA2⟩)
          · skip
            refine G_bipush dX3_changeSetting_51 rfl ?_
            refine G_goto (tgt := 57) dX3_changeSetting_53 (by decide) ?_
            refine G_ireturn dX3_changeSetting_57 rfl ?_
            first
              | (have e : setR v w q = -5 := by unfold setR; rw [if_neg (by omega), if_neg (by omega), if_pos (by omega)]
                 have e2 : setV v w q = v := by unfold setV; rw [if_neg (by omega)]
                 rw [fup_same (by omega)] at hA2 ⊢
                 rw [e2]
                 exact ⟨by rw [e], Fr.set (by omega) (by omega), hA2⟩)
              | (have e : setR v w q = v 10 w := by unfold setR; rw [if_neg (by omega), if_neg (by omega), if_neg (by omega)]
                 have e2 : setV v w q = vset v 10 (fup (v 10) w q) := by unfold setV; rw [if_pos (by omega)]
                 rw [e2]
                 exact ⟨by rw [e], Fr.set (by omega) (by omega), hA2⟩)
        · skip
          refine G_bipush dX3_changeSetting_29 rfl ?_
          refine G_ireturn dX3_changeSetting_31 rfl ?_
          have e : setR v w q = -2 := by unfold setR; rw [if_neg (by omega), if_pos (by omega)]
          have e2 : setV v w q = v := by unfold setV; rw [if_neg (by omega)]
          rw [e2]
          exact ⟨by rw [e], Fr.rf, hA⟩
    · skip
      refine G_iconst dX3_changeSetting_9 ?_
      refine G_ireturn dX3_changeSetting_10 rfl ?_
      have e : setR v w q = -1 := by unfold setR; rw [if_pos (by omega)]
      have e2 : setV v w q = v := by unfold setV; rw [if_neg (by omega)]
      rw [e2]
      exact ⟨by rw [e], Fr.rf, hA⟩
set_option maxRecDepth 100000 in
set_option maxHeartbeats 4000000 in
theorem c_X3_letOneTideCome (h : List PO) (k : Nat) (v : SV) (rise : Int) (hA : stAt h k v) (hV : OK v) (hri : -30 ≤ rise ∧ rise ≤ 30) : PM 3 yX3_letOneTideCome cX3_letOneTideCome 2 none h [r_ k, i_ rise] (fun r0 h2 => r0 = none ∧ Fr h h2 k (k + 14) ∧ stAt h2 k (tideV rise v)) := by
  refine PM_of_G RX3 [some (r_ k), some (i_ rise)] rfl (by decide +kernel) (Nat.le_of_ble_eq_true rfl) rfl ?_
  obtain ⟨⟨hrd, hrs, hrh⟩, ⟨hs0, hs1, hs2⟩, ⟨hn, hf, hfa⟩, ⟨hc, hr, hs, hz⟩, h49, hdi⟩ := id hV
  obtain ⟨hA0, hAb, hAw, hAs⟩ := id hA
  obtain ⟨hB0, hB1, hB2, hB3, hB4⟩ := id hAb
  obtain ⟨hW0, hW1, hW2, hW3, hW4, hW5, hW6⟩ := id hAw
  have hp : -200 ≤ pushI v rise ∧ pushI v rise ≤ 200 := by unfold pushI; omega
  have hH : RG 0 60 40 (tideH rise v) := heiF_rng hrd hrs hrh hs2.1
  refine G_aload_n dX3_letOneTideCome_0 rfl rfl ?_
  refine G_getf fl_X3_12 dX3_letOneTideCome_1 (by assumption) rfl ?_
  refine G_aload_n dX3_letOneTideCome_4 rfl rfl ?_
  refine G_iload_n dX3_letOneTideCome_5 rfl rfl ?_
  refine G_callV (ci := 3) (as := [_]) (c_X3_pushOf h k v rise hA) dX3_letOneTideCome_6 ml_X3_75 cv_X3_pushOf (by assumption) rfl rfl (Nat.le_of_ble_eq_true rfl) (Nat.le_of_ble_eq_true rfl) rfl (fun r h2 hp => ?_)
  obtain ⟨rfl, rfl⟩ := hp
  refine G_aload_n dX3_letOneTideCome_9 rfl rfl ?_
  refine G_callV (ci := 3) (as := []) (c_X3_slope h k v hA) dX3_letOneTideCome_10 ml_X3_79 cv_X3_slope (by assumption) rfl rfl (Nat.le_of_ble_eq_true rfl) (Nat.le_of_ble_eq_true rfl) rfl (fun r h2 hp => ?_)
  obtain ⟨rfl, rfl⟩ := hp
  refine G_aload_n dX3_letOneTideCome_13 rfl rfl ?_
  refine G_getf fl_X3_25 dX3_letOneTideCome_14 (by assumption) rfl ?_
  refine G_iconst dX3_letOneTideCome_17 ?_
  refine G_iald dX3_letOneTideCome_18 (by assumption) (by omega) (by omega) (by decide) ?_
  refine G_callV (ci := 0) (as := [_, _, _]) (c_X0_follow h (k + 1) (v 0) (v 1) (v 2) (v 3) (pushI v rise) (v 10 1) (v 10 2) hAb hrd hrs hrh hp hs1 hs2) dX3_letOneTideCome_19 ml_X3_82 cv_X0_follow (by assumption) rfl rfl (Nat.le_of_ble_eq_true rfl) (Nat.le_of_ble_eq_true rfl) rfl (fun r h2 hp => ?_)
  obtain ⟨rfl, hF1, hb1⟩ := hp
  have hA1 : staF h2 k (v 0) (v 1) (tideH rise v) (wetF (tideH rise v) (v 3)) (v 4) (v 5) (v 6) (v 7) (v 8) (v 9) (v 11 0) (v 10) (v 11 1) (v 11 2) (v 11 3) := staF.bed hA hF1 hb1
  have hF : Fr h h2 k (k + 14) := hF1.wide (by omega) (by omega)
  obtain ⟨hX0, hXb, hXw, hXs⟩ := id hA1
  generalize h2 = H1 at *
  obtain ⟨hY0, hY1, hY2, hY3, hY4⟩ := id hXb
  obtain ⟨hZ0, hZ1, hZ2, hZ3, hZ4, hZ5, hZ6⟩ := id hXw
  refine G_aload_n dX3_letOneTideCome_22 rfl rfl ?_
  refine G_getf fl_X3_21 dX3_letOneTideCome_23 (by assumption) rfl ?_
  refine G_aload_n dX3_letOneTideCome_26 rfl rfl ?_
  refine G_getf fl_X3_12 dX3_letOneTideCome_27 (by assumption) rfl ?_
  refine G_callV (ci := 4) (as := [_]) (c_X4_drawFrom H1 (k + 6) (v 4) (v 5) (v 6) (v 7) (v 8) (v 9) (v 11 0) (k + 1) (v 0) (v 1) (tideH rise v) (wetF (tideH rise v) (v 3)) hXw hn hXb (by omega) hrd hrs hH hc hr hs hz) dX3_letOneTideCome_30 ml_X3_86 cv_X4_drawFrom (by assumption) rfl rfl (Nat.le_of_ble_eq_true rfl) (Nat.le_of_ble_eq_true rfl) rfl (fun r h2 hp => ?_)
  obtain ⟨rfl, hF2, hw1⟩ := hp
  have hA1 := staF.wel hA1 hF2 hw1
  have hF := hF.tr (hF2.wide (show k ≤ k + 6 by omega) (show k + 6 + 7 ≤ k + 14 by omega))
  obtain ⟨hX0, hXb, hXw, hXs⟩ := id hA1
  obtain ⟨hY0, hY1, hY2, hY3, hY4⟩ := id hXb
  refine G_aload_n dX3_letOneTideCome_33 rfl rfl ?_
  refine G_dup dX3_letOneTideCome_34 ?_
  refine G_getf fl_X3_49 dX3_letOneTideCome_35 (by assumption) rfl ?_
  refine G_iconst dX3_letOneTideCome_38 ?_
  refine G_iadd dX3_letOneTideCome_39 ?_
  refine G_putI (fs2 := [r_ (k + 1), r_ (k + 6), r_ (k + 13), i_ (v 11 1), i_ (v 11 2 + 1), i_ (v 11 3)]) fp_X3_49 dX3_letOneTideCome_40 (by assumption) (Nat.le_of_ble_eq_true rfl) rfl ?_
  have hA1 := hA1.obj (v 11 1) (v 11 2 + 1) (v 11 3)
  have hF := hF.tr (Fr.set (o := oO 3 [r_ (k + 1), r_ (k + 6), r_ (k + 13), i_ (v 11 1), i_ (v 11 2 + 1), i_ (v 11 3)]) (show k ≤ k by omega) (show k < k + 14 by omega))
  obtain ⟨hX0, hXb, hXw, hXs⟩ := id hA1
  have hY0 := hXb.1
  refine G_aload_n dX3_letOneTideCome_43 rfl rfl ?_
  refine G_aload_n dX3_letOneTideCome_44 rfl rfl ?_
  refine G_getf fl_X3_33 dX3_letOneTideCome_45 (by assumption) rfl ?_
  refine G_aload_n dX3_letOneTideCome_48 rfl rfl ?_
  refine G_getf fl_X3_12 dX3_letOneTideCome_49 (by assumption) rfl ?_
  refine G_callV (ci := 0) (as := []) (c_X0_greatestSaltCell _ (k + 1) (v 0) (v 1) (tideH rise v) (wetF (tideH rise v) (v 3)) hXb hH) dX3_letOneTideCome_52 ml_X3_89 cv_X0_greatestSaltCell (by assumption) rfl rfl (Nat.le_of_ble_eq_true rfl) (Nat.le_of_ble_eq_true rfl) rfl (fun r h2 hp => ?_)
  obtain ⟨rfl, rfl⟩ := hp
  have hrr := reachN_rng (q := tideH rise v) 40
  refine G_max dX3_letOneTideCome_55 mm_X3_92 (inR_of (by omega) (by omega)) (inR_of (by omega) (by omega)) (Nat.le_of_ble_eq_true rfl) (Nat.le_of_ble_eq_true rfl) ?_
  refine G_putI (fs2 := [r_ (k + 1), r_ (k + 6), r_ (k + 13), i_ (v 11 1), i_ (v 11 2 + 1), i_ (max (v 11 3) (reachN (tideH rise v) 40))]) fp_X3_33 dX3_letOneTideCome_58 (by assumption) (Nat.le_of_ble_eq_true rfl) rfl ?_
  have hA1 := hA1.obj (v 11 1) (v 11 2 + 1) (max (v 11 3) (reachN (tideH rise v) 40))
  have hF := hF.tr (Fr.set (o := oO 3 [r_ (k + 1), r_ (k + 6), r_ (k + 13), i_ (v 11 1), i_ (v 11 2 + 1), i_ (max (v 11 3) (reachN (tideH rise v) 40))]) (show k ≤ k by omega) (show k < k + 14 by omega))
  refine G_return dX3_letOneTideCome_61 rfl ?_
  exact ⟨rfl, hF, hA1⟩
set_option maxRecDepth 100000 in
set_option maxHeartbeats 4000000 in
theorem c_X3_letTidesCome (h : List PO) (k : Nat) (v : SV) (rise times : Int) (hA : stAt h k v) (hV : OK v) (hT : 0 ≤ v 11 2 ∧ v 11 2 ≤ 99999) (hri0 : inR rise) (hti : inR times) : PM 4 yX3_letTidesCome cX3_letTidesCome 4 (some .int) h [r_ k, i_ rise, i_ times] (fun r0 h2 => r0 = some (i_ (tidesR v rise times)) ∧ Fr h h2 k (k + 14) ∧ stAt h2 k (tidesV v rise times)) := by
  refine PM_of_G RX3 [some (r_ k), some (i_ rise), some (i_ times), none] rfl (by decide +kernel) (Nat.le_of_ble_eq_true rfl) rfl ?_
  obtain ⟨⟨hrd, hrs, hrh⟩, ⟨hs0, hs1, hs2⟩, ⟨hn, hf, hfa⟩, ⟨hc, hr, hs, hz⟩, h49, hdi⟩ := id hV
  obtain ⟨hA0, hAb, hAw, hAs⟩ := id hA
  obtain ⟨hB0, hB1, hB2, hB3, hB4⟩ := id hAb
  obtain ⟨hW0, hW1, hW2, hW3, hW4, hW5, hW6⟩ := id hAw
  have hri1 := hri0.1
  have hri2 := hri0.2
  have hti1 := hti.1
  have hti2 := hti.2
  refine G_iload_n dX3_letTidesCome_0 rfl rfl ?_
  refine G_callSN (as := [_]) (c_X5_isRise h rise hri0) dX3_letTidesCome_1 (fun _ _ E => E.2.1.2.2.1) cs_X5_isRise rfl (Nat.le_of_ble_eq_true rfl) (Nat.le_of_ble_eq_true rfl) rfl (fun r h2 hp => ?_)
  obtain ⟨y, rfl, rfl, hy⟩ := hp
  refine G_if_eq (tgt := 18) dX3_letTidesCome_4 (by decide) (inR_of (by omega) (by omega)) (fun hc4 => ?_) (fun hc4 => ?_)
  · skip
    refine G_bipush dX3_letTidesCome_18 rfl ?_
    refine G_ireturn dX3_letTidesCome_20 rfl ?_
    have e : tidesR v rise times = -2 := by unfold tidesR; rw [if_pos (by omega)]
    have e2 : tidesV v rise times = v := by unfold tidesV; rw [if_neg (by omega)]
    rw [e2]
    exact ⟨by rw [e], Fr.rf, hA⟩
  · skip
    refine G_iload_n dX3_letTidesCome_7 rfl rfl ?_
    refine G_iconst dX3_letTidesCome_8 ?_
    refine G_icmp_lt (tgt := 18) dX3_letTidesCome_9 (by decide) (inR_of (by omega) (by omega)) (inR_of (by omega) (by omega)) (fun hc9 => ?_) (fun hc9 => ?_)
    · skip
      refine G_bipush dX3_letTidesCome_18 rfl ?_
      refine G_ireturn dX3_letTidesCome_20 rfl ?_
      have e : tidesR v rise times = -2 := by unfold tidesR; rw [if_pos (by omega)]
      have e2 : tidesV v rise times = v := by unfold tidesV; rw [if_neg (by omega)]
      rw [e2]
      exact ⟨by rw [e], Fr.rf, hA⟩
    · skip
      refine G_iload_n dX3_letTidesCome_12 rfl rfl ?_
      refine G_bipush dX3_letTidesCome_13 rfl ?_
      refine G_icmp_le (tgt := 21) dX3_letTidesCome_15 (by decide) (inR_of (by omega) (by omega)) (inR_of (by omega) (by omega)) (fun hc15 => ?_) (fun hc15 => ?_)
      · skip
        refine G_aload_n dX3_letTidesCome_21 rfl rfl ?_
        refine G_getf fl_X3_49 dX3_letTidesCome_22 (by assumption) rfl ?_
        refine G_iload_n dX3_letTidesCome_25 rfl rfl ?_
        refine G_iadd dX3_letTidesCome_26 ?_
        refine G_ldc dX3_letTidesCome_27 cn_X3_66 ?_
        refine G_icmp_le (tgt := 35) dX3_letTidesCome_29 (by decide) (inR_of (by omega) (by omega)) (inR_of (by omega) (by omega)) (fun hc29 => ?_) (fun hc29 => ?_)
        · skip
          have hri : -30 ≤ rise ∧ rise ≤ 30 := by omega
          have L : ∀ (fu : Nat) (i : Int) (hh : List PO), 0 ≤ i → i ≤ times → stAt hh k (itV rise v i.toNat) → Fr h hh k (k + 14) → times - i < fu → G 4 cX3_letTidesCome RX3 4 (some .int) hh 37 [some (r_ k), some (i_ rise), some (i_ times), some (i_ i)] [] (fun r0 h2 => r0 = some (i_ (tidesR v rise times)) ∧ Fr h h2 k (k + 14) ∧ stAt h2 k (tidesV v rise times)) := by
            intro fu
            induction fu with
            | zero => intro i hh a1 a2 hA1 hF hmeas; exfalso; omega
            | succ fu ih =>
              intro i hh a1 a2 hA1 hF hmeas
              obtain ⟨hX0, hXb, hXw, hXs⟩ := id hA1
              obtain ⟨hY0, hY1, hY2, hY3, hY4⟩ := id hXb
              refine G_iload_n dX3_letTidesCome_37 rfl rfl ?_
              refine G_iload_n dX3_letTidesCome_38 rfl rfl ?_
              refine G_icmp_ge (tgt := 53) dX3_letTidesCome_39 (by decide) (inR_of (by omega) (by omega)) (inR_of (by omega) (by omega)) (fun hc39 => ?_) (fun hc39 => ?_)
              · skip
                have e : i = times := by omega
                subst e
                refine G_aload_n dX3_letTidesCome_53 rfl rfl ?_
                refine G_getf fl_X3_12 dX3_letTidesCome_54 (by assumption) rfl ?_
                refine G_callV (ci := 0) (as := []) (c_X0_saltCells hh (k + 1) _ _ _ _ hXb (hV.it _).1.2.2) dX3_letTidesCome_57 ml_X3_71 cv_X0_saltCells (by assumption) rfl rfl (Nat.le_of_ble_eq_true rfl) (Nat.le_of_ble_eq_true rfl) rfl (fun r h2 hp => ?_)
                obtain ⟨rfl, rfl⟩ := hp
                refine G_ireturn dX3_letTidesCome_60 rfl ?_
                have hw := wet_rng (q := itV rise v i.toNat 2) 40
                have e : tidesR v rise i = sumN (wetI (itV rise v i.toNat 2)) 40 := by unfold tidesR; rw [if_neg (by omega), if_neg (by omega)]
                have e2 : tidesV v rise i = itV rise v i.toNat := by unfold tidesV; rw [if_pos (by omega)]
                rw [e2]
                exact ⟨by rw [e], hF, hA1⟩
              · skip
                refine G_aload_n dX3_letTidesCome_42 rfl rfl ?_
                refine G_iload_n dX3_letTidesCome_43 rfl rfl ?_
                refine G_callV (ci := 3) (as := [_]) (c_X3_letOneTideCome hh k (itV rise v i.toNat) rise hA1 (hV.it _) hri) dX3_letTidesCome_44 ml_X3_67 cv_X3_letOneTideCome (by assumption) rfl rfl (Nat.le_of_ble_eq_true rfl) (Nat.le_of_ble_eq_true rfl) rfl (fun r h2 hp => ?_)
                obtain ⟨rfl, hF2, hA2⟩ := hp
                refine G_iinc dX3_letTidesCome_47 (by decide) rfl rfl ?_
                refine G_goto (tgt := 37) dX3_letTidesCome_50 (by decide) ?_
                refine ih (i + 1) _ (by omega) (by omega) ?_ (hF.tr hF2) (by omega)
                have e : (i + 1).toNat = i.toNat + 1 := by omega
                rw [e]
                exact hA2
          refine G_iconst dX3_letTidesCome_35 ?_
          refine G_istore_n dX3_letTidesCome_36 rfl (by decide) rfl ?_
          exact L (times.toNat + 1) 0 h (by omega) (by omega) hA Fr.rf (by omega)
        · skip
          refine G_bipush dX3_letTidesCome_32 rfl ?_
          refine G_ireturn dX3_letTidesCome_34 rfl ?_
          have e : tidesR v rise times = -3 := by unfold tidesR; rw [if_neg (by omega), if_pos (by omega)]
          have e2 : tidesV v rise times = v := by unfold tidesV; rw [if_neg (by omega)]
          rw [e2]
          exact ⟨by rw [e], Fr.rf, hA⟩
      · skip
        refine G_bipush dX3_letTidesCome_18 rfl ?_
        refine G_ireturn dX3_letTidesCome_20 rfl ?_
        have e : tidesR v rise times = -2 := by unfold tidesR; rw [if_pos (by omega)]
        have e2 : tidesV v rise times = v := by unfold tidesV; rw [if_neg (by omega)]
        rw [e2]
        exact ⟨by rw [e], Fr.rf, hA⟩
set_option maxRecDepth 100000 in
set_option maxHeartbeats 4000000 in
theorem c_X3_leastFlowFor (h : List PO) (k : Nat) (v : SV) (c rise : Int) (hA : stAt h k v) (hV : OK v) (c0 : 0 ≤ c) (c1 : c < 40) (hri : -30 ≤ rise ∧ rise ≤ 30) : PM 4 yX3_leastFlowFor cX3_leastFlowFor 4 (some .int) h [r_ k, i_ c, i_ rise] (fun r0 h2 => r0 = some (i_ (lfN v c rise 100)) ∧ h = h2) := by
  refine PM_of_G RX3 [some (r_ k), some (i_ c), some (i_ rise), none] rfl (by decide +kernel) (Nat.le_of_ble_eq_true rfl) rfl ?_
  obtain ⟨⟨hrd, hrs, hrh⟩, ⟨hs0, hs1, hs2⟩, ⟨hn, hf, hfa⟩, ⟨hc, hr, hs, hz⟩, h49, hdi⟩ := id hV
  obtain ⟨hA0, hAb, hAw, hAs⟩ := id hA
  obtain ⟨hB0, hB1, hB2, hB3, hB4⟩ := id hAb
  obtain ⟨hW0, hW1, hW2, hW3, hW4, hW5, hW6⟩ := id hAw
  have L : ∀ (fu : Nat) (i : Int), 0 ≤ i → i ≤ 100 → lfN v c rise 100 = lfN v c rise (100 - i).toNat → 100 - i < fu → G 4 cX3_leastFlowFor RX3 4 (some .int) h 2 [some (r_ k), some (i_ c), some (i_ rise), some (i_ i)] [] (fun r0 h2 => r0 = some (i_ (lfN v c rise 100)) ∧ h = h2) := by
    intro fu
    induction fu with
    | zero => intro i a1 a2 hst hmeas; exfalso; omega
    | succ fu ih =>
      intro i a1 a2 hst hmeas
      refine G_iload_n dX3_leastFlowFor_2 rfl rfl ?_
      refine G_bipush dX3_leastFlowFor_3 rfl ?_
      refine G_icmp_gt (tgt := 37) dX3_leastFlowFor_5 (by decide) (inR_of (by omega) (by omega)) (inR_of (by omega) (by omega)) (fun hc5 => ?_) (fun hc5 => ?_)
      · skip
        have e : i = 100 := by omega
        subst e
        refine G_bipush dX3_leastFlowFor_37 rfl ?_
        refine G_ireturn dX3_leastFlowFor_39 rfl ?_
        exact ⟨by rw [hst]; rfl, rfl⟩
      · skip
        refine G_aload_n dX3_leastFlowFor_8 rfl rfl ?_
        refine G_getf fl_X3_12 dX3_leastFlowFor_9 (by assumption) rfl ?_
        refine G_iload_n dX3_leastFlowFor_12 rfl rfl ?_
        refine G_aload_n dX3_leastFlowFor_13 rfl rfl ?_
        refine G_iload_n dX3_leastFlowFor_14 rfl rfl ?_
        refine G_iload_n dX3_leastFlowFor_15 rfl rfl ?_
        refine G_callV (ci := 3) (as := [_, _]) (c_X3_pushWith h k v i rise hA) dX3_leastFlowFor_16 ml_X3_58 cv_X3_pushWith (by assumption) rfl rfl (Nat.le_of_ble_eq_true rfl) (Nat.le_of_ble_eq_true rfl) rfl (fun r h2 hp => ?_)
        obtain ⟨rfl, rfl⟩ := hp
        refine G_aload_n dX3_leastFlowFor_19 rfl rfl ?_
        refine G_callV (ci := 3) (as := []) (c_X3_slope h k v hA) dX3_leastFlowFor_20 ml_X3_79 cv_X3_slope (by assumption) rfl rfl (Nat.le_of_ble_eq_true rfl) (Nat.le_of_ble_eq_true rfl) rfl (fun r h2 hp => ?_)
        obtain ⟨rfl, rfl⟩ := hp
        refine G_callV (ci := 0) (as := [_, _, _]) (c_X0_markOf h (k + 1) (v 0) (v 1) (v 2) (v 3) c _ (v 10 1) hAb hrd hrs c0 c1 (by omega) hs1) dX3_leastFlowFor_23 ml_X3_97 cv_X0_markOf (by assumption) rfl rfl (Nat.le_of_ble_eq_true rfl) (Nat.le_of_ble_eq_true rfl) rfl (fun r h2 hp => ?_)
        obtain ⟨rfl, rfl⟩ := hp
        have hmr := mkI_rng (push := v 10 0 + rise - i) (slope := v 10 1) hrs hrd c0 c1
        refine G_if_ne (tgt := 31) dX3_leastFlowFor_26 (by decide) (inR_of (by omega) (by omega)) (fun hc26 => ?_) (fun hc26 => ?_)
        · skip
          refine G_iinc dX3_leastFlowFor_31 (by decide) rfl rfl ?_
          refine G_goto (tgt := 2) dX3_leastFlowFor_34 (by decide) ?_
          exact ih (i + 1) (by omega) (by omega) (by rw [hst, lfN_s a1 (by omega), if_neg (by omega)]) (by omega)
        · skip
          refine G_iload_n dX3_leastFlowFor_29 rfl rfl ?_
          refine G_ireturn dX3_leastFlowFor_30 rfl ?_
          exact ⟨by rw [hst, lfN_s a1 (by omega), if_pos (by omega)], rfl⟩
  refine G_iconst dX3_leastFlowFor_0 ?_
  refine G_istore_n dX3_leastFlowFor_1 rfl (by decide) rfl ?_
  exact L 101 0 (by omega) (by omega) rfl (by omega)
set_option maxRecDepth 100000 in
set_option maxHeartbeats 4000000 in
theorem c_X3_copyFrom (h : List PO) (k a : Nat) (v u : SV) (hT0 : stAt h k u) (hO : stAt h a v) (hab : a + 14 ≤ k ∨ k + 14 ≤ a) : PM 3 yX3_copyFrom cX3_copyFrom 2 none h [r_ k, r_ a] (fun r0 h2 => r0 = none ∧ Fr h h2 k (k + 14) ∧ stAt h2 k v) := by
  refine PM_of_G RX3 [some (r_ k), some (r_ a)] rfl (by decide +kernel) (Nat.le_of_ble_eq_true rfl) rfl ?_
  have hT : staF h k (u 0) (u 1) (u 2) (u 3) (u 4) (u 5) (u 6) (u 7) (u 8) (u 9) (u 11 0) (u 10) (u 11 1) (u 11 2) (u 11 3) := hT0
  have hF : Fr h h k (k + 14) := Fr.rf
  obtain ⟨hT0, hTb, hTw, hTs⟩ := id hT
  obtain ⟨hO0, hOb, hOw, hOs⟩ := id hO
  have hTb0 := hTb.1
  have hTw0 := hTw.1
  have hOb0 := hOb.1
  have hOw0 := hOw.1
  refine G_aload_n dX3_copyFrom_0 rfl rfl ?_
  refine G_getf fl_X3_12 dX3_copyFrom_1 (by assumption) rfl ?_
  refine G_aload_n dX3_copyFrom_4 rfl rfl ?_
  refine G_getf fl_X3_12 dX3_copyFrom_5 (by assumption) rfl ?_
  refine G_callV (ci := 0) (as := [_]) (c_X0_copyFrom _ (k + 1) (a + 1) _ _ _ _ _ _ _ _ hTb hOb (by omega)) dX3_copyFrom_8 ml_X3_36 cv_X0_copyFrom (by assumption) rfl rfl (Nat.le_of_ble_eq_true rfl) (Nat.le_of_ble_eq_true rfl) rfl (fun r h2 hp => ?_)
  obtain ⟨rfl, hF2, hb⟩ := hp
  have hT := hT.bed hF2 hb
  have hF1 : Fr _ _ k (k + 14) := hF2.wide (by omega) (by omega)
  have hF := hF.tr hF1
  have hO := stAt.fr hO hF1 (by omega)
  obtain ⟨hT0, hTb, hTw, hTs⟩ := id hT
  obtain ⟨hO0, hOb, hOw, hOs⟩ := id hO
  have hTb0 := hTb.1
  have hTw0 := hTw.1
  have hOb0 := hOb.1
  have hOw0 := hOw.1
  refine G_aload_n dX3_copyFrom_11 rfl rfl ?_
  refine G_getf fl_X3_21 dX3_copyFrom_12 (by assumption) rfl ?_
  refine G_aload_n dX3_copyFrom_15 rfl rfl ?_
  refine G_getf fl_X3_21 dX3_copyFrom_16 (by assumption) rfl ?_
  refine G_callV (ci := 4) (as := [_]) (c_X4_copyFrom _ (k + 6) (a + 6) _ _ _ _ _ _ _ _ _ _ _ _ _ _ hTw hOw (by omega)) dX3_copyFrom_19 ml_X3_40 cv_X4_copyFrom (by assumption) rfl rfl (Nat.le_of_ble_eq_true rfl) (Nat.le_of_ble_eq_true rfl) rfl (fun r h2 hp => ?_)
  obtain ⟨rfl, hF2, hb⟩ := hp
  have hT := hT.wel hF2 hb
  have hF1 : Fr _ _ k (k + 14) := hF2.wide (by omega) (by omega)
  have hF := hF.tr hF1
  have hO := stAt.fr hO hF1 (by omega)
  obtain ⟨hT0, hTb, hTw, hTs⟩ := id hT
  obtain ⟨hO0, hOb, hOw, hOs⟩ := id hO
  have hTb0 := hTb.1
  have hTw0 := hTw.1
  have hOb0 := hOb.1
  have hOw0 := hOw.1
  refine G_aload_n dX3_copyFrom_22 rfl rfl ?_
  refine G_getf fl_X3_25 dX3_copyFrom_23 (by assumption) rfl ?_
  refine G_iconst dX3_copyFrom_26 ?_
  refine G_aload_n dX3_copyFrom_27 rfl rfl ?_
  refine G_getf fl_X3_25 dX3_copyFrom_28 (by assumption) rfl ?_
  refine G_iconst dX3_copyFrom_31 ?_
  refine G_iconst dX3_copyFrom_32 ?_
  refine G_copy dX3_copyFrom_33 mc_X3_43 (by assumption) (by assumption) rfl (by decide) (Nat.le_of_ble_eq_true rfl) (Nat.le_of_ble_eq_true rfl) ?_
  have hT := hT.sets (v 10)
  have hF := hF.tr (Fr.set (lo := k) (hi := k + 14) (o := oI 3 (v 10)) (show k ≤ k + 13 by omega) (show k + 13 < k + 14 by omega))
  have hO := stAt.fr hO (Fr.set (lo := k) (hi := k + 14) (o := oI 3 (v 10)) (show k ≤ k + 13 by omega) (show k + 13 < k + 14 by omega)) (by omega)
  obtain ⟨hT0, hTb, hTw, hTs⟩ := id hT
  obtain ⟨hO0, hOb, hOw, hOs⟩ := id hO
  have hTb0 := hTb.1
  have hTw0 := hTw.1
  have hOb0 := hOb.1
  have hOw0 := hOw.1
  refine G_aload_n dX3_copyFrom_36 rfl rfl ?_
  refine G_aload_n dX3_copyFrom_37 rfl rfl ?_
  refine G_getf fl_X3_29 dX3_copyFrom_38 (by assumption) rfl ?_
  refine G_putI (fs2 := [r_ (k + 1), r_ (k + 6), r_ (k + 13), i_ (v 11 1), i_ (u 11 2), i_ (u 11 3)]) fp_X3_29 dX3_copyFrom_41 (by assumption) (Nat.le_of_ble_eq_true rfl) rfl ?_
  have hT := hT.obj (v 11 1) (u 11 2) (u 11 3)
  have hF := hF.tr (Fr.set (lo := k) (hi := k + 14) (o := oO 3 [r_ (k + 1), r_ (k + 6), r_ (k + 13), i_ (v 11 1), i_ (u 11 2), i_ (u 11 3)]) (show k ≤ k by omega) (show k < k + 14 by omega))
  have hO := stAt.fr hO (Fr.set (lo := k) (hi := k + 14) (o := oO 3 [r_ (k + 1), r_ (k + 6), r_ (k + 13), i_ (v 11 1), i_ (u 11 2), i_ (u 11 3)]) (show k ≤ k by omega) (show k < k + 14 by omega)) (by omega)
  obtain ⟨hT0, hTb, hTw, hTs⟩ := id hT
  obtain ⟨hO0, hOb, hOw, hOs⟩ := id hO
  have hTb0 := hTb.1
  have hTw0 := hTw.1
  have hOb0 := hOb.1
  have hOw0 := hOw.1
  refine G_aload_n dX3_copyFrom_44 rfl rfl ?_
  refine G_aload_n dX3_copyFrom_45 rfl rfl ?_
  refine G_getf fl_X3_49 dX3_copyFrom_46 (by assumption) rfl ?_
  refine G_putI (fs2 := [r_ (k + 1), r_ (k + 6), r_ (k + 13), i_ (v 11 1), i_ (v 11 2), i_ (u 11 3)]) fp_X3_49 dX3_copyFrom_49 (by assumption) (Nat.le_of_ble_eq_true rfl) rfl ?_
  have hT := hT.obj (v 11 1) (v 11 2) (u 11 3)
  have hF := hF.tr (Fr.set (lo := k) (hi := k + 14) (o := oO 3 [r_ (k + 1), r_ (k + 6), r_ (k + 13), i_ (v 11 1), i_ (v 11 2), i_ (u 11 3)]) (show k ≤ k by omega) (show k < k + 14 by omega))
  have hO := stAt.fr hO (Fr.set (lo := k) (hi := k + 14) (o := oO 3 [r_ (k + 1), r_ (k + 6), r_ (k + 13), i_ (v 11 1), i_ (v 11 2), i_ (u 11 3)]) (show k ≤ k by omega) (show k < k + 14 by omega)) (by omega)
  obtain ⟨hT0, hTb, hTw, hTs⟩ := id hT
  obtain ⟨hO0, hOb, hOw, hOs⟩ := id hO
  have hTb0 := hTb.1
  have hTw0 := hTw.1
  have hOb0 := hOb.1
  have hOw0 := hOw.1
  refine G_aload_n dX3_copyFrom_52 rfl rfl ?_
  refine G_aload_n dX3_copyFrom_53 rfl rfl ?_
  refine G_getf fl_X3_33 dX3_copyFrom_54 (by assumption) rfl ?_
  refine G_putI (fs2 := [r_ (k + 1), r_ (k + 6), r_ (k + 13), i_ (v 11 1), i_ (v 11 2), i_ (v 11 3)]) fp_X3_33 dX3_copyFrom_57 (by assumption) (Nat.le_of_ble_eq_true rfl) rfl ?_
  have hT := hT.obj (v 11 1) (v 11 2) (v 11 3)
  have hF := hF.tr (Fr.set (lo := k) (hi := k + 14) (o := oO 3 [r_ (k + 1), r_ (k + 6), r_ (k + 13), i_ (v 11 1), i_ (v 11 2), i_ (v 11 3)]) (show k ≤ k by omega) (show k < k + 14 by omega))
  have hO := stAt.fr hO (Fr.set (lo := k) (hi := k + 14) (o := oO 3 [r_ (k + 1), r_ (k + 6), r_ (k + 13), i_ (v 11 1), i_ (v 11 2), i_ (v 11 3)]) (show k ≤ k by omega) (show k < k + 14 by omega)) (by omega)
  obtain ⟨hT0, hTb, hTw, hTs⟩ := id hT
  obtain ⟨hO0, hOb, hOw, hOs⟩ := id hO
  have hTb0 := hTb.1
  have hTw0 := hTw.1
  have hOb0 := hOb.1
  have hOw0 := hOw.1
  refine G_return dX3_copyFrom_60 rfl ?_
  exact ⟨rfl, hF, hT⟩
end
section
/-! history -/
def rotG {α : Type} (q : Int → α) : Int → α := fun j => if 0 ≤ j ∧ j < 3 then q (j + 1) else if j = 3 then q 0 else q j
theorem rotG_l {α : Type} {q : Int → α} {j : Int} (a : 0 ≤ j) (b : j < 3) : rotG q j = q (j + 1) := if_pos ⟨a, b⟩
theorem rotG_3 {α : Type} {q : Int → α} : rotG q 3 = q 0 := rfl
def rotN (q : Int → Nat) (i : Int) : Int → Nat := fun j => if 0 ≤ j ∧ j < i - 1 then q (j + 1) else q j
theorem rotN_1 (q : Int → Nat) : rotN q 1 = q := by
  funext j
  unfold rotN
  rw [if_neg (by omega)]
theorem rotN_s {q : Int → Nat} {i : Int} (h : 1 ≤ i) : fupN (rotN q i) (i - 1) (rotN q i i) = rotN q (i + 1) := by
  funext j
  unfold fupN rotN
  by_cases e : j = i - 1
  · rw [if_pos e, if_neg (by omega), if_pos (by omega)]
    congr 1; omega
  · rw [if_neg e]
    by_cases z : 0 ≤ j ∧ j < i - 1
    · rw [if_pos z, if_pos (by omega)]
    · rw [if_neg z, if_neg (by omega)]
theorem rotN_4 {q : Int → Nat} : fupN (rotN q 4) 3 (q 0) = rotG q := by
  funext j
  unfold fupN rotN rotG
  by_cases e : j = 3
  · rw [if_pos e, if_neg (by omega), if_pos e]
  · rw [if_neg e]
    by_cases z : 0 ≤ j ∧ j < 3
    · rw [if_pos (by omega), if_pos z]
    · rw [if_neg (by omega), if_neg z, if_neg e]
def fupG {α : Type} (q : Int → α) (x : Int) (v : α) : Int → α := fun j => if j = x then v else q j
def addH (hv : Int → SV) (sz : Int) (v : SV) : Int → SV := if sz < 4 then fupG hv sz v else fupG (rotG hv) 3 v
def addZ (sz : Int) : Int := if sz < 4 then sz + 1 else 4
def PR (y : Nat) (ρ : Int → Nat) : Prop := (∀ i : Int, 0 ≤ i → i < 4 → ∃ k : Nat, k < 4 ∧ ρ i = y + 2 + 14 * k) ∧ ∀ i j : Int, 0 ≤ i → i < 4 → 0 ≤ j → j < 4 → ρ i = ρ j → i = j
theorem PR.rot {y : Nat} {ρ : Int → Nat} (h : PR y ρ) : PR y (rotG ρ) := by
  refine ⟨fun i a b => ?_, fun i j a b c d e => ?_⟩
  · unfold rotG
    by_cases q : i < 3
    · rw [if_pos ⟨a, q⟩]; exact h.1 _ (by omega) (by omega)
    · rw [if_neg (by omega), if_pos (by omega)]; exact h.1 _ (by omega) (by omega)
  · unfold rotG at e
    by_cases q : i < 3
    · rw [if_pos ⟨a, q⟩] at e
      by_cases q2 : j < 3
      · rw [if_pos ⟨c, q2⟩] at e
        have := h.2 _ _ (by omega) (by omega) (by omega) (by omega) e
        omega
      · rw [if_neg (by omega), if_pos (by omega)] at e
        have := h.2 _ _ (by omega) (by omega) (by omega) (by omega) e
        omega
    · rw [if_neg (by omega), if_pos (by omega)] at e
      by_cases q2 : j < 3
      · rw [if_pos ⟨c, q2⟩] at e
        have := h.2 _ _ (by omega) (by omega) (by omega) (by omega) e
        omega
      · omega
def hiAt (h : List PO) (y : Nat) (ρ : Int → Nat) (hv : Int → SV) (sz : Int) : Prop := h[y]? = some (oO 1 [r_ (y + 1), i_ sz]) ∧ h[y + 1]? = some (oR 4 ρ) ∧ PR y ρ ∧ ∀ i : Int, 0 ≤ i → i < 4 → stAt h (ρ i) (hv i)
theorem hiAt.fr {h h2 : List PO} {y lo hi : Nat} {ρ : Int → Nat} {hv : Int → SV} {sz : Int} (a : hiAt h y ρ hv sz) (f : Fr h h2 lo hi) (q : y + 58 ≤ lo ∨ hi ≤ y) : hiAt h2 y ρ hv sz := by
  obtain ⟨a0, a1, a2, a3⟩ := a
  refine ⟨f.at' a0 (by omega), f.at' a1 (by omega), a2, fun i i0 i1 => ?_⟩
  obtain ⟨k, hk, e⟩ := a2.1 i i0 i1
  exact (a3 i i0 i1).fr f (by omega)
theorem hiAt.size {h : List PO} {y : Nat} {ρ : Int → Nat} {hv : Int → SV} {sz : Int} (a : hiAt h y ρ hv sz) (s2 : Int) : hiAt (h.set y (oO 1 [r_ (y + 1), i_ s2])) y ρ hv s2 := by
  obtain ⟨a0, a1, a2, a3⟩ := a
  refine ⟨set_at a0, set_off a1 (by omega), a2, fun i i0 i1 => ?_⟩
  obtain ⟨k, hk, e⟩ := a2.1 i i0 i1
  exact (a3 i i0 i1).fr (Fr.set (lo := y) (hi := y + 1) (by omega) (by omega)) (by omega)
theorem hiAt.rows {h : List PO} {y : Nat} {ρ ρ2 : Int → Nat} {hv : Int → SV} {sz : Int} (a : hiAt h y ρ hv sz) : (∀ i : Int, 0 ≤ i → i < 4 → stAt (h.set (y + 1) (oR 4 ρ2)) (ρ i) (hv i)) := by
  obtain ⟨a0, a1, a2, a3⟩ := a
  intro i i0 i1
  obtain ⟨k, hk, e⟩ := a2.1 i i0 i1
  exact (a3 i i0 i1).fr (Fr.set (lo := y + 1) (hi := y + 2) (by omega) (by omega)) (by omega)
theorem hiAt.put {h h2 : List PO} {y : Nat} {ρ : Int → Nat} {hv : Int → SV} {sz s : Int} {v : SV} (a : hiAt h y ρ hv sz) (s0 : 0 ≤ s) (s1 : s < 4) (f : Fr h h2 (ρ s) (ρ s + 14)) (b : stAt h2 (ρ s) v) : hiAt h2 y ρ (fupG hv s v) sz := by
  obtain ⟨a0, a1, a2, a3⟩ := a
  obtain ⟨k, hk, e⟩ := a2.1 s s0 s1
  refine ⟨f.at' a0 (by omega), f.at' a1 (by omega), a2, fun i i0 i1 => ?_⟩
  unfold fupG
  by_cases q : i = s
  · rw [if_pos q, q]; exact b
  · rw [if_neg q]
    obtain ⟨k2, hk2, e2⟩ := a2.1 i i0 i1
    have hne : k2 ≠ k := fun z => q (a2.2 i s i0 i1 s0 s1 (by rw [e, e2, z]))
    exact (a3 i i0 i1).fr f (by omega)
set_option maxRecDepth 100000 in
set_option maxHeartbeats 4000000 in
theorem c_X1_dropOldest (h : List PO) (y : Nat) (ρ : Int → Nat) (hv : Int → SV) (sz : Int) (hH : hiAt h y ρ hv sz) (hsz : 1 ≤ sz ∧ sz ≤ 4) : PM 0 yX1_dropOldest cX1_dropOldest 3 none h [r_ y] (fun r0 h2 => r0 = none ∧ Fr h h2 y (y + 58) ∧ hiAt h2 y (rotG ρ) (rotG hv) (sz - 1)) := by
  refine PM_of_G RX1 [some (r_ y), none, none] rfl (by decide +kernel) (Nat.le_of_ble_eq_true rfl) rfl ?_
  have hA0 := hH.2.1
  have hY0 := hH.1
  have L : ∀ (fu : Nat) (i : Int), 1 ≤ i → i ≤ 4 → 4 - i < fu → G 0 cX1_dropOldest RX1 3 none (h.set (y + 1) (oR 4 (rotN ρ i))) 9 [some (r_ y), some (r_ (ρ 0)), some (i_ i)] [] (fun r0 h2 => r0 = none ∧ Fr h h2 y (y + 58) ∧ hiAt h2 y (rotG ρ) (rotG hv) (sz - 1)) := by
    intro fu
    induction fu with
    | zero => intro i a1 a2 hmeas; exfalso; omega
    | succ fu ih =>
      intro i a1 a2 hmeas
      have hA := set_at (o := oR 4 (rotN ρ i)) hH.2.1
      have hY := set_off (o := oR 4 (rotN ρ i)) hH.1 (show y + 1 ≠ y by omega)
      refine G_iload_n dX1_dropOldest_9 rfl rfl ?_
      refine G_iconst dX1_dropOldest_10 ?_
      refine G_icmp_ge (tgt := 34) dX1_dropOldest_11 (by decide) (inR_of (by omega) (by omega)) (inR_of (by omega) (by omega)) (fun hc11 => ?_) (fun hc11 => ?_)
      · skip
        have e : i = 4 := by omega
        subst e
        have hob := (hH.rows (ρ2 := rotN ρ 4) 0 (by omega) (by omega)).1
        refine G_aload_n dX1_dropOldest_34 rfl rfl ?_
        refine G_getf fl_X1_11 dX1_dropOldest_35 (by assumption) rfl ?_
        refine G_iconst dX1_dropOldest_38 ?_
        refine G_aload_n dX1_dropOldest_39 rfl rfl ?_
        refine G_aast dX1_dropOldest_40 (by assumption) (by assumption) (by omega) (by omega) (by decide) rfl ?_
        rw [List.set_set, rotN_4]
        have hA2 := set_at (o := oR 4 (rotG ρ)) hH.2.1
        have hY2 := set_off (o := oR 4 (rotG ρ)) hH.1 (show y + 1 ≠ y by omega)
        refine G_aload_n dX1_dropOldest_41 rfl rfl ?_
        refine G_dup dX1_dropOldest_42 ?_
        refine G_getf fl_X1_18 dX1_dropOldest_43 (by assumption) rfl ?_
        refine G_iconst dX1_dropOldest_46 ?_
        refine G_isub dX1_dropOldest_47 ?_
        refine G_putI (fs2 := [r_ (y + 1), i_ (sz - 1)]) fp_X1_18 dX1_dropOldest_48 (by assumption) (Nat.le_of_ble_eq_true rfl) rfl ?_
        refine G_return dX1_dropOldest_51 rfl ?_
        have hF1 : Fr h (h.set (y + 1) (oR 4 (rotG ρ))) y (y + 58) := Fr.set (by omega) (by omega)
        refine ⟨rfl, hF1.tr (Fr.set (by omega) (by omega)), ?_⟩
        have hI : hiAt (h.set (y + 1) (oR 4 (rotG ρ))) y (rotG ρ) (rotG hv) sz := ⟨hY2, hA2, hH.2.2.1.rot, fun i i0 i1 => by
          have hR := hH.rows (ρ2 := rotG ρ)
          by_cases q : i < 3
          · rw [rotG_l i0 q, rotG_l i0 q]; exact hR _ (by omega) (by omega)
          · have e3 : i = 3 := by omega
            rw [e3, rotG_3, rotG_3]; exact hR _ (by omega) (by omega)⟩
        exact hI.size (sz - 1)
      · skip
        have a3 : i < 4 := by omega
        refine G_aload_n dX1_dropOldest_14 rfl rfl ?_
        refine G_getf fl_X1_11 dX1_dropOldest_15 (by assumption) rfl ?_
        refine G_iload_n dX1_dropOldest_18 rfl rfl ?_
        refine G_iconst dX1_dropOldest_19 ?_
        refine G_isub dX1_dropOldest_20 ?_
        refine G_aload_n dX1_dropOldest_21 rfl rfl ?_
        refine G_getf fl_X1_11 dX1_dropOldest_22 (by assumption) rfl ?_
        refine G_iload_n dX1_dropOldest_25 rfl rfl ?_
        refine G_aald dX1_dropOldest_26 (by assumption) (by omega) (by omega) (by decide) ?_
        have e3 : rotN ρ i i = ρ i := by unfold rotN; rw [if_neg (by omega)]
        have hob2 := (hH.rows (ρ2 := rotN ρ i) i (by omega) a3).1
        rw [← e3] at hob2
        refine G_aast dX1_dropOldest_27 (by assumption) (by assumption) (by omega) (by omega) (by decide) rfl ?_
        refine G_iinc dX1_dropOldest_28 (by decide) rfl rfl ?_
        refine G_goto (tgt := 9) dX1_dropOldest_31 (by decide) ?_
        rw [List.set_set, rotN_s a1]
        exact ih (i + 1) (by omega) (by omega) (by omega)
  refine G_aload_n dX1_dropOldest_0 rfl rfl ?_
  refine G_getf fl_X1_11 dX1_dropOldest_1 (by assumption) rfl ?_
  refine G_iconst dX1_dropOldest_4 ?_
  refine G_aald dX1_dropOldest_5 (by assumption) (by omega) (by omega) (by decide) ?_
  refine G_astore_n dX1_dropOldest_6 rfl (by decide) rfl ?_
  refine G_iconst dX1_dropOldest_7 ?_
  refine G_istore_n dX1_dropOldest_8 rfl (by decide) rfl ?_
  have k := L 4 1 (by omega) (by omega) (by omega)
  rw [rotN_1, set_same hA0] at k
  exact k
set_option maxRecDepth 100000 in
set_option maxHeartbeats 4000000 in
theorem c_X1_add (h : List PO) (y : Nat) (ρ : Int → Nat) (hv : Int → SV) (sz : Int) (a : Nat) (v : SV) (hH : hiAt h y ρ hv sz) (hsz : 0 ≤ sz ∧ sz ≤ 4) (hO : stAt h a v) (hay : a + 14 ≤ y ∨ y + 58 ≤ a) : PM 4 yX1_add cX1_add 3 none h [r_ y, r_ a] (fun r0 h2 => r0 = none ∧ Fr h h2 y (y + 58) ∧ ∃ ρ2, hiAt h2 y ρ2 (addH hv sz v) (addZ sz)) := by
  refine PM_of_G RX1 [some (r_ y), some (r_ a), none] rfl (by decide +kernel) (Nat.le_of_ble_eq_true rfl) rfl ?_
  have hY0 := hH.1
  have K : ∀ (hh : List PO) (ρ2 : Int → Nat) (hv2 : Int → SV) (s : Int), 0 ≤ s → s < 4 → hiAt hh y ρ2 hv2 s → Fr h hh y (y + 58) → addH hv sz v = fupG hv2 s v → addZ sz = s + 1 → G 4 cX1_add RX1 3 none hh 12 [some (r_ y), some (r_ a), none] [] (fun r0 h2 => r0 = none ∧ Fr h h2 y (y + 58) ∧ ∃ ρ2, hiAt h2 y ρ2 (addH hv sz v) (addZ sz)) := by
    intro hh ρ2 hv2 s s0 s1 hI hF hq hs
    have hI0 := hI.1
    have hI1 := hI.2.1
    refine G_aload_n dX1_add_12 rfl rfl ?_
    refine G_getf fl_X1_18 dX1_add_13 (by assumption) rfl ?_
    refine G_if_lt (tgt := 27) dX1_add_16 (by decide) (inR_of (by omega) (by omega)) (fun hc16 => ?_) (fun hc16 => ?_)
    · skip
      exfalso; omega
    · skip
      refine G_aload_n dX1_add_19 rfl rfl ?_
      refine G_getf fl_X1_18 dX1_add_20 (by assumption) rfl ?_
      refine G_iconst dX1_add_23 ?_
      refine G_icmp_lt (tgt := 28) dX1_add_24 (by decide) (inR_of (by omega) (by omega)) (inR_of (by omega) (by omega)) (fun hc24 => ?_) (fun hc24 => ?_)
      · skip
        refine G_aload_n dX1_add_28 rfl rfl ?_
        refine G_getf fl_X1_11 dX1_add_29 (by assumption) rfl ?_
        refine G_aload_n dX1_add_32 rfl rfl ?_
        refine G_getf fl_X1_18 dX1_add_33 (by assumption) rfl ?_
        refine G_aald dX1_add_36 (by assumption) (by omega) (by omega) (by decide) ?_
        obtain ⟨k, hk, ek⟩ := hI.2.2.1.1 s s0 s1
        have hobj := (hI.2.2.2 s s0 s1).1
        refine G_astore_n dX1_add_37 rfl (by decide) rfl ?_
        refine G_aload_n dX1_add_38 rfl rfl ?_
        refine G_ifnull dX1_add_39 ?_
        refine G_aload_n dX1_add_42 rfl rfl ?_
        refine G_aload_n dX1_add_43 rfl rfl ?_
        refine G_callV (ci := 3) (as := [_]) (c_X3_copyFrom hh (ρ2 s) a v (hv2 s) (hI.2.2.2 s s0 s1) (hO.fr hF (by omega)) (by omega)) dX1_add_44 ml_X1_25 cv_X3_copyFrom (by assumption) rfl rfl (Nat.le_of_ble_eq_true rfl) (Nat.le_of_ble_eq_true rfl) rfl (fun r h2 hp => ?_)
        obtain ⟨rfl, hF2, hb⟩ := hp
        have hI2 := hI.put s0 s1 hF2 hb
        have hI0 := hI2.1
        have hF3 := hF.tr (hF2.wide (show y ≤ ρ2 s by omega) (show ρ2 s + 14 ≤ y + 58 by omega))
        refine G_aload_n dX1_add_47 rfl rfl ?_
        refine G_dup dX1_add_48 ?_
        refine G_getf fl_X1_18 dX1_add_49 (by assumption) rfl ?_
        refine G_iconst dX1_add_52 ?_
        refine G_iadd dX1_add_53 ?_
        refine G_putI (fs2 := [r_ (y + 1), i_ (s + 1)]) fp_X1_18 dX1_add_54 (by assumption) (Nat.le_of_ble_eq_true rfl) rfl ?_
        refine G_return dX1_add_57 rfl ?_
        refine ⟨rfl, hF3.tr (Fr.set (by omega) (by omega)), ρ2, ?_⟩
        rw [hq, hs]
        exact hI2.size (s + 1)
      · skip
        exfalso; omega
  refine G_aload_n dX1_add_0 rfl rfl ?_
  refine G_getf fl_X1_18 dX1_add_1 (by assumption) rfl ?_
  refine G_iconst dX1_add_4 ?_
  refine G_icmp_lt (tgt := 12) dX1_add_5 (by decide) (inR_of (by omega) (by omega)) (inR_of (by omega) (by omega)) (fun hc5 => ?_) (fun hc5 => ?_)
  · skip
    exact K _ _ _ _ (by omega) (by omega) hH Fr.rf (by unfold addH; rw [if_pos (by omega)]) (by unfold addZ; rw [if_pos (by omega)])
  · skip
    refine G_aload_n dX1_add_8 rfl rfl ?_
    refine G_callV (ci := 1) (as := []) (c_X1_dropOldest h y ρ hv sz hH (by omega)) dX1_add_9 ml_X1_22 cv_X1_dropOldest (by assumption) rfl rfl (Nat.le_of_ble_eq_true rfl) (Nat.le_of_ble_eq_true rfl) rfl (fun r h2 hp => ?_)
    obtain ⟨rfl, hF, hI⟩ := hp
    exact K _ _ _ _ (by omega) (by omega) hI hF (by unfold addH; rw [if_neg (by omega)]; congr 1; omega) (by unfold addZ; rw [if_neg (by omega)]; omega)
set_option maxRecDepth 100000 in
set_option maxHeartbeats 4000000 in
theorem c_X1_takeLatest (h : List PO) (y : Nat) (ρ : Int → Nat) (hv : Int → SV) (sz : Int) (a : Nat) (u : SV) (hH : hiAt h y ρ hv sz) (hsz : 0 ≤ sz ∧ sz ≤ 4) (hO : stAt h a u) (hay : a + 14 ≤ y ∨ y + 58 ≤ a) : PM 4 yX1_takeLatest cX1_takeLatest 4 (some .boolean) h [r_ y, r_ a] (fun r0 h2 => (r0 = some (i_ 0) ∧ sz = 0 ∧ h = h2) ∨ (r0 = some (i_ 1) ∧ 0 < sz ∧ ∃ h1, Fr h h1 a (a + 14) ∧ Fr h1 h2 y (y + 1) ∧ stAt h2 a (hv (sz - 1)) ∧ hiAt h2 y ρ hv (sz - 1))) := by
  refine PM_of_G RX1 [some (r_ y), some (r_ a), none, none] rfl (by decide +kernel) (Nat.le_of_ble_eq_true rfl) rfl ?_
  have hY0 := hH.1
  have hY1 := hH.2.1
  refine G_aload_n dX1_takeLatest_0 rfl rfl ?_
  refine G_getf fl_X1_18 dX1_takeLatest_1 (by assumption) rfl ?_
  refine G_iconst dX1_takeLatest_4 ?_
  refine G_isub dX1_takeLatest_5 ?_
  refine G_istore_n dX1_takeLatest_6 rfl (by decide) rfl ?_
  refine G_iload_n dX1_takeLatest_7 rfl rfl ?_
  refine G_if_lt (tgt := 16) dX1_takeLatest_8 (by decide) (inR_of (by omega) (by omega)) (fun hc8 => ?_) (fun hc8 => ?_)
  · skip
    refine G_iconst dX1_takeLatest_16 ?_
    refine G_zreturn dX1_takeLatest_17 rfl (by omega) ?_
    first
      | exact Or.inl ⟨rfl, by omega, rfl⟩
      | (exfalso; omega)
  · skip
    refine G_iload_n dX1_takeLatest_11 rfl rfl ?_
    refine G_iconst dX1_takeLatest_12 ?_
    refine G_icmp_lt (tgt := 18) dX1_takeLatest_13 (by decide) (inR_of (by omega) (by omega)) (inR_of (by omega) (by omega)) (fun hc13 => ?_) (fun hc13 => ?_)
    · skip
      refine G_aload_n dX1_takeLatest_18 rfl rfl ?_
      refine G_getf fl_X1_11 dX1_takeLatest_19 (by assumption) rfl ?_
      refine G_iload_n dX1_takeLatest_22 rfl rfl ?_
      refine G_aald dX1_takeLatest_23 (by assumption) (by omega) (by omega) (by decide) ?_
      obtain ⟨k, hk, ek⟩ := hH.2.2.1.1 (sz - 1) (by omega) (by omega)
      have hobj := (hH.2.2.2 (sz - 1) (by omega) (by omega)).1
      have hO0 := hO.1
      refine G_astore_n dX1_takeLatest_24 rfl (by decide) rfl ?_
      refine G_aload_n dX1_takeLatest_25 rfl rfl ?_
      refine G_ifnonnull (tgt := 31) dX1_takeLatest_26 (by decide) ?_
      refine G_aload_n dX1_takeLatest_31 rfl rfl ?_
      refine G_aload_n dX1_takeLatest_32 rfl rfl ?_
      refine G_callV (ci := 3) (as := [_]) (c_X3_copyFrom h a (ρ (sz - 1)) (hv (sz - 1)) u hO (hH.2.2.2 (sz - 1) (by omega) (by omega)) (by omega)) dX1_takeLatest_33 ml_X1_25 cv_X3_copyFrom (by assumption) rfl rfl (Nat.le_of_ble_eq_true rfl) (Nat.le_of_ble_eq_true rfl) rfl (fun r h2 hp => ?_)
      obtain ⟨rfl, hF, hb⟩ := hp
      have hI := hH.fr hF (by omega)
      have hI0 := hI.1
      refine G_aload_n dX1_takeLatest_36 rfl rfl ?_
      refine G_iload_n dX1_takeLatest_37 rfl rfl ?_
      refine G_putI (fs2 := [r_ (y + 1), i_ (sz - 1)]) fp_X1_18 dX1_takeLatest_38 (by assumption) (Nat.le_of_ble_eq_true rfl) rfl ?_
      refine G_iconst dX1_takeLatest_41 ?_
      refine G_zreturn dX1_takeLatest_42 rfl (by omega) ?_
      refine Or.inr ⟨rfl, by omega, _, hF, Fr.set (by omega) (by omega), hb.fr (Fr.set (lo := y) (hi := y + 1) (by omega) (by omega)) (by omega), hI.size _⟩
    · skip
      refine G_iconst dX1_takeLatest_16 ?_
      refine G_zreturn dX1_takeLatest_17 rfl (by omega) ?_
      first
        | exact Or.inl ⟨rfl, by omega, rfl⟩
        | (exfalso; omega)
end
section
abbrev oScr (z : Nat) (len th p : Int) : PO := oO 2 [r_ (z + 1), i_ len, r_ (z + 2), r_ (z + 3), r_ (z + 4), i_ th, i_ p]
def scAt (h : List PO) (z : Nat) (tx : Int → Int) (len : Int) (ki fi se : Int → Int) (th p : Int) : Prop := h[z]? = some (oScr z len th p) ∧ h[z + 1]? = some (oC 60 tx) ∧ h[z + 2]? = some (oI 20 ki) ∧ h[z + 3]? = some (oI 20 fi) ∧ h[z + 4]? = some (oI 20 se)
theorem scAt.fr {h h2 : List PO} {z lo hi : Nat} {tx ki fi se : Int → Int} {len th p : Int} (a : scAt h z tx len ki fi se th p) (f : Fr h h2 lo hi) (q : z + 5 ≤ lo ∨ hi ≤ z) : scAt h2 z tx len ki fi se th p := by
  obtain ⟨a0, a1, a2, a3, a4⟩ := a
  exact ⟨f.at' a0 (by omega), f.at' a1 (by omega), f.at' a2 (by omega), f.at' a3 (by omega), f.at' a4 (by omega)⟩
end
section
/-! the acts, and what every state keeps -/
def OKt (v : SV) : Prop := OK v ∧ 0 ≤ v 11 2 ∧ v 11 2 ≤ 99999
def digV (v : SV) (c d : Int) : SV := if 0 ≤ digR v c d then vset v 0 (fup (v 0) c d) else v
def buildV (v : SV) (c d : Int) : SV := if 0 ≤ buildR v c d then vset v 1 (fup (v 1) c d) else v
def sinkW (v : SV) (k q : Int) : SV := fun i => match i with
  | 4 => fup (v 4) (v 11 0) k
  | 5 => fup (v 5) (v 11 0) q
  | 6 => fup (v 6) (v 11 0) 0
  | 7 => fup (v 7) (v 11 0) 0
  | 8 => fup (v 8) (v 11 0) 0
  | 9 => fup (v 9) (v 11 0) 0
  | 11 => fup (v 11) 0 (v 11 0 + 1)
  | j => v j
def sinkV (v : SV) (k q : Int) : SV := if 0 ≤ sinkR (v 4) (v 11 0) k q then sinkW v k q else v
def fillW (v : SV) (w : Int) : SV := fun i => match i with
  | 4 => gapF (v 4) w
  | 5 => gapF (v 5) w
  | 6 => gapF (v 6) w
  | 7 => gapF (v 7) w
  | 8 => gapF (v 8) w
  | 9 => gapF (v 9) w
  | 11 => fup (v 11) 0 (v 11 0 - 1)
  | j => v j
def fillV (v : SV) (w : Int) : SV := if 0 ≤ w ∧ w < v 11 0 then fillW v w else v
def rateV (v : SV) (w q : Int) : SV := if 0 ≤ rateR (v 5) (v 11 0) w q then vset v 5 (fup (v 5) w q) else v
theorem rg_fup {lo hi n : Int} {q : Int → Int} {x y : Int} (h : RG lo hi n q) (a : lo ≤ y) (b : y ≤ hi) : RG lo hi n (fup q x y) := RG.fup h a b
theorem rg_push {lo hi n : Int} {q : Int → Int} {x : Int} (h : RG lo hi n q) (a : lo ≤ x) (b : x ≤ hi) : RG lo hi (n + 1) (fup q n x) := by
  intro j h0 h1
  by_cases e : j = n
  · rw [e, fup_eq]; exact ⟨a, b⟩
  · rw [fup_ne e]; exact h j h0 (by omega)
def giI (w j : Int) : Int := if w ≤ j ∧ j < 5 then j + 1 else j
theorem gapF_gi (q : Int → Int) (w j : Int) : gapF q w j = q (giI w j) := by
  unfold gapF gapN giI
  by_cases e : w ≤ j ∧ j < 5
  · rw [if_pos e, if_pos e]
  · rw [if_neg e, if_neg e]
theorem giI_rng {w j n : Int} (h0 : 0 ≤ w) (j0 : 0 ≤ j) (j1 : j < n - 1) : 0 ≤ giI w j ∧ giI w j < n := by
  unfold giI
  by_cases e : w ≤ j ∧ j < 5
  · rw [if_pos e]; omega
  · rw [if_neg e]; omega
theorem giI_inj {w a b n : Int} (hn : n ≤ 6) (a1 : a < n - 1) (b1 : b < n - 1) (e : giI w a = giI w b) : a = b := by
  unfold giI at e
  by_cases p : w ≤ a ∧ a < 5
  · rw [if_pos p] at e
    by_cases q : w ≤ b ∧ b < 5
    · rw [if_pos q] at e; omega
    · rw [if_neg q] at e; omega
  · rw [if_neg p] at e
    by_cases q : w ≤ b ∧ b < 5
    · rw [if_pos q] at e; omega
    · rw [if_neg q] at e; omega
theorem rg_gap {lo hi n w : Int} {q : Int → Int} (h : RG lo hi n q) (h0 : 0 ≤ w) : RG lo hi (n - 1) (gapF q w) := by
  intro j j0 j1
  rw [gapF_gi]
  have a := giI_rng h0 j0 j1
  exact h _ a.1 a.2
theorem besN_no {q : Int → Int} {c : Int} : ∀ n : Nat, besN q c n = -5 → ∀ j : Int, 0 ≤ j → j < n → q j ≠ c := by
  intro n
  induction n with
  | zero => intro _ j a b; exfalso; omega
  | succ n ih =>
    intro h j a b
    have e : besN q c (n + 1) = if q n = c then (n : Int) else besN q c n := rfl
    rw [e] at h
    by_cases z : q n = c
    · rw [if_pos z] at h; omega
    · rw [if_neg z] at h
      by_cases y : j = n
      · rw [y]; exact z
      · exact ih h j a (by omega)
theorem digR_rng {v : SV} {c d : Int} (h : OK v) : -5 ≤ digR v c d ∧ digR v c d ≤ 60 := by
  unfold digR
  by_cases a : ¬ (0 ≤ c ∧ c < 40)
  · rw [if_pos a]; omega
  · rw [if_neg a]
    have r := h.1.1 c (by omega) (by omega)
    split
    · omega
    · split
      · omega
      · split <;> omega
theorem buildR_rng {v : SV} {c d : Int} (h : OK v) : -5 ≤ buildR v c d ∧ buildR v c d ≤ 60 := by
  unfold buildR
  by_cases a : ¬ (0 ≤ c ∧ c < 40)
  · rw [if_pos a]; omega
  · rw [if_neg a]
    have r := h.1.2.1 c (by omega) (by omega)
    split
    · omega
    · split
      · omega
      · split <;> omega
theorem flowR_rng {v : SV} {q : Int} (h : OK v) : -5 ≤ flowR v q ∧ flowR v q ≤ 99 := by
  have r := h.2.2.1.2.1
  unfold flowR
  split
  · omega
  · split <;> omega
theorem set_rng {v : SV} (h : OK v) {w : Int} (a : 0 ≤ w) (b : w < 3) : 0 ≤ v 10 w ∧ v 10 w ≤ 60 := by
  have r := h.2.1
  rcases (show w = 0 ∨ w = 1 ∨ w = 2 from by omega) with e | e | e <;> rw [e] <;> omega
theorem setR_rng {v : SV} {w q : Int} (h : OK v) : -5 ≤ setR v w q ∧ setR v w q ≤ 60 := by
  unfold setR
  by_cases a : ¬ (0 ≤ w ∧ w < 3)
  · rw [if_pos a]; omega
  · rw [if_neg a]
    have r := set_rng h (w := w) (by omega) (by omega)
    split
    · omega
    · split <;> omega
theorem sinkR_rng {v : SV} {k q : Int} (h : OK v) : -5 ≤ sinkR (v 4) (v 11 0) k q ∧ sinkR (v 4) (v 11 0) k q ≤ 6 := by
  have r := h.2.2.1.1
  unfold sinkR
  split
  · omega
  · split
    · omega
    · split
      · omega
      · split <;> omega
theorem fillR_rng {v : SV} {w : Int} (h : OK v) : -5 ≤ fillR (v 6) (v 11 0) w ∧ fillR (v 6) (v 11 0) w ≤ 300 := by
  unfold fillR
  by_cases a : 0 ≤ w ∧ w < v 11 0
  · rw [if_pos a]
    have r := h.2.2.2.1.2.2.1 w a.1 a.2
    omega
  · rw [if_neg a]; omega
theorem rateR_rng {v : SV} {w q : Int} (h : OK v) : -5 ≤ rateR (v 5) (v 11 0) w q ∧ rateR (v 5) (v 11 0) w q ≤ 30 := by
  unfold rateR
  by_cases a : ¬ (0 ≤ w ∧ w < v 11 0)
  · rw [if_pos a]; omega
  · rw [if_neg a]
    have r := h.2.2.2.1.2.1 w (by omega) (by omega)
    split
    · omega
    · split <;> omega
theorem tidesR_rng {v : SV} {a b : Int} : -5 ≤ tidesR v a b ∧ tidesR v a b ≤ 40 := by
  have r := wet_rng (q := itV a v b.toNat 2) 40
  unfold tidesR
  split
  · omega
  · split <;> omega
theorem OKt.dig {v : SV} {c d : Int} (h : OKt v) : OKt (digV v c d) := by
  unfold digV
  by_cases q : 0 ≤ digR v c d
  · rw [if_pos q]
    have hd : 1 ≤ d ∧ d ≤ 60 := by
      unfold digR at q
      by_cases a : ¬ (0 ≤ c ∧ c < 40)
      · rw [if_pos a] at q; omega
      · rw [if_neg a] at q
        by_cases b : ¬ (1 ≤ d ∧ d ≤ 60)
        · rw [if_pos b] at q; omega
        · omega
    obtain ⟨⟨⟨hrd, hrs, hrh⟩, hset, hn, hw, h49, hdi⟩, hT⟩ := h
    exact ⟨⟨⟨rg_fup hrd hd.1 hd.2, hrs, hrh⟩, hset, hn, hw, h49, hdi⟩, hT⟩
  · rw [if_neg q]; exact h
theorem OKt.build {v : SV} {c d : Int} (h : OKt v) : OKt (buildV v c d) := by
  unfold buildV
  by_cases q : 0 ≤ buildR v c d
  · rw [if_pos q]
    have hd : 0 ≤ d ∧ d ≤ 60 := by
      unfold buildR at q
      by_cases a : ¬ (0 ≤ c ∧ c < 40)
      · rw [if_pos a] at q; omega
      · rw [if_neg a] at q
        by_cases b : ¬ (0 ≤ d ∧ d ≤ 60)
        · rw [if_pos b] at q; omega
        · omega
    obtain ⟨⟨⟨hrd, hrs, hrh⟩, hset, hn, hw, h49, hdi⟩, hT⟩ := h
    exact ⟨⟨⟨hrd, rg_fup hrs hd.1 hd.2, hrh⟩, hset, hn, hw, h49, hdi⟩, hT⟩
  · rw [if_neg q]; exact h
theorem OKt.flow {v : SV} {q : Int} (h : OKt v) : OKt (flowV v q) := by
  unfold flowV
  by_cases z : 0 ≤ flowR v q
  · rw [if_pos z]
    have hd : 0 ≤ q ∧ q ≤ 99 := by
      unfold flowR at z
      by_cases a : ¬ (0 ≤ q ∧ q ≤ 99)
      · rw [if_pos a] at z; omega
      · omega
    obtain ⟨⟨hb, hset, ⟨hn, hf, hfa⟩, hw, h49, hdi⟩, hT⟩ := h
    exact ⟨⟨hb, hset, ⟨hn, hd, hfa⟩, hw, h49, hdi⟩, hT⟩
  · rw [if_neg z]; exact h
theorem OKt.set {v : SV} {w q : Int} (h : OKt v) : OKt (setV v w q) := by
  unfold setV
  by_cases z : 0 ≤ setR v w q
  · rw [if_pos z]
    have hd : (w = 0 ∨ w = 1 ∨ w = 2) ∧ leastF w ≤ q ∧ q ≤ mostF w := by
      unfold setR at z
      by_cases a : ¬ (0 ≤ w ∧ w < 3)
      · rw [if_pos a] at z; omega
      · rw [if_neg a] at z
        by_cases b : q < leastF w ∨ mostF w < q
        · rw [if_pos b] at z; omega
        · omega
    obtain ⟨⟨hb, hset, hn, hw, h49, hdi⟩, hT⟩ := h
    obtain ⟨hd, hl, hm⟩ := hd
    have l0 : leastF 0 = 0 := rfl
    have l1 : leastF 1 = 0 := rfl
    have l2 : leastF 2 = 1 := rfl
    have m0 : mostF 0 = 60 := rfl
    have m1 : mostF 1 = 9 := rfl
    have m2 : mostF 2 = 60 := rfl
    refine ⟨⟨hb, ?_, hn, hw, h49, hdi⟩, hT⟩
    rcases hd with e | e | e
    · subst e
      exact ⟨⟨by show 0 ≤ q; omega, by show q ≤ 60; omega⟩, hset.2⟩
    · subst e
      exact ⟨hset.1, ⟨by show 0 ≤ q; omega, by show q ≤ 9; omega⟩, hset.2.2⟩
    · subst e
      exact ⟨hset.1, hset.2.1, ⟨by show 1 ≤ q; omega, by show q ≤ 60; omega⟩⟩
  · rw [if_neg z]; exact h
theorem OKt.rate {v : SV} {w q : Int} (h : OKt v) : OKt (rateV v w q) := by
  unfold rateV
  by_cases z : 0 ≤ rateR (v 5) (v 11 0) w q
  · rw [if_pos z]
    have hd : 1 ≤ q ∧ q ≤ 30 := by
      unfold rateR at z
      by_cases a : ¬ (0 ≤ w ∧ w < v 11 0)
      · rw [if_pos a] at z; omega
      · rw [if_neg a] at z
        by_cases b : ¬ (1 ≤ q ∧ q ≤ 30)
        · rw [if_pos b] at z; omega
        · omega
    obtain ⟨⟨hb, hset, hn, ⟨hc, hr, hs, hz⟩, h49, hdi⟩, hT⟩ := h
    exact ⟨⟨hb, hset, hn, ⟨hc, rg_fup hr hd.1 hd.2, hs, hz⟩, h49, hdi⟩, hT⟩
  · rw [if_neg z]; exact h
theorem sink_ok {v : SV} {k q : Int} (h : 0 ≤ sinkR (v 4) (v 11 0) k q) (hn : 0 ≤ v 11 0) : (0 ≤ k ∧ k < 40) ∧ (1 ≤ q ∧ q ≤ 30) ∧ v 11 0 < 6 ∧ ∀ j : Int, 0 ≤ j → j < v 11 0 → v 4 j ≠ k := by
  unfold sinkR at h
  by_cases a : ¬ (0 ≤ k ∧ k < 40)
  · rw [if_pos a] at h; omega
  · rw [if_neg a] at h
    by_cases b : ¬ (1 ≤ q ∧ q ≤ 30)
    · rw [if_pos b] at h; omega
    · rw [if_neg b] at h
      by_cases c : besN (v 4) k (v 11 0).toNat ≠ -5
      · rw [if_pos c] at h; omega
      · rw [if_neg c] at h
        by_cases d : 6 ≤ v 11 0
        · rw [if_pos d] at h; omega
        · refine ⟨by omega, by omega, by omega, fun j j0 j1 => ?_⟩
          exact besN_no (v 11 0).toNat (Decidable.not_not.mp c) j j0 (by omega)
theorem OKt.sink {v : SV} {k q : Int} (h : OKt v) : OKt (sinkV v k q) := by
  unfold sinkV
  by_cases z : 0 ≤ sinkR (v 4) (v 11 0) k q
  · rw [if_pos z]
    obtain ⟨⟨hb, hset, ⟨hn, hf, hfa⟩, ⟨hc, hr, hs, hz⟩, h49, hdi⟩, hT⟩ := h
    obtain ⟨a1, a2, a3, a4⟩ := sink_ok z hn.1
    refine ⟨⟨hb, hset, ⟨?_, hf, hfa⟩, ⟨rg_push hc (by omega) (by omega), rg_push hr a2.1 a2.2, rg_push hs (by omega) (by omega), rg_push hz (by omega) (by omega)⟩, ?_, ?_⟩, hT⟩
    · show 0 ≤ v 11 0 + 1 ∧ v 11 0 + 1 ≤ 6
      omega
    · intro w w0 w1 e
      have w1' : w < v 11 0 + 1 := w1
      show fup (v 6) (v 11 0) 0 w ≤ 49
      have e' : fup (v 7) (v 11 0) 0 w = 0 := e
      by_cases y : w = v 11 0
      · rw [y, fup_eq]; omega
      · rw [fup_ne y] at e' ⊢
        exact h49 w w0 (by omega) e'
    · intro w u w0 w1 u0 u1 e
      have w1' : w < v 11 0 + 1 := w1
      have u1' : u < v 11 0 + 1 := u1
      have e' : fup (v 4) (v 11 0) k w = fup (v 4) (v 11 0) k u := e
      by_cases y : w = v 11 0
      · by_cases y2 : u = v 11 0
        · omega
        · rw [y, fup_eq, fup_ne y2] at e'
          exact absurd e'.symm (a4 u u0 (by omega))
      · by_cases y2 : u = v 11 0
        · rw [y2, fup_eq, fup_ne y] at e'
          exact absurd e' (a4 w w0 (by omega))
        · rw [fup_ne y, fup_ne y2] at e'
          exact hdi w u w0 (by omega) u0 (by omega) e'
  · rw [if_neg z]; exact h
theorem OKt.fill {v : SV} {k : Int} (h : OKt v) : OKt (fillV v k) := by
  unfold fillV
  by_cases z : 0 ≤ k ∧ k < v 11 0
  · rw [if_pos z]
    obtain ⟨⟨hb, hset, ⟨hn, hf, hfa⟩, ⟨hc, hr, hs, hz⟩, h49, hdi⟩, hT⟩ := h
    refine ⟨⟨hb, hset, ⟨?_, hf, hfa⟩, ⟨rg_gap hc z.1, rg_gap hr z.1, rg_gap hs z.1, rg_gap hz z.1⟩, ?_, ?_⟩, hT⟩
    · show 0 ≤ v 11 0 - 1 ∧ v 11 0 - 1 ≤ 6
      omega
    · intro w w0 w1 e
      have w1' : w < v 11 0 - 1 := w1
      have e' : gapF (v 7) k w = 0 := e
      show gapF (v 6) k w ≤ 49
      rw [gapF_gi] at e' ⊢
      have r := giI_rng (w := k) (n := v 11 0) z.1 w0 w1'
      exact h49 _ r.1 r.2 e'
    · intro w u w0 w1 u0 u1 e
      have w1' : w < v 11 0 - 1 := w1
      have u1' : u < v 11 0 - 1 := u1
      have e' : gapF (v 4) k w = gapF (v 4) k u := e
      rw [gapF_gi, gapF_gi] at e'
      have r := giI_rng (w := k) (n := v 11 0) z.1 w0 w1'
      have r2 := giI_rng (w := k) (n := v 11 0) z.1 u0 u1'
      exact giI_inj hn.2 w1' u1' (hdi _ _ r.1 r.2 r2.1 r2.2 e')
  · rw [if_neg z]; exact h
theorem OKt.tides {v : SV} {a b : Int} (h : OKt v) : OKt (tidesV v a b) := by
  unfold tidesV
  by_cases z : 0 ≤ tidesR v a b
  · rw [if_pos z]
    refine ⟨h.1.it _, ?_⟩
    have e := itV_tides (v := v) (rise := a) b.toNat
    have hT := h.2
    unfold tidesR at z
    by_cases p : ¬ ((-30 ≤ a ∧ a ≤ 30) ∧ (1 ≤ b ∧ b ≤ 99))
    · rw [if_pos p] at z; omega
    · rw [if_neg p] at z
      by_cases q : 99999 < v 11 2 + b
      · rw [if_pos q] at z; omega
      · omega
  · rw [if_neg z]; exact h
/-! what a run keeps: the state, the history, the snapshot, the text -/
def INV (v : SV) (hv : Int → SV) (sz ks : Int) (w : SV) (tx : Int → Int) (len : Int) : Prop := OKt v ∧ (0 ≤ sz ∧ sz ≤ 4) ∧ (∀ i : Int, 0 ≤ i → i < sz → OKt (hv i)) ∧ (ks = 0 ∨ ks = 1 ∧ OKt w) ∧ RG 0 65535 60 tx ∧ (0 ≤ len ∧ len ≤ 60)
def hvA (hv : Int → SV) (sz : Int) (v : SV) (R : Int) : Int → SV := if 0 ≤ R then addH hv sz v else hv
def szA (sz R : Int) : Int := if 0 ≤ R then addZ sz else sz
theorem INV.act {v v2 : SV} {hv : Int → SV} {sz ks : Int} {w : SV} {tx : Int → Int} {len : Int} (R : Int) (h : INV v hv sz ks w tx len) (h2 : OKt v2) : INV v2 (hvA hv sz v R) (szA sz R) ks w tx len := by
  obtain ⟨h1, hs, hh, hr⟩ := h
  unfold hvA szA
  by_cases q : 0 ≤ R
  · rw [if_pos q, if_pos q]
    unfold addH addZ
    by_cases z : sz < 4
    · rw [if_pos z, if_pos z]
      refine ⟨h2, by omega, fun i i0 i1 => ?_, hr⟩
      unfold fupG
      by_cases e : i = sz
      · rw [if_pos e]; exact h1
      · rw [if_neg e]; exact hh i i0 (by omega)
    · rw [if_neg z, if_neg z]
      refine ⟨h2, by omega, fun i i0 i1 => ?_, hr⟩
      unfold fupG
      by_cases e : i = 3
      · rw [if_pos e]; exact h1
      · rw [if_neg e, rotG_l i0 (by omega)]
        exact hh _ (by omega) (by omega)
  · rw [if_neg q, if_neg q]
    exact ⟨h2, hs, hh, hr⟩
/-! the class's object and all behind it -/
abbrev oCls (x : Nat) (ks hst n e : Int) : PO := oO 5 [r_ (x + 1), r_ (x + 15), r_ (x + 29), i_ ks, r_ (x + 43), r_ (x + 101), i_ hst, i_ n, i_ e]
def clF (h : List PO) (x : Nat) (v u w : SV) (ks : Int) (ρ : Int → Nat) (hv : Int → SV) (sz : Int) (tx : Int → Int) (len : Int) (ki fi s2 : Int → Int) (th p hst n e : Int) : Prop := h[x]? = some (oCls x ks hst n e) ∧ stAt h (x + 1) v ∧ stAt h (x + 15) u ∧ stAt h (x + 29) w ∧ hiAt h (x + 43) ρ hv sz ∧ scAt h (x + 101) tx len ki fi s2 th p
def clA (h : List PO) (x : Nat) (v : SV) (hv : Int → SV) (sz ks : Int) (w : SV) (tx : Int → Int) (len sn se : Int) : Prop := ∃ (u : SV) (ρ : Int → Nat) (ki fi s2 : Int → Int) (th p hst n e : Int), clF h x v u w ks ρ hv sz tx len ki fi s2 th p hst n e ∧ (hst = 0 ∧ sn = -5 ∧ se = -5 ∨ hst = 1 ∧ n = sn ∧ e = se)
section CL
variable {h h2 : List PO} {x : Nat} {v u w : SV} {ks : Int} {ρ : Int → Nat} {hv : Int → SV} {sz : Int} {tx : Int → Int} {len : Int} {ki fi s2 : Int → Int} {th p hst n e : Int}
theorem clF.now {v2 : SV} (a : clF h x v u w ks ρ hv sz tx len ki fi s2 th p hst n e) (f : Fr h h2 (x + 1) (x + 1 + 14)) (b : stAt h2 (x + 1) v2) : clF h2 x v2 u w ks ρ hv sz tx len ki fi s2 th p hst n e := by
  obtain ⟨a0, a1, a2, a3, a4, a5⟩ := a
  exact ⟨f.at' a0 (by omega), b, a2.fr f (by omega), a3.fr f (by omega), a4.fr f (by omega), a5.fr f (by omega)⟩
theorem clF.spare {v2 : SV} (a : clF h x v u w ks ρ hv sz tx len ki fi s2 th p hst n e) (f : Fr h h2 (x + 15) (x + 15 + 14)) (b : stAt h2 (x + 15) v2) : clF h2 x v v2 w ks ρ hv sz tx len ki fi s2 th p hst n e := by
  obtain ⟨a0, a1, a2, a3, a4, a5⟩ := a
  exact ⟨f.at' a0 (by omega), a1.fr f (by omega), b, a3.fr f (by omega), a4.fr f (by omega), a5.fr f (by omega)⟩
theorem clF.snap {v2 : SV} (a : clF h x v u w ks ρ hv sz tx len ki fi s2 th p hst n e) (f : Fr h h2 (x + 29) (x + 29 + 14)) (b : stAt h2 (x + 29) v2) : clF h2 x v u v2 ks ρ hv sz tx len ki fi s2 th p hst n e := by
  obtain ⟨a0, a1, a2, a3, a4, a5⟩ := a
  exact ⟨f.at' a0 (by omega), a1.fr f (by omega), a2.fr f (by omega), b, a4.fr f (by omega), a5.fr f (by omega)⟩
theorem clF.hist {ρ2 : Int → Nat} {hv2 : Int → SV} {sz2 : Int} (a : clF h x v u w ks ρ hv sz tx len ki fi s2 th p hst n e) (f : Fr h h2 (x + 43) (x + 43 + 58)) (b : hiAt h2 (x + 43) ρ2 hv2 sz2) : clF h2 x v u w ks ρ2 hv2 sz2 tx len ki fi s2 th p hst n e := by
  obtain ⟨a0, a1, a2, a3, a4, a5⟩ := a
  exact ⟨f.at' a0 (by omega), a1.fr f (by omega), a2.fr f (by omega), a3.fr f (by omega), b, a5.fr f (by omega)⟩
theorem clF.scr {tx2 : Int → Int} {len2 : Int} {ki2 fi2 se2 : Int → Int} {th2 p2 : Int} (a : clF h x v u w ks ρ hv sz tx len ki fi s2 th p hst n e) (f : Fr h h2 (x + 101) (x + 101 + 5)) (b : scAt h2 (x + 101) tx2 len2 ki2 fi2 se2 th2 p2) : clF h2 x v u w ks ρ hv sz tx2 len2 ki2 fi2 se2 th2 p2 hst n e := by
  obtain ⟨a0, a1, a2, a3, a4, a5⟩ := a
  exact ⟨f.at' a0 (by omega), a1.fr f (by omega), a2.fr f (by omega), a3.fr f (by omega), a4.fr f (by omega), b⟩
theorem clF.obj (a : clF h x v u w ks ρ hv sz tx len ki fi s2 th p hst n e) (ks2 hst2 n2 e2 : Int) : clF (h.set x (oCls x ks2 hst2 n2 e2)) x v u w ks2 ρ hv sz tx len ki fi s2 th p hst2 n2 e2 := by
  obtain ⟨a0, a1, a2, a3, a4, a5⟩ := a
  have f : Fr h (h.set x (oCls x ks2 hst2 n2 e2)) x (x + 1) := Fr.set (by omega) (by omega)
  exact ⟨set_at a0, a1.fr f (by omega), a2.fr f (by omega), a3.fr f (by omega), a4.fr f (by omega), a5.fr f (by omega)⟩
end CL
theorem st_dig {h : List PO} {k : Nat} {v : SV} {c d : Int} (hA : stAt h k v) : Fr h (if 0 ≤ digR v c d then h.set (k + 1 + 1) (oI 40 (fup (v 0) c d)) else h) k (k + 14) ∧ stAt (if 0 ≤ digR v c d then h.set (k + 1 + 1) (oI 40 (fup (v 0) c d)) else h) k (digV v c d) := by
  unfold digV
  by_cases q : 0 ≤ digR v c d
  · rw [if_pos q, if_pos q]
    have k2 : staF (h.set (k + 1 + 1) (oI 40 (fup (v 0) c d))) k (fup (v 0) c d) (v 1) (v 2) (v 3) (v 4) (v 5) (v 6) (v 7) (v 8) (v 9) (v 11 0) (v 10) (v 11 1) (v 11 2) (v 11 3) := staF.bed hA (Fr.set (by omega) (by omega)) (hA.2.1.set1 _)
    exact ⟨Fr.set (by omega) (by omega), k2⟩
  · rw [if_neg q, if_neg q]; exact ⟨Fr.rf, hA⟩
theorem st_build {h : List PO} {k : Nat} {v : SV} {c d : Int} (hA : stAt h k v) : Fr h (if 0 ≤ buildR v c d then h.set (k + 1 + 2) (oI 40 (fup (v 1) c d)) else h) k (k + 14) ∧ stAt (if 0 ≤ buildR v c d then h.set (k + 1 + 2) (oI 40 (fup (v 1) c d)) else h) k (buildV v c d) := by
  unfold buildV
  by_cases q : 0 ≤ buildR v c d
  · rw [if_pos q, if_pos q]
    have k2 : staF (h.set (k + 1 + 2) (oI 40 (fup (v 1) c d))) k (v 0) (fup (v 1) c d) (v 2) (v 3) (v 4) (v 5) (v 6) (v 7) (v 8) (v 9) (v 11 0) (v 10) (v 11 1) (v 11 2) (v 11 3) := staF.bed hA (Fr.set (by omega) (by omega)) (hA.2.1.set2 _)
    exact ⟨Fr.set (by omega) (by omega), k2⟩
  · rw [if_neg q, if_neg q]; exact ⟨Fr.rf, hA⟩
theorem st_rate {h : List PO} {k : Nat} {v : SV} {c d : Int} (hA : stAt h k v) : Fr h (if 0 ≤ rateR (v 5) (v 11 0) c d then h.set (k + 6 + 2) (oI 6 (fup (v 5) c d)) else h) k (k + 14) ∧ stAt (if 0 ≤ rateR (v 5) (v 11 0) c d then h.set (k + 6 + 2) (oI 6 (fup (v 5) c d)) else h) k (rateV v c d) := by
  unfold rateV
  by_cases q : 0 ≤ rateR (v 5) (v 11 0) c d
  · rw [if_pos q, if_pos q]
    have k2 : staF (h.set (k + 6 + 2) (oI 6 (fup (v 5) c d))) k (v 0) (v 1) (v 2) (v 3) (v 4) (fup (v 5) c d) (v 6) (v 7) (v 8) (v 9) (v 11 0) (v 10) (v 11 1) (v 11 2) (v 11 3) := staF.wel hA (Fr.set (by omega) (by omega)) (hA.2.2.1.set2 _)
    exact ⟨Fr.set (by omega) (by omega), k2⟩
  · rw [if_neg q, if_neg q]; exact ⟨Fr.rf, hA⟩
theorem st_sink {h h2 : List PO} {k : Nat} {v : SV} {c q : Int} (hA : stAt h k v) (f : Fr h h2 (k + 6) (k + 6 + 7)) (b : if 0 ≤ sinkR (v 4) (v 11 0) c q then welF h2 (k + 6) (fup (v 4) (v 11 0) c) (fup (v 5) (v 11 0) q) (fup (v 6) (v 11 0) 0) (fup (v 7) (v 11 0) 0) (fup (v 8) (v 11 0) 0) (fup (v 9) (v 11 0) 0) (v 11 0 + 1) else h = h2) : stAt h2 k (sinkV v c q) := by
  unfold sinkV
  by_cases z : 0 ≤ sinkR (v 4) (v 11 0) c q
  · rw [if_pos z] at b ⊢
    have k2 := staF.wel (x := v 11 1) (y := v 11 2) (f := v 11 3) hA f b
    exact k2
  · rw [if_neg z] at b ⊢
    rw [← b]; exact hA
theorem st_fill {h h2 : List PO} {k : Nat} {v : SV} {w : Int} (hA : stAt h k v) (f : Fr h h2 (k + 6) (k + 6 + 7)) (b : if 0 ≤ w ∧ w < v 11 0 then welF h2 (k + 6) (gapF (v 4) w) (gapF (v 5) w) (gapF (v 6) w) (gapF (v 7) w) (gapF (v 8) w) (gapF (v 9) w) (v 11 0 - 1) else h = h2) : stAt h2 k (fillV v w) := by
  unfold fillV
  by_cases z : 0 ≤ w ∧ w < v 11 0
  · rw [if_pos z] at b ⊢
    have k2 := staF.wel (x := v 11 1) (y := v 11 2) (f := v 11 3) hA f b
    exact k2
  · rw [if_neg z] at b ⊢
    rw [← b]; exact hA
/-! what perform does -/
/-! what the other calls tell -/
def cellR (v : SV) (c k : Int) : Int := if ¬ (0 ≤ c ∧ c < 40) then -1 else if k = 0 then v 0 c else if k = 1 then v 1 c else if k = 2 then v 2 c else if k = 3 then besN (v 4) c (v 11 0).toNat else if k = 4 then v 3 c else -2
def wellR (v : SV) (w k : Int) : Int := tellR (v 4) (v 5) (v 6) (v 7) (v 8) (v 9) (v 11 0) w k
def markR (v : SV) (c r : Int) : Int := if ¬ (0 ≤ c ∧ c < 40) then -1 else if ¬ (-30 ≤ r ∧ r ≤ 30) then -2 else mkI (pushI v r) (v 10 1) (v 1) (v 0) c
def stopR (v : SV) (r : Int) : Int := if ¬ (-30 ≤ r ∧ r ≤ 30) then -2 else if stI (pushI v r) (v 10 1) (v 1) (v 0) < 40 then stI (pushI v r) (v 10 1) (v 1) (v 0) else -5
def whyR (v : SV) (c r : Int) : Int := if ¬ (0 ≤ c ∧ c < 40) then -1 else if ¬ (-30 ≤ r ∧ r ≤ 30) then -2 else reasonR (pushI v r) (v 10 1) (v 1) (v 0) c
/-- the tides from the n-th on, fu of them: the first behind which the well rests -/
def riN (v : SV) (w r : Int) : Nat → Int
  | 0 => -5
  | fu + 1 => if itV r v (300 - fu) 7 w = 1 then 300 - fu else riN v w r fu
def restR (v : SV) (w r : Int) : Int := if ¬ (0 ≤ w ∧ w < v 11 0) then -1 else if ¬ (-30 ≤ r ∧ r ≤ 30) then -2 else if v 7 w = 1 then -4 else riN v w r 300
def leastR (v : SV) (c r : Int) : Int := if ¬ (0 ≤ c ∧ c < 40) then -1 else if ¬ (-30 ≤ r ∧ r ≤ 30) then -2 else lfN v c r 100
def bestR (v : SV) (k r : Int) : Int := if ¬ (1 ≤ k ∧ k ≤ 60) ∨ ¬ (-30 ≤ r ∧ r ≤ 30) then -2 else bsN (pushI v r) (v 10 1) (v 1) (v 0) k 40
def countR (v : SV) (sz len k : Int) : Int := if k = 0 then v 11 2 else if k = 1 then v 11 1 else if k = 2 then sumN (wetI (v 2)) 40 else if k = 3 then sumN (v 2) 40 else if k = 4 then v 11 0 else if k = 5 then sumN (v 7) (v 11 0).toNat else if k = 6 then sumN (v 6) (v 11 0).toNat else if k = 7 then sumN (v 8) (v 11 0).toNat else if k = 8 then v 11 3 else if k = 9 then v 10 0 else if k = 10 then v 10 1 else if k = 11 then v 10 2 else if k = 12 then sz else if k = 13 then len else -2
def stpR (sn se k : Int) : Int := if k < 0 ∨ 1 < k then -2 else if k = 0 then sn else se
theorem riN_s {v : SV} {w r : Int} {i : Nat} (h1 : i ≤ 300) (h0 : 1 ≤ i) : riN v w r (301 - i) = if itV r v i 7 w = 1 then (i : Int) else riN v w r (300 - i) := by
  have e : 301 - i = (300 - i) + 1 := by omega
  have e2 : 300 - (300 - i) = i := by omega
  rw [e]
  show (if itV r v (300 - (300 - i)) 7 w = 1 then ((300 : Int) - ((300 - i : Nat) : Int)) else _) = _
  rw [e2]
  have e3 : (300 : Int) - ((300 - i : Nat) : Int) = i := by omega
  rw [e3]
end
section
set_option maxRecDepth 100000 in
set_option maxHeartbeats 4000000 in
theorem c_X5_recorded (h : List PO) (x : Nat) (v u sw : SV) (ks : Int) (ρ : Int → Nat) (hv : Int → SV) (sz : Int) (tx : Int → Int) (len : Int) (ki fi s2 : Int → Int) (th p hst n e : Int) (R : Int) (hX : clF h x v u sw ks ρ hv sz tx len ki fi s2 th p hst n e) (hsz : 0 ≤ sz ∧ sz ≤ 4) (hR : inR R) : PM 5 yX5_recorded cX5_recorded 2 (some .int) h [r_ x, i_ R] (fun r0 h2 => r0 = some (i_ R) ∧ Fr h h2 x (x + 106) ∧ ∃ ρ2, clF h2 x v u sw ks ρ2 (hvA hv sz u R) (szA sz R) tx len ki fi s2 th p hst n e) := by
  refine PM_of_G RX5 [some (r_ x), some (i_ R)] rfl (by decide +kernel) (Nat.le_of_ble_eq_true rfl) rfl ?_
  have hR1 := hR.1
  have hR2 := hR.2
  have hF : Fr h h x (x + 106) := Fr.rf
  have hX9 : R < 0 → clF h x v u sw ks ρ (hvA hv sz u R) (szA sz R) tx len ki fi s2 th p hst n e := fun q => by
    unfold hvA szA
    rw [if_neg (by omega), if_neg (by omega)]
    exact hX
  obtain ⟨hX0, hXn, hXu, hXw, hXh, hXs⟩ := id hX
  obtain ⟨hN0, hNb, hNw, hNs⟩ := id hXn
  obtain ⟨hNb0, hNb1, hNb2, hNb3, hNb4⟩ := id hNb
  obtain ⟨hNw0, hNw1, hNw2, hNw3, hNw4, hNw5, hNw6⟩ := id hNw
  have hU0 := hXu.1
  have hUw0 := hXu.2.2.1.1
  have hW0 := hXw.1
  have hH0 := hXh.1
  obtain ⟨hS0, hS1, hS2, hS3, hS4⟩ := id hXs
  refine G_iload_n dX5_recorded_0 rfl rfl ?_
  refine G_if_lt (tgt := 15) dX5_recorded_1 (by decide) (inR_of (by omega) (by omega)) (fun hc1 => ?_) (fun hc1 => ?_)
  · skip
    refine G_iload_n dX5_recorded_15 rfl rfl ?_
    refine G_ireturn dX5_recorded_16 rfl ?_
    first
      | exact ⟨rfl, hF, ρ, hX9 (by omega)⟩
      | (refine ⟨rfl, hF, ρ2, ?_⟩
         unfold hvA szA
         rw [if_pos (by omega), if_pos (by omega)]
         exact hX)
  · skip
    refine G_aload_n dX5_recorded_4 rfl rfl ?_
    refine G_getf fl_X5_25 dX5_recorded_5 (by assumption) rfl ?_
    refine G_aload_n dX5_recorded_8 rfl rfl ?_
    refine G_getf fl_X5_16 dX5_recorded_9 (by assumption) rfl ?_
    refine G_callV (ci := 1) (as := [_]) (c_X1_add h (x + 43) ρ hv sz (x + 15) u hXh hsz hXu (by omega)) dX5_recorded_12 ml_X5_228 cv_X1_add (by assumption) rfl rfl (Nat.le_of_ble_eq_true rfl) (Nat.le_of_ble_eq_true rfl) rfl (fun r h2 hp => ?_)
    obtain ⟨rfl, hF1, ρ2, hh⟩ := hp
    have hX := hX.hist hF1 hh
    have hF := hF.tr (hF1.wide (show x ≤ x + 43 by omega) (show x + 43 + 58 ≤ x + 106 by omega))
    refine G_iload_n dX5_recorded_15 rfl rfl ?_
    refine G_ireturn dX5_recorded_16 rfl ?_
    first
      | exact ⟨rfl, hF, ρ, hX9 (by omega)⟩
      | (refine ⟨rfl, hF, ρ2, ?_⟩
         unfold hvA szA
         rw [if_pos (by omega), if_pos (by omega)]
         exact hX)
set_option maxRecDepth 100000 in
set_option maxHeartbeats 4000000 in
theorem c_X5_dig (h : List PO) (x : Nat) (v : SV) (hv : Int → SV) (sz ks : Int) (sw : SV) (tx : Int → Int) (len sn se : Int) (c d : Int) (hA : clA h x v hv sz ks sw tx len sn se) (hI : INV v hv sz ks sw tx len) (hc : inR c) (hd : inR d) : PM 7 yX5_dig cX5_dig 3 (some .int) h [r_ x, i_ c, i_ d] (fun r0 h2 => r0 = some (i_ (digR v c d)) ∧ Fr h h2 x (x + 106) ∧ clA h2 x (digV v c d) (hvA hv sz v (digR v c d)) (szA sz (digR v c d)) (ks) (sw) (tx) (len) (sn) (se)) := by
  refine PM_of_G RX5 [some (r_ x), some (i_ c), some (i_ d)] rfl (by decide +kernel) (Nat.le_of_ble_eq_true rfl) rfl ?_
  obtain ⟨u, ρ, ki, fi, s2, th, p, hst, n, e, hX, hq⟩ := id hA
  obtain ⟨⟨hV, hT⟩, hsz, hhv, hks, hx, hl⟩ := id hI
  obtain ⟨⟨hrd, hrs, hrh⟩, ⟨hs0, hs1, hs2⟩, ⟨hn, hf, hfa⟩, ⟨hc0, hr, hs, hz⟩, h49, hdi⟩ := id hV
  have hF : Fr h h x (x + 106) := Fr.rf
  obtain ⟨hX0, hXn, hXu, hXw, hXh, hXs⟩ := id hX
  obtain ⟨hN0, hNb, hNw, hNs⟩ := id hXn
  obtain ⟨hNb0, hNb1, hNb2, hNb3, hNb4⟩ := id hNb
  obtain ⟨hNw0, hNw1, hNw2, hNw3, hNw4, hNw5, hNw6⟩ := id hNw
  have hU0 := hXu.1
  have hUw0 := hXu.2.2.1.1
  have hW0 := hXw.1
  have hH0 := hXh.1
  obtain ⟨hS0, hS1, hS2, hS3, hS4⟩ := id hXs
  refine G_aload_n dX5_dig_0 rfl rfl ?_
  refine G_getf fl_X5_16 dX5_dig_1 (by assumption) rfl ?_
  refine G_aload_n dX5_dig_4 rfl rfl ?_
  refine G_getf fl_X5_12 dX5_dig_5 (by assumption) rfl ?_
  refine G_callV (ci := 3) (as := [_]) (c_X3_copyFrom _ (x + 15) (x + 1) _ _ hXu hXn (by omega)) dX5_dig_8 ml_X5_36 cv_X3_copyFrom (by assumption) rfl rfl (Nat.le_of_ble_eq_true rfl) (Nat.le_of_ble_eq_true rfl) rfl (fun r h2 hp => ?_)
  obtain ⟨rfl, hF1, hb⟩ := hp
  have hX := hX.spare hF1 hb
  have hF := hF.tr (hF1.wide (show x ≤ x + 15 by omega) (show x + 15 + 14 ≤ x + 106 by omega))
  obtain ⟨hX0, hXn, hXu, hXw, hXh, hXs⟩ := id hX
  obtain ⟨hN0, hNb, hNw, hNs⟩ := id hXn
  obtain ⟨hNb0, hNb1, hNb2, hNb3, hNb4⟩ := id hNb
  obtain ⟨hNw0, hNw1, hNw2, hNw3, hNw4, hNw5, hNw6⟩ := id hNw
  have hU0 := hXu.1
  have hUw0 := hXu.2.2.1.1
  have hW0 := hXw.1
  have hH0 := hXh.1
  obtain ⟨hS0, hS1, hS2, hS3, hS4⟩ := id hXs
  refine G_aload_n dX5_dig_11 rfl rfl ?_
  refine G_aload_n dX5_dig_12 rfl rfl ?_
  refine G_getf fl_X5_12 dX5_dig_13 (by assumption) rfl ?_
  refine G_getf fl_X5_40 dX5_dig_16 (by assumption) rfl ?_
  refine G_iload_n dX5_dig_19 rfl rfl ?_
  refine G_iload_n dX5_dig_20 rfl rfl ?_
  refine G_callV (ci := 0) (as := [_, _]) (c_X0_deepen _ (x + 1 + 1) v c d hNb hrd hrs hrh hc hd) dX5_dig_21 ml_X5_44 cv_X0_deepen (by assumption) rfl rfl (Nat.le_of_ble_eq_true rfl) (Nat.le_of_ble_eq_true rfl) rfl (fun r h2 hp => ?_)
  obtain ⟨rfl, rfl⟩ := hp
  obtain ⟨hF2, hb2⟩ := st_dig (c := c) (d := d) hXn
  have hX := hX.now hF2 hb2
  have hF := hF.tr (hF2.wide (show x ≤ x + 1 by omega) (show x + 1 + 14 ≤ x + 106 by omega))
  have hX0 := hX.1
  refine G_callV (ci := 5) (as := [_]) (c_X5_recorded _ x _ _ _ _ _ _ _ _ _ _ _ _ _ _ _ _ _ _ hX hsz (inR_of (by have := digR_rng (c := c) (d := d) hV; omega) (by have := digR_rng (c := c) (d := d) hV; omega))) dX5_dig_24 ml_X5_50 cv_X5_recorded (by assumption) rfl rfl (Nat.le_of_ble_eq_true rfl) (Nat.le_of_ble_eq_true rfl) rfl (fun r h2 hp => ?_)
  obtain ⟨rfl, hF3, ρ2, hX⟩ := hp
  have hF := hF.tr hF3
  refine G_ireturn dX5_dig_27 rfl ?_
  exact ⟨rfl, hF, _, _, _, _, _, _, _, _, _, _, hX, hq⟩
set_option maxRecDepth 100000 in
set_option maxHeartbeats 4000000 in
theorem c_X5_build (h : List PO) (x : Nat) (v : SV) (hv : Int → SV) (sz ks : Int) (sw : SV) (tx : Int → Int) (len sn se : Int) (c d : Int) (hA : clA h x v hv sz ks sw tx len sn se) (hI : INV v hv sz ks sw tx len) (hc : inR c) (hd : inR d) : PM 7 yX5_build cX5_build 3 (some .int) h [r_ x, i_ c, i_ d] (fun r0 h2 => r0 = some (i_ (buildR v c d)) ∧ Fr h h2 x (x + 106) ∧ clA h2 x (buildV v c d) (hvA hv sz v (buildR v c d)) (szA sz (buildR v c d)) (ks) (sw) (tx) (len) (sn) (se)) := by
  refine PM_of_G RX5 [some (r_ x), some (i_ c), some (i_ d)] rfl (by decide +kernel) (Nat.le_of_ble_eq_true rfl) rfl ?_
  obtain ⟨u, ρ, ki, fi, s2, th, p, hst, n, e, hX, hq⟩ := id hA
  obtain ⟨⟨hV, hT⟩, hsz, hhv, hks, hx, hl⟩ := id hI
  obtain ⟨⟨hrd, hrs, hrh⟩, ⟨hs0, hs1, hs2⟩, ⟨hn, hf, hfa⟩, ⟨hc0, hr, hs, hz⟩, h49, hdi⟩ := id hV
  have hF : Fr h h x (x + 106) := Fr.rf
  obtain ⟨hX0, hXn, hXu, hXw, hXh, hXs⟩ := id hX
  obtain ⟨hN0, hNb, hNw, hNs⟩ := id hXn
  obtain ⟨hNb0, hNb1, hNb2, hNb3, hNb4⟩ := id hNb
  obtain ⟨hNw0, hNw1, hNw2, hNw3, hNw4, hNw5, hNw6⟩ := id hNw
  have hU0 := hXu.1
  have hUw0 := hXu.2.2.1.1
  have hW0 := hXw.1
  have hH0 := hXh.1
  obtain ⟨hS0, hS1, hS2, hS3, hS4⟩ := id hXs
  refine G_aload_n dX5_build_0 rfl rfl ?_
  refine G_getf fl_X5_16 dX5_build_1 (by assumption) rfl ?_
  refine G_aload_n dX5_build_4 rfl rfl ?_
  refine G_getf fl_X5_12 dX5_build_5 (by assumption) rfl ?_
  refine G_callV (ci := 3) (as := [_]) (c_X3_copyFrom _ (x + 15) (x + 1) _ _ hXu hXn (by omega)) dX5_build_8 ml_X5_36 cv_X3_copyFrom (by assumption) rfl rfl (Nat.le_of_ble_eq_true rfl) (Nat.le_of_ble_eq_true rfl) rfl (fun r h2 hp => ?_)
  obtain ⟨rfl, hF1, hb⟩ := hp
  have hX := hX.spare hF1 hb
  have hF := hF.tr (hF1.wide (show x ≤ x + 15 by omega) (show x + 15 + 14 ≤ x + 106 by omega))
  obtain ⟨hX0, hXn, hXu, hXw, hXh, hXs⟩ := id hX
  obtain ⟨hN0, hNb, hNw, hNs⟩ := id hXn
  obtain ⟨hNb0, hNb1, hNb2, hNb3, hNb4⟩ := id hNb
  obtain ⟨hNw0, hNw1, hNw2, hNw3, hNw4, hNw5, hNw6⟩ := id hNw
  have hU0 := hXu.1
  have hUw0 := hXu.2.2.1.1
  have hW0 := hXw.1
  have hH0 := hXh.1
  obtain ⟨hS0, hS1, hS2, hS3, hS4⟩ := id hXs
  refine G_aload_n dX5_build_11 rfl rfl ?_
  refine G_aload_n dX5_build_12 rfl rfl ?_
  refine G_getf fl_X5_12 dX5_build_13 (by assumption) rfl ?_
  refine G_getf fl_X5_40 dX5_build_16 (by assumption) rfl ?_
  refine G_iload_n dX5_build_19 rfl rfl ?_
  refine G_iload_n dX5_build_20 rfl rfl ?_
  refine G_callV (ci := 0) (as := [_, _]) (c_X0_raiseSill _ (x + 1 + 1) v c d hNb hrd hrs hrh hc hd) dX5_build_21 ml_X5_54 cv_X0_raiseSill (by assumption) rfl rfl (Nat.le_of_ble_eq_true rfl) (Nat.le_of_ble_eq_true rfl) rfl (fun r h2 hp => ?_)
  obtain ⟨rfl, rfl⟩ := hp
  obtain ⟨hF2, hb2⟩ := st_build (c := c) (d := d) hXn
  have hX := hX.now hF2 hb2
  have hF := hF.tr (hF2.wide (show x ≤ x + 1 by omega) (show x + 1 + 14 ≤ x + 106 by omega))
  have hX0 := hX.1
  refine G_callV (ci := 5) (as := [_]) (c_X5_recorded _ x _ _ _ _ _ _ _ _ _ _ _ _ _ _ _ _ _ _ hX hsz (inR_of (by have := buildR_rng (c := c) (d := d) hV; omega) (by have := buildR_rng (c := c) (d := d) hV; omega))) dX5_build_24 ml_X5_50 cv_X5_recorded (by assumption) rfl rfl (Nat.le_of_ble_eq_true rfl) (Nat.le_of_ble_eq_true rfl) rfl (fun r h2 hp => ?_)
  obtain ⟨rfl, hF3, ρ2, hX⟩ := hp
  have hF := hF.tr hF3
  refine G_ireturn dX5_build_27 rfl ?_
  exact ⟨rfl, hF, _, _, _, _, _, _, _, _, _, _, hX, hq⟩
set_option maxRecDepth 100000 in
set_option maxHeartbeats 4000000 in
theorem c_X5_flow (h : List PO) (x : Nat) (v : SV) (hv : Int → SV) (sz ks : Int) (sw : SV) (tx : Int → Int) (len sn se : Int) (c : Int) (hA : clA h x v hv sz ks sw tx len sn se) (hI : INV v hv sz ks sw tx len) (hc : inR c) : PM 7 yX5_flow cX5_flow 2 (some .int) h [r_ x, i_ c] (fun r0 h2 => r0 = some (i_ (flowR v c)) ∧ Fr h h2 x (x + 106) ∧ clA h2 x (flowV v c) (hvA hv sz v (flowR v c)) (szA sz (flowR v c)) (ks) (sw) (tx) (len) (sn) (se)) := by
  refine PM_of_G RX5 [some (r_ x), some (i_ c)] rfl (by decide +kernel) (Nat.le_of_ble_eq_true rfl) rfl ?_
  obtain ⟨u, ρ, ki, fi, s2, th, p, hst, n, e, hX, hq⟩ := id hA
  obtain ⟨⟨hV, hT⟩, hsz, hhv, hks, hx, hl⟩ := id hI
  obtain ⟨⟨hrd, hrs, hrh⟩, ⟨hs0, hs1, hs2⟩, ⟨hn, hf, hfa⟩, ⟨hc0, hr, hs, hz⟩, h49, hdi⟩ := id hV
  have hF : Fr h h x (x + 106) := Fr.rf
  obtain ⟨hX0, hXn, hXu, hXw, hXh, hXs⟩ := id hX
  obtain ⟨hN0, hNb, hNw, hNs⟩ := id hXn
  obtain ⟨hNb0, hNb1, hNb2, hNb3, hNb4⟩ := id hNb
  obtain ⟨hNw0, hNw1, hNw2, hNw3, hNw4, hNw5, hNw6⟩ := id hNw
  have hU0 := hXu.1
  have hUw0 := hXu.2.2.1.1
  have hW0 := hXw.1
  have hH0 := hXh.1
  obtain ⟨hS0, hS1, hS2, hS3, hS4⟩ := id hXs
  refine G_aload_n dX5_flow_0 rfl rfl ?_
  refine G_getf fl_X5_16 dX5_flow_1 (by assumption) rfl ?_
  refine G_aload_n dX5_flow_4 rfl rfl ?_
  refine G_getf fl_X5_12 dX5_flow_5 (by assumption) rfl ?_
  refine G_callV (ci := 3) (as := [_]) (c_X3_copyFrom _ (x + 15) (x + 1) _ _ hXu hXn (by omega)) dX5_flow_8 ml_X5_36 cv_X3_copyFrom (by assumption) rfl rfl (Nat.le_of_ble_eq_true rfl) (Nat.le_of_ble_eq_true rfl) rfl (fun r h2 hp => ?_)
  obtain ⟨rfl, hF1, hb⟩ := hp
  have hX := hX.spare hF1 hb
  have hF := hF.tr (hF1.wide (show x ≤ x + 15 by omega) (show x + 15 + 14 ≤ x + 106 by omega))
  obtain ⟨hX0, hXn, hXu, hXw, hXh, hXs⟩ := id hX
  obtain ⟨hN0, hNb, hNw, hNs⟩ := id hXn
  obtain ⟨hNb0, hNb1, hNb2, hNb3, hNb4⟩ := id hNb
  obtain ⟨hNw0, hNw1, hNw2, hNw3, hNw4, hNw5, hNw6⟩ := id hNw
  have hU0 := hXu.1
  have hUw0 := hXu.2.2.1.1
  have hW0 := hXw.1
  have hH0 := hXh.1
  obtain ⟨hS0, hS1, hS2, hS3, hS4⟩ := id hXs
  refine G_aload_n dX5_flow_11 rfl rfl ?_
  refine G_aload_n dX5_flow_12 rfl rfl ?_
  refine G_getf fl_X5_12 dX5_flow_13 (by assumption) rfl ?_
  refine G_iload_n dX5_flow_16 rfl rfl ?_
  refine G_callV (ci := 3) (as := [_]) (c_X3_changeFlow _ (x + 1) v c hXn hV hc) dX5_flow_17 ml_X5_57 cv_X3_changeFlow (by assumption) rfl rfl (Nat.le_of_ble_eq_true rfl) (Nat.le_of_ble_eq_true rfl) rfl (fun r h2 hp => ?_)
  obtain ⟨rfl, hF2, hb2⟩ := hp
  have hX := hX.now hF2 hb2
  have hF := hF.tr (hF2.wide (show x ≤ x + 1 by omega) (show x + 1 + 14 ≤ x + 106 by omega))
  have hX0 := hX.1
  refine G_callV (ci := 5) (as := [_]) (c_X5_recorded _ x _ _ _ _ _ _ _ _ _ _ _ _ _ _ _ _ _ _ hX hsz (inR_of (by have := flowR_rng (q := c) hV; omega) (by have := flowR_rng (q := c) hV; omega))) dX5_flow_20 ml_X5_50 cv_X5_recorded (by assumption) rfl rfl (Nat.le_of_ble_eq_true rfl) (Nat.le_of_ble_eq_true rfl) rfl (fun r h2 hp => ?_)
  obtain ⟨rfl, hF3, ρ2, hX⟩ := hp
  have hF := hF.tr hF3
  refine G_ireturn dX5_flow_23 rfl ?_
  exact ⟨rfl, hF, _, _, _, _, _, _, _, _, _, _, hX, hq⟩
set_option maxRecDepth 100000 in
set_option maxHeartbeats 4000000 in
theorem c_X5_set (h : List PO) (x : Nat) (v : SV) (hv : Int → SV) (sz ks : Int) (sw : SV) (tx : Int → Int) (len sn se : Int) (c d : Int) (hA : clA h x v hv sz ks sw tx len sn se) (hI : INV v hv sz ks sw tx len) (hc : inR c) (hd : inR d) : PM 7 yX5_set cX5_set 3 (some .int) h [r_ x, i_ c, i_ d] (fun r0 h2 => r0 = some (i_ (setR v c d)) ∧ Fr h h2 x (x + 106) ∧ clA h2 x (setV v c d) (hvA hv sz v (setR v c d)) (szA sz (setR v c d)) (ks) (sw) (tx) (len) (sn) (se)) := by
  refine PM_of_G RX5 [some (r_ x), some (i_ c), some (i_ d)] rfl (by decide +kernel) (Nat.le_of_ble_eq_true rfl) rfl ?_
  obtain ⟨u, ρ, ki, fi, s2, th, p, hst, n, e, hX, hq⟩ := id hA
  obtain ⟨⟨hV, hT⟩, hsz, hhv, hks, hx, hl⟩ := id hI
  obtain ⟨⟨hrd, hrs, hrh⟩, ⟨hs0, hs1, hs2⟩, ⟨hn, hf, hfa⟩, ⟨hc0, hr, hs, hz⟩, h49, hdi⟩ := id hV
  have hF : Fr h h x (x + 106) := Fr.rf
  obtain ⟨hX0, hXn, hXu, hXw, hXh, hXs⟩ := id hX
  obtain ⟨hN0, hNb, hNw, hNs⟩ := id hXn
  obtain ⟨hNb0, hNb1, hNb2, hNb3, hNb4⟩ := id hNb
  obtain ⟨hNw0, hNw1, hNw2, hNw3, hNw4, hNw5, hNw6⟩ := id hNw
  have hU0 := hXu.1
  have hUw0 := hXu.2.2.1.1
  have hW0 := hXw.1
  have hH0 := hXh.1
  obtain ⟨hS0, hS1, hS2, hS3, hS4⟩ := id hXs
  refine G_aload_n dX5_set_0 rfl rfl ?_
  refine G_getf fl_X5_16 dX5_set_1 (by assumption) rfl ?_
  refine G_aload_n dX5_set_4 rfl rfl ?_
  refine G_getf fl_X5_12 dX5_set_5 (by assumption) rfl ?_
  refine G_callV (ci := 3) (as := [_]) (c_X3_copyFrom _ (x + 15) (x + 1) _ _ hXu hXn (by omega)) dX5_set_8 ml_X5_36 cv_X3_copyFrom (by assumption) rfl rfl (Nat.le_of_ble_eq_true rfl) (Nat.le_of_ble_eq_true rfl) rfl (fun r h2 hp => ?_)
  obtain ⟨rfl, hF1, hb⟩ := hp
  have hX := hX.spare hF1 hb
  have hF := hF.tr (hF1.wide (show x ≤ x + 15 by omega) (show x + 15 + 14 ≤ x + 106 by omega))
  obtain ⟨hX0, hXn, hXu, hXw, hXh, hXs⟩ := id hX
  obtain ⟨hN0, hNb, hNw, hNs⟩ := id hXn
  obtain ⟨hNb0, hNb1, hNb2, hNb3, hNb4⟩ := id hNb
  obtain ⟨hNw0, hNw1, hNw2, hNw3, hNw4, hNw5, hNw6⟩ := id hNw
  have hU0 := hXu.1
  have hUw0 := hXu.2.2.1.1
  have hW0 := hXw.1
  have hH0 := hXh.1
  obtain ⟨hS0, hS1, hS2, hS3, hS4⟩ := id hXs
  refine G_aload_n dX5_set_11 rfl rfl ?_
  refine G_aload_n dX5_set_12 rfl rfl ?_
  refine G_getf fl_X5_12 dX5_set_13 (by assumption) rfl ?_
  refine G_iload_n dX5_set_16 rfl rfl ?_
  refine G_iload_n dX5_set_17 rfl rfl ?_
  refine G_callV (ci := 3) (as := [_, _]) (c_X3_changeSetting _ (x + 1) v c d hXn hV hc hd) dX5_set_18 ml_X5_60 cv_X3_changeSetting (by assumption) rfl rfl (Nat.le_of_ble_eq_true rfl) (Nat.le_of_ble_eq_true rfl) rfl (fun r h2 hp => ?_)
  obtain ⟨rfl, hF2, hb2⟩ := hp
  have hX := hX.now hF2 hb2
  have hF := hF.tr (hF2.wide (show x ≤ x + 1 by omega) (show x + 1 + 14 ≤ x + 106 by omega))
  have hX0 := hX.1
  refine G_callV (ci := 5) (as := [_]) (c_X5_recorded _ x _ _ _ _ _ _ _ _ _ _ _ _ _ _ _ _ _ _ hX hsz (inR_of (by have := setR_rng (w := c) (q := d) hV; omega) (by have := setR_rng (w := c) (q := d) hV; omega))) dX5_set_21 ml_X5_50 cv_X5_recorded (by assumption) rfl rfl (Nat.le_of_ble_eq_true rfl) (Nat.le_of_ble_eq_true rfl) rfl (fun r h2 hp => ?_)
  obtain ⟨rfl, hF3, ρ2, hX⟩ := hp
  have hF := hF.tr hF3
  refine G_ireturn dX5_set_24 rfl ?_
  exact ⟨rfl, hF, _, _, _, _, _, _, _, _, _, _, hX, hq⟩
set_option maxRecDepth 100000 in
set_option maxHeartbeats 4000000 in
theorem c_X5_sink (h : List PO) (x : Nat) (v : SV) (hv : Int → SV) (sz ks : Int) (sw : SV) (tx : Int → Int) (len sn se : Int) (c d : Int) (hA : clA h x v hv sz ks sw tx len sn se) (hI : INV v hv sz ks sw tx len) (hc : inR c) (hd : inR d) : PM 7 yX5_sink cX5_sink 3 (some .int) h [r_ x, i_ c, i_ d] (fun r0 h2 => r0 = some (i_ (sinkR (v 4) (v 11 0) c d)) ∧ Fr h h2 x (x + 106) ∧ clA h2 x (sinkV v c d) (hvA hv sz v (sinkR (v 4) (v 11 0) c d)) (szA sz (sinkR (v 4) (v 11 0) c d)) (ks) (sw) (tx) (len) (sn) (se)) := by
  refine PM_of_G RX5 [some (r_ x), some (i_ c), some (i_ d)] rfl (by decide +kernel) (Nat.le_of_ble_eq_true rfl) rfl ?_
  obtain ⟨u, ρ, ki, fi, s2, th, p, hst, n, e, hX, hq⟩ := id hA
  obtain ⟨⟨hV, hT⟩, hsz, hhv, hks, hx, hl⟩ := id hI
  obtain ⟨⟨hrd, hrs, hrh⟩, ⟨hs0, hs1, hs2⟩, ⟨hn, hf, hfa⟩, ⟨hc0, hr, hs, hz⟩, h49, hdi⟩ := id hV
  have hF : Fr h h x (x + 106) := Fr.rf
  obtain ⟨hX0, hXn, hXu, hXw, hXh, hXs⟩ := id hX
  obtain ⟨hN0, hNb, hNw, hNs⟩ := id hXn
  obtain ⟨hNb0, hNb1, hNb2, hNb3, hNb4⟩ := id hNb
  obtain ⟨hNw0, hNw1, hNw2, hNw3, hNw4, hNw5, hNw6⟩ := id hNw
  have hU0 := hXu.1
  have hUw0 := hXu.2.2.1.1
  have hW0 := hXw.1
  have hH0 := hXh.1
  obtain ⟨hS0, hS1, hS2, hS3, hS4⟩ := id hXs
  refine G_aload_n dX5_sink_0 rfl rfl ?_
  refine G_getf fl_X5_16 dX5_sink_1 (by assumption) rfl ?_
  refine G_aload_n dX5_sink_4 rfl rfl ?_
  refine G_getf fl_X5_12 dX5_sink_5 (by assumption) rfl ?_
  refine G_callV (ci := 3) (as := [_]) (c_X3_copyFrom _ (x + 15) (x + 1) _ _ hXu hXn (by omega)) dX5_sink_8 ml_X5_36 cv_X3_copyFrom (by assumption) rfl rfl (Nat.le_of_ble_eq_true rfl) (Nat.le_of_ble_eq_true rfl) rfl (fun r h2 hp => ?_)
  obtain ⟨rfl, hF1, hb⟩ := hp
  have hX := hX.spare hF1 hb
  have hF := hF.tr (hF1.wide (show x ≤ x + 15 by omega) (show x + 15 + 14 ≤ x + 106 by omega))
  obtain ⟨hX0, hXn, hXu, hXw, hXh, hXs⟩ := id hX
  obtain ⟨hN0, hNb, hNw, hNs⟩ := id hXn
  obtain ⟨hNb0, hNb1, hNb2, hNb3, hNb4⟩ := id hNb
  obtain ⟨hNw0, hNw1, hNw2, hNw3, hNw4, hNw5, hNw6⟩ := id hNw
  have hU0 := hXu.1
  have hUw0 := hXu.2.2.1.1
  have hW0 := hXw.1
  have hH0 := hXh.1
  obtain ⟨hS0, hS1, hS2, hS3, hS4⟩ := id hXs
  refine G_aload_n dX5_sink_11 rfl rfl ?_
  refine G_aload_n dX5_sink_12 rfl rfl ?_
  refine G_getf fl_X5_12 dX5_sink_13 (by assumption) rfl ?_
  refine G_getf fl_X5_63 dX5_sink_16 (by assumption) rfl ?_
  refine G_iload_n dX5_sink_19 rfl rfl ?_
  refine G_iload_n dX5_sink_20 rfl rfl ?_
  refine G_callV (ci := 4) (as := [_, _]) (c_X4_add _ (x + 1 + 6) (v 4) (v 5) (v 6) (v 7) (v 8) (v 9) (v 11 0) c d hNw hn hc0 hdi hc hd) dX5_sink_21 ml_X5_67 cv_X4_add (by assumption) rfl rfl (Nat.le_of_ble_eq_true rfl) (Nat.le_of_ble_eq_true rfl) rfl (fun r h2 hp => ?_)
  obtain ⟨rfl, hF2, hb2⟩ := hp
  have hb3 := st_sink hXn hF2 hb2
  have hX := hX.now (hF2.wide (show x + 1 ≤ x + 1 + 6 by omega) (show x + 1 + 6 + 7 ≤ x + 1 + 14 by omega)) hb3
  have hF := hF.tr (hF2.wide (show x ≤ x + 1 + 6 by omega) (show x + 1 + 6 + 7 ≤ x + 106 by omega))
  have hX0 := hX.1
  refine G_callV (ci := 5) (as := [_]) (c_X5_recorded _ x _ _ _ _ _ _ _ _ _ _ _ _ _ _ _ _ _ _ hX hsz (inR_of (by have := sinkR_rng (k := c) (q := d) hV; omega) (by have := sinkR_rng (k := c) (q := d) hV; omega))) dX5_sink_24 ml_X5_50 cv_X5_recorded (by assumption) rfl rfl (Nat.le_of_ble_eq_true rfl) (Nat.le_of_ble_eq_true rfl) rfl (fun r h2 hp => ?_)
  obtain ⟨rfl, hF3, ρ2, hX⟩ := hp
  have hF := hF.tr hF3
  refine G_ireturn dX5_sink_27 rfl ?_
  exact ⟨rfl, hF, _, _, _, _, _, _, _, _, _, _, hX, hq⟩
set_option maxRecDepth 100000 in
set_option maxHeartbeats 4000000 in
theorem c_X5_fillIn (h : List PO) (x : Nat) (v : SV) (hv : Int → SV) (sz ks : Int) (sw : SV) (tx : Int → Int) (len sn se : Int) (c : Int) (hA : clA h x v hv sz ks sw tx len sn se) (hI : INV v hv sz ks sw tx len) (hc : inR c) : PM 7 yX5_fillIn cX5_fillIn 2 (some .int) h [r_ x, i_ c] (fun r0 h2 => r0 = some (i_ (fillR (v 6) (v 11 0) c)) ∧ Fr h h2 x (x + 106) ∧ clA h2 x (fillV v c) (hvA hv sz v (fillR (v 6) (v 11 0) c)) (szA sz (fillR (v 6) (v 11 0) c)) (ks) (sw) (tx) (len) (sn) (se)) := by
  refine PM_of_G RX5 [some (r_ x), some (i_ c)] rfl (by decide +kernel) (Nat.le_of_ble_eq_true rfl) rfl ?_
  obtain ⟨u, ρ, ki, fi, s2, th, p, hst, n, e, hX, hq⟩ := id hA
  obtain ⟨⟨hV, hT⟩, hsz, hhv, hks, hx, hl⟩ := id hI
  obtain ⟨⟨hrd, hrs, hrh⟩, ⟨hs0, hs1, hs2⟩, ⟨hn, hf, hfa⟩, ⟨hc0, hr, hs, hz⟩, h49, hdi⟩ := id hV
  have hF : Fr h h x (x + 106) := Fr.rf
  obtain ⟨hX0, hXn, hXu, hXw, hXh, hXs⟩ := id hX
  obtain ⟨hN0, hNb, hNw, hNs⟩ := id hXn
  obtain ⟨hNb0, hNb1, hNb2, hNb3, hNb4⟩ := id hNb
  obtain ⟨hNw0, hNw1, hNw2, hNw3, hNw4, hNw5, hNw6⟩ := id hNw
  have hU0 := hXu.1
  have hUw0 := hXu.2.2.1.1
  have hW0 := hXw.1
  have hH0 := hXh.1
  obtain ⟨hS0, hS1, hS2, hS3, hS4⟩ := id hXs
  refine G_aload_n dX5_fillIn_0 rfl rfl ?_
  refine G_getf fl_X5_16 dX5_fillIn_1 (by assumption) rfl ?_
  refine G_aload_n dX5_fillIn_4 rfl rfl ?_
  refine G_getf fl_X5_12 dX5_fillIn_5 (by assumption) rfl ?_
  refine G_callV (ci := 3) (as := [_]) (c_X3_copyFrom _ (x + 15) (x + 1) _ _ hXu hXn (by omega)) dX5_fillIn_8 ml_X5_36 cv_X3_copyFrom (by assumption) rfl rfl (Nat.le_of_ble_eq_true rfl) (Nat.le_of_ble_eq_true rfl) rfl (fun r h2 hp => ?_)
  obtain ⟨rfl, hF1, hb⟩ := hp
  have hX := hX.spare hF1 hb
  have hF := hF.tr (hF1.wide (show x ≤ x + 15 by omega) (show x + 15 + 14 ≤ x + 106 by omega))
  obtain ⟨hX0, hXn, hXu, hXw, hXh, hXs⟩ := id hX
  obtain ⟨hN0, hNb, hNw, hNs⟩ := id hXn
  obtain ⟨hNb0, hNb1, hNb2, hNb3, hNb4⟩ := id hNb
  obtain ⟨hNw0, hNw1, hNw2, hNw3, hNw4, hNw5, hNw6⟩ := id hNw
  have hU0 := hXu.1
  have hUw0 := hXu.2.2.1.1
  have hW0 := hXw.1
  have hH0 := hXh.1
  obtain ⟨hS0, hS1, hS2, hS3, hS4⟩ := id hXs
  refine G_aload_n dX5_fillIn_11 rfl rfl ?_
  refine G_aload_n dX5_fillIn_12 rfl rfl ?_
  refine G_getf fl_X5_12 dX5_fillIn_13 (by assumption) rfl ?_
  refine G_getf fl_X5_63 dX5_fillIn_16 (by assumption) rfl ?_
  refine G_iload_n dX5_fillIn_19 rfl rfl ?_
  refine G_callV (ci := 4) (as := [_]) (c_X4_remove _ (x + 1 + 6) (v 4) (v 5) (v 6) (v 7) (v 8) (v 9) (v 11 0) c hNw hn hc) dX5_fillIn_20 ml_X5_72 cv_X4_remove (by assumption) rfl rfl (Nat.le_of_ble_eq_true rfl) (Nat.le_of_ble_eq_true rfl) rfl (fun r h2 hp => ?_)
  obtain ⟨rfl, hF2, hb2⟩ := hp
  have hb3 := st_fill hXn hF2 hb2
  have hX := hX.now (hF2.wide (show x + 1 ≤ x + 1 + 6 by omega) (show x + 1 + 6 + 7 ≤ x + 1 + 14 by omega)) hb3
  have hF := hF.tr (hF2.wide (show x ≤ x + 1 + 6 by omega) (show x + 1 + 6 + 7 ≤ x + 106 by omega))
  have hX0 := hX.1
  refine G_callV (ci := 5) (as := [_]) (c_X5_recorded _ x _ _ _ _ _ _ _ _ _ _ _ _ _ _ _ _ _ _ hX hsz (inR_of (by have := fillR_rng (w := c) hV; omega) (by have := fillR_rng (w := c) hV; omega))) dX5_fillIn_23 ml_X5_50 cv_X5_recorded (by assumption) rfl rfl (Nat.le_of_ble_eq_true rfl) (Nat.le_of_ble_eq_true rfl) rfl (fun r h2 hp => ?_)
  obtain ⟨rfl, hF3, ρ2, hX⟩ := hp
  have hF := hF.tr hF3
  refine G_ireturn dX5_fillIn_26 rfl ?_
  exact ⟨rfl, hF, _, _, _, _, _, _, _, _, _, _, hX, hq⟩
set_option maxRecDepth 100000 in
set_option maxHeartbeats 4000000 in
theorem c_X5_setRate (h : List PO) (x : Nat) (v : SV) (hv : Int → SV) (sz ks : Int) (sw : SV) (tx : Int → Int) (len sn se : Int) (c d : Int) (hA : clA h x v hv sz ks sw tx len sn se) (hI : INV v hv sz ks sw tx len) (hc : inR c) (hd : inR d) : PM 7 yX5_setRate cX5_setRate 3 (some .int) h [r_ x, i_ c, i_ d] (fun r0 h2 => r0 = some (i_ (rateR (v 5) (v 11 0) c d)) ∧ Fr h h2 x (x + 106) ∧ clA h2 x (rateV v c d) (hvA hv sz v (rateR (v 5) (v 11 0) c d)) (szA sz (rateR (v 5) (v 11 0) c d)) (ks) (sw) (tx) (len) (sn) (se)) := by
  refine PM_of_G RX5 [some (r_ x), some (i_ c), some (i_ d)] rfl (by decide +kernel) (Nat.le_of_ble_eq_true rfl) rfl ?_
  obtain ⟨u, ρ, ki, fi, s2, th, p, hst, n, e, hX, hq⟩ := id hA
  obtain ⟨⟨hV, hT⟩, hsz, hhv, hks, hx, hl⟩ := id hI
  obtain ⟨⟨hrd, hrs, hrh⟩, ⟨hs0, hs1, hs2⟩, ⟨hn, hf, hfa⟩, ⟨hc0, hr, hs, hz⟩, h49, hdi⟩ := id hV
  have hF : Fr h h x (x + 106) := Fr.rf
  obtain ⟨hX0, hXn, hXu, hXw, hXh, hXs⟩ := id hX
  obtain ⟨hN0, hNb, hNw, hNs⟩ := id hXn
  obtain ⟨hNb0, hNb1, hNb2, hNb3, hNb4⟩ := id hNb
  obtain ⟨hNw0, hNw1, hNw2, hNw3, hNw4, hNw5, hNw6⟩ := id hNw
  have hU0 := hXu.1
  have hUw0 := hXu.2.2.1.1
  have hW0 := hXw.1
  have hH0 := hXh.1
  obtain ⟨hS0, hS1, hS2, hS3, hS4⟩ := id hXs
  refine G_aload_n dX5_setRate_0 rfl rfl ?_
  refine G_getf fl_X5_16 dX5_setRate_1 (by assumption) rfl ?_
  refine G_aload_n dX5_setRate_4 rfl rfl ?_
  refine G_getf fl_X5_12 dX5_setRate_5 (by assumption) rfl ?_
  refine G_callV (ci := 3) (as := [_]) (c_X3_copyFrom _ (x + 15) (x + 1) _ _ hXu hXn (by omega)) dX5_setRate_8 ml_X5_36 cv_X3_copyFrom (by assumption) rfl rfl (Nat.le_of_ble_eq_true rfl) (Nat.le_of_ble_eq_true rfl) rfl (fun r h2 hp => ?_)
  obtain ⟨rfl, hF1, hb⟩ := hp
  have hX := hX.spare hF1 hb
  have hF := hF.tr (hF1.wide (show x ≤ x + 15 by omega) (show x + 15 + 14 ≤ x + 106 by omega))
  obtain ⟨hX0, hXn, hXu, hXw, hXh, hXs⟩ := id hX
  obtain ⟨hN0, hNb, hNw, hNs⟩ := id hXn
  obtain ⟨hNb0, hNb1, hNb2, hNb3, hNb4⟩ := id hNb
  obtain ⟨hNw0, hNw1, hNw2, hNw3, hNw4, hNw5, hNw6⟩ := id hNw
  have hU0 := hXu.1
  have hUw0 := hXu.2.2.1.1
  have hW0 := hXw.1
  have hH0 := hXh.1
  obtain ⟨hS0, hS1, hS2, hS3, hS4⟩ := id hXs
  refine G_aload_n dX5_setRate_11 rfl rfl ?_
  refine G_aload_n dX5_setRate_12 rfl rfl ?_
  refine G_getf fl_X5_12 dX5_setRate_13 (by assumption) rfl ?_
  refine G_getf fl_X5_63 dX5_setRate_16 (by assumption) rfl ?_
  refine G_iload_n dX5_setRate_19 rfl rfl ?_
  refine G_iload_n dX5_setRate_20 rfl rfl ?_
  refine G_callV (ci := 4) (as := [_, _]) (c_X4_changeRate _ (x + 1 + 6) (v 4) (v 5) (v 6) (v 7) (v 8) (v 9) (v 11 0) c d hNw hn hr hc hd) dX5_setRate_21 ml_X5_75 cv_X4_changeRate (by assumption) rfl rfl (Nat.le_of_ble_eq_true rfl) (Nat.le_of_ble_eq_true rfl) rfl (fun r h2 hp => ?_)
  obtain ⟨rfl, rfl⟩ := hp
  obtain ⟨hF2, hb2⟩ := st_rate (c := c) (d := d) hXn
  have hX := hX.now hF2 hb2
  have hF := hF.tr (hF2.wide (show x ≤ x + 1 by omega) (show x + 1 + 14 ≤ x + 106 by omega))
  have hX0 := hX.1
  refine G_callV (ci := 5) (as := [_]) (c_X5_recorded _ x _ _ _ _ _ _ _ _ _ _ _ _ _ _ _ _ _ _ hX hsz (inR_of (by have := rateR_rng (w := c) (q := d) hV; omega) (by have := rateR_rng (w := c) (q := d) hV; omega))) dX5_setRate_24 ml_X5_50 cv_X5_recorded (by assumption) rfl rfl (Nat.le_of_ble_eq_true rfl) (Nat.le_of_ble_eq_true rfl) rfl (fun r h2 hp => ?_)
  obtain ⟨rfl, hF3, ρ2, hX⟩ := hp
  have hF := hF.tr hF3
  refine G_ireturn dX5_setRate_27 rfl ?_
  exact ⟨rfl, hF, _, _, _, _, _, _, _, _, _, _, hX, hq⟩
set_option maxRecDepth 100000 in
set_option maxHeartbeats 4000000 in
theorem c_X5_tide (h : List PO) (x : Nat) (v : SV) (hv : Int → SV) (sz ks : Int) (sw : SV) (tx : Int → Int) (len sn se : Int) (c d : Int) (hA : clA h x v hv sz ks sw tx len sn se) (hI : INV v hv sz ks sw tx len) (hc : inR c) (hd : inR d) : PM 7 yX5_tide cX5_tide 3 (some .int) h [r_ x, i_ c, i_ d] (fun r0 h2 => r0 = some (i_ (tidesR v c d)) ∧ Fr h h2 x (x + 106) ∧ clA h2 x (tidesV v c d) (hvA hv sz v (tidesR v c d)) (szA sz (tidesR v c d)) (ks) (sw) (tx) (len) (sn) (se)) := by
  refine PM_of_G RX5 [some (r_ x), some (i_ c), some (i_ d)] rfl (by decide +kernel) (Nat.le_of_ble_eq_true rfl) rfl ?_
  obtain ⟨u, ρ, ki, fi, s2, th, p, hst, n, e, hX, hq⟩ := id hA
  obtain ⟨⟨hV, hT⟩, hsz, hhv, hks, hx, hl⟩ := id hI
  obtain ⟨⟨hrd, hrs, hrh⟩, ⟨hs0, hs1, hs2⟩, ⟨hn, hf, hfa⟩, ⟨hc0, hr, hs, hz⟩, h49, hdi⟩ := id hV
  have hF : Fr h h x (x + 106) := Fr.rf
  obtain ⟨hX0, hXn, hXu, hXw, hXh, hXs⟩ := id hX
  obtain ⟨hN0, hNb, hNw, hNs⟩ := id hXn
  obtain ⟨hNb0, hNb1, hNb2, hNb3, hNb4⟩ := id hNb
  obtain ⟨hNw0, hNw1, hNw2, hNw3, hNw4, hNw5, hNw6⟩ := id hNw
  have hU0 := hXu.1
  have hUw0 := hXu.2.2.1.1
  have hW0 := hXw.1
  have hH0 := hXh.1
  obtain ⟨hS0, hS1, hS2, hS3, hS4⟩ := id hXs
  refine G_aload_n dX5_tide_0 rfl rfl ?_
  refine G_getf fl_X5_16 dX5_tide_1 (by assumption) rfl ?_
  refine G_aload_n dX5_tide_4 rfl rfl ?_
  refine G_getf fl_X5_12 dX5_tide_5 (by assumption) rfl ?_
  refine G_callV (ci := 3) (as := [_]) (c_X3_copyFrom _ (x + 15) (x + 1) _ _ hXu hXn (by omega)) dX5_tide_8 ml_X5_36 cv_X3_copyFrom (by assumption) rfl rfl (Nat.le_of_ble_eq_true rfl) (Nat.le_of_ble_eq_true rfl) rfl (fun r h2 hp => ?_)
  obtain ⟨rfl, hF1, hb⟩ := hp
  have hX := hX.spare hF1 hb
  have hF := hF.tr (hF1.wide (show x ≤ x + 15 by omega) (show x + 15 + 14 ≤ x + 106 by omega))
  obtain ⟨hX0, hXn, hXu, hXw, hXh, hXs⟩ := id hX
  obtain ⟨hN0, hNb, hNw, hNs⟩ := id hXn
  obtain ⟨hNb0, hNb1, hNb2, hNb3, hNb4⟩ := id hNb
  obtain ⟨hNw0, hNw1, hNw2, hNw3, hNw4, hNw5, hNw6⟩ := id hNw
  have hU0 := hXu.1
  have hUw0 := hXu.2.2.1.1
  have hW0 := hXw.1
  have hH0 := hXh.1
  obtain ⟨hS0, hS1, hS2, hS3, hS4⟩ := id hXs
  refine G_aload_n dX5_tide_11 rfl rfl ?_
  refine G_aload_n dX5_tide_12 rfl rfl ?_
  refine G_getf fl_X5_12 dX5_tide_13 (by assumption) rfl ?_
  refine G_iload_n dX5_tide_16 rfl rfl ?_
  refine G_iload_n dX5_tide_17 rfl rfl ?_
  refine G_callV (ci := 3) (as := [_, _]) (c_X3_letTidesCome _ (x + 1) v c d hXn hV hT hc hd) dX5_tide_18 ml_X5_78 cv_X3_letTidesCome (by assumption) rfl rfl (Nat.le_of_ble_eq_true rfl) (Nat.le_of_ble_eq_true rfl) rfl (fun r h2 hp => ?_)
  obtain ⟨rfl, hF2, hb2⟩ := hp
  have hX := hX.now hF2 hb2
  have hF := hF.tr (hF2.wide (show x ≤ x + 1 by omega) (show x + 1 + 14 ≤ x + 106 by omega))
  have hX0 := hX.1
  refine G_callV (ci := 5) (as := [_]) (c_X5_recorded _ x _ _ _ _ _ _ _ _ _ _ _ _ _ _ _ _ _ _ hX hsz (inR_of (by have := tidesR_rng (v := v) (a := c) (b := d); omega) (by have := tidesR_rng (v := v) (a := c) (b := d); omega))) dX5_tide_21 ml_X5_50 cv_X5_recorded (by assumption) rfl rfl (Nat.le_of_ble_eq_true rfl) (Nat.le_of_ble_eq_true rfl) rfl (fun r h2 hp => ?_)
  obtain ⟨rfl, hF3, ρ2, hX⟩ := hp
  have hF := hF.tr hF3
  refine G_ireturn dX5_tide_24 rfl ?_
  exact ⟨rfl, hF, _, _, _, _, _, _, _, _, _, _, hX, hq⟩
def undR (sz : Int) : Int := if sz = 0 then -5 else sz - 1
def undV (v : SV) (hv : Int → SV) (sz : Int) : SV := if sz = 0 then v else hv (sz - 1)
def undZ (sz : Int) : Int := if sz = 0 then sz else sz - 1
def rstR (ks : Int) (w : SV) : Int := if ks = 1 then w 11 2 else -5
def rstV (v : SV) (ks : Int) (w : SV) : SV := if ks = 1 then w else v
theorem clF.undo {h h1 h2 : List PO} {x : Nat} {v u w v2 : SV} {ks : Int} {ρ ρ2 : Int → Nat} {hv hv2 : Int → SV} {sz sz2 : Int} {tx : Int → Int} {len : Int} {ki fi s2 : Int → Int} {th p hst n e : Int} (a : clF h x v u w ks ρ hv sz tx len ki fi s2 th p hst n e) (f1 : Fr h h1 (x + 1) (x + 1 + 14)) (f2 : Fr h1 h2 (x + 43) (x + 43 + 1)) (b : stAt h2 (x + 1) v2) (c : hiAt h2 (x + 43) ρ2 hv2 sz2) : clF h2 x v2 u w ks ρ2 hv2 sz2 tx len ki fi s2 th p hst n e := by
  obtain ⟨a0, a1, a2, a3, a4, a5⟩ := a
  exact ⟨f2.at' (f1.at' a0 (by omega)) (by omega), b, (a2.fr f1 (by omega)).fr f2 (by omega), (a3.fr f1 (by omega)).fr f2 (by omega), c, (a5.fr f1 (by omega)).fr f2 (by omega)⟩
set_option maxRecDepth 100000 in
set_option maxHeartbeats 4000000 in
theorem c_X5_undo (h : List PO) (x : Nat) (v : SV) (hv : Int → SV) (sz ks : Int) (sw : SV) (tx : Int → Int) (len sn se : Int) (hA : clA h x v hv sz ks sw tx len sn se) (hI : INV v hv sz ks sw tx len) : PM 7 yX5_undo cX5_undo 1 (some .int) h [r_ x] (fun r0 h2 => r0 = some (i_ (undR sz)) ∧ Fr h h2 x (x + 106) ∧ clA h2 x (undV v hv sz) (hv) (undZ sz) (ks) (sw) (tx) (len) (sn) (se)) := by
  refine PM_of_G RX5 [some (r_ x)] rfl (by decide +kernel) (Nat.le_of_ble_eq_true rfl) rfl ?_
  obtain ⟨u, ρ, ki, fi, s2, th, p, hst, n, e, hX, hq⟩ := id hA
  obtain ⟨⟨hV, hT⟩, hsz, hhv, hks, hx, hl⟩ := id hI
  obtain ⟨⟨hrd, hrs, hrh⟩, ⟨hs0, hs1, hs2⟩, ⟨hn, hf, hfa⟩, ⟨hc0, hr, hs, hz⟩, h49, hdi⟩ := id hV
  have hF : Fr h h x (x + 106) := Fr.rf
  obtain ⟨hX0, hXn, hXu, hXw, hXh, hXs⟩ := id hX
  obtain ⟨hN0, hNb, hNw, hNs⟩ := id hXn
  obtain ⟨hNb0, hNb1, hNb2, hNb3, hNb4⟩ := id hNb
  obtain ⟨hNw0, hNw1, hNw2, hNw3, hNw4, hNw5, hNw6⟩ := id hNw
  have hU0 := hXu.1
  have hUw0 := hXu.2.2.1.1
  have hW0 := hXw.1
  have hH0 := hXh.1
  obtain ⟨hS0, hS1, hS2, hS3, hS4⟩ := id hXs
  refine G_aload_n dX5_undo_0 rfl rfl ?_
  refine G_getf fl_X5_25 dX5_undo_1 (by assumption) rfl ?_
  refine G_aload_n dX5_undo_4 rfl rfl ?_
  refine G_getf fl_X5_12 dX5_undo_5 (by assumption) rfl ?_
  refine G_callV (ci := 1) (as := [_]) (c_X1_takeLatest _ (x + 43) ρ hv sz (x + 1) v hXh hsz hXn (by omega)) dX5_undo_8 ml_X5_121 cv_X1_takeLatest (by assumption) rfl rfl (Nat.le_of_ble_eq_true rfl) (Nat.le_of_ble_eq_true rfl) rfl (fun r h2 hp => ?_)
  rcases hp with ⟨rfl, hz0, rfl⟩ | ⟨rfl, hz0, H1, hF1, hF2, hb, hh⟩
  · skip
    refine G_if_ne (tgt := 17) dX5_undo_11 (by decide) (inR_of (by omega) (by omega)) (fun hc11 => ?_) (fun hc11 => ?_)
    · skip
      exfalso; omega
    · skip
      refine G_bipush dX5_undo_14 rfl ?_
      refine G_ireturn dX5_undo_16 rfl ?_
      have e1 : undR sz = -5 := by unfold undR; rw [if_pos hz0]
      have e2 : undV v hv sz = v := by unfold undV; rw [if_pos hz0]
      have e3 : undZ sz = sz := by unfold undZ; rw [if_pos hz0]
      rw [e1, e2, e3]
      exact ⟨rfl, Fr.rf, hA⟩
  · have hX := hX.undo hF1 hF2 hb hh
    have hF := hF.tr (hF1.wide (show x ≤ x + 1 by omega) (show x + 1 + 14 ≤ x + 106 by omega))
    have hF := hF.tr (hF2.wide (show x ≤ x + 43 by omega) (show x + 43 + 1 ≤ x + 106 by omega))
    obtain ⟨hX0, hXn, hXu, hXw, hXh, hXs⟩ := id hX
    obtain ⟨hN0, hNb, hNw, hNs⟩ := id hXn
    obtain ⟨hNb0, hNb1, hNb2, hNb3, hNb4⟩ := id hNb
    obtain ⟨hNw0, hNw1, hNw2, hNw3, hNw4, hNw5, hNw6⟩ := id hNw
    have hU0 := hXu.1
    have hUw0 := hXu.2.2.1.1
    have hW0 := hXw.1
    have hH0 := hXh.1
    obtain ⟨hS0, hS1, hS2, hS3, hS4⟩ := id hXs
    refine G_if_ne (tgt := 17) dX5_undo_11 (by decide) (inR_of (by omega) (by omega)) (fun hc11 => ?_) (fun hc11 => ?_)
    · skip
      refine G_aload_n dX5_undo_17 rfl rfl ?_
      refine G_getf fl_X5_25 dX5_undo_18 (by assumption) rfl ?_
      refine G_getf fl_X5_125 dX5_undo_21 (by assumption) rfl ?_
      refine G_ireturn dX5_undo_24 rfl ?_
      have e1 : undR sz = sz - 1 := by unfold undR; rw [if_neg (by omega)]
      have e2 : undV v hv sz = hv (sz - 1) := by unfold undV; rw [if_neg (by omega)]
      have e3 : undZ sz = sz - 1 := by unfold undZ; rw [if_neg (by omega)]
      rw [e1, e2, e3]
      exact ⟨rfl, hF, _, _, _, _, _, _, _, _, _, _, hX, hq⟩
    · skip
      exfalso; omega
set_option maxRecDepth 100000 in
set_option maxHeartbeats 4000000 in
theorem c_X5_keep (h : List PO) (x : Nat) (v : SV) (hv : Int → SV) (sz ks : Int) (sw : SV) (tx : Int → Int) (len sn se : Int) (hA : clA h x v hv sz ks sw tx len sn se) (hI : INV v hv sz ks sw tx len) : PM 7 yX5_keep cX5_keep 1 (some .int) h [r_ x] (fun r0 h2 => r0 = some (i_ (v 11 2)) ∧ Fr h h2 x (x + 106) ∧ clA h2 x (v) (hv) (sz) (1) (v) (tx) (len) (sn) (se)) := by
  refine PM_of_G RX5 [some (r_ x)] rfl (by decide +kernel) (Nat.le_of_ble_eq_true rfl) rfl ?_
  obtain ⟨u, ρ, ki, fi, s2, th, p, hst, n, e, hX, hq⟩ := id hA
  obtain ⟨⟨hV, hT⟩, hsz, hhv, hks, hx, hl⟩ := id hI
  obtain ⟨⟨hrd, hrs, hrh⟩, ⟨hs0, hs1, hs2⟩, ⟨hn, hf, hfa⟩, ⟨hc0, hr, hs, hz⟩, h49, hdi⟩ := id hV
  have hF : Fr h h x (x + 106) := Fr.rf
  obtain ⟨hX0, hXn, hXu, hXw, hXh, hXs⟩ := id hX
  obtain ⟨hN0, hNb, hNw, hNs⟩ := id hXn
  obtain ⟨hNb0, hNb1, hNb2, hNb3, hNb4⟩ := id hNb
  obtain ⟨hNw0, hNw1, hNw2, hNw3, hNw4, hNw5, hNw6⟩ := id hNw
  have hU0 := hXu.1
  have hUw0 := hXu.2.2.1.1
  have hW0 := hXw.1
  have hH0 := hXh.1
  obtain ⟨hS0, hS1, hS2, hS3, hS4⟩ := id hXs
  refine G_aload_n dX5_keep_0 rfl rfl ?_
  refine G_getf fl_X5_19 dX5_keep_1 (by assumption) rfl ?_
  refine G_aload_n dX5_keep_4 rfl rfl ?_
  refine G_getf fl_X5_12 dX5_keep_5 (by assumption) rfl ?_
  refine G_callV (ci := 3) (as := [_]) (c_X3_copyFrom _ (x + 29) (x + 1) _ _ hXw hXn (by omega)) dX5_keep_8 ml_X5_36 cv_X3_copyFrom (by assumption) rfl rfl (Nat.le_of_ble_eq_true rfl) (Nat.le_of_ble_eq_true rfl) rfl (fun r h2 hp => ?_)
  obtain ⟨rfl, hF1, hb⟩ := hp
  have hX := hX.snap hF1 hb
  have hF := hF.tr (hF1.wide (show x ≤ x + 29 by omega) (show x + 29 + 14 ≤ x + 106 by omega))
  obtain ⟨hX0, hXn, hXu, hXw, hXh, hXs⟩ := id hX
  obtain ⟨hN0, hNb, hNw, hNs⟩ := id hXn
  obtain ⟨hNb0, hNb1, hNb2, hNb3, hNb4⟩ := id hNb
  obtain ⟨hNw0, hNw1, hNw2, hNw3, hNw4, hNw5, hNw6⟩ := id hNw
  have hU0 := hXu.1
  have hUw0 := hXu.2.2.1.1
  have hW0 := hXw.1
  have hH0 := hXh.1
  obtain ⟨hS0, hS1, hS2, hS3, hS4⟩ := id hXs
  refine G_aload_n dX5_keep_11 rfl rfl ?_
  refine G_iconst dX5_keep_12 ?_
  refine G_putZ (fs2 := [r_ (x + 1), r_ (x + 15), r_ (x + 29), i_ (1), r_ (x + 43), r_ (x + 101), i_ (hst), i_ (n), i_ (e)]) fp_X5_128 dX5_keep_13 (by first | exact Or.inl rfl | exact Or.inr rfl) (by assumption) (Nat.le_of_ble_eq_true rfl) rfl ?_
  have hX := hX.obj (1) (hst) (n) (e)
  have hF := hF.tr (Fr.set (o := oCls x (1) (hst) (n) (e)) (show x ≤ x by omega) (show x < x + 106 by omega))
  obtain ⟨hX0, hXn, hXu, hXw, hXh, hXs⟩ := id hX
  obtain ⟨hN0, hNb, hNw, hNs⟩ := id hXn
  obtain ⟨hNb0, hNb1, hNb2, hNb3, hNb4⟩ := id hNb
  obtain ⟨hNw0, hNw1, hNw2, hNw3, hNw4, hNw5, hNw6⟩ := id hNw
  have hU0 := hXu.1
  have hUw0 := hXu.2.2.1.1
  have hW0 := hXw.1
  have hH0 := hXh.1
  obtain ⟨hS0, hS1, hS2, hS3, hS4⟩ := id hXs
  refine G_aload_n dX5_keep_16 rfl rfl ?_
  refine G_getf fl_X5_12 dX5_keep_17 (by assumption) rfl ?_
  refine G_getf fl_X5_131 dX5_keep_20 (by assumption) rfl ?_
  refine G_ireturn dX5_keep_23 rfl ?_
  exact ⟨rfl, hF, _, _, _, _, _, _, _, _, _, _, hX, hq⟩
set_option maxRecDepth 100000 in
set_option maxHeartbeats 4000000 in
theorem c_X5_restore (h : List PO) (x : Nat) (v : SV) (hv : Int → SV) (sz ks : Int) (sw : SV) (tx : Int → Int) (len sn se : Int) (hA : clA h x v hv sz ks sw tx len sn se) (hI : INV v hv sz ks sw tx len) : PM 7 yX5_restore cX5_restore 1 (some .int) h [r_ x] (fun r0 h2 => r0 = some (i_ (rstR ks sw)) ∧ Fr h h2 x (x + 106) ∧ clA h2 x (rstV v ks sw) (hvA hv sz v (rstR ks sw)) (szA sz (rstR ks sw)) (ks) (sw) (tx) (len) (sn) (se)) := by
  refine PM_of_G RX5 [some (r_ x)] rfl (by decide +kernel) (Nat.le_of_ble_eq_true rfl) rfl ?_
  obtain ⟨u, ρ, ki, fi, s2, th, p, hst, n, e, hX, hq⟩ := id hA
  obtain ⟨⟨hV, hT⟩, hsz, hhv, hks, hx, hl⟩ := id hI
  obtain ⟨⟨hrd, hrs, hrh⟩, ⟨hs0, hs1, hs2⟩, ⟨hn, hf, hfa⟩, ⟨hc0, hr, hs, hz⟩, h49, hdi⟩ := id hV
  have hF : Fr h h x (x + 106) := Fr.rf
  obtain ⟨hX0, hXn, hXu, hXw, hXh, hXs⟩ := id hX
  obtain ⟨hN0, hNb, hNw, hNs⟩ := id hXn
  obtain ⟨hNb0, hNb1, hNb2, hNb3, hNb4⟩ := id hNb
  obtain ⟨hNw0, hNw1, hNw2, hNw3, hNw4, hNw5, hNw6⟩ := id hNw
  have hU0 := hXu.1
  have hUw0 := hXu.2.2.1.1
  have hW0 := hXw.1
  have hH0 := hXh.1
  obtain ⟨hS0, hS1, hS2, hS3, hS4⟩ := id hXs
  refine G_aload_n dX5_restore_0 rfl rfl ?_
  refine G_getf fl_X5_128 dX5_restore_1 (by assumption) rfl ?_
  refine G_if_ne (tgt := 10) dX5_restore_4 (by decide) (inR_of (by omega) (by omega)) (fun hc4 => ?_) (fun hc4 => ?_)
  · skip
    have hk1 : ks = 1 := by omega
    have hOw : OKt sw := by
      rcases hks with q | q
      · exact absurd q (by omega)
      · exact q.2
    have e1 : rstR ks sw = sw 11 2 := by unfold rstR; rw [if_pos hk1]
    have e2 : rstV v ks sw = sw := by unfold rstV; rw [if_pos hk1]
    have hOT := hOw.2
    rw [e1, e2]
    refine G_aload_n dX5_restore_10 rfl rfl ?_
    refine G_getf fl_X5_16 dX5_restore_11 (by assumption) rfl ?_
    refine G_aload_n dX5_restore_14 rfl rfl ?_
    refine G_getf fl_X5_12 dX5_restore_15 (by assumption) rfl ?_
    refine G_callV (ci := 3) (as := [_]) (c_X3_copyFrom _ (x + 15) (x + 1) _ _ hXu hXn (by omega)) dX5_restore_18 ml_X5_36 cv_X3_copyFrom (by assumption) rfl rfl (Nat.le_of_ble_eq_true rfl) (Nat.le_of_ble_eq_true rfl) rfl (fun r h2 hp => ?_)
    obtain ⟨rfl, hF1, hb⟩ := hp
    have hX := hX.spare hF1 hb
    have hF := hF.tr (hF1.wide (show x ≤ x + 15 by omega) (show x + 15 + 14 ≤ x + 106 by omega))
    obtain ⟨hX0, hXn, hXu, hXw, hXh, hXs⟩ := id hX
    obtain ⟨hN0, hNb, hNw, hNs⟩ := id hXn
    obtain ⟨hNb0, hNb1, hNb2, hNb3, hNb4⟩ := id hNb
    obtain ⟨hNw0, hNw1, hNw2, hNw3, hNw4, hNw5, hNw6⟩ := id hNw
    have hU0 := hXu.1
    have hUw0 := hXu.2.2.1.1
    have hW0 := hXw.1
    have hH0 := hXh.1
    obtain ⟨hS0, hS1, hS2, hS3, hS4⟩ := id hXs
    refine G_aload_n dX5_restore_21 rfl rfl ?_
    refine G_getf fl_X5_12 dX5_restore_22 (by assumption) rfl ?_
    refine G_aload_n dX5_restore_25 rfl rfl ?_
    refine G_getf fl_X5_19 dX5_restore_26 (by assumption) rfl ?_
    refine G_callV (ci := 3) (as := [_]) (c_X3_copyFrom _ (x + 1) (x + 29) _ _ hXn hXw (by omega)) dX5_restore_29 ml_X5_36 cv_X3_copyFrom (by assumption) rfl rfl (Nat.le_of_ble_eq_true rfl) (Nat.le_of_ble_eq_true rfl) rfl (fun r h2 hp => ?_)
    obtain ⟨rfl, hF2, hb2⟩ := hp
    have hX := hX.now hF2 hb2
    have hF := hF.tr (hF2.wide (show x ≤ x + 1 by omega) (show x + 1 + 14 ≤ x + 106 by omega))
    obtain ⟨hX0, hXn, hXu, hXw, hXh, hXs⟩ := id hX
    obtain ⟨hN0, hNb, hNw, hNs⟩ := id hXn
    obtain ⟨hNb0, hNb1, hNb2, hNb3, hNb4⟩ := id hNb
    obtain ⟨hNw0, hNw1, hNw2, hNw3, hNw4, hNw5, hNw6⟩ := id hNw
    have hU0 := hXu.1
    have hUw0 := hXu.2.2.1.1
    have hW0 := hXw.1
    have hH0 := hXh.1
    obtain ⟨hS0, hS1, hS2, hS3, hS4⟩ := id hXs
    refine G_aload_n dX5_restore_32 rfl rfl ?_
    refine G_aload_n dX5_restore_33 rfl rfl ?_
    refine G_getf fl_X5_12 dX5_restore_34 (by assumption) rfl ?_
    refine G_getf fl_X5_131 dX5_restore_37 (by assumption) rfl ?_
    refine G_callV (ci := 5) (as := [_]) (c_X5_recorded _ x _ _ _ _ _ _ _ _ _ _ _ _ _ _ _ _ _ _ hX hsz (inR_of (by have := hOT; omega) (by have := hOT; omega))) dX5_restore_40 ml_X5_50 cv_X5_recorded (by assumption) rfl rfl (Nat.le_of_ble_eq_true rfl) (Nat.le_of_ble_eq_true rfl) rfl (fun r h2 hp => ?_)
    obtain ⟨rfl, hF3, ρ2, hX⟩ := hp
    have hF := hF.tr hF3
    refine G_ireturn dX5_restore_43 rfl ?_
    exact ⟨rfl, hF, _, _, _, _, _, _, _, _, _, _, hX, hq⟩
  · skip
    refine G_bipush dX5_restore_7 rfl ?_
    refine G_ireturn dX5_restore_9 rfl ?_
    have e1 : rstR ks sw = -5 := by unfold rstR; rw [if_neg (by omega)]
    have e2 : rstV v ks sw = v := by unfold rstV; rw [if_neg (by omega)]
    have e3 : hvA hv sz v (-5) = hv := by unfold hvA; rw [if_neg (by omega)]
    have e4 : szA sz (-5) = sz := by unfold szA; rw [if_neg (by omega)]
    rw [e1, e2, e3, e4]
    exact ⟨rfl, Fr.rf, hA⟩
set_option maxRecDepth 100000 in
set_option maxHeartbeats 4000000 in
theorem c_X5_cell (h : List PO) (x : Nat) (v : SV) (hv : Int → SV) (sz ks : Int) (sw : SV) (tx : Int → Int) (len sn se : Int) (c d : Int) (hA : clA h x v hv sz ks sw tx len sn se) (hI : INV v hv sz ks sw tx len) (hc : inR c) (hd : inR d) : PM 5 yX5_cell cX5_cell 3 (some .int) h [r_ x, i_ c, i_ d] (fun r0 h2 => r0 = some (i_ (cellR v c d)) ∧ Fr h h2 x (x + 106) ∧ clA h2 x (v) (hv) (sz) (ks) (sw) (tx) (len) (sn) (se)) := by
  refine PM_of_G RX5 [some (r_ x), some (i_ c), some (i_ d)] rfl (by decide +kernel) (Nat.le_of_ble_eq_true rfl) rfl ?_
  obtain ⟨u, ρ, ki, fi, s2, th, p, hst, n, e, hX, hq⟩ := id hA
  obtain ⟨⟨hV, hT⟩, hsz, hhv, hks, hx, hl⟩ := id hI
  obtain ⟨⟨hrd, hrs, hrh⟩, ⟨hs0, hs1, hs2⟩, ⟨hn, hf, hfa⟩, ⟨hc0, hr, hs, hz⟩, h49, hdi⟩ := id hV
  have hF : Fr h h x (x + 106) := Fr.rf
  obtain ⟨hX0, hXn, hXu, hXw, hXh, hXs⟩ := id hX
  obtain ⟨hN0, hNb, hNw, hNs⟩ := id hXn
  obtain ⟨hNb0, hNb1, hNb2, hNb3, hNb4⟩ := id hNb
  obtain ⟨hNw0, hNw1, hNw2, hNw3, hNw4, hNw5, hNw6⟩ := id hNw
  have hU0 := hXu.1
  have hUw0 := hXu.2.2.1.1
  have hW0 := hXw.1
  have hH0 := hXh.1
  obtain ⟨hS0, hS1, hS2, hS3, hS4⟩ := id hXs
  have hc1 := hc.1
  have hc2 := hc.2
  have hd1 := hd.1
  have hd2 := hd.2
  refine G_iload_n dX5_cell_0 rfl rfl ?_
  refine G_callS (as := [_]) (c_X5_isCell h c hc) dX5_cell_1 ml_X5_134 cs_X5_isCell rfl (Nat.le_of_ble_eq_true rfl) (Nat.le_of_ble_eq_true rfl) rfl (fun r h2 hp => ?_)
  obtain ⟨y1, rfl, rfl, hy1⟩ := hp
  refine G_if_ne (tgt := 9) dX5_cell_4 (by decide) (inR_of (by omega) (by omega)) (fun hc4 => ?_) (fun hc4 => ?_)
  · skip
    refine G_iload_n dX5_cell_9 rfl rfl ?_
    rcases (show (d < 0 ∨ 4 < d) ∨ d = 0 ∨ d = 1 ∨ d = 2 ∨ d = 3 ∨ d = 4 from by omega) with hsw | hsw | hsw | hsw | hsw | hsw
    · skip
      refine G_tblOut (tgt := 108) dX5_cell_10 (inR_of (by omega) (by omega)) hsw (by decide) ?_
      refine G_bipush dX5_cell_108 rfl ?_
      refine G_ireturn dX5_cell_110 rfl ?_
      have e9 : cellR v c d = -2 := by unfold cellR; rw [if_neg (by omega), if_neg (by omega), if_neg (by omega), if_neg (by omega), if_neg (by omega), if_neg (by omega)]
      rw [e9]
      exact ⟨rfl, Fr.rf, hA⟩
    · skip
      subst hsw
      refine G_tblIn (tgt := 44) dX5_cell_10 (inR_of (by omega) (by omega)) (by omega) (by omega) rfl (by decide) ?_
      refine G_aload_n dX5_cell_44 rfl rfl ?_
      refine G_getf fl_X5_12 dX5_cell_45 (by assumption) rfl ?_
      refine G_getf fl_X5_40 dX5_cell_48 (by assumption) rfl ?_
      refine G_getf fl_X5_137 dX5_cell_51 (by assumption) rfl ?_
      refine G_iload_n dX5_cell_54 rfl rfl ?_
      refine G_iald dX5_cell_55 (by assumption) (by omega) (by omega) (by decide) ?_
      refine G_ireturn dX5_cell_56 rfl ?_
      have e9 : cellR v c 0 = v 0 c := by unfold cellR; rw [if_neg (by omega), if_pos (by omega)]
      rw [e9]
      exact ⟨rfl, Fr.rf, hA⟩
    · skip
      subst hsw
      refine G_tblIn (tgt := 57) dX5_cell_10 (inR_of (by omega) (by omega)) (by omega) (by omega) rfl (by decide) ?_
      refine G_aload_n dX5_cell_57 rfl rfl ?_
      refine G_getf fl_X5_12 dX5_cell_58 (by assumption) rfl ?_
      refine G_getf fl_X5_40 dX5_cell_61 (by assumption) rfl ?_
      refine G_getf fl_X5_141 dX5_cell_64 (by assumption) rfl ?_
      refine G_iload_n dX5_cell_67 rfl rfl ?_
      refine G_iald dX5_cell_68 (by assumption) (by omega) (by omega) (by decide) ?_
      refine G_ireturn dX5_cell_69 rfl ?_
      have e9 : cellR v c 1 = v 1 c := by unfold cellR; rw [if_neg (by omega), if_neg (by omega), if_pos (by omega)]
      rw [e9]
      exact ⟨rfl, Fr.rf, hA⟩
    · skip
      subst hsw
      refine G_tblIn (tgt := 70) dX5_cell_10 (inR_of (by omega) (by omega)) (by omega) (by omega) rfl (by decide) ?_
      refine G_aload_n dX5_cell_70 rfl rfl ?_
      refine G_getf fl_X5_12 dX5_cell_71 (by assumption) rfl ?_
      refine G_getf fl_X5_40 dX5_cell_74 (by assumption) rfl ?_
      refine G_getf fl_X5_144 dX5_cell_77 (by assumption) rfl ?_
      refine G_iload_n dX5_cell_80 rfl rfl ?_
      refine G_iald dX5_cell_81 (by assumption) (by omega) (by omega) (by decide) ?_
      refine G_ireturn dX5_cell_82 rfl ?_
      have e9 : cellR v c 2 = v 2 c := by unfold cellR; rw [if_neg (by omega), if_neg (by omega), if_neg (by omega), if_pos (by omega)]
      rw [e9]
      exact ⟨rfl, Fr.rf, hA⟩
    · skip
      subst hsw
      refine G_tblIn (tgt := 83) dX5_cell_10 (inR_of (by omega) (by omega)) (by omega) (by omega) rfl (by decide) ?_
      refine G_aload_n dX5_cell_83 rfl rfl ?_
      refine G_getf fl_X5_12 dX5_cell_84 (by assumption) rfl ?_
      refine G_getf fl_X5_63 dX5_cell_87 (by assumption) rfl ?_
      refine G_iload_n dX5_cell_90 rfl rfl ?_
      refine G_callV (ci := 4) (as := [_]) (c_X4_beside h (x + 1 + 6) (v 4) (v 5) (v 6) (v 7) (v 8) (v 9) (v 11 0) c hNw hn hc0 hdi hc) dX5_cell_91 ml_X5_147 cv_X4_beside (by assumption) rfl rfl (Nat.le_of_ble_eq_true rfl) (Nat.le_of_ble_eq_true rfl) rfl (fun r h2 hp => ?_)
      obtain ⟨rfl, rfl⟩ := hp
      refine G_ireturn dX5_cell_94 rfl ?_
      have e9 : cellR v c 3 = besN (v 4) c (v 11 0).toNat := by unfold cellR; rw [if_neg (by omega), if_neg (by omega), if_neg (by omega), if_neg (by omega), if_pos (by omega)]
      rw [e9]
      exact ⟨rfl, Fr.rf, hA⟩
    · skip
      subst hsw
      refine G_tblIn (tgt := 95) dX5_cell_10 (inR_of (by omega) (by omega)) (by omega) (by omega) rfl (by decide) ?_
      refine G_aload_n dX5_cell_95 rfl rfl ?_
      refine G_getf fl_X5_12 dX5_cell_96 (by assumption) rfl ?_
      refine G_getf fl_X5_40 dX5_cell_99 (by assumption) rfl ?_
      refine G_getf fl_X5_150 dX5_cell_102 (by assumption) rfl ?_
      refine G_iload_n dX5_cell_105 rfl rfl ?_
      refine G_iald dX5_cell_106 (by assumption) (by omega) (by omega) (by decide) ?_
      refine G_ireturn dX5_cell_107 rfl ?_
      have e9 : cellR v c 4 = v 3 c := by unfold cellR; rw [if_neg (by omega), if_neg (by omega), if_neg (by omega), if_neg (by omega), if_neg (by omega), if_pos (by omega)]
      rw [e9]
      exact ⟨rfl, Fr.rf, hA⟩
  · skip
    refine G_iconst dX5_cell_7 ?_
    refine G_ireturn dX5_cell_8 rfl ?_
    have e9 : cellR v c d = -1 := by unfold cellR; rw [if_pos (by omega)]
    rw [e9]
    exact ⟨rfl, Fr.rf, hA⟩
set_option maxRecDepth 100000 in
set_option maxHeartbeats 4000000 in
theorem c_X5_well (h : List PO) (x : Nat) (v : SV) (hv : Int → SV) (sz ks : Int) (sw : SV) (tx : Int → Int) (len sn se : Int) (c d : Int) (hA : clA h x v hv sz ks sw tx len sn se) (hI : INV v hv sz ks sw tx len) (hc : inR c) (hd : inR d) : PM 5 yX5_well cX5_well 3 (some .int) h [r_ x, i_ c, i_ d] (fun r0 h2 => r0 = some (i_ (wellR v c d)) ∧ Fr h h2 x (x + 106) ∧ clA h2 x (v) (hv) (sz) (ks) (sw) (tx) (len) (sn) (se)) := by
  refine PM_of_G RX5 [some (r_ x), some (i_ c), some (i_ d)] rfl (by decide +kernel) (Nat.le_of_ble_eq_true rfl) rfl ?_
  obtain ⟨u, ρ, ki, fi, s2, th, p, hst, n, e, hX, hq⟩ := id hA
  obtain ⟨⟨hV, hT⟩, hsz, hhv, hks, hx, hl⟩ := id hI
  obtain ⟨⟨hrd, hrs, hrh⟩, ⟨hs0, hs1, hs2⟩, ⟨hn, hf, hfa⟩, ⟨hc0, hr, hs, hz⟩, h49, hdi⟩ := id hV
  have hF : Fr h h x (x + 106) := Fr.rf
  obtain ⟨hX0, hXn, hXu, hXw, hXh, hXs⟩ := id hX
  obtain ⟨hN0, hNb, hNw, hNs⟩ := id hXn
  obtain ⟨hNb0, hNb1, hNb2, hNb3, hNb4⟩ := id hNb
  obtain ⟨hNw0, hNw1, hNw2, hNw3, hNw4, hNw5, hNw6⟩ := id hNw
  have hU0 := hXu.1
  have hUw0 := hXu.2.2.1.1
  have hW0 := hXw.1
  have hH0 := hXh.1
  obtain ⟨hS0, hS1, hS2, hS3, hS4⟩ := id hXs
  refine G_aload_n dX5_well_0 rfl rfl ?_
  refine G_getf fl_X5_12 dX5_well_1 (by assumption) rfl ?_
  refine G_getf fl_X5_63 dX5_well_4 (by assumption) rfl ?_
  refine G_iload_n dX5_well_7 rfl rfl ?_
  refine G_iload_n dX5_well_8 rfl rfl ?_
  refine G_callV (ci := 4) (as := [_, _]) (c_X4_tell h (x + 1 + 6) (v 4) (v 5) (v 6) (v 7) (v 8) (v 9) (v 11 0) c d hNw hn hc0 hr hz hc hd) dX5_well_9 ml_X5_153 cv_X4_tell (by assumption) rfl rfl (Nat.le_of_ble_eq_true rfl) (Nat.le_of_ble_eq_true rfl) rfl (fun r h2 hp => ?_)
  obtain ⟨rfl, rfl⟩ := hp
  refine G_ireturn dX5_well_12 rfl ?_
  exact ⟨rfl, Fr.rf, hA⟩
set_option maxRecDepth 100000 in
set_option maxHeartbeats 4000000 in
theorem c_X5_reach (h : List PO) (x : Nat) (v : SV) (hv : Int → SV) (sz ks : Int) (sw : SV) (tx : Int → Int) (len sn se : Int) (hA : clA h x v hv sz ks sw tx len sn se) (hI : INV v hv sz ks sw tx len) : PM 5 yX5_reach cX5_reach 1 (some .int) h [r_ x] (fun r0 h2 => r0 = some (i_ (reachN (v 2) 40)) ∧ Fr h h2 x (x + 106) ∧ clA h2 x (v) (hv) (sz) (ks) (sw) (tx) (len) (sn) (se)) := by
  refine PM_of_G RX5 [some (r_ x)] rfl (by decide +kernel) (Nat.le_of_ble_eq_true rfl) rfl ?_
  obtain ⟨u, ρ, ki, fi, s2, th, p, hst, n, e, hX, hq⟩ := id hA
  obtain ⟨⟨hV, hT⟩, hsz, hhv, hks, hx, hl⟩ := id hI
  obtain ⟨⟨hrd, hrs, hrh⟩, ⟨hs0, hs1, hs2⟩, ⟨hn, hf, hfa⟩, ⟨hc0, hr, hs, hz⟩, h49, hdi⟩ := id hV
  have hF : Fr h h x (x + 106) := Fr.rf
  obtain ⟨hX0, hXn, hXu, hXw, hXh, hXs⟩ := id hX
  obtain ⟨hN0, hNb, hNw, hNs⟩ := id hXn
  obtain ⟨hNb0, hNb1, hNb2, hNb3, hNb4⟩ := id hNb
  obtain ⟨hNw0, hNw1, hNw2, hNw3, hNw4, hNw5, hNw6⟩ := id hNw
  have hU0 := hXu.1
  have hUw0 := hXu.2.2.1.1
  have hW0 := hXw.1
  have hH0 := hXh.1
  obtain ⟨hS0, hS1, hS2, hS3, hS4⟩ := id hXs
  refine G_aload_n dX5_reach_0 rfl rfl ?_
  refine G_getf fl_X5_12 dX5_reach_1 (by assumption) rfl ?_
  refine G_getf fl_X5_40 dX5_reach_4 (by assumption) rfl ?_
  refine G_callV (ci := 0) (as := []) (c_X0_greatestSaltCell h (x + 1 + 1) (v 0) (v 1) (v 2) (v 3) hNb hrh) dX5_reach_7 ml_X5_156 cv_X0_greatestSaltCell (by assumption) rfl rfl (Nat.le_of_ble_eq_true rfl) (Nat.le_of_ble_eq_true rfl) rfl (fun r h2 hp => ?_)
  obtain ⟨rfl, rfl⟩ := hp
  refine G_ireturn dX5_reach_10 rfl ?_
  exact ⟨rfl, Fr.rf, hA⟩
set_option maxRecDepth 100000 in
set_option maxHeartbeats 4000000 in
theorem c_X5_mark (h : List PO) (x : Nat) (v : SV) (hv : Int → SV) (sz ks : Int) (sw : SV) (tx : Int → Int) (len sn se : Int) (c d : Int) (hA : clA h x v hv sz ks sw tx len sn se) (hI : INV v hv sz ks sw tx len) (hc : inR c) (hd : inR d) : PM 7 yX5_mark cX5_mark 3 (some .int) h [r_ x, i_ c, i_ d] (fun r0 h2 => r0 = some (i_ (markR v c d)) ∧ Fr h h2 x (x + 106) ∧ clA h2 x (v) (hv) (sz) (ks) (sw) (tx) (len) (sn) (se)) := by
  refine PM_of_G RX5 [some (r_ x), some (i_ c), some (i_ d)] rfl (by decide +kernel) (Nat.le_of_ble_eq_true rfl) rfl ?_
  obtain ⟨u, ρ, ki, fi, s2, th, p, hst, n, e, hX, hq⟩ := id hA
  obtain ⟨⟨hV, hT⟩, hsz, hhv, hks, hx, hl⟩ := id hI
  obtain ⟨⟨hrd, hrs, hrh⟩, ⟨hs0, hs1, hs2⟩, ⟨hn, hf, hfa⟩, ⟨hc0, hr, hs, hz⟩, h49, hdi⟩ := id hV
  have hF : Fr h h x (x + 106) := Fr.rf
  obtain ⟨hX0, hXn, hXu, hXw, hXh, hXs⟩ := id hX
  obtain ⟨hN0, hNb, hNw, hNs⟩ := id hXn
  obtain ⟨hNb0, hNb1, hNb2, hNb3, hNb4⟩ := id hNb
  obtain ⟨hNw0, hNw1, hNw2, hNw3, hNw4, hNw5, hNw6⟩ := id hNw
  have hU0 := hXu.1
  have hUw0 := hXu.2.2.1.1
  have hW0 := hXw.1
  have hH0 := hXh.1
  obtain ⟨hS0, hS1, hS2, hS3, hS4⟩ := id hXs
  have hc1 := hc.1
  have hc2 := hc.2
  have hd1 := hd.1
  have hd2 := hd.2
  refine G_iload_n dX5_mark_0 rfl rfl ?_
  refine G_callS (as := [_]) (c_X5_isCell h c hc) dX5_mark_1 ml_X5_134 cs_X5_isCell rfl (Nat.le_of_ble_eq_true rfl) (Nat.le_of_ble_eq_true rfl) rfl (fun r h2 hp => ?_)
  obtain ⟨y1, rfl, rfl, hy1⟩ := hp
  refine G_if_ne (tgt := 9) dX5_mark_4 (by decide) (inR_of (by omega) (by omega)) (fun hc4 => ?_) (fun hc4 => ?_)
  · skip
    refine G_iload_n dX5_mark_9 rfl rfl ?_
    refine G_callS (as := [_]) (c_X5_isRise h d hd) dX5_mark_10 ml_X5_159 cs_X5_isRise rfl (Nat.le_of_ble_eq_true rfl) (Nat.le_of_ble_eq_true rfl) rfl (fun r h2 hp => ?_)
    obtain ⟨y2, rfl, rfl, hy2⟩ := hp
    refine G_if_ne (tgt := 19) dX5_mark_13 (by decide) (inR_of (by omega) (by omega)) (fun hc13 => ?_) (fun hc13 => ?_)
    · skip
      have hpu : -200 ≤ pushI v d ∧ pushI v d ≤ 200 := by unfold pushI; omega
      refine G_aload_n dX5_mark_19 rfl rfl ?_
      refine G_getf fl_X5_12 dX5_mark_20 (by assumption) rfl ?_
      refine G_getf fl_X5_40 dX5_mark_23 (by assumption) rfl ?_
      refine G_iload_n dX5_mark_26 rfl rfl ?_
      refine G_aload_n dX5_mark_27 rfl rfl ?_
      refine G_getf fl_X5_12 dX5_mark_28 (by assumption) rfl ?_
      refine G_iload_n dX5_mark_31 rfl rfl ?_
      refine G_callV (ci := 3) (as := [_]) (c_X3_pushOf h (x + 1) v d hXn) dX5_mark_32 ml_X5_162 cv_X3_pushOf (by assumption) rfl rfl (Nat.le_of_ble_eq_true rfl) (Nat.le_of_ble_eq_true rfl) rfl (fun r h2 hp => ?_)
      obtain ⟨rfl, rfl⟩ := hp
      refine G_aload_n dX5_mark_35 rfl rfl ?_
      refine G_getf fl_X5_12 dX5_mark_36 (by assumption) rfl ?_
      refine G_callV (ci := 3) (as := []) (c_X3_slope h (x + 1) v hXn) dX5_mark_39 ml_X5_165 cv_X3_slope (by assumption) rfl rfl (Nat.le_of_ble_eq_true rfl) (Nat.le_of_ble_eq_true rfl) rfl (fun r h2 hp => ?_)
      obtain ⟨rfl, rfl⟩ := hp
      refine G_callV (ci := 0) (as := [_, _, _]) (c_X0_markOf h (x + 1 + 1) (v 0) (v 1) (v 2) (v 3) c (pushI v d) (v 10 1) hNb hrd hrs (by omega) (by omega) hpu hs1) dX5_mark_42 ml_X5_168 cv_X0_markOf (by assumption) rfl rfl (Nat.le_of_ble_eq_true rfl) (Nat.le_of_ble_eq_true rfl) rfl (fun r h2 hp => ?_)
      obtain ⟨rfl, rfl⟩ := hp
      refine G_ireturn dX5_mark_45 rfl ?_
      have e9 : markR v c d = mkI (pushI v d) (v 10 1) (v 1) (v 0) c := by unfold markR; rw [if_neg (by omega), if_neg (by omega)]
      rw [e9]
      exact ⟨rfl, Fr.rf, hA⟩
    · skip
      refine G_bipush dX5_mark_16 rfl ?_
      refine G_ireturn dX5_mark_18 rfl ?_
      have e9 : markR v c d = -2 := by unfold markR; rw [if_neg (by omega), if_pos (by omega)]
      rw [e9]
      exact ⟨rfl, Fr.rf, hA⟩
  · skip
    refine G_iconst dX5_mark_7 ?_
    refine G_ireturn dX5_mark_8 rfl ?_
    have e9 : markR v c d = -1 := by unfold markR; rw [if_pos (by omega)]
    rw [e9]
    exact ⟨rfl, Fr.rf, hA⟩
set_option maxRecDepth 100000 in
set_option maxHeartbeats 4000000 in
theorem c_X5_reason (h : List PO) (x : Nat) (v : SV) (hv : Int → SV) (sz ks : Int) (sw : SV) (tx : Int → Int) (len sn se : Int) (c d : Int) (hA : clA h x v hv sz ks sw tx len sn se) (hI : INV v hv sz ks sw tx len) (hc : inR c) (hd : inR d) : PM 7 yX5_reason cX5_reason 3 (some .int) h [r_ x, i_ c, i_ d] (fun r0 h2 => r0 = some (i_ (whyR v c d)) ∧ Fr h h2 x (x + 106) ∧ clA h2 x (v) (hv) (sz) (ks) (sw) (tx) (len) (sn) (se)) := by
  refine PM_of_G RX5 [some (r_ x), some (i_ c), some (i_ d)] rfl (by decide +kernel) (Nat.le_of_ble_eq_true rfl) rfl ?_
  obtain ⟨u, ρ, ki, fi, s2, th, p, hst, n, e, hX, hq⟩ := id hA
  obtain ⟨⟨hV, hT⟩, hsz, hhv, hks, hx, hl⟩ := id hI
  obtain ⟨⟨hrd, hrs, hrh⟩, ⟨hs0, hs1, hs2⟩, ⟨hn, hf, hfa⟩, ⟨hc0, hr, hs, hz⟩, h49, hdi⟩ := id hV
  have hF : Fr h h x (x + 106) := Fr.rf
  obtain ⟨hX0, hXn, hXu, hXw, hXh, hXs⟩ := id hX
  obtain ⟨hN0, hNb, hNw, hNs⟩ := id hXn
  obtain ⟨hNb0, hNb1, hNb2, hNb3, hNb4⟩ := id hNb
  obtain ⟨hNw0, hNw1, hNw2, hNw3, hNw4, hNw5, hNw6⟩ := id hNw
  have hU0 := hXu.1
  have hUw0 := hXu.2.2.1.1
  have hW0 := hXw.1
  have hH0 := hXh.1
  obtain ⟨hS0, hS1, hS2, hS3, hS4⟩ := id hXs
  have hc1 := hc.1
  have hc2 := hc.2
  have hd1 := hd.1
  have hd2 := hd.2
  refine G_iload_n dX5_reason_0 rfl rfl ?_
  refine G_callS (as := [_]) (c_X5_isCell h c hc) dX5_reason_1 ml_X5_134 cs_X5_isCell rfl (Nat.le_of_ble_eq_true rfl) (Nat.le_of_ble_eq_true rfl) rfl (fun r h2 hp => ?_)
  obtain ⟨y1, rfl, rfl, hy1⟩ := hp
  refine G_if_ne (tgt := 9) dX5_reason_4 (by decide) (inR_of (by omega) (by omega)) (fun hc4 => ?_) (fun hc4 => ?_)
  · skip
    refine G_iload_n dX5_reason_9 rfl rfl ?_
    refine G_callS (as := [_]) (c_X5_isRise h d hd) dX5_reason_10 ml_X5_159 cs_X5_isRise rfl (Nat.le_of_ble_eq_true rfl) (Nat.le_of_ble_eq_true rfl) rfl (fun r h2 hp => ?_)
    obtain ⟨y2, rfl, rfl, hy2⟩ := hp
    refine G_if_ne (tgt := 19) dX5_reason_13 (by decide) (inR_of (by omega) (by omega)) (fun hc13 => ?_) (fun hc13 => ?_)
    · skip
      have hpu : -200 ≤ pushI v d ∧ pushI v d ≤ 200 := by unfold pushI; omega
      refine G_aload_n dX5_reason_19 rfl rfl ?_
      refine G_getf fl_X5_12 dX5_reason_20 (by assumption) rfl ?_
      refine G_getf fl_X5_40 dX5_reason_23 (by assumption) rfl ?_
      refine G_iload_n dX5_reason_26 rfl rfl ?_
      refine G_aload_n dX5_reason_27 rfl rfl ?_
      refine G_getf fl_X5_12 dX5_reason_28 (by assumption) rfl ?_
      refine G_iload_n dX5_reason_31 rfl rfl ?_
      refine G_callV (ci := 3) (as := [_]) (c_X3_pushOf h (x + 1) v d hXn) dX5_reason_32 ml_X5_162 cv_X3_pushOf (by assumption) rfl rfl (Nat.le_of_ble_eq_true rfl) (Nat.le_of_ble_eq_true rfl) rfl (fun r h2 hp => ?_)
      obtain ⟨rfl, rfl⟩ := hp
      refine G_aload_n dX5_reason_35 rfl rfl ?_
      refine G_getf fl_X5_12 dX5_reason_36 (by assumption) rfl ?_
      refine G_callV (ci := 3) (as := []) (c_X3_slope h (x + 1) v hXn) dX5_reason_39 ml_X5_165 cv_X3_slope (by assumption) rfl rfl (Nat.le_of_ble_eq_true rfl) (Nat.le_of_ble_eq_true rfl) rfl (fun r h2 hp => ?_)
      obtain ⟨rfl, rfl⟩ := hp
      refine G_callV (ci := 0) (as := [_, _, _]) (c_X0_reasonOf h (x + 1 + 1) (v 0) (v 1) (v 2) (v 3) c (pushI v d) (v 10 1) hNb hrd hrs (by omega) (by omega) hpu hs1) dX5_reason_42 ml_X5_175 cv_X0_reasonOf (by assumption) rfl rfl (Nat.le_of_ble_eq_true rfl) (Nat.le_of_ble_eq_true rfl) rfl (fun r h2 hp => ?_)
      obtain ⟨rfl, rfl⟩ := hp
      refine G_ireturn dX5_reason_45 rfl ?_
      have e9 : whyR v c d = reasonR (pushI v d) (v 10 1) (v 1) (v 0) c := by unfold whyR; rw [if_neg (by omega), if_neg (by omega)]
      rw [e9]
      exact ⟨rfl, Fr.rf, hA⟩
    · skip
      refine G_bipush dX5_reason_16 rfl ?_
      refine G_ireturn dX5_reason_18 rfl ?_
      have e9 : whyR v c d = -2 := by unfold whyR; rw [if_neg (by omega), if_pos (by omega)]
      rw [e9]
      exact ⟨rfl, Fr.rf, hA⟩
  · skip
    refine G_iconst dX5_reason_7 ?_
    refine G_ireturn dX5_reason_8 rfl ?_
    have e9 : whyR v c d = -1 := by unfold whyR; rw [if_pos (by omega)]
    rw [e9]
    exact ⟨rfl, Fr.rf, hA⟩
set_option maxRecDepth 100000 in
set_option maxHeartbeats 4000000 in
theorem c_X5_stopCell (h : List PO) (x : Nat) (v : SV) (hv : Int → SV) (sz ks : Int) (sw : SV) (tx : Int → Int) (len sn se : Int) (c : Int) (hA : clA h x v hv sz ks sw tx len sn se) (hI : INV v hv sz ks sw tx len) (hc : inR c) : PM 7 yX5_stopCell cX5_stopCell 3 (some .int) h [r_ x, i_ c] (fun r0 h2 => r0 = some (i_ (stopR v c)) ∧ Fr h h2 x (x + 106) ∧ clA h2 x (v) (hv) (sz) (ks) (sw) (tx) (len) (sn) (se)) := by
  refine PM_of_G RX5 [some (r_ x), some (i_ c), none] rfl (by decide +kernel) (Nat.le_of_ble_eq_true rfl) rfl ?_
  obtain ⟨u, ρ, ki, fi, s2, th, p, hst, n, e, hX, hq⟩ := id hA
  obtain ⟨⟨hV, hT⟩, hsz, hhv, hks, hx, hl⟩ := id hI
  obtain ⟨⟨hrd, hrs, hrh⟩, ⟨hs0, hs1, hs2⟩, ⟨hn, hf, hfa⟩, ⟨hc0, hr, hs, hz⟩, h49, hdi⟩ := id hV
  have hF : Fr h h x (x + 106) := Fr.rf
  obtain ⟨hX0, hXn, hXu, hXw, hXh, hXs⟩ := id hX
  obtain ⟨hN0, hNb, hNw, hNs⟩ := id hXn
  obtain ⟨hNb0, hNb1, hNb2, hNb3, hNb4⟩ := id hNb
  obtain ⟨hNw0, hNw1, hNw2, hNw3, hNw4, hNw5, hNw6⟩ := id hNw
  have hU0 := hXu.1
  have hUw0 := hXu.2.2.1.1
  have hW0 := hXw.1
  have hH0 := hXh.1
  obtain ⟨hS0, hS1, hS2, hS3, hS4⟩ := id hXs
  have hc1 := hc.1
  have hc2 := hc.2
  refine G_iload_n dX5_stopCell_0 rfl rfl ?_
  refine G_callS (as := [_]) (c_X5_isRise h c hc) dX5_stopCell_1 ml_X5_159 cs_X5_isRise rfl (Nat.le_of_ble_eq_true rfl) (Nat.le_of_ble_eq_true rfl) rfl (fun r h2 hp => ?_)
  obtain ⟨y2, rfl, rfl, hy2⟩ := hp
  refine G_if_ne (tgt := 10) dX5_stopCell_4 (by decide) (inR_of (by omega) (by omega)) (fun hc4 => ?_) (fun hc4 => ?_)
  · skip
    have hpu : -200 ≤ pushI v c ∧ pushI v c ≤ 200 := by unfold pushI; omega
    refine G_aload_n dX5_stopCell_10 rfl rfl ?_
    refine G_getf fl_X5_12 dX5_stopCell_11 (by assumption) rfl ?_
    refine G_getf fl_X5_40 dX5_stopCell_14 (by assumption) rfl ?_
    refine G_aload_n dX5_stopCell_17 rfl rfl ?_
    refine G_getf fl_X5_12 dX5_stopCell_18 (by assumption) rfl ?_
    refine G_iload_n dX5_stopCell_21 rfl rfl ?_
    refine G_callV (ci := 3) (as := [_]) (c_X3_pushOf h (x + 1) v c hXn) dX5_stopCell_22 ml_X5_162 cv_X3_pushOf (by assumption) rfl rfl (Nat.le_of_ble_eq_true rfl) (Nat.le_of_ble_eq_true rfl) rfl (fun r h2 hp => ?_)
    obtain ⟨rfl, rfl⟩ := hp
    refine G_aload_n dX5_stopCell_25 rfl rfl ?_
    refine G_getf fl_X5_12 dX5_stopCell_26 (by assumption) rfl ?_
    refine G_callV (ci := 3) (as := []) (c_X3_slope h (x + 1) v hXn) dX5_stopCell_29 ml_X5_165 cv_X3_slope (by assumption) rfl rfl (Nat.le_of_ble_eq_true rfl) (Nat.le_of_ble_eq_true rfl) rfl (fun r h2 hp => ?_)
    obtain ⟨rfl, rfl⟩ := hp
    refine G_callV (ci := 0) (as := [_, _]) (c_X0_stopOf h (x + 1 + 1) (v 0) (v 1) (v 2) (v 3) (pushI v c) (v 10 1) hNb hrd hrs hpu hs1) dX5_stopCell_32 ml_X5_172 cv_X0_stopOf (by assumption) rfl rfl (Nat.le_of_ble_eq_true rfl) (Nat.le_of_ble_eq_true rfl) rfl (fun r h2 hp => ?_)
    obtain ⟨rfl, rfl⟩ := hp
    have hsi := stI_is (pushI v c) (v 10 1) (v 1) (v 0)
    have hsi0 := hsi.1
    have hsi1 := hsi.2.1
    refine G_istore_n dX5_stopCell_35 rfl (by decide) rfl ?_
    refine G_iload_n dX5_stopCell_36 rfl rfl ?_
    refine G_bipush dX5_stopCell_37 rfl ?_
    refine G_icmp_ge (tgt := 46) dX5_stopCell_39 (by decide) (inR_of (by omega) (by omega)) (inR_of (by omega) (by omega)) (fun hc39 => ?_) (fun hc39 => ?_)
    · skip
      refine G_bipush dX5_stopCell_46 rfl ?_
      refine G_ireturn dX5_stopCell_48 rfl ?_
      first
        | (have e9 : stopR v c = -5 := by unfold stopR; rw [if_neg (by omega), if_neg (by omega)]
           rw [e9]
           exact ⟨rfl, Fr.rf, hA⟩)
        | (have e9 : stopR v c = stI (pushI v c) (v 10 1) (v 1) (v 0) := by unfold stopR; rw [if_neg (by omega), if_pos (by omega)]
           rw [e9]
           exact ⟨rfl, Fr.rf, hA⟩)
    · skip
      refine G_iload_n dX5_stopCell_42 rfl rfl ?_
      refine G_goto (tgt := 48) dX5_stopCell_43 (by decide) ?_
      refine G_ireturn dX5_stopCell_48 rfl ?_
      first
        | (have e9 : stopR v c = -5 := by unfold stopR; rw [if_neg (by omega), if_neg (by omega)]
           rw [e9]
           exact ⟨rfl, Fr.rf, hA⟩)
        | (have e9 : stopR v c = stI (pushI v c) (v 10 1) (v 1) (v 0) := by unfold stopR; rw [if_neg (by omega), if_pos (by omega)]
           rw [e9]
           exact ⟨rfl, Fr.rf, hA⟩)
  · skip
    refine G_bipush dX5_stopCell_7 rfl ?_
    refine G_ireturn dX5_stopCell_9 rfl ?_
    have e9 : stopR v c = -2 := by unfold stopR; rw [if_pos (by omega)]
    rw [e9]
    exact ⟨rfl, Fr.rf, hA⟩
set_option maxRecDepth 100000 in
set_option maxHeartbeats 4000000 in
theorem c_X5_leastFlow (h : List PO) (x : Nat) (v : SV) (hv : Int → SV) (sz ks : Int) (sw : SV) (tx : Int → Int) (len sn se : Int) (c d : Int) (hA : clA h x v hv sz ks sw tx len sn se) (hI : INV v hv sz ks sw tx len) (hc : inR c) (hd : inR d) : PM 7 yX5_leastFlow cX5_leastFlow 3 (some .int) h [r_ x, i_ c, i_ d] (fun r0 h2 => r0 = some (i_ (leastR v c d)) ∧ Fr h h2 x (x + 106) ∧ clA h2 x (v) (hv) (sz) (ks) (sw) (tx) (len) (sn) (se)) := by
  refine PM_of_G RX5 [some (r_ x), some (i_ c), some (i_ d)] rfl (by decide +kernel) (Nat.le_of_ble_eq_true rfl) rfl ?_
  obtain ⟨u, ρ, ki, fi, s2, th, p, hst, n, e, hX, hq⟩ := id hA
  obtain ⟨⟨hV, hT⟩, hsz, hhv, hks, hx, hl⟩ := id hI
  obtain ⟨⟨hrd, hrs, hrh⟩, ⟨hs0, hs1, hs2⟩, ⟨hn, hf, hfa⟩, ⟨hc0, hr, hs, hz⟩, h49, hdi⟩ := id hV
  have hF : Fr h h x (x + 106) := Fr.rf
  obtain ⟨hX0, hXn, hXu, hXw, hXh, hXs⟩ := id hX
  obtain ⟨hN0, hNb, hNw, hNs⟩ := id hXn
  obtain ⟨hNb0, hNb1, hNb2, hNb3, hNb4⟩ := id hNb
  obtain ⟨hNw0, hNw1, hNw2, hNw3, hNw4, hNw5, hNw6⟩ := id hNw
  have hU0 := hXu.1
  have hUw0 := hXu.2.2.1.1
  have hW0 := hXw.1
  have hH0 := hXh.1
  obtain ⟨hS0, hS1, hS2, hS3, hS4⟩ := id hXs
  have hc1 := hc.1
  have hc2 := hc.2
  have hd1 := hd.1
  have hd2 := hd.2
  refine G_iload_n dX5_leastFlow_0 rfl rfl ?_
  refine G_callS (as := [_]) (c_X5_isCell h c hc) dX5_leastFlow_1 ml_X5_134 cs_X5_isCell rfl (Nat.le_of_ble_eq_true rfl) (Nat.le_of_ble_eq_true rfl) rfl (fun r h2 hp => ?_)
  obtain ⟨y1, rfl, rfl, hy1⟩ := hp
  refine G_if_ne (tgt := 9) dX5_leastFlow_4 (by decide) (inR_of (by omega) (by omega)) (fun hc4 => ?_) (fun hc4 => ?_)
  · skip
    refine G_iload_n dX5_leastFlow_9 rfl rfl ?_
    refine G_callS (as := [_]) (c_X5_isRise h d hd) dX5_leastFlow_10 ml_X5_159 cs_X5_isRise rfl (Nat.le_of_ble_eq_true rfl) (Nat.le_of_ble_eq_true rfl) rfl (fun r h2 hp => ?_)
    obtain ⟨y2, rfl, rfl, hy2⟩ := hp
    refine G_if_ne (tgt := 19) dX5_leastFlow_13 (by decide) (inR_of (by omega) (by omega)) (fun hc13 => ?_) (fun hc13 => ?_)
    · skip
      refine G_aload_n dX5_leastFlow_19 rfl rfl ?_
      refine G_getf fl_X5_12 dX5_leastFlow_20 (by assumption) rfl ?_
      refine G_iload_n dX5_leastFlow_23 rfl rfl ?_
      refine G_iload_n dX5_leastFlow_24 rfl rfl ?_
      refine G_callV (ci := 3) (as := [_, _]) (c_X3_leastFlowFor h (x + 1) v c d hXn hV (by omega) (by omega) (by omega)) dX5_leastFlow_25 ml_X5_188 cv_X3_leastFlowFor (by assumption) rfl rfl (Nat.le_of_ble_eq_true rfl) (Nat.le_of_ble_eq_true rfl) rfl (fun r h2 hp => ?_)
      obtain ⟨rfl, rfl⟩ := hp
      refine G_ireturn dX5_leastFlow_28 rfl ?_
      have e9 : leastR v c d = lfN v c d 100 := by unfold leastR; rw [if_neg (by omega), if_neg (by omega)]
      rw [e9]
      exact ⟨rfl, Fr.rf, hA⟩
    · skip
      refine G_bipush dX5_leastFlow_16 rfl ?_
      refine G_ireturn dX5_leastFlow_18 rfl ?_
      have e9 : leastR v c d = -2 := by unfold leastR; rw [if_neg (by omega), if_pos (by omega)]
      rw [e9]
      exact ⟨rfl, Fr.rf, hA⟩
  · skip
    refine G_iconst dX5_leastFlow_7 ?_
    refine G_ireturn dX5_leastFlow_8 rfl ?_
    have e9 : leastR v c d = -1 := by unfold leastR; rw [if_pos (by omega)]
    rw [e9]
    exact ⟨rfl, Fr.rf, hA⟩
set_option maxRecDepth 100000 in
set_option maxHeartbeats 4000000 in
theorem c_X5_bestSill (h : List PO) (x : Nat) (v : SV) (hv : Int → SV) (sz ks : Int) (sw : SV) (tx : Int → Int) (len sn se : Int) (c d : Int) (hA : clA h x v hv sz ks sw tx len sn se) (hI : INV v hv sz ks sw tx len) (hc : inR c) (hd : inR d) : PM 7 yX5_bestSill cX5_bestSill 3 (some .int) h [r_ x, i_ c, i_ d] (fun r0 h2 => r0 = some (i_ (bestR v c d)) ∧ Fr h h2 x (x + 106) ∧ clA h2 x (v) (hv) (sz) (ks) (sw) (tx) (len) (sn) (se)) := by
  refine PM_of_G RX5 [some (r_ x), some (i_ c), some (i_ d)] rfl (by decide +kernel) (Nat.le_of_ble_eq_true rfl) rfl ?_
  obtain ⟨u, ρ, ki, fi, s2, th, p, hst, n, e, hX, hq⟩ := id hA
  obtain ⟨⟨hV, hT⟩, hsz, hhv, hks, hx, hl⟩ := id hI
  obtain ⟨⟨hrd, hrs, hrh⟩, ⟨hs0, hs1, hs2⟩, ⟨hn, hf, hfa⟩, ⟨hc0, hr, hs, hz⟩, h49, hdi⟩ := id hV
  have hF : Fr h h x (x + 106) := Fr.rf
  obtain ⟨hX0, hXn, hXu, hXw, hXh, hXs⟩ := id hX
  obtain ⟨hN0, hNb, hNw, hNs⟩ := id hXn
  obtain ⟨hNb0, hNb1, hNb2, hNb3, hNb4⟩ := id hNb
  obtain ⟨hNw0, hNw1, hNw2, hNw3, hNw4, hNw5, hNw6⟩ := id hNw
  have hU0 := hXu.1
  have hUw0 := hXu.2.2.1.1
  have hW0 := hXw.1
  have hH0 := hXh.1
  obtain ⟨hS0, hS1, hS2, hS3, hS4⟩ := id hXs
  have hc1 := hc.1
  have hc2 := hc.2
  have hd1 := hd.1
  have hd2 := hd.2
  refine G_iload_n dX5_bestSill_0 rfl rfl ?_
  refine G_iconst dX5_bestSill_1 ?_
  refine G_icmp_lt (tgt := 18) dX5_bestSill_2 (by decide) (inR_of (by omega) (by omega)) (inR_of (by omega) (by omega)) (fun hc2 => ?_) (fun hc2 => ?_)
  · skip
    refine G_bipush dX5_bestSill_18 rfl ?_
    refine G_ireturn dX5_bestSill_20 rfl ?_
    have e9 : bestR v c d = -2 := by unfold bestR; rw [if_pos (by omega)]
    rw [e9]
    exact ⟨rfl, Fr.rf, hA⟩
  · skip
    refine G_iload_n dX5_bestSill_5 rfl rfl ?_
    refine G_bipush dX5_bestSill_6 rfl ?_
    refine G_icmp_gt (tgt := 18) dX5_bestSill_8 (by decide) (inR_of (by omega) (by omega)) (inR_of (by omega) (by omega)) (fun hc8 => ?_) (fun hc8 => ?_)
    · skip
      refine G_bipush dX5_bestSill_18 rfl ?_
      refine G_ireturn dX5_bestSill_20 rfl ?_
      have e9 : bestR v c d = -2 := by unfold bestR; rw [if_pos (by omega)]
      rw [e9]
      exact ⟨rfl, Fr.rf, hA⟩
    · skip
      refine G_iload_n dX5_bestSill_11 rfl rfl ?_
      refine G_callS (as := [_]) (c_X5_isRise h d hd) dX5_bestSill_12 ml_X5_159 cs_X5_isRise rfl (Nat.le_of_ble_eq_true rfl) (Nat.le_of_ble_eq_true rfl) rfl (fun r h2 hp => ?_)
      obtain ⟨y2, rfl, rfl, hy2⟩ := hp
      refine G_if_ne (tgt := 21) dX5_bestSill_15 (by decide) (inR_of (by omega) (by omega)) (fun hc15 => ?_) (fun hc15 => ?_)
      · skip
        have hpu : -200 ≤ pushI v d ∧ pushI v d ≤ 200 := by unfold pushI; omega
        refine G_aload_n dX5_bestSill_21 rfl rfl ?_
        refine G_getf fl_X5_12 dX5_bestSill_22 (by assumption) rfl ?_
        refine G_getf fl_X5_40 dX5_bestSill_25 (by assumption) rfl ?_
        refine G_iload_n dX5_bestSill_28 rfl rfl ?_
        refine G_aload_n dX5_bestSill_29 rfl rfl ?_
        refine G_getf fl_X5_12 dX5_bestSill_30 (by assumption) rfl ?_
        refine G_iload_n dX5_bestSill_33 rfl rfl ?_
        refine G_callV (ci := 3) (as := [_]) (c_X3_pushOf h (x + 1) v d hXn) dX5_bestSill_34 ml_X5_162 cv_X3_pushOf (by assumption) rfl rfl (Nat.le_of_ble_eq_true rfl) (Nat.le_of_ble_eq_true rfl) rfl (fun r h2 hp => ?_)
        obtain ⟨rfl, rfl⟩ := hp
        refine G_aload_n dX5_bestSill_37 rfl rfl ?_
        refine G_getf fl_X5_12 dX5_bestSill_38 (by assumption) rfl ?_
        refine G_callV (ci := 3) (as := []) (c_X3_slope h (x + 1) v hXn) dX5_bestSill_41 ml_X5_165 cv_X3_slope (by assumption) rfl rfl (Nat.le_of_ble_eq_true rfl) (Nat.le_of_ble_eq_true rfl) rfl (fun r h2 hp => ?_)
        obtain ⟨rfl, rfl⟩ := hp
        refine G_callV (ci := 0) (as := [_, _, _]) (c_X0_bestCellFor h (x + 1 + 1) (v 0) (v 1) (v 2) (v 3) c (pushI v d) (v 10 1) hNb hrd hrs (by omega) hpu hs1) dX5_bestSill_44 ml_X5_191 cv_X0_bestCellFor (by assumption) rfl rfl (Nat.le_of_ble_eq_true rfl) (Nat.le_of_ble_eq_true rfl) rfl (fun r h2 hp => ?_)
        obtain ⟨rfl, rfl⟩ := hp
        refine G_ireturn dX5_bestSill_47 rfl ?_
        have e9 : bestR v c d = bsN (pushI v d) (v 10 1) (v 1) (v 0) c 40 := by unfold bestR; rw [if_neg (by omega)]
        rw [e9]
        exact ⟨rfl, Fr.rf, hA⟩
      · skip
        refine G_bipush dX5_bestSill_18 rfl ?_
        refine G_ireturn dX5_bestSill_20 rfl ?_
        have e9 : bestR v c d = -2 := by unfold bestR; rw [if_pos (by omega)]
        rw [e9]
        exact ⟨rfl, Fr.rf, hA⟩
set_option maxRecDepth 100000 in
set_option maxHeartbeats 4000000 in
theorem c_X5_count (h : List PO) (x : Nat) (v : SV) (hv : Int → SV) (sz ks : Int) (sw : SV) (tx : Int → Int) (len sn se : Int) (k : Int) (hA : clA h x v hv sz ks sw tx len sn se) (hI : INV v hv sz ks sw tx len) (hk : inR k) : PM 5 yX5_count cX5_count 2 (some .int) h [r_ x, i_ k] (fun r0 h2 => r0 = some (i_ (countR v sz len k)) ∧ Fr h h2 x (x + 106) ∧ clA h2 x (v) (hv) (sz) (ks) (sw) (tx) (len) (sn) (se)) := by
  refine PM_of_G RX5 [some (r_ x), some (i_ k)] rfl (by decide +kernel) (Nat.le_of_ble_eq_true rfl) rfl ?_
  obtain ⟨u, ρ, ki, fi, s2, th, p, hst, n, e, hX, hq⟩ := id hA
  obtain ⟨⟨hV, hT⟩, hsz, hhv, hks, hx, hl⟩ := id hI
  obtain ⟨⟨hrd, hrs, hrh⟩, ⟨hs0, hs1, hs2⟩, ⟨hn, hf, hfa⟩, ⟨hc0, hr, hs, hz⟩, h49, hdi⟩ := id hV
  have hF : Fr h h x (x + 106) := Fr.rf
  obtain ⟨hX0, hXn, hXu, hXw, hXh, hXs⟩ := id hX
  obtain ⟨hN0, hNb, hNw, hNs⟩ := id hXn
  obtain ⟨hNb0, hNb1, hNb2, hNb3, hNb4⟩ := id hNb
  obtain ⟨hNw0, hNw1, hNw2, hNw3, hNw4, hNw5, hNw6⟩ := id hNw
  have hU0 := hXu.1
  have hUw0 := hXu.2.2.1.1
  have hW0 := hXw.1
  have hH0 := hXh.1
  obtain ⟨hS0, hS1, hS2, hS3, hS4⟩ := id hXs
  have hk1 := hk.1
  have hk2 := hk.2
  refine G_iload_n dX5_count_0 rfl rfl ?_
  rcases (show (k < 0 ∨ 13 < k) ∨ k = 0 ∨ k = 1 ∨ k = 2 ∨ k = 3 ∨ k = 4 ∨ k = 5 ∨ k = 6 ∨ k = 7 ∨ k = 8 ∨ k = 9 ∨ k = 10 ∨ k = 11 ∨ k = 12 ∨ k = 13 from by omega) with hsw | hsw | hsw | hsw | hsw | hsw | hsw | hsw | hsw | hsw | hsw | hsw | hsw | hsw | hsw
  · skip
    refine G_tblOut (tgt := 238) dX5_count_1 (inR_of (by omega) (by omega)) hsw (by decide) ?_
    refine G_bipush dX5_count_238 rfl ?_
    refine G_ireturn dX5_count_240 rfl ?_
    have e9 : countR v sz len k = -2 := by unfold countR; rw [if_neg (by omega), if_neg (by omega), if_neg (by omega), if_neg (by omega), if_neg (by omega), if_neg (by omega), if_neg (by omega), if_neg (by omega), if_neg (by omega), if_neg (by omega), if_neg (by omega), if_neg (by omega), if_neg (by omega), if_neg (by omega)]
    rw [e9]
    exact ⟨rfl, Fr.rf, hA⟩
  · skip
    subst hsw
    refine G_tblIn (tgt := 72) dX5_count_1 (inR_of (by omega) (by omega)) (by omega) (by omega) rfl (by decide) ?_
    refine G_aload_n dX5_count_72 rfl rfl ?_
    refine G_getf fl_X5_12 dX5_count_73 (by assumption) rfl ?_
    refine G_getf fl_X5_131 dX5_count_76 (by assumption) rfl ?_
    refine G_ireturn dX5_count_79 rfl ?_
    have e9 : countR v sz len 0 = v 11 2 := by unfold countR; rw [if_pos (by omega)]
    rw [e9]
    exact ⟨rfl, Fr.rf, hA⟩
  · skip
    subst hsw
    refine G_tblIn (tgt := 80) dX5_count_1 (inR_of (by omega) (by omega)) (by omega) (by omega) rfl (by decide) ?_
    refine G_aload_n dX5_count_80 rfl rfl ?_
    refine G_getf fl_X5_12 dX5_count_81 (by assumption) rfl ?_
    refine G_getf fl_X5_194 dX5_count_84 (by assumption) rfl ?_
    refine G_ireturn dX5_count_87 rfl ?_
    have e9 : countR v sz len 1 = v 11 1 := by unfold countR; rw [if_neg (by omega), if_pos (by omega)]
    rw [e9]
    exact ⟨rfl, Fr.rf, hA⟩
  · skip
    subst hsw
    refine G_tblIn (tgt := 88) dX5_count_1 (inR_of (by omega) (by omega)) (by omega) (by omega) rfl (by decide) ?_
    refine G_aload_n dX5_count_88 rfl rfl ?_
    refine G_getf fl_X5_12 dX5_count_89 (by assumption) rfl ?_
    refine G_getf fl_X5_40 dX5_count_92 (by assumption) rfl ?_
    refine G_callV (ci := 0) (as := []) (c_X0_saltCells h (x + 1 + 1) (v 0) (v 1) (v 2) (v 3) hNb hrh) dX5_count_95 ml_X5_197 cv_X0_saltCells (by assumption) rfl rfl (Nat.le_of_ble_eq_true rfl) (Nat.le_of_ble_eq_true rfl) rfl (fun r h2 hp => ?_)
    obtain ⟨rfl, rfl⟩ := hp
    refine G_ireturn dX5_count_98 rfl ?_
    have e9 : countR v sz len 2 = sumN (wetI (v 2)) 40 := by unfold countR; rw [if_neg (by omega), if_neg (by omega), if_pos (by omega)]
    rw [e9]
    exact ⟨rfl, Fr.rf, hA⟩
  · skip
    subst hsw
    refine G_tblIn (tgt := 99) dX5_count_1 (inR_of (by omega) (by omega)) (by omega) (by omega) rfl (by decide) ?_
    refine G_aload_n dX5_count_99 rfl rfl ?_
    refine G_getf fl_X5_12 dX5_count_100 (by assumption) rfl ?_
    refine G_getf fl_X5_40 dX5_count_103 (by assumption) rfl ?_
    refine G_callV (ci := 0) (as := []) (c_X0_sumOfHeights h (x + 1 + 1) (v 0) (v 1) (v 2) (v 3) hNb) dX5_count_106 ml_X5_200 cv_X0_sumOfHeights (by assumption) rfl rfl (Nat.le_of_ble_eq_true rfl) (Nat.le_of_ble_eq_true rfl) rfl (fun r h2 hp => ?_)
    obtain ⟨rfl, rfl⟩ := hp
    refine G_ireturn dX5_count_109 rfl ?_
    have e9 : countR v sz len 3 = sumN (v 2) 40 := by unfold countR; rw [if_neg (by omega), if_neg (by omega), if_neg (by omega), if_pos (by omega)]
    rw [e9]
    exact ⟨rfl, Fr.rf, hA⟩
  · skip
    subst hsw
    refine G_tblIn (tgt := 110) dX5_count_1 (inR_of (by omega) (by omega)) (by omega) (by omega) rfl (by decide) ?_
    refine G_aload_n dX5_count_110 rfl rfl ?_
    refine G_getf fl_X5_12 dX5_count_111 (by assumption) rfl ?_
    refine G_getf fl_X5_63 dX5_count_114 (by assumption) rfl ?_
    refine G_getf fl_X5_203 dX5_count_117 (by assumption) rfl ?_
    refine G_ireturn dX5_count_120 rfl ?_
    have e9 : countR v sz len 4 = v 11 0 := by unfold countR; rw [if_neg (by omega), if_neg (by omega), if_neg (by omega), if_neg (by omega), if_pos (by omega)]
    rw [e9]
    exact ⟨rfl, Fr.rf, hA⟩
  · skip
    subst hsw
    refine G_tblIn (tgt := 121) dX5_count_1 (inR_of (by omega) (by omega)) (by omega) (by omega) rfl (by decide) ?_
    refine G_aload_n dX5_count_121 rfl rfl ?_
    refine G_getf fl_X5_12 dX5_count_122 (by assumption) rfl ?_
    refine G_getf fl_X5_63 dX5_count_125 (by assumption) rfl ?_
    refine G_aload_n dX5_count_128 rfl rfl ?_
    refine G_getf fl_X5_12 dX5_count_129 (by assumption) rfl ?_
    refine G_getf fl_X5_63 dX5_count_132 (by assumption) rfl ?_
    refine G_getf fl_X5_206 dX5_count_135 (by assumption) rfl ?_
    refine G_callV (ci := 4) (as := [_]) (c_X4_sumOf h (x + 1 + 6) (v 4) (v 5) (v 6) (v 7) (v 8) (v 9) (v 11 0) (x + 1 + 6 + 4) (v 7) hNw hn hNw4) dX5_count_138 ml_X5_209 cv_X4_sumOf (by assumption) rfl rfl (Nat.le_of_ble_eq_true rfl) (Nat.le_of_ble_eq_true rfl) rfl (fun r h2 hp => ?_)
    obtain ⟨rfl, rfl⟩ := hp
    refine G_ireturn dX5_count_141 rfl ?_
    have e9 : countR v sz len 5 = sumN (v 7) (v 11 0).toNat := by unfold countR; rw [if_neg (by omega), if_neg (by omega), if_neg (by omega), if_neg (by omega), if_neg (by omega), if_pos (by omega)]
    rw [e9]
    exact ⟨rfl, Fr.rf, hA⟩
  · skip
    subst hsw
    refine G_tblIn (tgt := 142) dX5_count_1 (inR_of (by omega) (by omega)) (by omega) (by omega) rfl (by decide) ?_
    refine G_aload_n dX5_count_142 rfl rfl ?_
    refine G_getf fl_X5_12 dX5_count_143 (by assumption) rfl ?_
    refine G_getf fl_X5_63 dX5_count_146 (by assumption) rfl ?_
    refine G_aload_n dX5_count_149 rfl rfl ?_
    refine G_getf fl_X5_12 dX5_count_150 (by assumption) rfl ?_
    refine G_getf fl_X5_63 dX5_count_153 (by assumption) rfl ?_
    refine G_getf fl_X5_213 dX5_count_156 (by assumption) rfl ?_
    refine G_callV (ci := 4) (as := [_]) (c_X4_sumOf h (x + 1 + 6) (v 4) (v 5) (v 6) (v 7) (v 8) (v 9) (v 11 0) (x + 1 + 6 + 3) (v 6) hNw hn hNw3) dX5_count_159 ml_X5_209 cv_X4_sumOf (by assumption) rfl rfl (Nat.le_of_ble_eq_true rfl) (Nat.le_of_ble_eq_true rfl) rfl (fun r h2 hp => ?_)
    obtain ⟨rfl, rfl⟩ := hp
    refine G_ireturn dX5_count_162 rfl ?_
    have e9 : countR v sz len 6 = sumN (v 6) (v 11 0).toNat := by unfold countR; rw [if_neg (by omega), if_neg (by omega), if_neg (by omega), if_neg (by omega), if_neg (by omega), if_neg (by omega), if_pos (by omega)]
    rw [e9]
    exact ⟨rfl, Fr.rf, hA⟩
  · skip
    subst hsw
    refine G_tblIn (tgt := 163) dX5_count_1 (inR_of (by omega) (by omega)) (by omega) (by omega) rfl (by decide) ?_
    refine G_aload_n dX5_count_163 rfl rfl ?_
    refine G_getf fl_X5_12 dX5_count_164 (by assumption) rfl ?_
    refine G_getf fl_X5_63 dX5_count_167 (by assumption) rfl ?_
    refine G_aload_n dX5_count_170 rfl rfl ?_
    refine G_getf fl_X5_12 dX5_count_171 (by assumption) rfl ?_
    refine G_getf fl_X5_63 dX5_count_174 (by assumption) rfl ?_
    refine G_getf fl_X5_216 dX5_count_177 (by assumption) rfl ?_
    refine G_callV (ci := 4) (as := [_]) (c_X4_sumOf h (x + 1 + 6) (v 4) (v 5) (v 6) (v 7) (v 8) (v 9) (v 11 0) (x + 1 + 6 + 5) (v 8) hNw hn hNw5) dX5_count_180 ml_X5_209 cv_X4_sumOf (by assumption) rfl rfl (Nat.le_of_ble_eq_true rfl) (Nat.le_of_ble_eq_true rfl) rfl (fun r h2 hp => ?_)
    obtain ⟨rfl, rfl⟩ := hp
    refine G_ireturn dX5_count_183 rfl ?_
    have e9 : countR v sz len 7 = sumN (v 8) (v 11 0).toNat := by unfold countR; rw [if_neg (by omega), if_neg (by omega), if_neg (by omega), if_neg (by omega), if_neg (by omega), if_neg (by omega), if_neg (by omega), if_pos (by omega)]
    rw [e9]
    exact ⟨rfl, Fr.rf, hA⟩
  · skip
    subst hsw
    refine G_tblIn (tgt := 184) dX5_count_1 (inR_of (by omega) (by omega)) (by omega) (by omega) rfl (by decide) ?_
    refine G_aload_n dX5_count_184 rfl rfl ?_
    refine G_getf fl_X5_12 dX5_count_185 (by assumption) rfl ?_
    refine G_getf fl_X5_219 dX5_count_188 (by assumption) rfl ?_
    refine G_ireturn dX5_count_191 rfl ?_
    have e9 : countR v sz len 8 = v 11 3 := by unfold countR; rw [if_neg (by omega), if_neg (by omega), if_neg (by omega), if_neg (by omega), if_neg (by omega), if_neg (by omega), if_neg (by omega), if_neg (by omega), if_pos (by omega)]
    rw [e9]
    exact ⟨rfl, Fr.rf, hA⟩
  · skip
    subst hsw
    refine G_tblIn (tgt := 192) dX5_count_1 (inR_of (by omega) (by omega)) (by omega) (by omega) rfl (by decide) ?_
    refine G_aload_n dX5_count_192 rfl rfl ?_
    refine G_getf fl_X5_12 dX5_count_193 (by assumption) rfl ?_
    refine G_getf fl_X5_222 dX5_count_196 (by assumption) rfl ?_
    refine G_iconst dX5_count_199 ?_
    refine G_iald dX5_count_200 (by assumption) (by omega) (by omega) (by decide) ?_
    refine G_ireturn dX5_count_201 rfl ?_
    have e9 : countR v sz len 9 = v 10 0 := by unfold countR; rw [if_neg (by omega), if_neg (by omega), if_neg (by omega), if_neg (by omega), if_neg (by omega), if_neg (by omega), if_neg (by omega), if_neg (by omega), if_neg (by omega), if_pos (by omega)]
    rw [e9]
    exact ⟨rfl, Fr.rf, hA⟩
  · skip
    subst hsw
    refine G_tblIn (tgt := 202) dX5_count_1 (inR_of (by omega) (by omega)) (by omega) (by omega) rfl (by decide) ?_
    refine G_aload_n dX5_count_202 rfl rfl ?_
    refine G_getf fl_X5_12 dX5_count_203 (by assumption) rfl ?_
    refine G_getf fl_X5_222 dX5_count_206 (by assumption) rfl ?_
    refine G_iconst dX5_count_209 ?_
    refine G_iald dX5_count_210 (by assumption) (by omega) (by omega) (by decide) ?_
    refine G_ireturn dX5_count_211 rfl ?_
    have e9 : countR v sz len 10 = v 10 1 := by unfold countR; rw [if_neg (by omega), if_neg (by omega), if_neg (by omega), if_neg (by omega), if_neg (by omega), if_neg (by omega), if_neg (by omega), if_neg (by omega), if_neg (by omega), if_neg (by omega), if_pos (by omega)]
    rw [e9]
    exact ⟨rfl, Fr.rf, hA⟩
  · skip
    subst hsw
    refine G_tblIn (tgt := 212) dX5_count_1 (inR_of (by omega) (by omega)) (by omega) (by omega) rfl (by decide) ?_
    refine G_aload_n dX5_count_212 rfl rfl ?_
    refine G_getf fl_X5_12 dX5_count_213 (by assumption) rfl ?_
    refine G_getf fl_X5_222 dX5_count_216 (by assumption) rfl ?_
    refine G_iconst dX5_count_219 ?_
    refine G_iald dX5_count_220 (by assumption) (by omega) (by omega) (by decide) ?_
    refine G_ireturn dX5_count_221 rfl ?_
    have e9 : countR v sz len 11 = v 10 2 := by unfold countR; rw [if_neg (by omega), if_neg (by omega), if_neg (by omega), if_neg (by omega), if_neg (by omega), if_neg (by omega), if_neg (by omega), if_neg (by omega), if_neg (by omega), if_neg (by omega), if_neg (by omega), if_pos (by omega)]
    rw [e9]
    exact ⟨rfl, Fr.rf, hA⟩
  · skip
    subst hsw
    refine G_tblIn (tgt := 222) dX5_count_1 (inR_of (by omega) (by omega)) (by omega) (by omega) rfl (by decide) ?_
    refine G_aload_n dX5_count_222 rfl rfl ?_
    refine G_getf fl_X5_25 dX5_count_223 (by assumption) rfl ?_
    refine G_getf fl_X5_125 dX5_count_226 (by assumption) rfl ?_
    refine G_ireturn dX5_count_229 rfl ?_
    have e9 : countR v sz len 12 = sz := by unfold countR; rw [if_neg (by omega), if_neg (by omega), if_neg (by omega), if_neg (by omega), if_neg (by omega), if_neg (by omega), if_neg (by omega), if_neg (by omega), if_neg (by omega), if_neg (by omega), if_neg (by omega), if_neg (by omega), if_pos (by omega)]
    rw [e9]
    exact ⟨rfl, Fr.rf, hA⟩
  · skip
    subst hsw
    refine G_tblIn (tgt := 230) dX5_count_1 (inR_of (by omega) (by omega)) (by omega) (by omega) rfl (by decide) ?_
    refine G_aload_n dX5_count_230 rfl rfl ?_
    refine G_getf fl_X5_32 dX5_count_231 (by assumption) rfl ?_
    refine G_getf fl_X5_225 dX5_count_234 (by assumption) rfl ?_
    refine G_ireturn dX5_count_237 rfl ?_
    have e9 : countR v sz len 13 = len := by unfold countR; rw [if_neg (by omega), if_neg (by omega), if_neg (by omega), if_neg (by omega), if_neg (by omega), if_neg (by omega), if_neg (by omega), if_neg (by omega), if_neg (by omega), if_neg (by omega), if_neg (by omega), if_neg (by omega), if_neg (by omega), if_pos (by omega)]
    rw [e9]
    exact ⟨rfl, Fr.rf, hA⟩
theorem itV_wells {v : SV} {rise : Int} : ∀ n : Nat, itV rise v n 11 0 = v 11 0 := by
  intro n
  induction n with
  | zero => rfl
  | succ n ih => exact ih
set_option maxRecDepth 100000 in
set_option maxHeartbeats 4000000 in
theorem c_X5_restsIn (h : List PO) (x : Nat) (v : SV) (hv : Int → SV) (sz ks : Int) (sw : SV) (tx : Int → Int) (len sn se : Int) (c d : Int) (hA : clA h x v hv sz ks sw tx len sn se) (hI : INV v hv sz ks sw tx len) (hc : inR c) (hd : inR d) : PM 7 yX5_restsIn cX5_restsIn 4 (some .int) h [r_ x, i_ c, i_ d] (fun r0 h2 => r0 = some (i_ (restR v c d)) ∧ Fr h h2 x (x + 106) ∧ clA h2 x (v) (hv) (sz) (ks) (sw) (tx) (len) (sn) (se)) := by
  refine PM_of_G RX5 [some (r_ x), some (i_ c), some (i_ d), none] rfl (by decide +kernel) (Nat.le_of_ble_eq_true rfl) rfl ?_
  obtain ⟨u, ρ, ki, fi, s2, th, p, hst, n, e, hX, hq⟩ := id hA
  obtain ⟨⟨hV, hT⟩, hsz, hhv, hks, hx, hl⟩ := id hI
  obtain ⟨⟨hrd, hrs, hrh⟩, ⟨hs0, hs1, hs2⟩, ⟨hn, hf, hfa⟩, ⟨hc0, hr, hs, hz⟩, h49, hdi⟩ := id hV
  have hF : Fr h h x (x + 106) := Fr.rf
  obtain ⟨hX0, hXn, hXu, hXw, hXh, hXs⟩ := id hX
  obtain ⟨hN0, hNb, hNw, hNs⟩ := id hXn
  obtain ⟨hNb0, hNb1, hNb2, hNb3, hNb4⟩ := id hNb
  obtain ⟨hNw0, hNw1, hNw2, hNw3, hNw4, hNw5, hNw6⟩ := id hNw
  have hU0 := hXu.1
  have hUw0 := hXu.2.2.1.1
  have hW0 := hXw.1
  have hH0 := hXh.1
  obtain ⟨hS0, hS1, hS2, hS3, hS4⟩ := id hXs
  have hc1 := hc.1
  have hc2 := hc.2
  have hd1 := hd.1
  have hd2 := hd.2
  refine G_aload_n dX5_restsIn_0 rfl rfl ?_
  refine G_getf fl_X5_12 dX5_restsIn_1 (by assumption) rfl ?_
  refine G_getf fl_X5_63 dX5_restsIn_4 (by assumption) rfl ?_
  refine G_iload_n dX5_restsIn_7 rfl rfl ?_
  refine G_callV (ci := 4) (as := [_]) (c_X4_has h (x + 1 + 6) (v 4) (v 5) (v 6) (v 7) (v 8) (v 9) (v 11 0) c hNw hn hc) dX5_restsIn_8 ml_X5_178 cv_X4_has (by assumption) rfl rfl (Nat.le_of_ble_eq_true rfl) (Nat.le_of_ble_eq_true rfl) rfl (fun r h2 hp => ?_)
  obtain ⟨y1, rfl, rfl, hy1⟩ := hp
  refine G_if_ne (tgt := 16) dX5_restsIn_11 (by decide) (inR_of (by omega) (by omega)) (fun hc11 => ?_) (fun hc11 => ?_)
  · skip
    refine G_iload_n dX5_restsIn_16 rfl rfl ?_
    refine G_callS (as := [_]) (c_X5_isRise h d hd) dX5_restsIn_17 ml_X5_159 cs_X5_isRise rfl (Nat.le_of_ble_eq_true rfl) (Nat.le_of_ble_eq_true rfl) rfl (fun r h2 hp => ?_)
    obtain ⟨y2, rfl, rfl, hy2⟩ := hp
    refine G_if_ne (tgt := 26) dX5_restsIn_20 (by decide) (inR_of (by omega) (by omega)) (fun hc20 => ?_) (fun hc20 => ?_)
    · skip
      refine G_aload_n dX5_restsIn_26 rfl rfl ?_
      refine G_getf fl_X5_12 dX5_restsIn_27 (by assumption) rfl ?_
      refine G_getf fl_X5_63 dX5_restsIn_30 (by assumption) rfl ?_
      refine G_iload_n dX5_restsIn_33 rfl rfl ?_
      refine G_callV (ci := 4) (as := [_]) (c_X4_isResting h (x + 1 + 6) (v 4) (v 5) (v 6) (v 7) (v 8) (v 9) (v 11 0) c hNw hn hz hc) dX5_restsIn_34 ml_X5_181 cv_X4_isResting (by assumption) rfl rfl (Nat.le_of_ble_eq_true rfl) (Nat.le_of_ble_eq_true rfl) rfl (fun r h2 hp => ?_)
      obtain ⟨y3, rfl, rfl, hy3⟩ := hp
      refine G_if_eq (tgt := 43) dX5_restsIn_37 (by decide) (inR_of (by omega) (by omega)) (fun hc37 => ?_) (fun hc37 => ?_)
      · skip
        have hy7 : v 7 c = 0 := by omega
        refine G_aload_n dX5_restsIn_43 rfl rfl ?_
        refine G_getf fl_X5_16 dX5_restsIn_44 (by assumption) rfl ?_
        refine G_aload_n dX5_restsIn_47 rfl rfl ?_
        refine G_getf fl_X5_12 dX5_restsIn_48 (by assumption) rfl ?_
        refine G_callV (ci := 3) (as := [_]) (c_X3_copyFrom _ (x + 15) (x + 1) _ _ hXu hXn (by omega)) dX5_restsIn_51 ml_X5_36 cv_X3_copyFrom (by assumption) rfl rfl (Nat.le_of_ble_eq_true rfl) (Nat.le_of_ble_eq_true rfl) rfl (fun r h2 hp => ?_)
        obtain ⟨rfl, hF1, hb⟩ := hp
        have hX := hX.spare hF1 hb
        have hF := hF.tr (hF1.wide (show x ≤ x + 15 by omega) (show x + 15 + 14 ≤ x + 106 by omega))
        obtain ⟨hX0, hXn, hXu, hXw, hXh, hXs⟩ := id hX
        obtain ⟨hN0, hNb, hNw, hNs⟩ := id hXn
        obtain ⟨hNb0, hNb1, hNb2, hNb3, hNb4⟩ := id hNb
        obtain ⟨hNw0, hNw1, hNw2, hNw3, hNw4, hNw5, hNw6⟩ := id hNw
        have hU0 := hXu.1
        have hUw0 := hXu.2.2.1.1
        have hW0 := hXw.1
        have hH0 := hXh.1
        obtain ⟨hS0, hS1, hS2, hS3, hS4⟩ := id hXs
        have hri : -30 ≤ d ∧ d ≤ 30 := by omega
        have hwe : 0 ≤ c ∧ c < v 11 0 := by omega
        have L : ∀ (fu : Nat) (i : Int) (hh : List PO), 1 ≤ i → i ≤ 301 → clF hh x v (itV d v (i - 1).toNat) sw ks ρ hv sz tx len ki fi s2 th p hst n e → Fr h hh x (x + 106) → restR v c d = riN v c d (301 - i).toNat → 301 - i < fu → G 7 cX5_restsIn RX5 4 (some .int) hh 56 [some (r_ x), some (i_ c), some (i_ d), some (i_ i)] [] (fun r0 h2 => r0 = some (i_ (restR v c d)) ∧ Fr h h2 x (x + 106) ∧ clA h2 x (v) (hv) (sz) (ks) (sw) (tx) (len) (sn) (se)) := by
          intro fu
          induction fu with
          | zero => intro i hh a1 a2 hX hF hst2 hmeas; exfalso; omega
          | succ fu ih =>
            intro i hh a1 a2 hX hF hst2 hmeas
            obtain ⟨hX0, hXn, hXu, hXw, hXh, hXs⟩ := id hX
            obtain ⟨hN0, hNb, hNw, hNs⟩ := id hXn
            obtain ⟨hNb0, hNb1, hNb2, hNb3, hNb4⟩ := id hNb
            obtain ⟨hNw0, hNw1, hNw2, hNw3, hNw4, hNw5, hNw6⟩ := id hNw
            have hU0 := hXu.1
            have hUw0 := hXu.2.2.1.1
            have hW0 := hXw.1
            have hH0 := hXh.1
            obtain ⟨hS0, hS1, hS2, hS3, hS4⟩ := id hXs
            refine G_iload_n dX5_restsIn_56 rfl rfl ?_
            refine G_sipush dX5_restsIn_57 rfl ?_
            refine G_icmp_gt (tgt := 93) dX5_restsIn_60 (by decide) (inR_of (by omega) (by omega)) (inR_of (by omega) (by omega)) (fun hc60 => ?_) (fun hc60 => ?_)
            · skip
              have e : i = 301 := by omega
              subst e
              refine G_bipush dX5_restsIn_93 rfl ?_
              refine G_ireturn dX5_restsIn_95 rfl ?_
              exact ⟨by rw [hst2]; rfl, hF, _, _, _, _, _, _, _, _, _, _, hX, hq⟩
            · skip
              refine G_aload_n dX5_restsIn_63 rfl rfl ?_
              refine G_getf fl_X5_16 dX5_restsIn_64 (by assumption) rfl ?_
              refine G_iload_n dX5_restsIn_67 rfl rfl ?_
              refine G_callV (ci := 3) (as := [_]) (c_X3_letOneTideCome hh (x + 15) (itV d v (i - 1).toNat) d hXu (hV.it _) (by omega)) dX5_restsIn_68 ml_X5_184 cv_X3_letOneTideCome (by assumption) rfl rfl (Nat.le_of_ble_eq_true rfl) (Nat.le_of_ble_eq_true rfl) rfl (fun r h2 hp => ?_)
              obtain ⟨rfl, hF1, hb⟩ := hp
              have hX := hX.spare hF1 hb
              have e : (i - 1).toNat + 1 = i.toNat := by omega
              have hz9 := (hV.it (rise := d) i.toNat).2.2.2.1.2.2.2 c
              have hn9 : itV d v i.toNat 11 0 = v 11 0 := itV_wells _
              obtain ⟨hX0, hXn, hXu, hXw, hXh, hXs⟩ := id hX
              obtain ⟨hN0, hNb, hNw, hNs⟩ := id hXn
              obtain ⟨hNb0, hNb1, hNb2, hNb3, hNb4⟩ := id hNb
              obtain ⟨hNw0, hNw1, hNw2, hNw3, hNw4, hNw5, hNw6⟩ := id hNw
              have hU0 := hXu.1
              have hUw0 := hXu.2.2.1.1
              have hW0 := hXw.1
              have hH0 := hXh.1
              obtain ⟨hS0, hS1, hS2, hS3, hS4⟩ := id hXs
              have hXu9 : stAt h2 (x + 15) (itV d v ((i - 1).toNat + 1)) := hXu
              rw [e] at hXu9
              have hU9 := hXu9.1
              have hUw9 := hXu9.2.2.1
              have hUw90 := hUw9.1
              refine G_aload_n dX5_restsIn_71 rfl rfl ?_
              refine G_getf fl_X5_16 dX5_restsIn_72 (by assumption) rfl ?_
              refine G_getf fl_X5_63 dX5_restsIn_75 (by assumption) rfl ?_
              refine G_iload_n dX5_restsIn_78 rfl rfl ?_
              refine G_callV (ci := 4) (as := [_]) (c_X4_isResting _ (x + 15 + 6) _ _ _ _ _ _ _ c hUw9 (hV.it (rise := d) i.toNat).2.2.1.1 (hV.it (rise := d) i.toNat).2.2.2.1.2.2.2 hc) dX5_restsIn_79 ml_X5_181 cv_X4_isResting (by assumption) rfl rfl (Nat.le_of_ble_eq_true rfl) (Nat.le_of_ble_eq_true rfl) rfl (fun r h2 hp => ?_)
              obtain ⟨y4, rfl, rfl, hy4⟩ := hp
              refine G_if_eq (tgt := 87) dX5_restsIn_82 (by decide) (inR_of (by omega) (by omega)) (fun hc82 => ?_) (fun hc82 => ?_)
              · skip
                refine G_iinc dX5_restsIn_87 (by decide) rfl rfl ?_
                refine G_goto (tgt := 56) dX5_restsIn_90 (by decide) ?_
                refine ih (i + 1) _ (by omega) (by omega) ?_ (hF.tr (hF1.wide (by omega) (by omega))) ?_ (by omega)
                · have e : (i + 1 - 1).toNat = (i - 1).toNat + 1 := by omega
                  rw [e]
                  exact hX
                · rw [hst2]
                  have e : (i - 1).toNat + 1 = i.toNat := by omega
                  have e4 := riN_s (v := v) (w := c) (r := d) (i := i.toNat) (by omega) (by omega)
                  have e5 : 301 - i.toNat = (301 - i).toNat := by omega
                  have e6 : 300 - i.toNat = (301 - (i + 1)).toNat := by omega
                  rw [e5, e6] at e4
                  rw [e4, if_neg (by omega)]
              · skip
                refine G_iload_n dX5_restsIn_85 rfl rfl ?_
                refine G_ireturn dX5_restsIn_86 rfl ?_
                refine ⟨?_, hF.tr (hF1.wide (by omega) (by omega)), _, _, _, _, _, _, _, _, _, _, hX, hq⟩
                rw [hst2]
                have e4 := riN_s (v := v) (w := c) (r := d) (i := i.toNat) (by omega) (by omega)
                have e5 : 301 - i.toNat = (301 - i).toNat := by omega
                rw [e5] at e4
                rw [e4, if_pos (by omega)]
                have e6 : ((i.toNat : Nat) : Int) = i := by omega
                rw [e6]
        refine G_iconst dX5_restsIn_54 ?_
        refine G_istore_n dX5_restsIn_55 rfl (by decide) rfl ?_
        refine L 301 1 _ (by omega) (by omega) hX hF ?_ (by omega)
        have e9 : restR v c d = riN v c d 300 := by unfold restR; rw [if_neg (by omega), if_neg (by omega), if_neg (by omega)]
        exact e9
      · skip
        refine G_bipush dX5_restsIn_40 rfl ?_
        refine G_ireturn dX5_restsIn_42 rfl ?_
        have e9 : restR v c d = -4 := by unfold restR; rw [if_neg (by omega), if_neg (by omega), if_pos (by omega)]
        rw [e9]
        exact ⟨rfl, Fr.rf, hA⟩
    · skip
      refine G_bipush dX5_restsIn_23 rfl ?_
      refine G_ireturn dX5_restsIn_25 rfl ?_
      have e9 : restR v c d = -2 := by unfold restR; rw [if_neg (by omega), if_pos (by omega)]
      rw [e9]
      exact ⟨rfl, Fr.rf, hA⟩
  · skip
    refine G_iconst dX5_restsIn_14 ?_
    refine G_ireturn dX5_restsIn_15 rfl ?_
    have e9 : restR v c d = -1 := by unfold restR; rw [if_pos (by omega)]
    rw [e9]
    exact ⟨rfl, Fr.rf, hA⟩
end
section
/-! longs: the walk of the law's methods; locals and stack may hold longs; the heap changes by calls alone -/
abbrev PW : Type := PV ⊕ Int64
abbrev w_ (x : Int) : PW := .inl (i_ x)
abbrev p_ (k : Nat) : PW := .inl (r_ k)
abbrev l_ (x : Int64) : PW := .inr x
def tw (g : GP) : PW → Value
  | .inl v => tr g v
  | .inr x => .long x
def ctw : PW → Nat
  | .inl _ => 1
  | .inr _ => 2
theorem tw_cat (g : GP) (v : PW) : (tw g v).category = ctw v := by
  rcases v with v | x
  · exact tr_cat g v
  · rfl
theorem tw_inl (g : GP) (l : List PV) : (l.map Sum.inl).map (tw g) = l.map (tr g) := by
  rw [List.map_map]; rfl
def cats : List PW → Nat
  | [] => 0
  | v :: t => ctw v + cats t
theorem tw_sum (g : GP) (st : List PW) : ((st.map (tw g)).map fun v => v.category).sum = cats st := by
  induction st with
  | nil => rfl
  | cons v t ih =>
    simp only [List.map_cons, List.sum_cons, tw_cat]
    rw [ih]; rfl
def lwl (g : GP) : Nat → List (Option PW) → List (Nat × Value)
  | _, [] => []
  | n, none :: t => lwl g (n + 1) t
  | n, some v :: t => (n, tw g v) :: lwl g (n + 1) t
theorem lwl_mem {g : GP} {lv : List (Option PW)} {n : Nat} {q : Nat × Value} : q ∈ lwl g n lv ↔ ∃ i v, lv[i]? = some (some v) ∧ q = (n + i, tw g v) := by
  induction lv generalizing n with
  | nil => simp [lwl]
  | cons x t ih =>
    cases x with
    | none =>
      simp only [lwl]
      rw [ih]
      constructor
      · rintro ⟨i, v, a, b⟩
        exact ⟨i + 1, v, by simpa using a, by rw [b]; congr 1; omega⟩
      · rintro ⟨i, v, a, b⟩
        cases i with
        | zero => simp at a
        | succ i => exact ⟨i, v, by simpa using a, by rw [b]; congr 1; omega⟩
    | some w =>
      simp only [lwl, List.mem_cons]
      rw [ih]
      constructor
      · rintro (a | ⟨i, v, a, b⟩)
        · exact ⟨0, w, by simp, by simpa using a⟩
        · exact ⟨i + 1, v, by simpa using a, by rw [b]; congr 1; omega⟩
      · rintro ⟨i, v, a, b⟩
        cases i with
        | zero =>
          left
          simp at a
          subst a
          simpa using b
        | succ i => exact Or.inr ⟨i, v, by simpa using a, by rw [b]; congr 1; omega⟩
def lwh (g : GP) (ls : Array Slot) (nL : Nat) (lv : List (Option PW)) : Prop := lv_has ls nL (lwl g 0 lv)
theorem lwh_at {g : GP} {ls : Array Slot} {nL : Nat} {lv : List (Option PW)} (h : lwh g ls nL lv) {i : Nat} {v : PW} (e : lv[i]? = some (some v)) : ls[i]? = some (.val (tw g v)) :=
  h.2.2 (i, tw g v) (lwl_mem.mpr ⟨i, v, e, by simp⟩)
/-- no long stands just ahead of the place i -/
def noL (lv : List (Option PW)) : Nat → Bool
  | 0 => true
  | i + 1 => match lv[i]? with
    | some (some (.inr _)) => false
    | _ => true
theorem noL_no {lv : List (Option PW)} {i j : Nat} {x : Int64} (h : noL lv i = true) (e : lv[j]? = some (some (l_ x))) : ¬ j + 1 = i := by
  intro q
  subst q
  simp [noL, e] at h
theorem lwh_set {g : GP} {ls' : Array Slot} {nL : Nat} {lv : List (Option PW)} {i : Nat} {v : PW} (hn : noL lv i = true) (h : lv_has ls' nL ((i, tw g v) :: (lwl g 0 lv).filter (fun q => !(q.1 == i) && !(q.1 + 1 == i && q.2.category == 2)))) : lwh g ls' nL (lv.set i (some v)) := by
  refine ⟨h.1, h.2.1, fun q hq => ?_⟩
  obtain ⟨j, w, a, rfl⟩ := lwl_mem.mp hq
  rw [Nat.zero_add]
  by_cases e : i = j
  · subst e
    rw [List.getElem?_set] at a
    simp at a
    obtain ⟨-, rfl⟩ := a
    exact h.2.2 _ List.mem_cons_self
  · rw [List.getElem?_set_ne e] at a
    refine h.2.2 (j, tw g w) (List.mem_cons_of_mem _ (List.mem_filter.mpr ⟨lwl_mem.mpr ⟨j, w, a, by simp⟩, ?_⟩))
    rcases w with w | x
    · have hc : (tw g (.inl w)).category = 1 := tr_cat g w
      simp [hc, Ne.symm e]
    · have hz := noL_no hn a
      simp [hz, Ne.symm e]
theorem lwh_set2 {g : GP} {ls' : Array Slot} {nL : Nat} {lv : List (Option PW)} {i : Nat} {x : Int64} (hn : noL lv i = true) (h : lv_has ls' nL ((i, Value.long x) :: (lwl g 0 lv).filter (fun q => !(q.1 == i) && (!(q.1 == i + 1) && !(q.1 + 1 == i && q.2.category == 2))))) : lwh g ls' nL ((lv.set i (some (l_ x))).set (i + 1) none) := by
  refine ⟨h.1, h.2.1, fun q hq => ?_⟩
  obtain ⟨j, w, a, rfl⟩ := lwl_mem.mp hq
  rw [Nat.zero_add]
  by_cases e2 : i + 1 = j
  · subst e2
    rw [List.getElem?_set] at a
    simp at a
  · rw [List.getElem?_set_ne e2] at a
    by_cases e : i = j
    · subst e
      rw [List.getElem?_set] at a
      simp at a
      obtain ⟨-, rfl⟩ := a
      exact h.2.2 _ List.mem_cons_self
    · rw [List.getElem?_set_ne e] at a
      refine h.2.2 (j, tw g w) (List.mem_cons_of_mem _ (List.mem_filter.mpr ⟨lwl_mem.mpr ⟨j, w, a, by simp⟩, ?_⟩))
      rcases w with w | x
      · have hc : (tw g (.inl w)).category = 1 := tr_cat g w
        simp [hc, Ne.symm e, Ne.symm e2]
      · have hz := noL_no hn a
        simp [hz, Ne.symm e, Ne.symm e2]
/-- the room of a walk bears calls of methods that want F - 1 frames below them -/
def RO (R : Room) (F : Nat) : Prop := ∀ fy nLy : Nat, fy + 1 ≤ F → nLy ≤ 14 → (rm fy).frames + 1 ≤ R.frames ∧ 8 + (nLy + 11) + (rm fy).locals ≤ R.locals
theorem ro_m (f : Nat) : RO (rm f) f := fun _ _ a b => rm_le a b
def KX (p : Program) (s : State) (m : MethodId) (args : Array Value) (c : Code) (cc : ByteArray) (nL : Nat) : Prop :=
  p.tables.exec = Jvm.exec ∧ c.code = cc ∧ c.maxLocals = nL ∧ s.vm.findClass RL = some m.cls ∧ (∀ w ∈ GW, w.before args s = true) ∧ True
/-- THE WALK: Ω what more holds of the start, R the room, Z the end -/
def GL (Ω : GP → State → Array Value → Method → Prop) (R : Room) (F : Nat) (Z : GP → State → Array Value → List Frame → State → Prop) (cc : ByteArray) (nL : Nat) (h : List PO) (pc : Nat) (lv : List (Option PW)) (st : List PW) : Prop :=
  ∀ (g : GP) (p : Program) (l : Launch) (e : Jvm.Env) (s : State) (m : MethodId) (args : Array Value) (below : List Frame) (meth : Method) (c : Code) (H : Heap) (locs : List Loc) (ls : Array Slot),
    Ω g s args meth → RO R F → KX p s m args c cc nL → Env g s → gK g ≤ s.heap.size → va_P (gD g) vwCl (wld g h) H → va_D (gA g) (wld g h) → va_S (gA g) s.heap H locs → lwh g ls nL lv →
    W p l e R s m args below meth c H locs R.cells R.slots (Z g s args below) (F0 m pc ls (st.map (tw g)))
section LR
variable {Ω : GP → State → Array Value → Method → Prop} {R : Room} {F : Nat} {Z : GP → State → Array Value → List Frame → State → Prop} {cc : ByteArray} {nL : Nat} {h : List PO} {pc : Nat} {lv : List (Option PW)} {st : List PW}
theorem L_w {pc2 : Nat} {lv2 : List (Option PW)} {st2 : List PW} {h2 : List PO}
    (q : ∀ (g : GP) (p : Program) (l : Launch) (e : Jvm.Env) (s : State) (m : MethodId) (args : Array Value) (below : List Frame) (meth : Method) (c : Code) (H : Heap) (locs : List Loc) (ls : Array Slot), Ω g s args meth → RO R F → KX p s m args c cc nL → Env g s → gK g ≤ s.heap.size → va_P (gD g) vwCl (wld g h) H → va_D (gA g) (wld g h) → va_S (gA g) s.heap H locs → lwh g ls nL lv →
      (∀ (H : Heap) (locs : List Loc) (ls : Array Slot), va_P (gD g) vwCl (wld g h2) H → va_D (gA g) (wld g h2) → va_S (gA g) s.heap H locs → lwh g ls nL lv2 → W p l e R s m args below meth c H locs R.cells R.slots (Z g s args below) (F0 m pc2 ls (st2.map (tw g)))) →
      W p l e R s m args below meth c H locs R.cells R.slots (Z g s args below) (F0 m pc ls (st.map (tw g))))
    (k : GL Ω R F Z cc nL h2 pc2 lv2 st2) : GL Ω R F Z cc nL h pc lv st :=
  fun g p l e s m args below meth c H locs ls hO hR M E hK hP hD hS hl => q g p l e s m args below meth c H locs ls hO hR M E hK hP hD hS hl (fun H locs ls hP hD hS hl => k g p l e s m args below meth c H locs ls hO hR M E hK hP hD hS hl)
theorem lwl_find {g : GP} {lv : List (Option PW)} {i : Nat} {v : PW} (e : lv[i]? = some (some v)) : ∃ k : Nat, (lwl g 0 lv)[k]? = some (i, tw g v) := List.getElem?_of_mem (lwl_mem.mpr ⟨i, v, e, by simp⟩)
theorem L_iconst {n : Int} (hd : decode cc pc = .ok (.iconst n, 1)) (k : GL Ω R F Z cc nL h (pc + 1) lv (w_ n :: st)) : GL Ω R F Z cc nL h pc lv st :=
  L_w (fun g p l e s m args below meth c H locs ls hO hR M E hK hP hD hS hl kk => lv_iconst (v := I n) M.1 M.2.1 hd rfl (kk H locs ls hP hD hS hl)) k
theorem L_bipush {n : Int} (hd : decode cc pc = .ok (.bipush n, 2)) (ha : decide (-128 ≤ n ∧ n ≤ 127) = true) (k : GL Ω R F Z cc nL h (pc + 2) lv (w_ n :: st)) : GL Ω R F Z cc nL h pc lv st :=
  L_w (fun g p l e s m args below meth c H locs ls hO hR M E hK hP hD hS hl kk => lv_bipush (v := I n) M.1 M.2.1 hd (I_byte (of_decide_eq_true ha).1 (of_decide_eq_true ha).2) (kk H locs ls hP hD hS hl)) k
theorem L_sipush {n : Int} (hd : decode cc pc = .ok (.sipush n, 3)) (ha : decide (-32768 ≤ n ∧ n ≤ 32767) = true) (k : GL Ω R F Z cc nL h (pc + 3) lv (w_ n :: st)) : GL Ω R F Z cc nL h pc lv st :=
  L_w (fun g p l e s m args below meth c H locs ls hO hR M E hK hP hD hS hl kk => lv_sipush (v := I n) M.1 M.2.1 hd (I_short (of_decide_eq_true ha).1 (of_decide_eq_true ha).2) (kk H locs ls hP hD hS hl)) k
theorem L_iload_n {q : Fin 4} {i : Nat} {x : Int} (hd : decode cc pc = .ok (.iload_n q, 1)) (hi : (q : Nat) = i) (hv : lv[i]? = some (some (w_ x))) (k : GL Ω R F Z cc nL h (pc + 1) lv (w_ x :: st)) : GL Ω R F Z cc nL h pc lv st :=
  L_w (fun g p l e s m args below meth c H locs ls hO hR M E hK hP hD hS hl kk => lv_iload_n (x := I x) M.1 M.2.1 hd hi (lwh_at hl hv) (kk H locs ls hP hD hS hl)) k
theorem L_iload {i : Nat} {x : Int} (hd : decode cc pc = .ok (.iload i, 2)) (hv : lv[i]? = some (some (w_ x))) (k : GL Ω R F Z cc nL h (pc + 2) lv (w_ x :: st)) : GL Ω R F Z cc nL h pc lv st :=
  L_w (fun g p l e s m args below meth c H locs ls hO hR M E hK hP hD hS hl kk => lv_iload (x := I x) M.1 M.2.1 hd (lwh_at hl hv) (kk H locs ls hP hD hS hl)) k
theorem L_aload_n {q : Fin 4} {i : Nat} {x : Nat} (hd : decode cc pc = .ok (.aload_n q, 1)) (hi : (q : Nat) = i) (hv : lv[i]? = some (some (p_ x))) (k : GL Ω R F Z cc nL h (pc + 1) lv (p_ x :: st)) : GL Ω R F Z cc nL h pc lv st :=
  L_w (fun g p l e s m args below meth c H locs ls hO hR M E hK hP hD hS hl kk => lv_aload_n (x := gad g x) M.1 M.2.1 hd hi (lwh_at hl hv) (kk H locs ls hP hD hS hl)) k
theorem L_aload {i : Nat} {x : Nat} (hd : decode cc pc = .ok (.aload i, 2)) (hv : lv[i]? = some (some (p_ x))) (k : GL Ω R F Z cc nL h (pc + 2) lv (p_ x :: st)) : GL Ω R F Z cc nL h pc lv st :=
  L_w (fun g p l e s m args below meth c H locs ls hO hR M E hK hP hD hS hl kk => lv_aload (x := gad g x) M.1 M.2.1 hd (lwh_at hl hv) (kk H locs ls hP hD hS hl)) k
theorem L_istore_n {q : Fin 4} {i : Nat} {x : Int} {lv2 : List (Option PW)} (hd : decode cc pc = .ok (.istore_n q, 1)) (hi : (q : Nat) = i) (hn : i < nL) (hnl : noL lv i = true) (hl2 : lv.set i (some (w_ x)) = lv2) (k : GL Ω R F Z cc nL h (pc + 1) lv2 st) : GL Ω R F Z cc nL h pc lv (w_ x :: st) :=
  L_w (fun g p l e s m args below meth c H locs ls hO hR M E hK hP hD hS hl kk => lv_istore_n (x := I x) (nL := nL) (lv := lwl g 0 lv) M.1 M.2.1 hd hi hl hn rfl (fun ls' hl' => kk H locs ls' hP hD hS (hl2 ▸ lwh_set (lv := lv) hnl (v := w_ x) hl'))) k
theorem L_istore {i : Nat} {x : Int} {lv2 : List (Option PW)} (hd : decode cc pc = .ok (.istore i, 2)) (hn : i < nL) (hnl : noL lv i = true) (hl2 : lv.set i (some (w_ x)) = lv2) (k : GL Ω R F Z cc nL h (pc + 2) lv2 st) : GL Ω R F Z cc nL h pc lv (w_ x :: st) :=
  L_w (fun g p l e s m args below meth c H locs ls hO hR M E hK hP hD hS hl kk => lv_istore (x := I x) (nL := nL) (lv := lwl g 0 lv) M.1 M.2.1 hd hl hn rfl (fun ls' hl' => kk H locs ls' hP hD hS (hl2 ▸ lwh_set (lv := lv) hnl (v := w_ x) hl'))) k
theorem L_astore_n {q : Fin 4} {i : Nat} {x : Nat} {lv2 : List (Option PW)} (hd : decode cc pc = .ok (.astore_n q, 1)) (hi : (q : Nat) = i) (hn : i < nL) (hnl : noL lv i = true) (hl2 : lv.set i (some (p_ x)) = lv2) (k : GL Ω R F Z cc nL h (pc + 1) lv2 st) : GL Ω R F Z cc nL h pc lv (p_ x :: st) :=
  L_w (fun g p l e s m args below meth c H locs ls hO hR M E hK hP hD hS hl kk => lv_astore_n (x := gad g x) (nL := nL) (lv := lwl g 0 lv) M.1 M.2.1 hd hi hl hn rfl (fun ls' hl' => kk H locs ls' hP hD hS (hl2 ▸ lwh_set (lv := lv) hnl (v := p_ x) hl'))) k
theorem L_iinc {i : Nat} {n x : Int} {lv2 : List (Option PW)} (hd : decode cc pc = .ok (.iinc i n, 3)) (hn : i < nL) (hv : lv[i]? = some (some (w_ x))) (hnl : noL lv i = true) (hl2 : lv.set i (some (w_ (x + n))) = lv2) (k : GL Ω R F Z cc nL h (pc + 3) lv2 st) : GL Ω R F Z cc nL h pc lv st :=
  L_w (fun g p l e s m args below meth c H locs ls hO hR M E hK hP hD hS hl kk => by
    obtain ⟨q, hq⟩ := lwl_find (g := g) hv
    exact lv_iinc (x := I x) (v := I (x + n)) (nL := nL) (lv := lwl g 0 lv) (k := q) M.1 M.2.1 hd hl hq (I_add x n) hn rfl (fun ls' hl' => kk H locs ls' hP hD hS (hl2 ▸ lwh_set (lv := lv) hnl (v := w_ (x + n)) hl'))) k
theorem L_iadd {x y : Int} (hd : decode cc pc = .ok (.iadd, 1)) (k : GL Ω R F Z cc nL h (pc + 1) lv (w_ (x + y) :: st)) : GL Ω R F Z cc nL h pc lv (w_ y :: w_ x :: st) :=
  L_w (fun g p l e s m args below meth c H locs ls hO hR M E hK hP hD hS hl kk => lv_iadd (x := I x) (y := I y) M.1 M.2.1 hd (by rw [I_add]; exact kk H locs ls hP hD hS hl)) k
theorem L_isub {x y : Int} (hd : decode cc pc = .ok (.isub, 1)) (k : GL Ω R F Z cc nL h (pc + 1) lv (w_ (x - y) :: st)) : GL Ω R F Z cc nL h pc lv (w_ y :: w_ x :: st) :=
  L_w (fun g p l e s m args below meth c H locs ls hO hR M E hK hP hD hS hl kk => lv_isub (x := I x) (y := I y) M.1 M.2.1 hd (by rw [I_sub]; exact kk H locs ls hP hD hS hl)) k
theorem L_imul {x y : Int} (hd : decode cc pc = .ok (.imul, 1)) (k : GL Ω R F Z cc nL h (pc + 1) lv (w_ (x * y) :: st)) : GL Ω R F Z cc nL h pc lv (w_ y :: w_ x :: st) :=
  L_w (fun g p l e s m args below meth c H locs ls hO hR M E hK hP hD hS hl kk => lv_imul (x := I x) (y := I y) M.1 M.2.1 hd (by rw [I_mul]; exact kk H locs ls hP hD hS hl)) k
theorem L_ineg {x : Int} (hd : decode cc pc = .ok (.ineg, 1)) (k : GL Ω R F Z cc nL h (pc + 1) lv (w_ (-x) :: st)) : GL Ω R F Z cc nL h pc lv (w_ x :: st) :=
  L_w (fun g p l e s m args below meth c H locs ls hO hR M E hK hP hD hS hl kk => lv_ineg (x := I x) M.1 M.2.1 hd (by rw [I_neg]; exact kk H locs ls hP hD hS hl)) k
theorem L_goto {off : Int} {tgt : Nat} (hd : decode cc pc = .ok (.goto off, 3)) (ht : (pc : Int) + off = (tgt : Int)) (k : GL Ω R F Z cc nL h tgt lv st) : GL Ω R F Z cc nL h pc lv st :=
  L_w (fun g p l e s m args below meth c H locs ls hO hR M E hK hP hD hS hl kk => lv_goto M.1 M.2.1 hd ht (kk H locs ls hP hD hS hl)) k
theorem L_ldc {idx : Nat} {x : Int} (hd : decode cc pc = .ok (.ldc idx, 2)) (hc : Cond.constant RL idx (I x) ∈ GW) (k : GL Ω R F Z cc nL h (pc + 2) lv (w_ x :: st)) : GL Ω R F Z cc nL h pc lv st :=
  L_w (fun g p l e s m args below meth c H locs ls hO hR M E hK hP hD hS hl kk => lv_ldc (v := I x) M.1 M.2.1 M.2.2.2.1 (M.2.2.2.2.1 _ hc) hd (kk H locs ls hP hD hS hl)) k
theorem L_tblIn {dflt lo hi : Int} {offs : Array Int} {len : Nat} {x : Int} {off : Int} {tgt : Nat} (hd : decode cc pc = .ok (.tableswitch dflt lo hi offs, len)) (hx : inR x) (h1 : lo ≤ x) (h2 : x ≤ hi) (ho : offs[(x - lo).toNat]? = some off) (ht : (pc : Int) + off = (tgt : Int)) (k : GL Ω R F Z cc nL h tgt lv st) : GL Ω R F Z cc nL h pc lv (w_ x :: st) :=
  L_w (fun g p l e s m args below meth c H locs ls hO hR M E hK hP hD hS hl kk => lv_tableIn (x := I x) M.1 M.2.1 hd (by rw [I_toInt hx]; omega) (by rw [I_toInt hx]; omega) (by rw [I_toInt hx]; exact ho) ht (kk H locs ls hP hD hS hl)) k
theorem L_tblOut {dflt lo hi : Int} {offs : Array Int} {len : Nat} {x : Int} {tgt : Nat} (hd : decode cc pc = .ok (.tableswitch dflt lo hi offs, len)) (hx : inR x) (h1 : x < lo ∨ hi < x) (ht : (pc : Int) + dflt = (tgt : Int)) (k : GL Ω R F Z cc nL h tgt lv st) : GL Ω R F Z cc nL h pc lv (w_ x :: st) :=
  L_w (fun g p l e s m args below meth c H locs ls hO hR M E hK hP hD hS hl kk => lv_tableOut (x := I x) M.1 M.2.1 hd (by rw [I_toInt hx]; exact h1) ht (kk H locs ls hP hD hS hl)) k
theorem L_icmp_eq {x y : Int} {off : Int} {tgt : Nat} (hd : decode cc pc = .ok (.if_icmp .eq off, 3)) (ht : (pc : Int) + off = (tgt : Int)) (hx : inR x) (hy : inR y) (kt : x = y → GL Ω R F Z cc nL h tgt lv st) (kf : ¬ x = y → GL Ω R F Z cc nL h (pc + 3) lv st) : GL Ω R F Z cc nL h pc lv (w_ y :: w_ x :: st) :=
  fun g p l e s m args below meth c H locs ls hO hR M E hK hP hD hS hl => lv_icmp_eq (x := I x) (y := I y) M.1 M.2.1 hd ht (fun q => kt ((I_eq hx hy).mp q) g p l e s m args below meth c H locs ls hO hR M E hK hP hD hS hl) (fun q => kf (fun z => q ((I_eq hx hy).mpr z)) g p l e s m args below meth c H locs ls hO hR M E hK hP hD hS hl)
theorem L_icmp_ne {x y : Int} {off : Int} {tgt : Nat} (hd : decode cc pc = .ok (.if_icmp .ne off, 3)) (ht : (pc : Int) + off = (tgt : Int)) (hx : inR x) (hy : inR y) (kt : ¬ x = y → GL Ω R F Z cc nL h tgt lv st) (kf : x = y → GL Ω R F Z cc nL h (pc + 3) lv st) : GL Ω R F Z cc nL h pc lv (w_ y :: w_ x :: st) :=
  fun g p l e s m args below meth c H locs ls hO hR M E hK hP hD hS hl => lv_icmp_ne (x := I x) (y := I y) M.1 M.2.1 hd ht (fun q => kt (fun z => q ((I_eq hx hy).mpr z)) g p l e s m args below meth c H locs ls hO hR M E hK hP hD hS hl) (fun q => kf ((I_eq hx hy).mp q) g p l e s m args below meth c H locs ls hO hR M E hK hP hD hS hl)
theorem L_icmp_lt {x y : Int} {off : Int} {tgt : Nat} (hd : decode cc pc = .ok (.if_icmp .lt off, 3)) (ht : (pc : Int) + off = (tgt : Int)) (hx : inR x) (hy : inR y) (kt : x < y → GL Ω R F Z cc nL h tgt lv st) (kf : y ≤ x → GL Ω R F Z cc nL h (pc + 3) lv st) : GL Ω R F Z cc nL h pc lv (w_ y :: w_ x :: st) :=
  fun g p l e s m args below meth c H locs ls hO hR M E hK hP hD hS hl => lv_icmp_lt (x := I x) (y := I y) M.1 M.2.1 hd ht (fun q => kt ((I_lt hx hy).mp q) g p l e s m args below meth c H locs ls hO hR M E hK hP hD hS hl) (fun q => kf (Int.not_lt.mp (fun z => q ((I_lt hx hy).mpr z))) g p l e s m args below meth c H locs ls hO hR M E hK hP hD hS hl)
theorem L_icmp_ge {x y : Int} {off : Int} {tgt : Nat} (hd : decode cc pc = .ok (.if_icmp .ge off, 3)) (ht : (pc : Int) + off = (tgt : Int)) (hx : inR x) (hy : inR y) (kt : y ≤ x → GL Ω R F Z cc nL h tgt lv st) (kf : x < y → GL Ω R F Z cc nL h (pc + 3) lv st) : GL Ω R F Z cc nL h pc lv (w_ y :: w_ x :: st) :=
  fun g p l e s m args below meth c H locs ls hO hR M E hK hP hD hS hl => lv_icmp_ge (x := I x) (y := I y) M.1 M.2.1 hd ht (fun q => kt ((I_le hy hx).mp q) g p l e s m args below meth c H locs ls hO hR M E hK hP hD hS hl) (fun q => kf (Int.not_le.mp (fun z => q ((I_le hy hx).mpr z))) g p l e s m args below meth c H locs ls hO hR M E hK hP hD hS hl)
theorem L_icmp_gt {x y : Int} {off : Int} {tgt : Nat} (hd : decode cc pc = .ok (.if_icmp .gt off, 3)) (ht : (pc : Int) + off = (tgt : Int)) (hx : inR x) (hy : inR y) (kt : y < x → GL Ω R F Z cc nL h tgt lv st) (kf : x ≤ y → GL Ω R F Z cc nL h (pc + 3) lv st) : GL Ω R F Z cc nL h pc lv (w_ y :: w_ x :: st) :=
  fun g p l e s m args below meth c H locs ls hO hR M E hK hP hD hS hl => lv_icmp_gt (x := I x) (y := I y) M.1 M.2.1 hd ht (fun q => kt ((I_lt hy hx).mp q) g p l e s m args below meth c H locs ls hO hR M E hK hP hD hS hl) (fun q => kf (Int.not_lt.mp (fun z => q ((I_lt hy hx).mpr z))) g p l e s m args below meth c H locs ls hO hR M E hK hP hD hS hl)
theorem L_icmp_le {x y : Int} {off : Int} {tgt : Nat} (hd : decode cc pc = .ok (.if_icmp .le off, 3)) (ht : (pc : Int) + off = (tgt : Int)) (hx : inR x) (hy : inR y) (kt : x ≤ y → GL Ω R F Z cc nL h tgt lv st) (kf : y < x → GL Ω R F Z cc nL h (pc + 3) lv st) : GL Ω R F Z cc nL h pc lv (w_ y :: w_ x :: st) :=
  fun g p l e s m args below meth c H locs ls hO hR M E hK hP hD hS hl => lv_icmp_le (x := I x) (y := I y) M.1 M.2.1 hd ht (fun q => kt ((I_le hx hy).mp q) g p l e s m args below meth c H locs ls hO hR M E hK hP hD hS hl) (fun q => kf (Int.not_le.mp (fun z => q ((I_le hx hy).mpr z))) g p l e s m args below meth c H locs ls hO hR M E hK hP hD hS hl)
theorem L_if_eq {x : Int} {off : Int} {tgt : Nat} (hd : decode cc pc = .ok (.ifCond .eq off, 3)) (ht : (pc : Int) + off = (tgt : Int)) (hx : inR x) (kt : x = 0 → GL Ω R F Z cc nL h tgt lv st) (kf : ¬ x = 0 → GL Ω R F Z cc nL h (pc + 3) lv st) : GL Ω R F Z cc nL h pc lv (w_ x :: st) :=
  fun g p l e s m args below meth c H locs ls hO hR M E hK hP hD hS hl => lv_if_eq (x := I x) M.1 M.2.1 hd ht (fun q => kt ((I_eq0 hx).mp q) g p l e s m args below meth c H locs ls hO hR M E hK hP hD hS hl) (fun q => kf (fun z => q ((I_eq0 hx).mpr z)) g p l e s m args below meth c H locs ls hO hR M E hK hP hD hS hl)
theorem L_if_ne {x : Int} {off : Int} {tgt : Nat} (hd : decode cc pc = .ok (.ifCond .ne off, 3)) (ht : (pc : Int) + off = (tgt : Int)) (hx : inR x) (kt : ¬ x = 0 → GL Ω R F Z cc nL h tgt lv st) (kf : x = 0 → GL Ω R F Z cc nL h (pc + 3) lv st) : GL Ω R F Z cc nL h pc lv (w_ x :: st) :=
  fun g p l e s m args below meth c H locs ls hO hR M E hK hP hD hS hl => lv_if_ne (x := I x) M.1 M.2.1 hd ht (fun q => kt (fun z => q ((I_eq0 hx).mpr z)) g p l e s m args below meth c H locs ls hO hR M E hK hP hD hS hl) (fun q => kf ((I_eq0 hx).mp q) g p l e s m args below meth c H locs ls hO hR M E hK hP hD hS hl)
theorem L_if_lt {x : Int} {off : Int} {tgt : Nat} (hd : decode cc pc = .ok (.ifCond .lt off, 3)) (ht : (pc : Int) + off = (tgt : Int)) (hx : inR x) (kt : x < 0 → GL Ω R F Z cc nL h tgt lv st) (kf : 0 ≤ x → GL Ω R F Z cc nL h (pc + 3) lv st) : GL Ω R F Z cc nL h pc lv (w_ x :: st) :=
  fun g p l e s m args below meth c H locs ls hO hR M E hK hP hD hS hl => lv_if_lt (x := I x) M.1 M.2.1 hd ht (fun q => kt ((I_lt0 hx).mp q) g p l e s m args below meth c H locs ls hO hR M E hK hP hD hS hl) (fun q => kf (Int.not_lt.mp (fun z => q ((I_lt0 hx).mpr z))) g p l e s m args below meth c H locs ls hO hR M E hK hP hD hS hl)
theorem L_if_ge {x : Int} {off : Int} {tgt : Nat} (hd : decode cc pc = .ok (.ifCond .ge off, 3)) (ht : (pc : Int) + off = (tgt : Int)) (hx : inR x) (kt : 0 ≤ x → GL Ω R F Z cc nL h tgt lv st) (kf : x < 0 → GL Ω R F Z cc nL h (pc + 3) lv st) : GL Ω R F Z cc nL h pc lv (w_ x :: st) :=
  fun g p l e s m args below meth c H locs ls hO hR M E hK hP hD hS hl => lv_if_ge (x := I x) M.1 M.2.1 hd ht (fun q => kt ((I_ge0 hx).mp q) g p l e s m args below meth c H locs ls hO hR M E hK hP hD hS hl) (fun q => kf (Int.not_le.mp (fun z => q ((I_ge0 hx).mpr z))) g p l e s m args below meth c H locs ls hO hR M E hK hP hD hS hl)
theorem L_if_gt {x : Int} {off : Int} {tgt : Nat} (hd : decode cc pc = .ok (.ifCond .gt off, 3)) (ht : (pc : Int) + off = (tgt : Int)) (hx : inR x) (kt : 0 < x → GL Ω R F Z cc nL h tgt lv st) (kf : x ≤ 0 → GL Ω R F Z cc nL h (pc + 3) lv st) : GL Ω R F Z cc nL h pc lv (w_ x :: st) :=
  fun g p l e s m args below meth c H locs ls hO hR M E hK hP hD hS hl => lv_if_gt (x := I x) M.1 M.2.1 hd ht (fun q => kt ((I_gt0 hx).mp q) g p l e s m args below meth c H locs ls hO hR M E hK hP hD hS hl) (fun q => kf (Int.not_lt.mp (fun z => q ((I_gt0 hx).mpr z))) g p l e s m args below meth c H locs ls hO hR M E hK hP hD hS hl)
theorem L_if_le {x : Int} {off : Int} {tgt : Nat} (hd : decode cc pc = .ok (.ifCond .le off, 3)) (ht : (pc : Int) + off = (tgt : Int)) (hx : inR x) (kt : x ≤ 0 → GL Ω R F Z cc nL h tgt lv st) (kf : 0 < x → GL Ω R F Z cc nL h (pc + 3) lv st) : GL Ω R F Z cc nL h pc lv (w_ x :: st) :=
  fun g p l e s m args below meth c H locs ls hO hR M E hK hP hD hS hl => lv_if_le (x := I x) M.1 M.2.1 hd ht (fun q => kt ((I_le0 hx).mp q) g p l e s m args below meth c H locs ls hO hR M E hK hP hD hS hl) (fun q => kf (Int.not_le.mp (fun z => q ((I_le0 hx).mpr z))) g p l e s m args below meth c H locs ls hO hR M E hK hP hD hS hl)
theorem L_dup {v : PW} (hc : ctw v = 1) (hd : decode cc pc = .ok (.dup, 1)) (k : GL Ω R F Z cc nL h (pc + 1) lv (v :: v :: st)) : GL Ω R F Z cc nL h pc lv (v :: st) :=
  L_w (fun g p l e s m args below meth c H locs ls hO hR M E hK hP hD hS hl kk => lv_dup M.1 M.2.1 hd ((tw_cat g v).trans hc) (kk H locs ls hP hD hS hl)) k
theorem L_lload_n {q : Fin 4} {i : Nat} {x : Int64} (hd : decode cc pc = .ok (.lload_n q, 1)) (hi : (q : Nat) = i) (hv : lv[i]? = some (some (l_ x))) (k : GL Ω R F Z cc nL h (pc + 1) lv (l_ x :: st)) : GL Ω R F Z cc nL h pc lv st :=
  L_w (fun g p l e s m args below meth c H locs ls hO hR M E hK hP hD hS hl kk => lv_lload_n (x := x) M.1 M.2.1 hd hi (lwh_at hl hv) (kk H locs ls hP hD hS hl)) k
theorem L_lload {i : Nat} {x : Int64} (hd : decode cc pc = .ok (.lload i, 2)) (hv : lv[i]? = some (some (l_ x))) (k : GL Ω R F Z cc nL h (pc + 2) lv (l_ x :: st)) : GL Ω R F Z cc nL h pc lv st :=
  L_w (fun g p l e s m args below meth c H locs ls hO hR M E hK hP hD hS hl kk => lv_lload (x := x) M.1 M.2.1 hd (lwh_at hl hv) (kk H locs ls hP hD hS hl)) k
theorem L_lstore_n {q : Fin 4} {i : Nat} {x : Int64} {lv2 : List (Option PW)} (hd : decode cc pc = .ok (.lstore_n q, 1)) (hi : (q : Nat) = i) (hn : i + 1 < nL) (hnl : noL lv i = true) (hl2 : (lv.set i (some (l_ x))).set (i + 1) none = lv2) (k : GL Ω R F Z cc nL h (pc + 1) lv2 st) : GL Ω R F Z cc nL h pc lv (l_ x :: st) :=
  L_w (fun g p l e s m args below meth c H locs ls hO hR M E hK hP hD hS hl kk => lv_lstore_n (x := x) (nL := nL) (lv := lwl g 0 lv) M.1 M.2.1 hd hi hl hn rfl (fun ls' hl' => kk H locs ls' hP hD hS (hl2 ▸ lwh_set2 hnl hl'))) k
theorem L_lstore {i : Nat} {x : Int64} {lv2 : List (Option PW)} (hd : decode cc pc = .ok (.lstore i, 2)) (hn : i + 1 < nL) (hnl : noL lv i = true) (hl2 : (lv.set i (some (l_ x))).set (i + 1) none = lv2) (k : GL Ω R F Z cc nL h (pc + 2) lv2 st) : GL Ω R F Z cc nL h pc lv (l_ x :: st) :=
  L_w (fun g p l e s m args below meth c H locs ls hO hR M E hK hP hD hS hl kk => lv_lstore (x := x) (nL := nL) (lv := lwl g 0 lv) M.1 M.2.1 hd hl hn rfl (fun ls' hl' => kk H locs ls' hP hD hS (hl2 ▸ lwh_set2 hnl hl'))) k
theorem L_ldc2 {idx : Nat} {x : Int64} (hd : decode cc pc = .ok (.ldc2_w idx, 3)) (hc : Cond.constantLong RL idx x ∈ GW) (k : GL Ω R F Z cc nL h (pc + 3) lv (l_ x :: st)) : GL Ω R F Z cc nL h pc lv st :=
  L_w (fun g p l e s m args below meth c H locs ls hO hR M E hK hP hD hS hl kk => lv_ldc2 (v := x) M.1 M.2.1 M.2.2.2.1 (M.2.2.2.2.1 _ hc) hd (kk H locs ls hP hD hS hl)) k
theorem L_ladd {x y : Int64} (hd : decode cc pc = .ok (.ladd, 1)) (k : GL Ω R F Z cc nL h (pc + 1) lv (l_ (x + y) :: st)) : GL Ω R F Z cc nL h pc lv (l_ y :: l_ x :: st) :=
  L_w (fun g p l e s m args below meth c H locs ls hO hR M E hK hP hD hS hl kk => lv_ladd M.1 M.2.1 hd (kk H locs ls hP hD hS hl)) k
theorem L_lmul {x y : Int64} (hd : decode cc pc = .ok (.lmul, 1)) (k : GL Ω R F Z cc nL h (pc + 1) lv (l_ (x * y) :: st)) : GL Ω R F Z cc nL h pc lv (l_ y :: l_ x :: st) :=
  L_w (fun g p l e s m args below meth c H locs ls hO hR M E hK hP hD hS hl kk => lv_lmul M.1 M.2.1 hd (kk H locs ls hP hD hS hl)) k
theorem L_i2l {x : Int} (hd : decode cc pc = .ok (.i2l, 1)) (k : GL Ω R F Z cc nL h (pc + 1) lv (l_ (I x).toInt64 :: st)) : GL Ω R F Z cc nL h pc lv (w_ x :: st) :=
  L_w (fun g p l e s m args below meth c H locs ls hO hR M E hK hP hD hS hl kk => lv_i2l (x := I x) M.1 M.2.1 hd rfl (kk H locs ls hP hD hS hl)) k
/-- two longs that are the same -/
theorem L_lcmpE {x y : Int64} (hd : decode cc pc = .ok (.lcmp, 1)) (hxy : x = y) (k : GL Ω R F Z cc nL h (pc + 1) lv (w_ 0 :: st)) : GL Ω R F Z cc nL h pc lv (l_ y :: l_ x :: st) :=
  L_w (fun g p l e s m args below meth c H locs ls hO hR M E hK hP hD hS hl kk => W.lcmp (x := x) (y := y) M.1 M.2.1 hd (by
    have e1 : lg_cmp x y = I 0 := by
      rw [hxy]
      unfold lg_cmp
      simp
      try rfl
    rw [e1]
    exact kk H locs ls hP hD hS hl)) k
def shrI (x n : Int) : Int := (I x >>> (I n &&& 31)).toInt
theorem shrI_in (x n : Int) : inR (shrI x n) := inR_I _
theorem L_ishr {x n : Int} (hd : decode cc pc = .ok (.ishr, 1)) (k : GL Ω R F Z cc nL h (pc + 1) lv (w_ (shrI x n) :: st)) : GL Ω R F Z cc nL h pc lv (w_ n :: w_ x :: st) :=
  L_w (fun g p l e s m args below meth c H locs ls hO hR M E hK hP hD hS hl kk => lv_ishr (x := I x) (y := I n) M.1 M.2.1 hd (by
    rw [← I_toInt' (I x >>> (I n &&& 31))]
    exact kk H locs ls hP hD hS hl)) k
theorem I_tdiv {x y : Int} (x0 : 0 ≤ x) (x1 : inR x) (y0 : 0 < y) (y1 : inR y) : I x / I y = I (x / y) := by
  rw [← Int32.toInt_inj, Int32.toInt_div, I_toInt x1, I_toInt y1]
  have a : x.tdiv y = x / y := Int.tdiv_eq_ediv_of_nonneg x0
  have b0 : 0 ≤ x / y := Int.ediv_nonneg x0 (by omega)
  have b1 : x / y ≤ x := Int.ediv_le_self y x0
  have x2 := x1.2
  rw [a, I_toInt ⟨by omega, by omega⟩]
  exact Int.bmod_eq_of_le (by omega) (by omega)
theorem L_idiv {x y : Int} (hd : decode cc pc = .ok (.idiv, 1)) (x0 : 0 ≤ x) (x1 : inR x) (y0 : 0 < y) (y1 : inR y) (k : GL Ω R F Z cc nL h (pc + 1) lv (w_ (x / y) :: st)) : GL Ω R F Z cc nL h pc lv (w_ y :: w_ x :: st) :=
  L_w (fun g p l e s m args below meth c H locs ls hO hR M E hK hP hD hS hl kk => lv_idiv (x := I x) (y := I y) M.1 M.2.1 hd (by rw [I_eq0 y1]; omega) (by rw [I_tdiv x0 x1 y0 y1]; exact kk H locs ls hP hD hS hl)) k
theorem L_irem {x y : Int} (hd : decode cc pc = .ok (.irem, 1)) (x0 : 0 ≤ x) (x1 : inR x) (y0 : 0 < y) (y1 : inR y) (k : GL Ω R F Z cc nL h (pc + 1) lv (w_ (x % y) :: st)) : GL Ω R F Z cc nL h pc lv (w_ y :: w_ x :: st) :=
  L_w (fun g p l e s m args below meth c H locs ls hO hR M E hK hP hD hS hl kk => lv_irem (x := I x) (y := I y) M.1 M.2.1 hd (by rw [I_eq0 y1]; omega) (by
    have e1 : I x - I x / I y * I y = I (x % y) := by
      rw [I_tdiv x0 x1 y0 y1, I_mul, I_sub]
      congr 1
      have := Int.mul_ediv_add_emod x y
      rw [Int.mul_comm]
      omega
    rw [e1]
    exact kk H locs ls hP hD hS hl)) k
def andI (x : Int) : Int := (I x &&& I 2147483647).toInt
theorem andI_rng (x : Int) : 0 ≤ andI x ∧ andI x ≤ 2147483647 := by
  have e : (I x &&& I 2147483647).toBitVec.toNat = (I x).toBitVec.toNat % 2147483648 := by
    show ((I x).toBitVec &&& (I 2147483647).toBitVec).toNat = _
    rw [BitVec.toNat_and, show (I 2147483647).toBitVec.toNat = 2147483647 from by decide]
    exact Nat.and_two_pow_sub_one_eq_mod _ 31
  unfold andI
  have h2 : (I x &&& I 2147483647).toInt = (I x &&& I 2147483647).toBitVec.toInt := rfl
  rw [h2, BitVec.toInt_eq_toNat_cond, e]
  have h3 := Nat.mod_lt (I x).toBitVec.toNat (show 0 < 2147483648 by decide)
  split <;> omega
theorem L_iand {x : Int} (hd : decode cc pc = .ok (.iand, 1)) (k : GL Ω R F Z cc nL h (pc + 1) lv (w_ (andI x) :: st)) : GL Ω R F Z cc nL h pc lv (w_ 2147483647 :: w_ x :: st) :=
  L_w (fun g p l e s m args below meth c H locs ls hO hR M E hK hP hD hS hl kk => lv_iand (x := I x) (y := I 2147483647) M.1 M.2.1 hd (by
    rw [← I_toInt' (I x &&& I 2147483647)]
    exact kk H locs ls hP hD hS hl)) k
/-- the top of the stack, told otherwise -/
theorem L_top {x y : Int} (e : x = y) (k : GL Ω R F Z cc nL h pc lv (w_ y :: st)) : GL Ω R F Z cc nL h pc lv (w_ x :: st) := e ▸ k
theorem L_ltop {x y : Int64} (e : x = y) (k : GL Ω R F Z cc nL h pc lv (l_ y :: st)) : GL Ω R F Z cc nL h pc lv (l_ x :: st) := e ▸ k
/-- compares of two numbers that are the same: no range is wanted -/
theorem L_icmp_neE {x y : Int} {off : Int} (hd : decode cc pc = .ok (.if_icmp .ne off, 3)) (ht : 0 ≤ (pc : Int) + off) (hxy : x = y) (k : GL Ω R F Z cc nL h (pc + 3) lv st) : GL Ω R F Z cc nL h pc lv (w_ y :: w_ x :: st) := by
  subst hxy
  exact fun g p l e s m args below meth c H locs ls hO hR M E hK hP hD hS hl => lv_icmp_ne (tgt := ((pc : Int) + off).toNat) (x := I x) (y := I x) M.1 M.2.1 hd (Int.toNat_of_nonneg ht).symm (fun q => absurd rfl q) (fun _ => k g p l e s m args below meth c H locs ls hO hR M E hK hP hD hS hl)
def Outw (g : GP) (post : Option PW → List PO → Prop) (oc : Outcome) (t : State) : Prop := ∃ r h', oc = .returned (r.map (tw g)) ∧ post r h' ∧ va_P (gD g) vwCl (wld g h') t.heap ∧ va_D (gA g) (wld g h')
abbrev Qcw (g : GP) (post : Option PW → List PO → Prop) : Array Value → State → Outcome → State → Prop := fun _ st oc t => Outw g post oc t ∧ va_F (gA g) st t
def PMw (f : Nat) (y : MethodName) (cc : ByteArray) (nL : Nat) (rt : Option FieldType) (h : List PO) (args : List PV) (post : Option PW → List PO → Prop) : Prop :=
  ∀ (l : Launch) (g : GP), Met l y (.code y cc nL rt :: GW) (rm f) (Pcg g h args) (Qcw g post) 0 0 (gA g)
theorem L_back {posty : Option PW → List PO → Prop} {rest st0 : List PW} {a : Array Value}
    {g : GP} {p : Program} {l : Launch} {e : Jvm.Env} {s : State} {m : MethodId} {args : Array Value} {below : List Frame} {meth : Method} {c : Code} {H : Heap} {locs : List Loc} {ls : Array Slot}
    (hO : Ω g s args meth) (hR : RO R F) (M : KX p s m args c cc nL) (E : Env g s) (hK : gK g ≤ s.heap.size) (hS : va_S (gA g) s.heap H locs) (hl : lwh g ls nL lv)
    (hr : va_Run p l e R s m args below meth c H locs R.cells R.slots 0 0 (F0 m pc ls (st0.map (tw g))) (rest.map (tw g)) (Qcw g posty a) (gA g))
    (k : ∀ r h', posty r h' → GL Ω R F Z cc nL h' (pc + 3) lv (r.toList ++ rest)) :
    W p l e R s m args below meth c H locs R.cells R.slots (Z g s args below) (F0 m pc ls (st0.map (tw g))) := by
  intro T hT X
  obtain ⟨v, st₀, t, T', L2, h0, X', hL, e1, e2, ⟨⟨r, h', hv, hp, hP', hD'⟩, hz, hk⟩, hst⟩ := hr T hT X
  cases hv
  rw [h0] at hz hk
  have hS' : va_S (gA g) s.heap T'.heap (locs ++ L2) := ⟨Nat.le_trans hS.1 (by rw [e1]; exact hz), fun q h1 h2 => by rw [e1, hk q (Nat.lt_of_lt_of_le h1 hS.1) h2]; exact hS.2.1 q h1 h2, fun q hq => by
      rcases List.mem_append.mp hq with h | h
      · exact hS.2.2 q h
      · exact hL q h⟩
  obtain ⟨t2, a1, b1⟩ := k r h' hp g p l e s m args below meth c T'.heap (locs ++ L2) ls hO hR M E hK (by rw [e1]; exact hP') hD' hS' hl T' rfl X'
  refine ⟨t2, hst t2 ?_, b1⟩
  have e3 : ((r.toList ++ rest).map (tw g)) = (r.map (tw g)).toList ++ rest.map (tw g) := by
    cases r <;> rfl
  rw [e3] at a1
  exact a1
theorem Qcw_of {g : GP} {post : Option PV → List PO → Prop} {a : Array Value} {s t : State} {oc : Outcome} (h : Qcg g post a s oc t) : Qcw g (fun r h' => ∃ r0, r = r0.map Sum.inl ∧ post r0 h') a s oc t := by
  obtain ⟨⟨r, h', h1, h2, h3, h4⟩, h5⟩ := h
  refine ⟨⟨r.map Sum.inl, h', ?_, ⟨r, rfl, h2⟩, h3, h4⟩, h5⟩
  rw [h1]
  cases r <;> rfl
theorem run_w {p : Program} {l : Launch} {e : Jvm.Env} {s : State} {m : MethodId} {args : Array Value} {below : List Frame} {meth : Method} {c : Code} {H : Heap} {locs : List Loc} {c0 s0 a b : Nat} {f0 : JFrame} {rest : List Value} {Q1 Q2 : State → Outcome → State → Prop} {A : Addr → Prop} (h : va_Run p l e R s m args below meth c H locs c0 s0 a b f0 rest Q1 A) (hq : ∀ s o t, Q1 s o t → Q2 s o t) : va_Run p l e R s m args below meth c H locs c0 s0 a b f0 rest Q2 A := by
  intro T hT X
  obtain ⟨v, st₀, t, T', L2, h0, X', hL, e1, e2, hQ, hst⟩ := h T hT X
  exact ⟨v, st₀, t, T', L2, h0, X', hL, e1, e2, hq _ _ _ hQ, hst⟩
theorem w_rev (g : GP) (as : List PV) (rest : List PW) : (((as.map Sum.inl).reverse ++ rest : List PW).map (tw g)) = (as.map (tr g)).reverse ++ rest.map (tw g) := by
  rw [List.map_append, List.map_reverse, tw_inl]
theorem w_rev2 (g : GP) (as : List PV) (b : Nat) (rest : List PW) : (((as.map Sum.inl).reverse ++ p_ b :: rest : List PW).map (tw g)) = (as.map (tr g)).reverse ++ .ref (gad g b) :: rest.map (tw g) := by
  rw [List.map_append, List.map_reverse, tw_inl]; rfl
theorem L_callV {fy nLy n idx b0 ci : Nat} {C : String} {y : MethodName} {cy : ByteArray} {ry : Option FieldType} {posty : Option PV → List PO → Prop} {as : List PV} {st0 : List PW}
    (hM : PM fy y cy nLy ry h (r_ b0 :: as) posty) (hd : decode cc pc = .ok (.invokevirtual idx, 3)) (hlk : Cond.methodLink RL idx y ∈ GW) (hv : CV C y cy nLy ry n)
    (hb0 : ∃ fs, h[b0]? = some (oO ci fs)) (hc : (vwCl[ci]?).map (fun q => q.1) = some C) (hn : as.length = n) (hf : fy + 1 ≤ F) (hs : cats st ≤ 8) (e0 : st0 = (as.map Sum.inl).reverse ++ p_ b0 :: st)
    (k : ∀ r h', posty r h' → GL Ω R F Z cc nL h' (pc + 3) lv ((r.map Sum.inl).toList ++ st)) : GL Ω R F Z cc nL h pc lv st0 := by
  subst e0
  obtain ⟨fs, hb0⟩ := hb0
  obtain ⟨⟨v1, v2, v3, v4⟩, v5, v6, v7, v8⟩ := hv
  obtain ⟨q, hq, rfl⟩ : ∃ q : vw_C, vwCl[ci]? = some q ∧ q.1 = C := by
    cases hq : vwCl[ci]? with
    | none => rw [hq] at hc; cases hc
    | some q => rw [hq] at hc; exact ⟨q, rfl, Option.some.inj hc⟩
  intro g p l e s m args below meth c H locs ls hO hR M E hK hP hD hS hlv
  have hts := M.2.2.2.2.1
  have hm := hM l g
  refine L_back (rest := st) (a := ((r_ b0 :: as).map (tr g)).toArray) (posty := fun r h' => ∃ r0, r = r0.map Sum.inl ∧ posty r0 h') hO hR M E hK hS hlv (run_w (va_runV (R := R) (As := as.map (tr g)) (rest := st.map (tw g)) ⟨M.1, M.2.1, M.2.2.1, M.2.2.2.1, hts⟩ hm (cwV n hts (gw_in (fun w hw => ?_)) rfl rfl rfl ⟨v7, v3⟩ (hR fy nLy hf v4)) ⟨In.blind, va_recv E.1 hP hq (wld_get hb0), fun U hU hW => ⟨rfl, by rw [hU]; exact Nat.le_trans hK hS.1, by rw [hU]; exact hP, hD, E.go hW hU hS⟩⟩ rfl (by simpa using hn) hlv.1 (w_rev2 g as b0 st) (lv_room (by rw [tw_sum]; exact hs)) hd ⟨Nat.le_refl _, Nat.le_refl _⟩) (fun _ _ _ hQ => Qcw_of hQ)) (fun r h' hp => ?_)
  · unfold wsV at hw
    rcases List.mem_append.mp hw with hw | hw
    · simp only [List.mem_cons, List.not_mem_nil, or_false] at hw
      rcases hw with rfl | rfl | rfl | rfl
      · exact hlk
      · exact v5
      · exact v6
      · exact v8
    · exact gw_code v2 w hw
  · obtain ⟨r0, rfl, hp⟩ := hp
    exact k r0 h' hp
theorem L_callS {fy nLy n idx : Nat} {y : MethodName} {cy : ByteArray} {ry : Option FieldType} {posty : Option PW → List PO → Prop} {as : List PV} {st0 : List PW}
    (hM : PMw fy y cy nLy ry h as posty) (hd : decode cc pc = .ok (.invokestatic idx, 3)) (hlk : Cond.methodLink RL idx y ∈ GW) (hv : CS y cy nLy ry n)
    (hn : as.length = n) (hf : fy + 1 ≤ F) (hs : cats st ≤ 8) (e0 : st0 = (as.map Sum.inl).reverse ++ st)
    (k : ∀ r h', posty r h' → GL Ω R F Z cc nL h' (pc + 3) lv (r.toList ++ st)) : GL Ω R F Z cc nL h pc lv st0 := by
  subst e0
  obtain ⟨⟨v1, v2, v3, v4⟩, v5⟩ := hv
  intro g p l e s m args below meth c H locs ls hO hR M E hK hP hD hS hlv
  have hts := M.2.2.2.2.1
  have hm := hM l g
  refine L_back (rest := st) (a := (as.map (tr g)).toArray) (posty := posty) hO hR M E hK hS hlv (va_runS (R := R) (As := as.map (tr g)) (rest := st.map (tw g)) ⟨M.1, M.2.1, M.2.2.1, M.2.2.2.1, hts⟩ hm (va_cwS n hts (gw_in (fun w hw => ?_)) rfl rfl rfl v3 (hR fy nLy hf v4)) ⟨In.blind, fun U hU hW => ⟨rfl, by rw [hU]; exact Nat.le_trans hK hS.1, by rw [hU]; exact hP, hD, E.go hW hU hS⟩⟩ rfl (by simpa using hn) hlv.1 (w_rev g as st) (lv_room (by rw [tw_sum]; exact hs)) hd ⟨Nat.le_refl _, Nat.le_refl _⟩) k
  unfold va_wsS at hw
  rcases List.mem_append.mp hw with hw | hw
  · simp only [List.mem_cons, List.not_mem_nil, or_false] at hw
    rcases hw with rfl | rfl | rfl
    · exact hlk
    · exact v5
    · exact v1
  · exact gw_code v2 w hw
end LR
/-! a method of the law -/
def Om (rt : Option FieldType) : GP → State → Array Value → Method → Prop := fun _ _ _ meth => meth.sig.returnType = rt ∧ meth.locks = false
def Zm (post : Option PW → List PO → Prop) : GP → State → Array Value → List Frame → State → Prop := fun g s args below => MQ below (Qcw g post) args s 0 0 (gA g)
abbrev GM (f : Nat) (cc : ByteArray) (nL : Nat) (rt : Option FieldType) (h : List PO) (pc : Nat) (lv : List (Option PW)) (st : List PW) (post : Option PW → List PO → Prop) : Prop := GL (Om rt) (rm f) f (Zm post) cc nL h pc lv st
section MR
variable {f : Nat} {cc : ByteArray} {nL : Nat} {rt : Option FieldType} {h : List PO} {pc : Nat} {lv : List (Option PW)} {post : Option PW → List PO → Prop}
theorem M_ireturn {x : Int} (hd : decode cc pc = .ok (.ireturn, 1)) (hr : rt = some .int) (hp : post (some (w_ x)) h) : GM f cc nL rt h pc lv [w_ x] post := by
  intro g p l e s m args below meth c H locs ls hO hR M E hK hP hD hS hl
  have hlocks : meth.locks = false := hO.2
  exact W.iret (v := I x) M.1 M.2.1 (hO.1.trans hr) (fun t ht hW => ⟨⟨some (w_ x), h, rfl, hp, by rw [ht]; exact hP, hD⟩, hS.F ht⟩) hS.2.2 hd hlocks
theorem M_zreturn {x : Int} (hd : decode cc pc = .ok (.ireturn, 1)) (hr : rt = some .boolean) (hx : x = 0 ∨ x = 1) (hp : post (some (w_ x)) h) : GM f cc nL rt h pc lv [w_ x] post := by
  intro g p l e s m args below meth c H locs ls hO hR M E hK hP hD hS hl
  have hlocks : meth.locks = false := hO.2
  exact W.zret (v := I x) (ty := .boolean) M.1 M.2.1 (hO.1.trans hr) (by rcases hx with rfl | rfl <;> rfl) (fun t ht hW => ⟨⟨some (w_ x), h, rfl, hp, by rw [ht]; exact hP, hD⟩, hS.F ht⟩) hS.2.2 hd hlocks
theorem M_lreturn {x : Int64} (hd : decode cc pc = .ok (.lreturn, 1)) (hr : rt = some .long) (hp : post (some (l_ x)) h) : GM f cc nL rt h pc lv [l_ x] post := by
  intro g p l e s m args below meth c H locs ls hO hR M E hK hP hD hS hl
  have hlocks : meth.locks = false := hO.2
  exact W.lret (v := x) M.1 M.2.1 (hO.1.trans hr) (fun t ht hW => ⟨⟨some (l_ x), h, rfl, hp, by rw [ht]; exact hP, hD⟩, hS.F ht⟩) hS.2.2 hd hlocks
end MR
theorem lwl_args (g : GP) (args : List PV) (k : Nat) : ∀ n : Nat, lwl g n ((args.map (fun v => some (Sum.inl v : PW))) ++ List.replicate k none) = lvl g n (args.map some ++ List.replicate k none) := by
  induction args with
  | nil =>
    intro n
    induction k generalizing n with
    | zero => rfl
    | succ k ih =>
      have := ih (n + 1)
      simp only [List.map_nil, List.nil_append] at this ⊢
      simp only [List.replicate_succ, lwl, lvl]
      exact this
  | cons v t ih =>
    intro n
    simp only [List.map_cons, List.cons_append, lwl, lvl]
    rw [ih (n + 1)]
    rfl
theorem PMw_of {f : Nat} {y : MethodName} {cc : ByteArray} {nL : Nat} {rt : Option FieldType} {h : List PO} {args : List PV} {post : Option PW → List PO → Prop} (lv : List (Option PW))
    (ho : y.cls = RL) (hy : plainName y.cls = true) (hn : args.length ≤ nL) (hlv : args.map (fun v => some (Sum.inl v : PW)) ++ List.replicate (nL - args.length) none = lv)
    (k : GM f cc nL rt h 0 lv [] post) : PMw f y cc nL rt h args post := by
  intro l g
  refine Met.ofW (cc := cc) (maxL := nL) (ret := rt) hy rfl ?_
  intro p e s m a below meth c s₁ B hml hv
  obtain ⟨rfl, hK, hP, hD, hE⟩ := hv
  have hts := atoms_spec (ws := .code y cc nL rt :: GW) B.pre
  have hown : s.vm.findClass RL = some m.cls := by rw [← ho]; exact findClass_of_methodNamed B.named
  have hl := lv_entry (args.map (tr g)) (n := nL) (by rw [lg_sl_len]; exact hn)
  rw [lg_entry_eq]
  rw [lv_args_lvl g args 0 (nL - args.length), ← lwl_args g args (nL - args.length) 0, hlv] at hl
  exact k g p l e s m _ below meth c s.heap [] _ ⟨B.returns, B.notSynchronized⟩ (ro_m f) ⟨B.exec, B.bytes, hml, hown, fun w hw => hts w (List.mem_cons_of_mem _ hw), trivial⟩ hE hK hP hD va_S.rf hl
end
section
/-! what every state keeps beside OKt: the bed bears the wedge, the accounts of the wells, the farthest cell -/
def XI (v : SV) : Prop := (∀ c : Int, 0 ≤ c → c < 40 → v 1 c ≤ v 0 c ∧ v 2 c ≤ v 0 c ∧ 0 ≤ v 3 c ∧ v 3 c ≤ v 11 2 ∧ (0 < v 2 c → c ≤ v 11 3)) ∧
  (∀ w : Int, 0 ≤ w → w < v 11 0 → (v 7 w = 1 → 1 ≤ v 6 w ∧ 1 ≤ v 9 w) ∧ 0 ≤ v 8 w ∧ v 8 w ≤ 30 * v 11 2 ∧ 0 ≤ v 9 w ∧ v 9 w ≤ v 11 2)
theorem XI.dig {v : SV} {c d : Int} (h : XI v) : XI (digV v c d) := by
  unfold digV
  by_cases q : 0 ≤ digR v c d
  · rw [if_pos q]
    unfold digR at q
    by_cases a : ¬ (0 ≤ c ∧ c < 40)
    · rw [if_pos a] at q; omega
    rw [if_neg a] at q
    by_cases b : ¬ (1 ≤ d ∧ d ≤ 60)
    · rw [if_pos b] at q; omega
    rw [if_neg b] at q
    by_cases e : d < v 2 c ∨ d < v 1 c
    · rw [if_pos e] at q; omega
    refine ⟨fun j j0 j1 => ?_, h.2⟩
    have hj := h.1 j j0 j1
    show v 1 j ≤ fup (v 0) c d j ∧ v 2 j ≤ fup (v 0) c d j ∧ 0 ≤ v 3 j ∧ v 3 j ≤ v 11 2 ∧ (0 < v 2 j → j ≤ v 11 3)
    by_cases z : j = c
    · rw [z] at hj ⊢
      rw [fup_eq]
      exact ⟨by omega, by omega, hj.2.2⟩
    · rw [fup_ne z]; exact hj
  · rw [if_neg q]; exact h
theorem XI.build {v : SV} {c d : Int} (h : XI v) : XI (buildV v c d) := by
  unfold buildV
  by_cases q : 0 ≤ buildR v c d
  · rw [if_pos q]
    unfold buildR at q
    by_cases a : ¬ (0 ≤ c ∧ c < 40)
    · rw [if_pos a] at q; omega
    rw [if_neg a] at q
    by_cases b : ¬ (0 ≤ d ∧ d ≤ 60)
    · rw [if_pos b] at q; omega
    rw [if_neg b] at q
    by_cases e : v 0 c < d
    · rw [if_pos e] at q; omega
    refine ⟨fun j j0 j1 => ?_, h.2⟩
    have hj := h.1 j j0 j1
    show fup (v 1) c d j ≤ v 0 j ∧ v 2 j ≤ v 0 j ∧ 0 ≤ v 3 j ∧ v 3 j ≤ v 11 2 ∧ (0 < v 2 j → j ≤ v 11 3)
    by_cases z : j = c
    · rw [z] at hj ⊢
      rw [fup_eq]
      exact ⟨by omega, hj.2⟩
    · rw [fup_ne z]; exact hj
  · rw [if_neg q]; exact h
theorem XI.flow {v : SV} {q : Int} (h : XI v) : XI (flowV v q) := by
  unfold flowV
  by_cases z : 0 ≤ flowR v q
  · rw [if_pos z]; exact ⟨h.1, h.2⟩
  · rw [if_neg z]; exact h
theorem XI.set {v : SV} {w q : Int} (h : XI v) : XI (setV v w q) := by
  unfold setV
  by_cases z : 0 ≤ setR v w q
  · rw [if_pos z]; exact ⟨h.1, h.2⟩
  · rw [if_neg z]; exact h
theorem XI.rate {v : SV} {w q : Int} (h : XI v) : XI (rateV v w q) := by
  unfold rateV
  by_cases z : 0 ≤ rateR (v 5) (v 11 0) w q
  · rw [if_pos z]; exact ⟨h.1, h.2⟩
  · rw [if_neg z]; exact h
theorem XI.sink {v : SV} {k q : Int} (h : XI v) (ht : 0 ≤ v 11 2) : XI (sinkV v k q) := by
  unfold sinkV
  by_cases z : 0 ≤ sinkR (v 4) (v 11 0) k q
  · rw [if_pos z]
    refine ⟨h.1, fun w w0 w1 => ?_⟩
    have w1' : w < v 11 0 + 1 := w1
    show (fup (v 7) (v 11 0) 0 w = 1 → 1 ≤ fup (v 6) (v 11 0) 0 w ∧ 1 ≤ fup (v 9) (v 11 0) 0 w) ∧ 0 ≤ fup (v 8) (v 11 0) 0 w ∧ fup (v 8) (v 11 0) 0 w ≤ 30 * v 11 2 ∧ 0 ≤ fup (v 9) (v 11 0) 0 w ∧ fup (v 9) (v 11 0) 0 w ≤ v 11 2
    by_cases e : w = v 11 0
    · rw [e, fup_eq, fup_eq, fup_eq, fup_eq]
      exact ⟨fun x => absurd x (by decide), by omega, by omega, by omega, by omega⟩
    · rw [fup_ne e, fup_ne e, fup_ne e, fup_ne e]
      exact h.2 w w0 (by omega)
  · rw [if_neg z]; exact h
theorem XI.fill {v : SV} {k : Int} (h : XI v) : XI (fillV v k) := by
  unfold fillV
  by_cases z : 0 ≤ k ∧ k < v 11 0
  · rw [if_pos z]
    refine ⟨h.1, fun w w0 w1 => ?_⟩
    have w1' : w < v 11 0 - 1 := w1
    show (gapF (v 7) k w = 1 → 1 ≤ gapF (v 6) k w ∧ 1 ≤ gapF (v 9) k w) ∧ 0 ≤ gapF (v 8) k w ∧ gapF (v 8) k w ≤ 30 * v 11 2 ∧ 0 ≤ gapF (v 9) k w ∧ gapF (v 9) k w ≤ v 11 2
    have r := giI_rng (w := k) (n := v 11 0) z.1 w0 w1'
    rw [gapF_gi, gapF_gi, gapF_gi, gapF_gi]
    exact h.2 _ r.1 r.2
  · rw [if_neg z]; exact h
theorem reachN_ge {q : Int → Int} {c : Int} (c0 : 0 ≤ c) (h : 0 < q c) : ∀ n : Nat, c < n → c ≤ reachN q n := by
  intro n
  induction n with
  | zero => intro x; omega
  | succ n ih =>
    intro x
    show c ≤ (if 0 < q n then (n : Int) else reachN q n)
    by_cases e : 0 < q n
    · rw [if_pos e]; omega
    · rw [if_neg e]
      have ne : ¬ c = n := fun z => e (z ▸ h)
      exact ih (by omega)
theorem moveI_le {q m b d : Int} (hb : 0 ≤ b) (hq : q ≤ d) (hm : m ≤ d) : moveI q m b ≤ d := by
  unfold moveI
  by_cases e : q < m
  · rw [if_pos e]; omega
  · rw [if_neg e]; omega
theorem XI.tide {v : SV} {r : Int} (h : XI v) (ho : OK v) (ht : 0 ≤ v 11 2) : XI (tideV r v) := by
  have ho2 := ho.tide (rise := r)
  obtain ⟨⟨hrd, hrs, hrh⟩, hset, ⟨hn, hf, hfa⟩, ⟨hc, hr, hs, hz⟩, h49, hdi⟩ := ho
  have hs2 : RG 0 300 (v 11 0) (tideS r v) := ho2.2.2.2.1.2.2.1
  have hH2 : RG 0 60 40 (tideH r v) := ho2.1.2.2
  refine ⟨fun c c0 c1 => ?_, fun w w0 w1 => ?_⟩
  · have hc9 := h.1 c c0 c1
    have d9 := hrd c c0 c1
    have s9 := hrs c c0 c1
    have hh9 := hH2 c c0 c1
    show v 1 c ≤ v 0 c ∧ tideH r v c ≤ v 0 c ∧ 0 ≤ v 3 c + wetI (tideH r v) c ∧ v 3 c + wetI (tideH r v) c ≤ v 11 2 + 1 ∧ (0 < tideH r v c → c ≤ max (v 11 3) (reachN (tideH r v) 40))
    have m9 := mkf_rng (o := offI (pushI v r) (v 10 1) (v 1) (v 0) c) s9.1 d9.1
    have e1 : tideH r v c ≤ v 0 c := moveI_le (by have := hset.2.2.1; omega) (by omega) m9.2
    have e2 : 0 ≤ wetI (tideH r v) c ∧ wetI (tideH r v) c ≤ 1 := by
      unfold wetI
      by_cases e : 0 < tideH r v c
      · rw [if_pos e]; omega
      · rw [if_neg e]; omega
    refine ⟨by omega, e1, by omega, by omega, fun q => ?_⟩
    have := reachN_ge c0 q 40 (by omega)
    omega
  · have w1' : w < v 11 0 := w1
    have hw := h.2 w w0 w1'
    have sw := hs2 w w0 w1'
    have rw_ := hr w w0 w1'
    have zw := hz w w0 w1'
    show (resF (tideS r v) (v 11 0) (v 7) w = 1 → 1 ≤ tideS r v w ∧ 1 ≤ turF (tideS r v) (v 7) (v 11 0) (v 9) w) ∧ 0 ≤ draF (v 5) (v 7) (v 11 0) (v 8) w ∧ draF (v 5) (v 7) (v 11 0) (v 8) w ≤ 30 * (v 11 2 + 1) ∧ 0 ≤ turF (tideS r v) (v 7) (v 11 0) (v 9) w ∧ turF (tideS r v) (v 7) (v 11 0) (v 9) w ≤ v 11 2 + 1
    unfold resF turF draF
    rw [if_pos ⟨w0, w1'⟩]
    by_cases a : v 7 w = 0 ∧ 50 ≤ tideS r v w
    · rw [if_pos a, if_pos ⟨⟨w0, w1'⟩, a⟩, if_pos ⟨⟨w0, w1'⟩, a.1⟩]
      omega
    · have a2 : ¬ ((0 ≤ w ∧ w < v 11 0) ∧ v 7 w = 0 ∧ 50 ≤ tideS r v w) := fun q => a q.2
      rw [if_neg a, if_neg a2]
      have d1 : 0 ≤ (if (0 ≤ w ∧ w < v 11 0) ∧ v 7 w = 0 then v 8 w + v 5 w else v 8 w) ∧ (if (0 ≤ w ∧ w < v 11 0) ∧ v 7 w = 0 then v 8 w + v 5 w else v 8 w) ≤ 30 * (v 11 2 + 1) := by
        by_cases b : (0 ≤ w ∧ w < v 11 0) ∧ v 7 w = 0
        · rw [if_pos b]; omega
        · rw [if_neg b]; omega
      refine ⟨fun q => ?_, d1.1, d1.2, by omega, by omega⟩
      by_cases b : tideS r v w = 0
      · rw [if_pos b] at q; omega
      · rw [if_neg b] at q
        have := hw.1 q
        omega
theorem XI.it {v : SV} {r : Int} (h : XI v) (ho : OK v) (ht : 0 ≤ v 11 2) : ∀ n : Nat, XI (itV r v n) := by
  intro n
  induction n with
  | zero => exact h
  | succ n ih => exact ih.tide (ho.it n) (by rw [itV_tides]; omega)
theorem XI.tides {v : SV} {a b : Int} (h : XI v) (ho : OK v) (ht : 0 ≤ v 11 2) : XI (tidesV v a b) := by
  unfold tidesV
  by_cases z : 0 ≤ tidesR v a b
  · rw [if_pos z]; exact h.it ho ht _
  · rw [if_neg z]; exact h
/-! an act: its kind and its two numbers -/
abbrev OP : Type := Int × Int × Int
def opR (v : SV) (t : OP) : Int := if t.1 = 0 then digR v t.2.1 t.2.2 else if t.1 = 1 then buildR v t.2.1 t.2.2 else if t.1 = 2 then flowR v t.2.1 else if t.1 = 3 then setR v t.2.1 t.2.2 else if t.1 = 4 then sinkR (v 4) (v 11 0) t.2.1 t.2.2 else if t.1 = 5 then fillR (v 6) (v 11 0) t.2.1 else if t.1 = 6 then rateR (v 5) (v 11 0) t.2.1 t.2.2 else tidesR v t.2.1 t.2.2
def opV (v : SV) (t : OP) : SV := if t.1 = 0 then digV v t.2.1 t.2.2 else if t.1 = 1 then buildV v t.2.1 t.2.2 else if t.1 = 2 then flowV v t.2.1 else if t.1 = 3 then setV v t.2.1 t.2.2 else if t.1 = 4 then sinkV v t.2.1 t.2.2 else if t.1 = 5 then fillV v t.2.1 else if t.1 = 6 then rateV v t.2.1 t.2.2 else tidesV v t.2.1 t.2.2
theorem op_cases (v : SV) (t : OP) : (opR v t = digR v t.2.1 t.2.2 ∧ opV v t = digV v t.2.1 t.2.2) ∨ (opR v t = buildR v t.2.1 t.2.2 ∧ opV v t = buildV v t.2.1 t.2.2) ∨ (opR v t = flowR v t.2.1 ∧ opV v t = flowV v t.2.1) ∨ (opR v t = setR v t.2.1 t.2.2 ∧ opV v t = setV v t.2.1 t.2.2) ∨ (opR v t = sinkR (v 4) (v 11 0) t.2.1 t.2.2 ∧ opV v t = sinkV v t.2.1 t.2.2) ∨ (opR v t = fillR (v 6) (v 11 0) t.2.1 ∧ opV v t = fillV v t.2.1) ∨ (opR v t = rateR (v 5) (v 11 0) t.2.1 t.2.2 ∧ opV v t = rateV v t.2.1 t.2.2) ∨ (opR v t = tidesR v t.2.1 t.2.2 ∧ opV v t = tidesV v t.2.1 t.2.2) := by
  unfold opR opV
  by_cases a : t.1 = 0
  · rw [if_pos a, if_pos a]; exact Or.inl ⟨rfl, rfl⟩
  rw [if_neg a, if_neg a]
  by_cases b : t.1 = 1
  · rw [if_pos b, if_pos b]; exact Or.inr (Or.inl ⟨rfl, rfl⟩)
  rw [if_neg b, if_neg b]
  by_cases c : t.1 = 2
  · rw [if_pos c, if_pos c]; exact Or.inr (Or.inr (Or.inl ⟨rfl, rfl⟩))
  rw [if_neg c, if_neg c]
  by_cases d : t.1 = 3
  · rw [if_pos d, if_pos d]; exact Or.inr (Or.inr (Or.inr (Or.inl ⟨rfl, rfl⟩)))
  rw [if_neg d, if_neg d]
  by_cases e : t.1 = 4
  · rw [if_pos e, if_pos e]; exact Or.inr (Or.inr (Or.inr (Or.inr (Or.inl ⟨rfl, rfl⟩))))
  rw [if_neg e, if_neg e]
  by_cases f : t.1 = 5
  · rw [if_pos f, if_pos f]; exact Or.inr (Or.inr (Or.inr (Or.inr (Or.inr (Or.inl ⟨rfl, rfl⟩)))))
  rw [if_neg f, if_neg f]
  by_cases g : t.1 = 6
  · rw [if_pos g, if_pos g]; exact Or.inr (Or.inr (Or.inr (Or.inr (Or.inr (Or.inr (Or.inl ⟨rfl, rfl⟩))))))
  rw [if_neg g, if_neg g]
  exact Or.inr (Or.inr (Or.inr (Or.inr (Or.inr (Or.inr (Or.inr ⟨rfl, rfl⟩))))))
theorem OKt.op {v : SV} (t : OP) (h : OKt v) : OKt (opV v t) := by
  rcases op_cases v t with ⟨-, e⟩ | ⟨-, e⟩ | ⟨-, e⟩ | ⟨-, e⟩ | ⟨-, e⟩ | ⟨-, e⟩ | ⟨-, e⟩ | ⟨-, e⟩ <;> rw [e]
  · exact h.dig
  · exact h.build
  · exact h.flow
  · exact h.set
  · exact h.sink
  · exact h.fill
  · exact h.rate
  · exact h.tides
theorem XI.op {v : SV} (t : OP) (h : XI v) (ho : OKt v) : XI (opV v t) := by
  rcases op_cases v t with ⟨-, e⟩ | ⟨-, e⟩ | ⟨-, e⟩ | ⟨-, e⟩ | ⟨-, e⟩ | ⟨-, e⟩ | ⟨-, e⟩ | ⟨-, e⟩ <;> rw [e]
  · exact h.dig
  · exact h.build
  · exact h.flow
  · exact h.set
  · exact h.sink ho.2.1
  · exact h.fill
  · exact h.rate
  · exact h.tides ho.1 ho.2.1
theorem op_rng {v : SV} (t : OP) (h : OK v) : -5 ≤ opR v t ∧ opR v t ≤ 300 := by
  rcases op_cases v t with ⟨e, -⟩ | ⟨e, -⟩ | ⟨e, -⟩ | ⟨e, -⟩ | ⟨e, -⟩ | ⟨e, -⟩ | ⟨e, -⟩ | ⟨e, -⟩ <;> rw [e]
  · have := digR_rng (c := t.2.1) (d := t.2.2) h; omega
  · have := buildR_rng (c := t.2.1) (d := t.2.2) h; omega
  · have := flowR_rng (q := t.2.1) h; omega
  · have := setR_rng (w := t.2.1) (q := t.2.2) h; omega
  · have := sinkR_rng (k := t.2.1) (q := t.2.2) h; omega
  · exact fillR_rng h
  · have := rateR_rng (w := t.2.1) (q := t.2.2) h; omega
  · have := tidesR_rng (v := v) (a := t.2.1) (b := t.2.2); omega
/-- an error, or NONE, changes nothing -/
theorem op_neg {v : SV} (t : OP) (ho : OK v) (h : opR v t < 0) : opV v t = v := by
  rcases op_cases v t with ⟨e, f⟩ | ⟨e, f⟩ | ⟨e, f⟩ | ⟨e, f⟩ | ⟨e, f⟩ | ⟨e, f⟩ | ⟨e, f⟩ | ⟨e, f⟩ <;> rw [f] <;> rw [e] at h
  · exact if_neg (by omega)
  · exact if_neg (by omega)
  · exact if_neg (by omega)
  · exact if_neg (by omega)
  · exact if_neg (by omega)
  · refine if_neg (fun q => ?_)
    unfold fillR at h
    rw [if_pos q] at h
    have := ho.2.2.2.1.2.2.1 _ q.1 q.2
    omega
  · exact if_neg (by omega)
  · exact if_neg (by omega)
theorem op_tides {v : SV} (t : OP) {N : Int} (hN : 0 ≤ N) (h : t.2.2 ≤ N) : opV v t 11 2 ≤ v 11 2 + N := by
  rcases op_cases v t with ⟨-, e⟩ | ⟨-, e⟩ | ⟨-, e⟩ | ⟨-, e⟩ | ⟨-, e⟩ | ⟨-, e⟩ | ⟨-, e⟩ | ⟨-, e⟩ <;> rw [e]
  · unfold digV; split <;> (show v 11 2 ≤ _; omega)
  · unfold buildV; split <;> (show v 11 2 ≤ _; omega)
  · unfold flowV; split <;> (show v 11 2 ≤ _; omega)
  · unfold setV; split <;> (show v 11 2 ≤ _; omega)
  · unfold sinkV; split <;> (show v 11 2 ≤ _; omega)
  · unfold fillV; split <;> (show v 11 2 ≤ _; omega)
  · unfold rateV; split <;> (show v 11 2 ≤ _; omega)
  · unfold tidesV
    split
    · rw [itV_tides]; omega
    · omega
/-! the history: undo takes an act back -/
theorem und_act {v V : SV} {hv : Int → SV} {sz R : Int} (hR : 0 ≤ R) (h0 : 0 ≤ sz) (h4 : sz ≤ 4) : undV V (hvA hv sz v R) (szA sz R) = v ∧ undR (szA sz R) = (if sz < 4 then sz else 3) ∧ undZ (szA sz R) = (if sz < 4 then sz else 3) ∧ szA sz R = (if sz < 4 then sz + 1 else 4) := by
  unfold undV undR undZ hvA szA
  rw [if_pos hR, if_pos hR]
  unfold addH addZ
  by_cases q : sz < 4
  · simp only [if_pos q]
    have e1 : ¬ sz + 1 = 0 := by omega
    have e2 : sz + 1 - 1 = sz := by omega
    simp only [if_neg e1, e2]
    exact ⟨if_pos rfl, trivial, trivial, trivial⟩
  · simp only [if_neg q]
    exact ⟨rfl, rfl, rfl, trivial⟩
/-! wells beside cells -/
theorem besN_is {q : Int → Int} {c : Int} : ∀ n : Nat, besN q c n = -5 ∨ 0 ≤ besN q c n ∧ besN q c n < n ∧ q (besN q c n) = c := by
  intro n
  induction n with
  | zero => exact Or.inl rfl
  | succ n ih =>
    have e : besN q c (n + 1) = if q n = c then (n : Int) else besN q c n := rfl
    by_cases z : q n = c
    · rw [e, if_pos z]; exact Or.inr ⟨by omega, by omega, z⟩
    · rw [e, if_neg z]
      rcases ih with a | ⟨a, b, d⟩
      · exact Or.inl a
      · exact Or.inr ⟨a, by omega, d⟩
theorem besN_at {q : Int → Int} {n : Nat} (hd : ∀ w u : Int, 0 ≤ w → w < n → 0 ≤ u → u < n → q w = q u → w = u) {k : Int} (k0 : 0 ≤ k) (k1 : k < n) : besN q (q k) n = k := by
  rcases besN_is (q := q) (c := q k) n with a | ⟨a, b, d⟩
  · exact absurd rfl (besN_no n a k k0 k1)
  · exact hd _ _ a b k0 k1 d
def cntB (q : Int → Int) (n : Nat) : Nat → Int
  | 0 => 0
  | m + 1 => cntB q n m + (if 0 ≤ besN q m n then 1 else 0)
theorem cntB_0 {q : Int → Int} : ∀ m : Nat, cntB q 0 m = 0 := by
  intro m
  induction m with
  | zero => rfl
  | succ m ih =>
    show cntB q 0 m + (if (0 : Int) ≤ -5 then 1 else 0) = 0
    rw [ih]; rfl
theorem cntB_s {q : Int → Int} {n : Nat} (hd : ∀ w : Int, 0 ≤ w → w < n → q w ≠ q n) : ∀ m : Nat, cntB q (n + 1) m = cntB q n m + (if 0 ≤ q n ∧ q n < m then 1 else 0) := by
  intro m
  induction m with
  | zero =>
    show (0 : Int) = 0 + (if 0 ≤ q n ∧ q n < ((0 : Nat) : Int) then 1 else 0)
    rw [if_neg (by omega)]; omega
  | succ m ih =>
    have e : besN q m (n + 1) = if q n = m then (n : Int) else besN q m n := rfl
    show cntB q (n + 1) m + (if 0 ≤ besN q m (n + 1) then 1 else 0) = cntB q n m + (if 0 ≤ besN q m n then 1 else 0) + (if 0 ≤ q n ∧ q n < ((m + 1 : Nat) : Int) then 1 else 0)
    rw [ih, e]
    by_cases z : q n = m
    · have z1 : ¬ (0 ≤ q n ∧ q n < (m : Int)) := by omega
      have z2 : 0 ≤ q n ∧ q n < ((m + 1 : Nat) : Int) := by omega
      have z3 : (0 : Int) ≤ (n : Int) := by omega
      rw [if_pos z, if_neg z1, if_pos z2, if_pos z3]
      have hb : ¬ 0 ≤ besN q m n := by
        rcases besN_is (q := q) (c := m) n with a | ⟨a, b, d⟩
        · rw [a]; omega
        · exact absurd (d.trans z.symm) (hd _ a b)
      rw [if_neg hb]
    · rw [if_neg z]
      by_cases y : 0 ≤ q n ∧ q n < (m : Int)
      · rw [if_pos y, if_pos (c := 0 ≤ q n ∧ q n < ((m + 1 : Nat) : Int)) (by omega)]; omega
      · rw [if_neg y, if_neg (c := 0 ≤ q n ∧ q n < ((m + 1 : Nat) : Int)) (by omega)]; omega
/-- as many cells have a well beside them as there are wells -/
theorem cntB_is {q : Int → Int} : ∀ n : Nat, (∀ w : Int, 0 ≤ w → w < n → 0 ≤ q w ∧ q w ≤ 39) → (∀ w u : Int, 0 ≤ w → w < n → 0 ≤ u → u < n → q w = q u → w = u) → cntB q n 40 = n := by
  intro n
  induction n with
  | zero => intro _ _; exact cntB_0 40
  | succ n ih =>
    intro hr hd
    have e := cntB_s (q := q) (n := n) (fun w w0 w1 z => by have := hd w n w0 (by omega) (by omega) (by omega) z; omega) 40
    have r := hr n (by omega) (by omega)
    rw [e, ih (fun w a b => hr w a (by omega)) (fun w u a b c d => hd w u a (by omega) c (by omega)), if_pos (by omega)]
    omega
/-! tides -/
theorem itV_add {v : SV} {r : Int} (a : Nat) : ∀ b : Nat, itV r (itV r v a) b = itV r v (a + b) := by
  intro b
  induction b with
  | zero => rfl
  | succ b ih =>
    show tideV r (itV r (itV r v a) b) = tideV r (itV r v (a + b))
    rw [ih]
theorem tides_do {v : SV} {r t : Int} (hr : -30 ≤ r ∧ r ≤ 30) (ht : 1 ≤ t ∧ t ≤ 99) (hT : v 11 2 + t ≤ 99999) : tidesR v r t = sumN (wetI (itV r v t.toNat 2)) 40 ∧ tidesV v r t = itV r v t.toNat ∧ 0 ≤ tidesR v r t := by
  have e : tidesR v r t = sumN (wetI (itV r v t.toNat 2)) 40 := by
    unfold tidesR
    rw [if_neg (fun q => q ⟨hr, ht⟩), if_neg (by omega)]
  have w := wet_rng (q := itV r v t.toNat 2) 40
  refine ⟨e, ?_, by rw [e]; omega⟩
  unfold tidesV
  rw [if_pos (by rw [e]; omega)]
/-- the first tide behind which the well rests -/
theorem riN_is {v : SV} {w r : Int} : ∀ fu : Nat, fu ≤ 300 → (riN v w r fu = -5 ∧ ∀ j : Nat, 300 - fu < j → j ≤ 300 → itV r v j 7 w ≠ 1) ∨ ∃ i : Nat, 300 - fu < i ∧ i ≤ 300 ∧ riN v w r fu = i ∧ itV r v i 7 w = 1 ∧ ∀ j : Nat, 300 - fu < j → j < i → itV r v j 7 w ≠ 1 := by
  intro fu
  induction fu with
  | zero => intro _; exact Or.inl ⟨rfl, fun j a b => by omega⟩
  | succ fu ih =>
    intro hf
    have e : riN v w r (fu + 1) = if itV r v (300 - fu) 7 w = 1 then 300 - (fu : Int) else riN v w r fu := rfl
    by_cases q : itV r v (300 - fu) 7 w = 1
    · rw [if_pos q] at e
      exact Or.inr ⟨300 - fu, by omega, by omega, by rw [e]; omega, q, fun j a b => by omega⟩
    · rw [if_neg q] at e
      rcases ih (by omega) with ⟨a, b⟩ | ⟨i, a, b, c, d, f⟩
      · refine Or.inl ⟨e.trans a, fun j x y => ?_⟩
        by_cases z : j = 300 - fu
        · rw [z]; exact q
        · exact b j (by omega) y
      · refine Or.inr ⟨i, by omega, b, e.trans c, d, fun j x y => ?_⟩
        by_cases z : j = 300 - fu
        · rw [z]; exact q
        · exact f j (by omega) y
theorem itV_n {v : SV} {r : Int} : ∀ n : Nat, itV r v n 11 0 = v 11 0 := itV_wells
/-- a well that does not begin to rest did not turn salt -/
theorem itV_turn {v : SV} {w r : Int} (ho : OK v) (w0 : 0 ≤ w) (w1 : w < v 11 0) : ∀ n : Nat, (∀ j : Nat, j ≤ n → itV r v j 7 w ≠ 1) → itV r v n 9 w = v 9 w := by
  intro n
  induction n with
  | zero => intro _; rfl
  | succ n ih =>
    intro h
    have h1 := ih (fun j hj => h j (by omega))
    have h2 := h (n + 1) (by omega)
    have hn : itV r v n 11 0 = v 11 0 := itV_n n
    show turF (tideS r (itV r v n)) (itV r v n 7) (itV r v n 11 0) (itV r v n 9) w = v 9 w
    have h3 : ¬ resF (tideS r (itV r v n)) (itV r v n 11 0) (itV r v n 7) w = 1 := h2
    rw [hn] at h3 ⊢
    unfold resF at h3
    rw [if_pos ⟨w0, w1⟩] at h3
    unfold turF
    by_cases a : itV r v n 7 w = 0 ∧ 50 ≤ tideS r (itV r v n) w
    · rw [if_pos a] at h3; exact absurd rfl h3
    · rw [if_neg (fun q => a q.2)]; exact h1
/-- the tide in which a well begins to rest -/
theorem tide_turn {v : SV} {w r : Int} (w0 : 0 ≤ w) (w1 : w < v 11 0) (h0 : v 7 w = 0) (h : tideV r v 7 w = 1) : tideV r v 9 w = v 9 w + 1 := by
  have h3 : resF (tideS r v) (v 11 0) (v 7) w = 1 := h
  show turF (tideS r v) (v 7) (v 11 0) (v 9) w = v 9 w + 1
  unfold resF at h3
  rw [if_pos ⟨w0, w1⟩] at h3
  unfold turF
  by_cases a : v 7 w = 0 ∧ 50 ≤ tideS r v w
  · rw [if_pos ⟨⟨w0, w1⟩, a⟩]
  · rw [if_neg a] at h3
    by_cases b : tideS r v w = 0
    · rw [if_pos b] at h3; omega
    · rw [if_neg b] at h3; omega
theorem rests_1 {v : SV} {w r : Int} (hw : 0 ≤ w ∧ w < v 11 0) (hr : -30 ≤ r ∧ r ≤ 30) (h0 : v 7 w = 0) (h : tideV r v 7 w = 1) : restR v w r = 1 := by
  unfold restR
  rw [if_neg (fun q => q hw), if_neg (fun q => q hr), if_neg (by omega)]
  have e : riN v w r 300 = if itV r v (300 - 299) 7 w = 1 then 300 - ((299 : Nat) : Int) else riN v w r 299 := rfl
  have e2 : itV r v (300 - 299) 7 w = 1 := h
  rw [e, if_pos e2]
  rfl
/-! the least flow -/
theorem lfN_is {v : SV} {c r : Int} : ∀ n : Nat, n ≤ 100 → (lfN v c r n = -5 ∧ ∀ i : Int, 100 - (n : Int) ≤ i → i ≤ 99 → mkI (v 10 0 + r - i) (v 10 1) (v 1) (v 0) c ≠ 0) ∨ (100 - (n : Int) ≤ lfN v c r n ∧ lfN v c r n ≤ 99 ∧ mkI (v 10 0 + r - lfN v c r n) (v 10 1) (v 1) (v 0) c = 0 ∧ ∀ i : Int, 100 - (n : Int) ≤ i → i < lfN v c r n → mkI (v 10 0 + r - i) (v 10 1) (v 1) (v 0) c ≠ 0) := by
  intro n
  induction n with
  | zero => intro _; exact Or.inl ⟨rfl, fun i a b => by omega⟩
  | succ n ih =>
    intro hn
    have e : lfN v c r (n + 1) = if mkI (v 10 0 + r - (99 - n)) (v 10 1) (v 1) (v 0) c = 0 then 99 - (n : Int) else lfN v c r n := rfl
    by_cases q : mkI (v 10 0 + r - (99 - n)) (v 10 1) (v 1) (v 0) c = 0
    · rw [if_pos q] at e
      rw [e]
      exact Or.inr ⟨by omega, by omega, q, fun i a b => by omega⟩
    · rw [if_neg q] at e
      rw [e]
      rcases ih (by omega) with ⟨a, b⟩ | ⟨a, b, d, f⟩
      · refine Or.inl ⟨a, fun i x y => ?_⟩
        by_cases z : i = 99 - n
        · rw [z]; exact q
        · exact b i (by omega) y
      · refine Or.inr ⟨by omega, b, d, fun i x y => ?_⟩
        by_cases z : i = 99 - n
        · rw [z]; exact q
        · exact f i (by omega) y
theorem mk_low {push slope : Int} {sil dep : Int → Int} (hl : 0 ≤ slope) (hs : RG 0 60 40 sil) (hp : push ≤ 0) {c : Int} (c0 : 0 ≤ c) (c1 : c < 40) : mkI push slope sil dep c = 0 :=
  mk_dead (t := 0) hl hs (by omega) (by rw [offI_0]; have := hs 0 (by omega) (by omega); omega) c0 c1
theorem least_is {v : SV} {c r : Int} (ho : OK v) (hc : 0 ≤ c ∧ c < 40) (hr : -30 ≤ r ∧ r ≤ 30) : 0 ≤ leastR v c r ∧ leastR v c r ≤ 99 ∧ mkI (v 10 0 + r - leastR v c r) (v 10 1) (v 1) (v 0) c = 0 ∧ ∀ i : Int, 0 ≤ i → i < leastR v c r → mkI (v 10 0 + r - i) (v 10 1) (v 1) (v 0) c ≠ 0 := by
  have e : leastR v c r = lfN v c r 100 := by
    unfold leastR
    rw [if_neg (fun q => q hc), if_neg (fun q => q hr)]
  rw [e]
  rcases lfN_is (v := v) (c := c) (r := r) 100 (by omega) with ⟨-, b⟩ | ⟨a, b, d, f⟩
  · have h1 := ho.2.1
    exact absurd (mk_low (by omega) ho.1.2.1 (by omega) hc.1 hc.2) (b 99 (by omega) (by omega))
  · exact ⟨by omega, b, d, fun i x y => f i (by omega) y⟩
theorem flow_do {v : SV} {q : Int} (ho : OK v) (hq : 0 ≤ q ∧ q ≤ 99) : (flowR v q = -5 ∧ v 11 1 = q ∧ flowV v q = v) ∨ (flowR v q = v 11 1 ∧ ¬ v 11 1 = q ∧ flowV v q = vset v 11 (fup (v 11) 1 q)) := by
  have f := ho.2.2.1.2.1
  unfold flowV flowR
  rw [if_neg (fun z => z hq)]
  by_cases e : v 11 1 = q
  · rw [if_pos e]; exact Or.inl ⟨rfl, e, if_neg (by omega)⟩
  · rw [if_neg e]; exact Or.inr ⟨rfl, e, if_pos (by omega)⟩
theorem flow_mark {v : SV} {q c r : Int} (ho : OK v) (hq : 0 ≤ q ∧ q ≤ 99) (hc : 0 ≤ c ∧ c < 40) (hr : -30 ≤ r ∧ r ≤ 30) : markR (flowV v q) c r = mkI (v 10 0 + r - q) (v 10 1) (v 1) (v 0) c := by
  unfold markR
  rw [if_neg (fun z => z hc), if_neg (fun z => z hr)]
  rcases flow_do ho hq with ⟨-, a, b⟩ | ⟨-, a, b⟩
  · rw [b]; unfold pushI; rw [a]
  · rw [b]; rfl
/-! the best sill -/
theorem bsN_is {push slope : Int} {sil dep : Int → Int} {k : Int} : ∀ n : Nat, n ≤ 40 → bsN push slope sil dep k n = -5 ∨ (40 - (n : Int) ≤ bsN push slope sil dep k n ∧ bsN push slope sil dep k n < 40 ∧ (∀ c : Int, 40 - (n : Int) ≤ c → c ≤ bsN push slope sil dep k n → sil c < offI push slope sil dep c) ∧ offI push slope sil dep (bsN push slope sil dep k n) ≤ k ∧ sil (bsN push slope sil dep k n) < k ∧ k ≤ dep (bsN push slope sil dep k n)) := by
  intro n
  induction n with
  | zero => intro _; exact Or.inl rfl
  | succ n ih =>
    intro hn
    have e : bsN push slope sil dep k (n + 1) = if offI push slope sil dep (39 - n) ≤ sil (39 - n) then -5 else if offI push slope sil dep (39 - n) ≤ k ∧ sil (39 - n) < k ∧ k ≤ dep (39 - n) then 39 - (n : Int) else bsN push slope sil dep k n := rfl
    by_cases q : offI push slope sil dep (39 - n) ≤ sil (39 - n)
    · rw [if_pos q] at e; exact Or.inl e
    rw [if_neg q] at e
    by_cases z : offI push slope sil dep (39 - n) ≤ k ∧ sil (39 - n) < k ∧ k ≤ dep (39 - n)
    · rw [if_pos z] at e
      rw [e]
      refine Or.inr ⟨by omega, by omega, fun c a b => ?_, z⟩
      have : c = 39 - n := by omega
      rw [this]; omega
    · rw [if_neg z] at e
      rw [e]
      rcases ih (by omega) with a | ⟨a, b, d, f⟩
      · exact Or.inl a
      · refine Or.inr ⟨by omega, b, fun c x y => ?_, f⟩
        by_cases u : c = 39 - n
        · rw [u]; omega
        · exact d c (by omega) y
theorem off_same {push slope : Int} {sil sil2 dep : Int → Int} {R : Int} (h : ∀ c : Int, 0 ≤ c → c < R → sil2 c = sil c) : ∀ n : Nat, (n : Int) ≤ R → off push slope sil2 dep n = off push slope sil dep n := by
  intro n
  induction n with
  | zero => intro _; rfl
  | succ n ih =>
    intro hn
    show mkf (off push slope sil2 dep n) (sil2 n) (dep n) - slope = mkf (off push slope sil dep n) (sil n) (dep n) - slope
    rw [ih (by omega), h n (by omega) (by omega)]
theorem best_is {v : SV} {k r : Int} (ho : OK v) (hk : 1 ≤ k ∧ k ≤ 60) (hr : -30 ≤ r ∧ r ≤ 30) (h : 0 ≤ bestR v k r) : (bestR v k r < 40 ∧ buildR v (bestR v k r) k = v 1 (bestR v k r) ∧ 0 ≤ v 1 (bestR v k r) ∧ v 1 (bestR v k r) < k) ∧ stopR (buildV v (bestR v k r) k) r = bestR v k r ∧ (stopR v r = -5 ∨ bestR v k r < stopR v r) := by
  have e : bestR v k r = bsN (pushI v r) (v 10 1) (v 1) (v 0) k 40 := by
    unfold bestR
    rw [if_neg (fun q => q.elim (fun q => q hk) (fun q => q hr))]
  rcases bsN_is (push := pushI v r) (slope := v 10 1) (sil := v 1) (dep := v 0) (k := k) 40 (by omega) with a | ⟨a, b, d, f1, f2, f3⟩
  · rw [e, a] at h; omega
  rw [← e] at a b d f1 f2 f3
  generalize bestR v k r = c at *
  have sc := ho.1.2.1 c h b
  have e1 : buildR v c k = v 1 c := by
    unfold buildR
    rw [if_neg (fun q => q ⟨h, b⟩), if_neg (fun q => q ⟨by omega, hk.2⟩), if_neg (by omega), if_neg (by omega)]
  have e2 : buildV v c k = vset v 1 (fup (v 1) c k) := by
    unfold buildV
    rw [if_pos (by rw [e1]; omega)]
  have st := stI_is (pushI v r) (v 10 1) (v 1) (v 0)
  have hlt : c < stI (pushI v r) (v 10 1) (v 1) (v 0) := by
    rcases Int.lt_or_le c (stI (pushI v r) (v 10 1) (v 1) (v 0)) with z | z
    · exact z
    · have q1 := st.2.2.2 (by omega)
      have q2 := d (stI (pushI v r) (v 10 1) (v 1) (v 0)) (by have := st.1; omega) z
      omega
  refine ⟨⟨b, e1, sc.1, f2⟩, ?_, ?_⟩
  · rw [e2]
    have off2 : ∀ j : Int, 0 ≤ j → j ≤ c → offI (pushI v r) (v 10 1) (fup (v 1) c k) (v 0) j = offI (pushI v r) (v 10 1) (v 1) (v 0) j := fun j j0 j1 => off_same (R := c) (fun i i0 i1 => fup_ne (by omega)) j.toNat (by omega)
    have hs : IsStop (pushI v r) (v 10 1) (fup (v 1) c k) (v 0) c := by
      refine ⟨h, by omega, fun j j0 j1 => ?_, fun _ => ?_⟩
      · rw [fup_ne (by omega), off2 j j0 (by omega)]
        exact d j (by omega) (by omega)
      · rw [fup_eq, off2 c h (by omega)]; exact f1
    have e3 : stI (pushI v r) (v 10 1) (fup (v 1) c k) (v 0) = c := (stI_is _ _ _ _).uniq hs
    show (if ¬ (-30 ≤ r ∧ r ≤ 30) then (-2 : Int) else if stI (pushI v r) (v 10 1) (fup (v 1) c k) (v 0) < 40 then stI (pushI v r) (v 10 1) (fup (v 1) c k) (v 0) else -5) = c
    rw [if_neg (fun q => q hr), e3, if_pos b]
  · unfold stopR
    rw [if_neg (fun q => q hr)]
    by_cases z : stI (pushI v r) (v 10 1) (v 1) (v 0) < 40
    · rw [if_pos z]; exact Or.inr hlt
    · rw [if_neg z]; exact Or.inl rfl
end
section
/-! the system in one word: the object at 0, no text; what the class's methods do in it -/
abbrev zF : Int → Int := fun _ => 0
theorem PM.imp {f : Nat} {y : MethodName} {cc : ByteArray} {nL : Nat} {rt : Option FieldType} {h : List PO} {args : List PV} {post post2 : Option PV → List PO → Prop} (a : PM f y cc nL rt h args post) (k : ∀ r h', post r h' → post2 r h') : PM f y cc nL rt h args post2 :=
  fun l g => MetFree.mono (a l g) (fun _ _ q => q) (fun _ _ _ _ _ q => q) (fun _ _ _ _ _ q => ⟨⟨by obtain ⟨r, h', e1, e2, e3, e4⟩ := q.1.1; exact ⟨r, h', e1, k r h' e2, e3, e4⟩, q.1.2⟩, q.2⟩)
def SYS (h : List PO) (v : SV) (hv : Int → SV) (sz ks : Int) (sw : SV) : Prop := clA h 0 v hv sz ks sw zF 0 (-5) (-5) ∧ INV v hv sz ks sw zF 0 ∧ XI v
theorem clA.obj5 {h : List PO} {x : Nat} {v : SV} {hv : Int → SV} {sz ks : Int} {w : SV} {tx : Int → Int} {len sn se : Int} (a : clA h x v hv sz ks w tx len sn se) : ∃ fs, h[x]? = some (oO 5 fs) := by
  obtain ⟨u, ρ, ki, fi, s2, th, p, hst, n, e, ⟨a0, -⟩, -⟩ := a
  exact ⟨_, a0⟩
section SY
variable {h : List PO} {v : SV} {hv : Int → SV} {sz ks : Int} {sw : SV}
theorem SYS.obj (a : SYS h v hv sz ks sw) : ∃ fs, h[0]? = some (oO 5 fs) := a.1.obj5
theorem SYS.ok (a : SYS h v hv sz ks sw) : OK v := a.2.1.1.1
theorem SYS.okt (a : SYS h v hv sz ks sw) : OKt v := a.2.1.1
theorem SYS.xi (a : SYS h v hv sz ks sw) : XI v := a.2.2
/-- numbers of the state -/
theorem SYS.gen (a : SYS h v hv sz ks sw) : (0 ≤ v 11 0 ∧ v 11 0 ≤ 6) ∧ (0 ≤ v 11 1 ∧ v 11 1 ≤ 99) ∧ (0 ≤ v 11 2 ∧ v 11 2 ≤ 99999) ∧ (-5 ≤ v 11 3 ∧ v 11 3 ≤ 39) ∧ (0 ≤ v 10 0 ∧ v 10 0 ≤ 60) ∧ (0 ≤ v 10 1 ∧ v 10 1 ≤ 9) ∧ (1 ≤ v 10 2 ∧ v 10 2 ≤ 60) ∧ (0 ≤ sz ∧ sz ≤ 4) :=
  ⟨a.ok.2.2.1.1, a.ok.2.2.1.2.1, a.okt.2, a.ok.2.2.1.2.2, a.ok.2.1.1, a.ok.2.1.2.1, a.ok.2.1.2.2, a.2.1.2.1⟩
/-- a cell -/
theorem SYS.bed (a : SYS h v hv sz ks sw) {c : Int} (c0 : 0 ≤ c) (c1 : c < 40) : (1 ≤ v 0 c ∧ v 0 c ≤ 60) ∧ (0 ≤ v 1 c ∧ v 1 c ≤ v 0 c) ∧ (0 ≤ v 2 c ∧ v 2 c ≤ v 0 c) ∧ (0 ≤ v 3 c ∧ v 3 c ≤ v 11 2) ∧ (0 < v 2 c → c ≤ v 11 3) := by
  have d := a.ok.1.1 c c0 c1
  have s := a.ok.1.2.1 c c0 c1
  have e := a.ok.1.2.2 c c0 c1
  have x := a.xi.1 c c0 c1
  exact ⟨d, ⟨s.1, x.1⟩, ⟨e.1, x.2.1⟩, ⟨x.2.2.1, x.2.2.2.1⟩, x.2.2.2.2⟩
/-- a well -/
theorem SYS.wel (a : SYS h v hv sz ks sw) {w : Int} (w0 : 0 ≤ w) (w1 : w < v 11 0) : (0 ≤ v 4 w ∧ v 4 w ≤ 39) ∧ (1 ≤ v 5 w ∧ v 5 w ≤ 30) ∧ (0 ≤ v 6 w ∧ v 6 w ≤ 300) ∧ (0 ≤ v 7 w ∧ v 7 w ≤ 1) ∧ (v 7 w = 0 → v 6 w ≤ 49) ∧ (v 7 w = 1 → 1 ≤ v 6 w ∧ 1 ≤ v 9 w) ∧ (0 ≤ v 8 w ∧ v 8 w ≤ 30 * v 11 2) ∧ (0 ≤ v 9 w ∧ v 9 w ≤ v 11 2) := by
  obtain ⟨q1, q2, q3, q4⟩ := a.ok.2.2.2.1
  have x := a.xi.2 w w0 w1
  exact ⟨q1 w w0 w1, q2 w w0 w1, q3 w w0 w1, q4 w w0 w1, a.ok.2.2.2.2.1 w w0 w1, x.1, ⟨x.2.1, x.2.2.1⟩, x.2.2.2⟩
theorem SYS.inj (a : SYS h v hv sz ks sw) : ∀ w u : Int, 0 ≤ w → w < v 11 0 → 0 ≤ u → u < v 11 0 → v 4 w = v 4 u → w = u := a.ok.2.2.2.2.2
theorem SYS.bes (a : SYS h v hv sz ks sw) {k : Int} (k0 : 0 ≤ k) (k1 : k < v 11 0) : besN (v 4) (v 4 k) (v 11 0).toNat = k := by
  have g := a.gen.1
  exact besN_at (fun w u a1 a2 a3 a4 => a.inj w u a1 (by omega) a3 (by omega)) k0 (by omega)
/-! the readers -/
theorem s_cell {c d y : Int} (hS : SYS h v hv sz ks sw) (hc : inR c) (hd : inR d) (e : cellR v c d = y) : PM 5 yX5_cell cX5_cell 3 (some .int) h [r_ 0, i_ c, i_ d] (fun r0 h2 => r0 = some (i_ y) ∧ SYS h2 v hv sz ks sw) :=
  PM.imp (c_X5_cell h 0 v hv sz ks sw zF 0 (-5) (-5) c d hS.1 hS.2.1 hc hd) (fun r h' q => ⟨by rw [q.1, e], q.2.2, hS.2⟩)
theorem s_well {c d y : Int} (hS : SYS h v hv sz ks sw) (hc : inR c) (hd : inR d) (e : wellR v c d = y) : PM 5 yX5_well cX5_well 3 (some .int) h [r_ 0, i_ c, i_ d] (fun r0 h2 => r0 = some (i_ y) ∧ SYS h2 v hv sz ks sw) :=
  PM.imp (c_X5_well h 0 v hv sz ks sw zF 0 (-5) (-5) c d hS.1 hS.2.1 hc hd) (fun r h' q => ⟨by rw [q.1, e], q.2.2, hS.2⟩)
theorem s_reach (hS : SYS h v hv sz ks sw) : PM 5 yX5_reach cX5_reach 1 (some .int) h [r_ 0] (fun r0 h2 => r0 = some (i_ (reachN (v 2) 40)) ∧ SYS h2 v hv sz ks sw) :=
  PM.imp (c_X5_reach h 0 v hv sz ks sw zF 0 (-5) (-5) hS.1 hS.2.1) (fun r h' q => ⟨q.1, q.2.2, hS.2⟩)
theorem s_count {k y : Int} (hS : SYS h v hv sz ks sw) (hk : inR k) (e : countR v sz 0 k = y) : PM 5 yX5_count cX5_count 2 (some .int) h [r_ 0, i_ k] (fun r0 h2 => r0 = some (i_ y) ∧ SYS h2 v hv sz ks sw) :=
  PM.imp (c_X5_count h 0 v hv sz ks sw zF 0 (-5) (-5) k hS.1 hS.2.1 hk) (fun r h' q => ⟨by rw [q.1, e], q.2.2, hS.2⟩)
theorem s_mark {c d y : Int} (hS : SYS h v hv sz ks sw) (hc : inR c) (hd : inR d) (e : markR v c d = y) : PM 7 yX5_mark cX5_mark 3 (some .int) h [r_ 0, i_ c, i_ d] (fun r0 h2 => r0 = some (i_ y) ∧ SYS h2 v hv sz ks sw) :=
  PM.imp (c_X5_mark h 0 v hv sz ks sw zF 0 (-5) (-5) c d hS.1 hS.2.1 hc hd) (fun r h' q => ⟨by rw [q.1, e], q.2.2, hS.2⟩)
theorem s_reason {c d y : Int} (hS : SYS h v hv sz ks sw) (hc : inR c) (hd : inR d) (e : whyR v c d = y) : PM 7 yX5_reason cX5_reason 3 (some .int) h [r_ 0, i_ c, i_ d] (fun r0 h2 => r0 = some (i_ y) ∧ SYS h2 v hv sz ks sw) :=
  PM.imp (c_X5_reason h 0 v hv sz ks sw zF 0 (-5) (-5) c d hS.1 hS.2.1 hc hd) (fun r h' q => ⟨by rw [q.1, e], q.2.2, hS.2⟩)
theorem s_stopCell {c : Int} (hS : SYS h v hv sz ks sw) (hc : inR c) : PM 7 yX5_stopCell cX5_stopCell 3 (some .int) h [r_ 0, i_ c] (fun r0 h2 => r0 = some (i_ (stopR v c)) ∧ SYS h2 v hv sz ks sw) :=
  PM.imp (c_X5_stopCell h 0 v hv sz ks sw zF 0 (-5) (-5) c hS.1 hS.2.1 hc) (fun r h' q => ⟨q.1, q.2.2, hS.2⟩)
theorem s_leastFlow {c d : Int} (hS : SYS h v hv sz ks sw) (hc : inR c) (hd : inR d) : PM 7 yX5_leastFlow cX5_leastFlow 3 (some .int) h [r_ 0, i_ c, i_ d] (fun r0 h2 => r0 = some (i_ (leastR v c d)) ∧ SYS h2 v hv sz ks sw) :=
  PM.imp (c_X5_leastFlow h 0 v hv sz ks sw zF 0 (-5) (-5) c d hS.1 hS.2.1 hc hd) (fun r h' q => ⟨q.1, q.2.2, hS.2⟩)
theorem s_bestSill {c d : Int} (hS : SYS h v hv sz ks sw) (hc : inR c) (hd : inR d) : PM 7 yX5_bestSill cX5_bestSill 3 (some .int) h [r_ 0, i_ c, i_ d] (fun r0 h2 => r0 = some (i_ (bestR v c d)) ∧ SYS h2 v hv sz ks sw) :=
  PM.imp (c_X5_bestSill h 0 v hv sz ks sw zF 0 (-5) (-5) c d hS.1 hS.2.1 hc hd) (fun r h' q => ⟨q.1, q.2.2, hS.2⟩)
theorem s_restsIn {c d : Int} (hS : SYS h v hv sz ks sw) (hc : inR c) (hd : inR d) : PM 7 yX5_restsIn cX5_restsIn 4 (some .int) h [r_ 0, i_ c, i_ d] (fun r0 h2 => r0 = some (i_ (restR v c d)) ∧ SYS h2 v hv sz ks sw) :=
  PM.imp (c_X5_restsIn h 0 v hv sz ks sw zF 0 (-5) (-5) c d hS.1 hS.2.1 hc hd) (fun r h' q => ⟨q.1, q.2.2, hS.2⟩)
theorem s_keep (hS : SYS h v hv sz ks sw) : PM 7 yX5_keep cX5_keep 1 (some .int) h [r_ 0] (fun r0 h2 => r0 = some (i_ (v 11 2)) ∧ SYS h2 v hv sz 1 v) :=
  PM.imp (c_X5_keep h 0 v hv sz ks sw zF 0 (-5) (-5) hS.1 hS.2.1) (fun r h' q => ⟨q.1, q.2.2, ⟨hS.2.1.1, hS.2.1.2.1, hS.2.1.2.2.1, Or.inr ⟨rfl, hS.2.1.1⟩, hS.2.1.2.2.2.2⟩, hS.2.2⟩)
/-! acts -/
theorem SYS.act {h2 : List PO} {V : SV} {R : Int} (hS : SYS h v hv sz ks sw) (a : clA h2 0 V (hvA hv sz v R) (szA sz R) ks sw zF 0 (-5) (-5)) (b : OKt V) (c : XI V) : SYS h2 V (hvA hv sz v R) (szA sz R) ks sw := ⟨a, hS.2.1.act R b, c⟩
theorem s_dig {c d : Int} (hS : SYS h v hv sz ks sw) (hc : inR c) (hd : inR d) : PM 7 yX5_dig cX5_dig 3 (some .int) h [r_ 0, i_ c, i_ d] (fun r0 h2 => r0 = some (i_ (digR v c d)) ∧ SYS h2 (digV v c d) (hvA hv sz v (digR v c d)) (szA sz (digR v c d)) ks sw) :=
  PM.imp (c_X5_dig h 0 v hv sz ks sw zF 0 (-5) (-5) c d hS.1 hS.2.1 hc hd) (fun r h' q => ⟨q.1, hS.act q.2.2 hS.okt.dig hS.xi.dig⟩)
theorem s_build {c d : Int} (hS : SYS h v hv sz ks sw) (hc : inR c) (hd : inR d) : PM 7 yX5_build cX5_build 3 (some .int) h [r_ 0, i_ c, i_ d] (fun r0 h2 => r0 = some (i_ (buildR v c d)) ∧ SYS h2 (buildV v c d) (hvA hv sz v (buildR v c d)) (szA sz (buildR v c d)) ks sw) :=
  PM.imp (c_X5_build h 0 v hv sz ks sw zF 0 (-5) (-5) c d hS.1 hS.2.1 hc hd) (fun r h' q => ⟨q.1, hS.act q.2.2 hS.okt.build hS.xi.build⟩)
theorem s_flow {c : Int} (hS : SYS h v hv sz ks sw) (hc : inR c) : PM 7 yX5_flow cX5_flow 2 (some .int) h [r_ 0, i_ c] (fun r0 h2 => r0 = some (i_ (flowR v c)) ∧ SYS h2 (flowV v c) (hvA hv sz v (flowR v c)) (szA sz (flowR v c)) ks sw) :=
  PM.imp (c_X5_flow h 0 v hv sz ks sw zF 0 (-5) (-5) c hS.1 hS.2.1 hc) (fun r h' q => ⟨q.1, hS.act q.2.2 hS.okt.flow hS.xi.flow⟩)
theorem s_set {c d : Int} (hS : SYS h v hv sz ks sw) (hc : inR c) (hd : inR d) : PM 7 yX5_set cX5_set 3 (some .int) h [r_ 0, i_ c, i_ d] (fun r0 h2 => r0 = some (i_ (setR v c d)) ∧ SYS h2 (setV v c d) (hvA hv sz v (setR v c d)) (szA sz (setR v c d)) ks sw) :=
  PM.imp (c_X5_set h 0 v hv sz ks sw zF 0 (-5) (-5) c d hS.1 hS.2.1 hc hd) (fun r h' q => ⟨q.1, hS.act q.2.2 hS.okt.set hS.xi.set⟩)
theorem s_sink {c d : Int} (hS : SYS h v hv sz ks sw) (hc : inR c) (hd : inR d) : PM 7 yX5_sink cX5_sink 3 (some .int) h [r_ 0, i_ c, i_ d] (fun r0 h2 => r0 = some (i_ (sinkR (v 4) (v 11 0) c d)) ∧ SYS h2 (sinkV v c d) (hvA hv sz v (sinkR (v 4) (v 11 0) c d)) (szA sz (sinkR (v 4) (v 11 0) c d)) ks sw) :=
  PM.imp (c_X5_sink h 0 v hv sz ks sw zF 0 (-5) (-5) c d hS.1 hS.2.1 hc hd) (fun r h' q => ⟨q.1, hS.act q.2.2 hS.okt.sink (hS.xi.sink hS.okt.2.1)⟩)
theorem s_fillIn {c : Int} (hS : SYS h v hv sz ks sw) (hc : inR c) : PM 7 yX5_fillIn cX5_fillIn 2 (some .int) h [r_ 0, i_ c] (fun r0 h2 => r0 = some (i_ (fillR (v 6) (v 11 0) c)) ∧ SYS h2 (fillV v c) (hvA hv sz v (fillR (v 6) (v 11 0) c)) (szA sz (fillR (v 6) (v 11 0) c)) ks sw) :=
  PM.imp (c_X5_fillIn h 0 v hv sz ks sw zF 0 (-5) (-5) c hS.1 hS.2.1 hc) (fun r h' q => ⟨q.1, hS.act q.2.2 hS.okt.fill hS.xi.fill⟩)
theorem s_setRate {c d : Int} (hS : SYS h v hv sz ks sw) (hc : inR c) (hd : inR d) : PM 7 yX5_setRate cX5_setRate 3 (some .int) h [r_ 0, i_ c, i_ d] (fun r0 h2 => r0 = some (i_ (rateR (v 5) (v 11 0) c d)) ∧ SYS h2 (rateV v c d) (hvA hv sz v (rateR (v 5) (v 11 0) c d)) (szA sz (rateR (v 5) (v 11 0) c d)) ks sw) :=
  PM.imp (c_X5_setRate h 0 v hv sz ks sw zF 0 (-5) (-5) c d hS.1 hS.2.1 hc hd) (fun r h' q => ⟨q.1, hS.act q.2.2 hS.okt.rate hS.xi.rate⟩)
theorem s_tide {c d : Int} (hS : SYS h v hv sz ks sw) (hc : inR c) (hd : inR d) : PM 7 yX5_tide cX5_tide 3 (some .int) h [r_ 0, i_ c, i_ d] (fun r0 h2 => r0 = some (i_ (tidesR v c d)) ∧ SYS h2 (tidesV v c d) (hvA hv sz v (tidesR v c d)) (szA sz (tidesR v c d)) ks sw) :=
  PM.imp (c_X5_tide h 0 v hv sz ks sw zF 0 (-5) (-5) c d hS.1 hS.2.1 hc hd) (fun r h' q => ⟨q.1, hS.act q.2.2 hS.okt.tides (hS.xi.tides hS.ok hS.okt.2.1)⟩)
/-- undo, where the latest state is known -/
theorem s_undo {V : SV} {hvV : Int → SV} {szV : Int} (hS : SYS h V hvV szV ks sw) (e : undV V hvV szV = v) (hx : XI v) : PM 7 yX5_undo cX5_undo 1 (some .int) h [r_ 0] (fun r0 h2 => r0 = some (i_ (undR szV)) ∧ SYS h2 v hvV (undZ szV) ks sw) :=
  PM.imp (c_X5_undo h 0 V hvV szV ks sw zF 0 (-5) (-5) hS.1 hS.2.1) (fun r h' q => by
    obtain ⟨h1, h2, h3, h4, h5, h6⟩ := hS.2.1
    rw [e] at q
    refine ⟨q.1, q.2.2, ⟨?_, ?_, ?_, h4, h5, h6⟩, hx⟩
    · unfold undV at e
      by_cases z : szV = 0
      · rw [if_pos z] at e; rw [← e]; exact h1
      · rw [if_neg z] at e; rw [← e]; exact h3 _ (by omega) (by omega)
    · unfold undZ
      split <;> omega
    · intro i i0 i1
      refine h3 i i0 ?_
      unfold undZ at i1
      by_cases z : szV = 0
      · rw [if_pos z] at i1; exact i1
      · rw [if_neg z] at i1; omega)
theorem s_restore {V : SV} {hvV : Int → SV} {szV : Int} (hS : SYS h V hvV szV 1 v) (ht : 0 ≤ v 11 2) (hx : XI v) : PM 7 yX5_restore cX5_restore 1 (some .int) h [r_ 0] (fun r0 h2 => r0 = some (i_ (v 11 2)) ∧ ∃ hv2 sz2, SYS h2 v hv2 sz2 1 v) :=
  PM.imp (c_X5_restore h 0 V hvV szV 1 v zF 0 (-5) (-5) hS.1 hS.2.1) (fun r h' q => by
    have e1 : rstR 1 v = v 11 2 := if_pos rfl
    have e2 : rstV V 1 v = v := if_pos rfl
    rw [e1, e2] at q
    have ho : OKt v := by
      rcases hS.2.1.2.2.2.1 with z | z
      · exact absurd z (by decide)
      · exact z.2
    exact ⟨q.1, _, _, hS.act q.2.2 ho hx⟩)
end SY
/-! what the readers answer -/
section RD
variable {v : SV} {c w sz : Int}
theorem cell_0 (a : 0 ≤ c) (b : c < 40) : cellR v c 0 = v 0 c := by unfold cellR; rw [if_neg (fun q => q ⟨a, b⟩)]; rfl
theorem cell_1 (a : 0 ≤ c) (b : c < 40) : cellR v c 1 = v 1 c := by unfold cellR; rw [if_neg (fun q => q ⟨a, b⟩)]; rfl
theorem cell_2 (a : 0 ≤ c) (b : c < 40) : cellR v c 2 = v 2 c := by unfold cellR; rw [if_neg (fun q => q ⟨a, b⟩)]; rfl
theorem cell_3 (a : 0 ≤ c) (b : c < 40) : cellR v c 3 = besN (v 4) c (v 11 0).toNat := by unfold cellR; rw [if_neg (fun q => q ⟨a, b⟩)]; rfl
theorem cell_4 (a : 0 ≤ c) (b : c < 40) : cellR v c 4 = v 3 c := by unfold cellR; rw [if_neg (fun q => q ⟨a, b⟩)]; rfl
theorem well_0 (a : 0 ≤ w) (b : w < v 11 0) : wellR v w 0 = v 4 w := by unfold wellR tellR; rw [if_neg (fun q => q ⟨a, b⟩)]; rfl
theorem well_1 (a : 0 ≤ w) (b : w < v 11 0) : wellR v w 1 = v 5 w := by unfold wellR tellR; rw [if_neg (fun q => q ⟨a, b⟩)]; rfl
theorem well_2 (a : 0 ≤ w) (b : w < v 11 0) : wellR v w 2 = v 6 w := by unfold wellR tellR; rw [if_neg (fun q => q ⟨a, b⟩)]; rfl
theorem well_3 (a : 0 ≤ w) (b : w < v 11 0) : wellR v w 3 = v 7 w := by unfold wellR tellR; rw [if_neg (fun q => q ⟨a, b⟩)]; rfl
theorem well_4 (a : 0 ≤ w) (b : w < v 11 0) : wellR v w 4 = conI (v 4) (v 5) (v 7) (v 11 0) w := by unfold wellR tellR; rw [if_neg (fun q => q ⟨a, b⟩)]; rfl
theorem well_5 (a : 0 ≤ w) (b : w < v 11 0) : wellR v w 5 = v 8 w := by unfold wellR tellR; rw [if_neg (fun q => q ⟨a, b⟩)]; rfl
theorem well_6 (a : 0 ≤ w) (b : w < v 11 0) : wellR v w 6 = v 9 w := by unfold wellR tellR; rw [if_neg (fun q => q ⟨a, b⟩)]; rfl
end RD
theorem sumN_rng {lo hi : Int} {q : Int → Int} : ∀ n : Nat, (∀ j : Int, 0 ≤ j → j < n → lo ≤ q j ∧ q j ≤ hi) → lo * (n : Int) ≤ sumN q n ∧ sumN q n ≤ hi * (n : Int) := by
  intro n
  induction n with
  | zero => intro _; show lo * 0 ≤ 0 ∧ 0 ≤ hi * 0; omega
  | succ n ih =>
    intro hj
    have a := ih (fun j x y => hj j x (by omega))
    have b := hj n (by omega) (by omega)
    have e1 : lo * ((n + 1 : Nat) : Int) = lo * (n : Int) + lo := by rw [Int.natCast_add, Int.mul_add]; simp
    have e2 : hi * ((n + 1 : Nat) : Int) = hi * (n : Int) + hi := by rw [Int.natCast_add, Int.mul_add]; simp
    show lo * ((n + 1 : Nat) : Int) ≤ sumN q n + q n ∧ sumN q n + q n ≤ hi * ((n + 1 : Nat) : Int)
    omega
/-! forks: paths that meet again with a number on the stack -/
section FK
variable {Ω : GP → State → Array Value → Method → Prop} {R : Room} {F : Nat} {Z : GP → State → Array Value → List Frame → State → Prop} {cc : ByteArray} {nL : Nat} {h : List PO} {pc : Nat} {lv : List (Option PW)} {st : List PW}
theorem lwh_none {g : GP} {ls : Array Slot} {nL : Nat} {lv : List (Option PW)} (i : Nat) (h : lwh g ls nL lv) : lwh g ls nL (lv.set i none) := by
  refine ⟨h.1, h.2.1, fun q hq => ?_⟩
  obtain ⟨j, w, a, rfl⟩ := lwl_mem.mp hq
  rw [Nat.zero_add]
  by_cases e : i = j
  · subst e
    rw [List.getElem?_set] at a
    simp at a
  · rw [List.getElem?_set_ne e] at a
    exact lwh_at h a
theorem L_forget (i : Nat) {lv2 : List (Option PW)} (e : lv.set i none = lv2) (k : GL Ω R F Z cc nL h pc lv2 st) : GL Ω R F Z cc nL h pc lv st := by
  subst e
  exact L_w (fun g p l e s m args below meth c H locs ls hO hR M E hK hP hD hS hl kk => kk H locs ls hP hD hS (lwh_none i hl)) k
theorem L_fork1 (pj : Nat) (E : Int) (P : List PO → Prop) {u1 : PW} {st1 : List PW} (e : st = u1 :: st1) (b : ∀ h2, P h2 → GL Ω R F Z cc nL h2 pj lv (w_ E :: st1)) (a : (∀ h2 z, P h2 → z = E → GL Ω R F Z cc nL h2 pj lv (w_ z :: st1)) → GL Ω R F Z cc nL h pc lv st) : GL Ω R F Z cc nL h pc lv st := a (fun h2 z q e => e ▸ b h2 q)
theorem L_fork2 (pj : Nat) (E : Int) (P : List PO → Prop) {u1 u2 : PW} {st1 : List PW} (e : st = u1 :: u2 :: st1) (b : ∀ h2, P h2 → GL Ω R F Z cc nL h2 pj lv (w_ E :: st1)) (a : (∀ h2 z, P h2 → z = E → GL Ω R F Z cc nL h2 pj lv (w_ z :: st1)) → GL Ω R F Z cc nL h pc lv st) : GL Ω R F Z cc nL h pc lv st := a (fun h2 z q e => e ▸ b h2 q)
end FK
end
section
/-! the law: what its small methods answer -/
/-- a number whose range is not known, told by one that is an int -/
theorem L_norm {Ω : GP → State → Array Value → Method → Prop} {R : Room} {F : Nat} {Z : GP → State → Array Value → List Frame → State → Prop} {cc : ByteArray} {nL : Nat} {h : List PO} {pc : Nat} {lv : List (Option PW)} {st : List PW} {z : Int} (k : ∀ x : Int, inR x → GL Ω R F Z cc nL h pc lv (w_ x :: st)) : GL Ω R F Z cc nL h pc lv (w_ z :: st) := by
  intro g p l e s m args below meth c H locs ls hO hR M E hK hP hD hS hl
  have e1 : tw g (w_ z) = tw g (w_ (I z).toInt) := by
    show Value.int (I z) = Value.int (I (I z).toInt)
    rw [I_toInt']
  have k1 := k (I z).toInt (inR_I _) g p l e s m args below meth c H locs ls hO hR M E hK hP hD hS hl
  simp only [List.map_cons] at k1 ⊢
  rw [e1]
  exact k1
theorem cl_L_60 : Cond.constantLong RL 60 11 ∈ GW := gw_at 426 (by decide +kernel) (by decide +kernel)
theorem cl_L_62 : Cond.constantLong RL 62 31 ∈ GW := gw_at 427 (by decide +kernel) (by decide +kernel)
def lowI (x n : Int) : Int := andI x % n
theorem lowI_rng (x : Int) {n : Int} (h : 0 < n) : 0 ≤ lowI x n ∧ lowI x n < n := ⟨Int.emod_nonneg _ (by omega), Int.emod_lt_of_pos _ h⟩
set_option maxRecDepth 100000 in
set_option maxHeartbeats 8000000 in
theorem c_L_low (h : List PO) (x n : Int) (hn : 1 ≤ n ∧ n ≤ 100) : PMw 0 yL_low cL_low 2 (some .int) h [i_ x, i_ n] (fun r0 h2 => r0 = some (w_ (lowI x n)) ∧ h = h2) := by
  refine PMw_of [some (w_ x), some (w_ n)] rfl (by decide +kernel) (Nat.le_of_ble_eq_true rfl) rfl ?_
  refine L_iload_n dL_low_0 rfl rfl ?_
  refine L_ldc dL_low_1 cn_L_9 ?_
  refine L_iand dL_low_3 ?_
  have ha := andI_rng x
  refine L_iload_n dL_low_4 rfl rfl ?_
  refine L_irem dL_low_5 (by omega) (inR_of (by omega) (by omega)) (by omega) (inR_of (by omega) (by omega)) ?_
  refine M_ireturn dL_low_6 rfl ?_
  exact ⟨rfl, rfl⟩
set_option maxRecDepth 100000 in
theorem L_cellA {Ω : GP → State → Array Value → Method → Prop} {R : Room} {F : Nat} {Z : GP → State → Array Value → List Frame → State → Prop} {h : List PO} {k : Int} (h0 : 0 ≤ k) (h1 : k ≤ 100) (kt : ∀ x : Int, inR x → GL Ω R F Z cL_cell 2 h 21 [some (p_ rZs), some (w_ k)] [w_ x]) (kf : GL Ω R F Z cL_cell 2 h 12 [some (p_ rZs), some (w_ k)] []) : GL Ω R F Z cL_cell 2 h 0 [some (p_ rZs), some (w_ k)] [] := by
  intro g p l e s m args below meth c H locs ls hO hR M E hK hP hD hS hl
  obtain ⟨L, xs, hL, hT⟩ := E.2.2.2.2.2.2.2
  refine lv_iload_n (x := I k) M.1 M.2.1 dL_cell_0 rfl (lwh_at (v := w_ k) hl rfl) ?_
  refine lv_aload_n (x := gad g rZs) M.1 M.2.1 dL_cell_1 rfl (lwh_at (v := p_ rZs) hl rfl) ?_
  refine va_tlen (A := gA g) M.1 M.2.1 hT hS (v := I (L : Int)) (by unfold I; rw [Int32.ofInt_eq_ofNat]) dL_cell_2 ?_
  refine lv_icmp_ge (tgt := 12) (x := I k) (y := I (L : Int)) M.1 M.2.1 dL_cell_3 (by decide) (fun q => ?_) (fun q => ?_)
  · exact kf g p l e s m args below meth c H locs ls hO hR M E hK hP hD hS hl
  · have q1 : k < (L : Int) := Int.not_le.mp (fun z => q ((I_le ⟨by omega, by omega⟩ ⟨by omega, by omega⟩).mpr z))
    refine lv_aload_n (x := gad g rZs) M.1 M.2.1 dL_cell_6 rfl (lwh_at (v := p_ rZs) hl rfl) ?_
    refine lv_iload_n (x := I k) M.1 M.2.1 dL_cell_7 rfl (lwh_at (v := w_ k) hl rfl) ?_
    refine va_ti (A := gA g) M.1 M.2.1 hT hS (i := I k) (I_in h0 q1 (by omega)) (v := .int (I (xs (I k).toNatClampNeg).toInt)) (by rw [I_toInt']) dL_cell_8 ?_
    refine lv_goto (tgt := 21) M.1 M.2.1 dL_cell_9 (by decide) ?_
    exact kt _ (inR_I _) g p l e s m args below meth c H locs ls hO hR M E hK hP hD hS hl
set_option maxRecDepth 100000 in
set_option maxHeartbeats 8000000 in
theorem c_L_cell (h : List PO) (k : Int) (h0 : 0 ≤ k) (h1 : k ≤ 100) : PMw 0 yL_cell cL_cell 2 (some .int) h [r_ rZs, i_ k] (fun r0 h2 => ∃ x : Int, inR x ∧ r0 = some (w_ x) ∧ h = h2) := by
  refine PMw_of [some (p_ rZs), some (w_ k)] rfl (by decide +kernel) (Nat.le_of_ble_eq_true rfl) rfl ?_
  refine L_cellA h0 h1 (fun x hx => ?_) ?_
  · refine M_ireturn dL_cell_21 rfl ?_
    exact ⟨x, hx, rfl, rfl⟩
  · refine L_ldc dL_cell_12 cn_L_7 ?_
    refine L_iload_n dL_cell_14 rfl rfl ?_
    refine L_iconst dL_cell_15 ?_
    refine L_iadd dL_cell_16 ?_
    refine L_imul dL_cell_17 ?_
    refine L_ldc dL_cell_18 cn_L_8 ?_
    refine L_iadd dL_cell_20 ?_
    refine L_norm (fun x hx => ?_)
    refine M_ireturn dL_cell_21 rfl ?_
    exact ⟨x, hx, rfl, rfl⟩
theorem reachN_is {q : Int → Int} : ∀ n : Nat, reachN q n = -5 ∨ 0 ≤ reachN q n ∧ reachN q n < n ∧ 0 < q (reachN q n) := by
  intro n
  induction n with
  | zero => exact Or.inl rfl
  | succ n ih =>
    have e : reachN q (n + 1) = if 0 < q n then (n : Int) else reachN q n := rfl
    by_cases z : 0 < q n
    · rw [e, if_pos z]; exact Or.inr ⟨by omega, by omega, z⟩
    · rw [e, if_neg z]
      rcases ih with a | ⟨a, b, d⟩
      · exact Or.inl a
      · exact Or.inr ⟨a, by omega, d⟩
set_option maxRecDepth 100000 in
set_option maxHeartbeats 8000000 in
theorem c_L_bed (h : List PO) (v : SV) (hv : Int → SV) (sz ks : Int) (sw : SV) (hS : SYS h v hv sz ks sw) : PMw 6 yL_bed cL_bed 8 (some .boolean) h [r_ 0] (fun r0 h2 => r0 = some (w_ 1) ∧ SYS h2 v hv sz ks sw) := by
  refine PMw_of [some (p_ 0), none, none, none, none, none, none, none] rfl (by decide +kernel) (Nat.le_of_ble_eq_true rfl) rfl ?_
  have L : ∀ (fu : Nat) (k : Nat) (hh : List PO), SYS hh v hv sz ks sw → k ≤ 40 → 40 - k < fu → GM 6 cL_bed 8 (some .boolean) hh 13 [some (p_ 0), some (w_ (sumN (wetI (v 2)) k)), some (w_ (sumN (v 2) k)), some (w_ (reachN (v 2) k)), some (w_ (cntB (v 4) (v 11 0).toNat k)), some (w_ (k : Int)), none, none] [] (fun r0 h2 => r0 = some (w_ 1) ∧ SYS h2 v hv sz ks sw) := by
    intro fu
    induction fu with
    | zero => intro k hh hS hk hmeas; exfalso; omega
    | succ fu ih =>
      intro k hh hS hk hmeas
      refine L_iload dL_bed_13 rfl ?_
      refine L_bipush dL_bed_15 rfl ?_
      refine L_icmp_ge (tgt := 183) dL_bed_17 (by decide) (inR_of (by omega) (by omega)) (inR_of (by omega) (by omega)) (fun hc17 => ?_) (fun hc17 => ?_)
      · skip
        have hk : k = 40 := by omega
        subst hk
        have hrc := reachN_is (q := v 2) 40
        have hrg := hS.gen
        have hrf : reachN (v 2) 40 ≤ v 11 3 := by
          rcases hrc with z | ⟨z0, z1, z2⟩
          · omega
          · exact (hS.bed z0 (by omega)).2.2.2.2 z2
        refine L_aload_n dL_bed_183 rfl rfl ?_
        refine L_callV (ci := 5) (as := []) (s_reach hS) dL_bed_184 ml_L_52 cv_X5_reach hS.obj rfl rfl (Nat.le_of_ble_eq_true rfl) (Nat.le_of_ble_eq_true rfl) rfl (fun r h2 hp => ?_)
        obtain ⟨rfl, hS⟩ := hp
        refine L_iload_n dL_bed_187 rfl rfl ?_
        refine L_icmp_neE dL_bed_188 (by decide) (rfl) ?_
        refine L_aload_n dL_bed_191 rfl rfl ?_
        refine L_iconst dL_bed_192 ?_
        refine L_callV (ci := 5) (as := [_]) (s_count (y := sumN (wetI (v 2)) 40) hS (inR_of (by omega) (by omega)) rfl) dL_bed_193 ml_L_46 cv_X5_count hS.obj rfl rfl (Nat.le_of_ble_eq_true rfl) (Nat.le_of_ble_eq_true rfl) rfl (fun r h2 hp => ?_)
        obtain ⟨rfl, hS⟩ := hp
        refine L_iload_n dL_bed_196 rfl rfl ?_
        refine L_icmp_neE dL_bed_197 (by decide) (rfl) ?_
        refine L_aload_n dL_bed_200 rfl rfl ?_
        refine L_iconst dL_bed_201 ?_
        refine L_callV (ci := 5) (as := [_]) (s_count (y := sumN (v 2) 40) hS (inR_of (by omega) (by omega)) rfl) dL_bed_202 ml_L_46 cv_X5_count hS.obj rfl rfl (Nat.le_of_ble_eq_true rfl) (Nat.le_of_ble_eq_true rfl) rfl (fun r h2 hp => ?_)
        obtain ⟨rfl, hS⟩ := hp
        refine L_iload_n dL_bed_205 rfl rfl ?_
        refine L_icmp_neE dL_bed_206 (by decide) (rfl) ?_
        refine L_aload_n dL_bed_209 rfl rfl ?_
        refine L_iconst dL_bed_210 ?_
        refine L_callV (ci := 5) (as := [_]) (s_count (y := v 11 0) hS (inR_of (by omega) (by omega)) rfl) dL_bed_211 ml_L_46 cv_X5_count hS.obj rfl rfl (Nat.le_of_ble_eq_true rfl) (Nat.le_of_ble_eq_true rfl) rfl (fun r h2 hp => ?_)
        obtain ⟨rfl, hS⟩ := hp
        refine L_iload dL_bed_214 rfl ?_
        refine L_icmp_neE dL_bed_216 (by decide) (by rw [cntB_is (v 11 0).toNat (fun w a b => (hS.wel a (by omega)).1) (fun w u a b c d => hS.inj w u a (by omega) c (by omega))]; omega) ?_
        refine L_aload_n dL_bed_219 rfl rfl ?_
        refine L_bipush dL_bed_220 rfl ?_
        refine L_callV (ci := 5) (as := [_]) (s_count (y := v 11 3) hS (inR_of (by omega) (by omega)) rfl) dL_bed_222 ml_L_46 cv_X5_count hS.obj rfl rfl (Nat.le_of_ble_eq_true rfl) (Nat.le_of_ble_eq_true rfl) rfl (fun r h2 hp => ?_)
        obtain ⟨rfl, hS⟩ := hp
        refine L_bipush dL_bed_225 rfl ?_
        refine L_icmp_ge (tgt := 244) dL_bed_227 (by decide) (inR_of (by omega) (by omega)) (inR_of (by omega) (by omega)) (fun hc227 => ?_) (fun hc227 => ?_)
        · skip
          exfalso; omega
        · skip
          refine L_aload_n dL_bed_230 rfl rfl ?_
          refine L_bipush dL_bed_231 rfl ?_
          refine L_callV (ci := 5) (as := [_]) (s_count (y := v 11 3) hS (inR_of (by omega) (by omega)) rfl) dL_bed_233 ml_L_46 cv_X5_count hS.obj rfl rfl (Nat.le_of_ble_eq_true rfl) (Nat.le_of_ble_eq_true rfl) rfl (fun r h2 hp => ?_)
          obtain ⟨rfl, hS⟩ := hp
          refine L_iload_n dL_bed_236 rfl rfl ?_
          refine L_icmp_lt (tgt := 244) dL_bed_237 (by decide) (inR_of (by omega) (by omega)) (inR_of (by omega) (by omega)) (fun hc237 => ?_) (fun hc237 => ?_)
          · skip
            exfalso; omega
          · skip
            refine L_iconst dL_bed_240 ?_
            refine L_goto (tgt := 245) dL_bed_241 (by decide) ?_
            refine M_zreturn dL_bed_245 rfl (Or.inr rfl) ?_
            exact ⟨rfl, hS⟩
      · skip
        have hb := hS.bed (c := (k : Int)) (by omega) (by omega)
        have hg := hS.gen
        have hbs := besN_is (q := v 4) (c := (k : Int)) (v 11 0).toNat
        refine L_aload_n dL_bed_20 rfl rfl ?_
        refine L_iload dL_bed_21 rfl ?_
        refine L_iconst dL_bed_23 ?_
        refine L_callV (ci := 5) (as := [_, _]) (s_cell hS (inR_of (by omega) (by omega)) (inR_of (by omega) (by omega)) (cell_2 (by omega) (by omega))) dL_bed_24 ml_L_43 cv_X5_cell hS.obj rfl rfl (Nat.le_of_ble_eq_true rfl) (Nat.le_of_ble_eq_true rfl) rfl (fun r h2 hp => ?_)
        obtain ⟨rfl, hS⟩ := hp
        refine L_istore dL_bed_27 (by decide) rfl rfl ?_
        refine L_aload_n dL_bed_29 rfl rfl ?_
        refine L_iload dL_bed_30 rfl ?_
        refine L_iconst dL_bed_32 ?_
        refine L_callV (ci := 5) (as := [_, _]) (s_cell hS (inR_of (by omega) (by omega)) (inR_of (by omega) (by omega)) (cell_3 (by omega) (by omega))) dL_bed_33 ml_L_43 cv_X5_cell hS.obj rfl rfl (Nat.le_of_ble_eq_true rfl) (Nat.le_of_ble_eq_true rfl) rfl (fun r h2 hp => ?_)
        obtain ⟨rfl, hS⟩ := hp
        refine L_istore dL_bed_36 (by decide) rfl rfl ?_
        refine L_iload_n dL_bed_38 rfl rfl ?_
        refine L_iload dL_bed_39 rfl ?_
        refine L_fork1 49 (wetI (v 2) k) (fun h => SYS h v hv sz ks sw) rfl (fun h2 hS => ?_) (fun J => ?_)
        · skip
          refine L_iadd dL_bed_49 ?_
          refine L_istore_n dL_bed_50 rfl (by decide) rfl rfl ?_
          refine L_iload_n dL_bed_51 rfl rfl ?_
          refine L_iload dL_bed_52 rfl ?_
          refine L_iadd dL_bed_54 ?_
          refine L_istore_n dL_bed_55 rfl (by decide) rfl rfl ?_
          refine L_iload dL_bed_56 rfl ?_
          refine L_fork1 67 (if 0 < v 2 k then (k : Int) else reachN (v 2) k) (fun h => SYS h v hv sz ks sw) rfl (fun h2 hS => ?_) (fun J => ?_)
          · skip
            refine L_istore_n dL_bed_67 rfl (by decide) rfl rfl ?_
            refine L_iload dL_bed_68 rfl ?_
            refine L_iload dL_bed_70 rfl ?_
            refine L_fork1 80 (if 0 ≤ besN (v 4) (k : Int) (v 11 0).toNat then 1 else 0) (fun h => SYS h v hv sz ks sw) rfl (fun h2 hS => ?_) (fun J => ?_)
            · skip
              refine L_iadd dL_bed_80 ?_
              refine L_istore dL_bed_81 (by decide) rfl rfl ?_
              refine L_iload dL_bed_83 rfl ?_
              refine L_if_lt (tgt := 175) dL_bed_85 (by decide) (inR_of (by omega) (by omega)) (fun hc85 => ?_) (fun hc85 => ?_)
              · skip
                exfalso; omega
              · skip
                refine L_iload dL_bed_88 rfl ?_
                refine L_aload_n dL_bed_90 rfl rfl ?_
                refine L_iload dL_bed_91 rfl ?_
                refine L_iconst dL_bed_93 ?_
                refine L_callV (ci := 5) (as := [_, _]) (s_cell hS (inR_of (by omega) (by omega)) (inR_of (by omega) (by omega)) (cell_0 (by omega) (by omega))) dL_bed_94 ml_L_43 cv_X5_cell hS.obj rfl rfl (Nat.le_of_ble_eq_true rfl) (Nat.le_of_ble_eq_true rfl) rfl (fun r h2 hp => ?_)
                obtain ⟨rfl, hS⟩ := hp
                refine L_icmp_gt (tgt := 175) dL_bed_97 (by decide) (inR_of (by omega) (by omega)) (inR_of (by omega) (by omega)) (fun hc97 => ?_) (fun hc97 => ?_)
                · skip
                  exfalso; omega
                · skip
                  refine L_aload_n dL_bed_100 rfl rfl ?_
                  refine L_iload dL_bed_101 rfl ?_
                  refine L_iconst dL_bed_103 ?_
                  refine L_callV (ci := 5) (as := [_, _]) (s_cell hS (inR_of (by omega) (by omega)) (inR_of (by omega) (by omega)) (cell_1 (by omega) (by omega))) dL_bed_104 ml_L_43 cv_X5_cell hS.obj rfl rfl (Nat.le_of_ble_eq_true rfl) (Nat.le_of_ble_eq_true rfl) rfl (fun r h2 hp => ?_)
                  obtain ⟨rfl, hS⟩ := hp
                  refine L_aload_n dL_bed_107 rfl rfl ?_
                  refine L_iload dL_bed_108 rfl ?_
                  refine L_iconst dL_bed_110 ?_
                  refine L_callV (ci := 5) (as := [_, _]) (s_cell hS (inR_of (by omega) (by omega)) (inR_of (by omega) (by omega)) (cell_0 (by omega) (by omega))) dL_bed_111 ml_L_43 cv_X5_cell hS.obj rfl rfl (Nat.le_of_ble_eq_true rfl) (Nat.le_of_ble_eq_true rfl) rfl (fun r h2 hp => ?_)
                  obtain ⟨rfl, hS⟩ := hp
                  refine L_icmp_gt (tgt := 175) dL_bed_114 (by decide) (inR_of (by omega) (by omega)) (inR_of (by omega) (by omega)) (fun hc114 => ?_) (fun hc114 => ?_)
                  · skip
                    exfalso; omega
                  · skip
                    refine L_aload_n dL_bed_117 rfl rfl ?_
                    refine L_iload dL_bed_118 rfl ?_
                    refine L_iconst dL_bed_120 ?_
                    refine L_callV (ci := 5) (as := [_, _]) (s_cell hS (inR_of (by omega) (by omega)) (inR_of (by omega) (by omega)) (cell_4 (by omega) (by omega))) dL_bed_121 ml_L_43 cv_X5_cell hS.obj rfl rfl (Nat.le_of_ble_eq_true rfl) (Nat.le_of_ble_eq_true rfl) rfl (fun r h2 hp => ?_)
                    obtain ⟨rfl, hS⟩ := hp
                    refine L_if_lt (tgt := 175) dL_bed_124 (by decide) (inR_of (by omega) (by omega)) (fun hc124 => ?_) (fun hc124 => ?_)
                    · skip
                      exfalso; omega
                    · skip
                      refine L_aload_n dL_bed_127 rfl rfl ?_
                      refine L_iload dL_bed_128 rfl ?_
                      refine L_iconst dL_bed_130 ?_
                      refine L_callV (ci := 5) (as := [_, _]) (s_cell hS (inR_of (by omega) (by omega)) (inR_of (by omega) (by omega)) (cell_4 (by omega) (by omega))) dL_bed_131 ml_L_43 cv_X5_cell hS.obj rfl rfl (Nat.le_of_ble_eq_true rfl) (Nat.le_of_ble_eq_true rfl) rfl (fun r h2 hp => ?_)
                      obtain ⟨rfl, hS⟩ := hp
                      refine L_aload_n dL_bed_134 rfl rfl ?_
                      refine L_iconst dL_bed_135 ?_
                      refine L_callV (ci := 5) (as := [_]) (s_count (y := v 11 2) hS (inR_of (by omega) (by omega)) rfl) dL_bed_136 ml_L_46 cv_X5_count hS.obj rfl rfl (Nat.le_of_ble_eq_true rfl) (Nat.le_of_ble_eq_true rfl) rfl (fun r h2 hp => ?_)
                      obtain ⟨rfl, hS⟩ := hp
                      refine L_icmp_gt (tgt := 175) dL_bed_139 (by decide) (inR_of (by omega) (by omega)) (inR_of (by omega) (by omega)) (fun hc139 => ?_) (fun hc139 => ?_)
                      · skip
                        exfalso; omega
                      · skip
                        refine L_iload dL_bed_142 rfl ?_
                        refine L_if_lt (tgt := 159) dL_bed_144 (by decide) (inR_of (by omega) (by omega)) (fun hc144 => ?_) (fun hc144 => ?_)
                        · skip
                          refine L_iload dL_bed_159 rfl ?_
                          refine L_aload_n dL_bed_161 rfl rfl ?_
                          refine L_bipush dL_bed_162 rfl ?_
                          refine L_callV (ci := 5) (as := [_]) (s_count (y := v 11 3) hS (inR_of (by omega) (by omega)) rfl) dL_bed_164 ml_L_46 cv_X5_count hS.obj rfl rfl (Nat.le_of_ble_eq_true rfl) (Nat.le_of_ble_eq_true rfl) rfl (fun r h2 hp => ?_)
                          obtain ⟨rfl, hS⟩ := hp
                          refine L_icmp_le (tgt := 177) dL_bed_167 (by decide) (inR_of (by omega) (by omega)) (inR_of (by omega) (by omega)) (fun hc167 => ?_) (fun hc167 => ?_)
                          · skip
                            refine L_iinc dL_bed_177 (by decide) rfl rfl rfl ?_
                            refine L_goto (tgt := 13) dL_bed_180 (by decide) ?_
                            refine L_forget 6 rfl ?_
                            refine L_forget 7 rfl ?_
                            exact ih (k + 1) _ hS (by omega) (by omega)
                          · skip
                            refine L_iload dL_bed_170 rfl ?_
                            refine L_if_le (tgt := 177) dL_bed_172 (by decide) (inR_of (by omega) (by omega)) (fun hc172 => ?_) (fun hc172 => ?_)
                            · skip
                              refine L_iinc dL_bed_177 (by decide) rfl rfl rfl ?_
                              refine L_goto (tgt := 13) dL_bed_180 (by decide) ?_
                              refine L_forget 6 rfl ?_
                              refine L_forget 7 rfl ?_
                              exact ih (k + 1) _ hS (by omega) (by omega)
                            · skip
                              exfalso; omega
                        · skip
                          refine L_aload_n dL_bed_147 rfl rfl ?_
                          refine L_iload dL_bed_148 rfl ?_
                          refine L_iconst dL_bed_150 ?_
                          refine L_callV (ci := 5) (as := [_, _]) (s_well hS (inR_of (by omega) (by omega)) (inR_of (by omega) (by omega)) (well_0 (by omega) (by omega))) dL_bed_151 ml_L_49 cv_X5_well hS.obj rfl rfl (Nat.le_of_ble_eq_true rfl) (Nat.le_of_ble_eq_true rfl) rfl (fun r h2 hp => ?_)
                          obtain ⟨rfl, hS⟩ := hp
                          refine L_iload dL_bed_154 rfl ?_
                          refine L_icmp_neE dL_bed_156 (by decide) (by rcases hbs with z | z; omega; exact z.2.2) ?_
                          refine L_iload dL_bed_159 rfl ?_
                          refine L_aload_n dL_bed_161 rfl rfl ?_
                          refine L_bipush dL_bed_162 rfl ?_
                          refine L_callV (ci := 5) (as := [_]) (s_count (y := v 11 3) hS (inR_of (by omega) (by omega)) rfl) dL_bed_164 ml_L_46 cv_X5_count hS.obj rfl rfl (Nat.le_of_ble_eq_true rfl) (Nat.le_of_ble_eq_true rfl) rfl (fun r h2 hp => ?_)
                          obtain ⟨rfl, hS⟩ := hp
                          refine L_icmp_le (tgt := 177) dL_bed_167 (by decide) (inR_of (by omega) (by omega)) (inR_of (by omega) (by omega)) (fun hc167 => ?_) (fun hc167 => ?_)
                          · skip
                            refine L_iinc dL_bed_177 (by decide) rfl rfl rfl ?_
                            refine L_goto (tgt := 13) dL_bed_180 (by decide) ?_
                            refine L_forget 6 rfl ?_
                            refine L_forget 7 rfl ?_
                            exact ih (k + 1) _ hS (by omega) (by omega)
                          · skip
                            refine L_iload dL_bed_170 rfl ?_
                            refine L_if_le (tgt := 177) dL_bed_172 (by decide) (inR_of (by omega) (by omega)) (fun hc172 => ?_) (fun hc172 => ?_)
                            · skip
                              refine L_iinc dL_bed_177 (by decide) rfl rfl rfl ?_
                              refine L_goto (tgt := 13) dL_bed_180 (by decide) ?_
                              refine L_forget 6 rfl ?_
                              refine L_forget 7 rfl ?_
                              exact ih (k + 1) _ hS (by omega) (by omega)
                            · skip
                              exfalso; omega
            · skip
              refine L_if_lt (tgt := 79) dL_bed_72 (by decide) (inR_of (by omega) (by omega)) (fun hc72 => ?_) (fun hc72 => ?_)
              · skip
                refine L_iconst dL_bed_79 ?_
                exact J _ _ hS (by first | exact (if_pos (by omega)).symm | exact (if_neg (by omega)).symm)
              · skip
                refine L_iconst dL_bed_75 ?_
                refine L_goto (tgt := 80) dL_bed_76 (by decide) ?_
                exact J _ _ hS (by first | exact (if_pos (by omega)).symm | exact (if_neg (by omega)).symm)
          · skip
            refine L_if_le (tgt := 66) dL_bed_58 (by decide) (inR_of (by omega) (by omega)) (fun hc58 => ?_) (fun hc58 => ?_)
            · skip
              refine L_iload_n dL_bed_66 rfl rfl ?_
              exact J _ _ hS (by first | exact (if_pos (by omega)).symm | exact (if_neg (by omega)).symm)
            · skip
              refine L_iload dL_bed_61 rfl ?_
              refine L_goto (tgt := 67) dL_bed_63 (by decide) ?_
              exact J _ _ hS (by first | exact (if_pos (by omega)).symm | exact (if_neg (by omega)).symm)
        · skip
          refine L_if_le (tgt := 48) dL_bed_41 (by decide) (inR_of (by omega) (by omega)) (fun hc41 => ?_) (fun hc41 => ?_)
          · skip
            refine L_iconst dL_bed_48 ?_
            exact J _ _ hS (by unfold wetI; first | exact (if_pos (by omega)).symm | exact (if_neg (by omega)).symm)
          · skip
            refine L_iconst dL_bed_44 ?_
            refine L_goto (tgt := 49) dL_bed_45 (by decide) ?_
            exact J _ _ hS (by unfold wetI; first | exact (if_pos (by omega)).symm | exact (if_neg (by omega)).symm)
  refine L_iconst dL_bed_0 ?_
  refine L_istore_n dL_bed_1 rfl (by decide) rfl rfl ?_
  refine L_iconst dL_bed_2 ?_
  refine L_istore_n dL_bed_3 rfl (by decide) rfl rfl ?_
  refine L_bipush dL_bed_4 rfl ?_
  refine L_istore_n dL_bed_6 rfl (by decide) rfl rfl ?_
  refine L_iconst dL_bed_7 ?_
  refine L_istore dL_bed_8 (by decide) rfl rfl ?_
  refine L_iconst dL_bed_10 ?_
  refine L_istore dL_bed_11 (by decide) rfl rfl ?_
  exact L 41 0 _ hS (by omega) (by omega)
end
section
/-! the law: hangs, print -/
set_option maxRecDepth 100000 in
set_option maxHeartbeats 8000000 in
theorem c_L_hangs (h : List PO) (v : SV) (hv : Int → SV) (sz ks : Int) (sw : SV) (hS : SYS h v hv sz ks sw) : PMw 7 yL_hangs cL_hangs 9 (some .boolean) h [r_ 0] (fun r0 h2 => r0 = some (w_ 1) ∧ SYS h2 v hv sz ks sw) := by
  refine PMw_of [some (p_ 0), none, none, none, none, none, none, none, none] rfl (by decide +kernel) (Nat.le_of_ble_eq_true rfl) rfl ?_
  have L : ∀ (fu : Nat) (k : Nat) (hh : List PO), SYS hh v hv sz ks sw → k ≤ (v 11 0).toNat → (v 11 0).toNat - k < fu → GM 7 cL_hangs 9 (some .boolean) hh 9 [some (p_ 0), some (w_ (sumN (v 7) k)), some (w_ (sumN (v 6) k)), some (w_ (sumN (v 8) k)), some (w_ (k : Int)), none, none, none, none] [] (fun r0 h2 => r0 = some (w_ 1) ∧ SYS h2 v hv sz ks sw) := by
    intro fu
    induction fu with
    | zero => intro k hh hS hk hmeas; exfalso; omega
    | succ fu ih =>
      intro k hh hS hk hmeas
      have hg := hS.gen
      refine L_iload dL_hangs_9 rfl ?_
      refine L_aload_n dL_hangs_11 rfl rfl ?_
      refine L_iconst dL_hangs_12 ?_
      refine L_callV (ci := 5) (as := [_]) (s_count (y := v 11 0) hS (inR_of (by omega) (by omega)) rfl) dL_hangs_13 ml_L_46 cv_X5_count hS.obj rfl rfl (Nat.le_of_ble_eq_true rfl) (Nat.le_of_ble_eq_true rfl) rfl (fun r h2 hp => ?_)
      obtain ⟨rfl, hS⟩ := hp
      refine L_icmp_ge (tgt := 267) dL_hangs_16 (by decide) (inR_of (by omega) (by omega)) (inR_of (by omega) (by omega)) (fun hc16 => ?_) (fun hc16 => ?_)
      · skip
        have hk2 : k = (v 11 0).toNat := by omega
        subst hk2
        have hg := hS.gen
        refine L_aload_n dL_hangs_267 rfl rfl ?_
        refine L_iconst dL_hangs_268 ?_
        refine L_callV (ci := 5) (as := [_]) (s_count (y := sumN (v 7) (v 11 0).toNat) hS (inR_of (by omega) (by omega)) rfl) dL_hangs_269 ml_L_46 cv_X5_count hS.obj rfl rfl (Nat.le_of_ble_eq_true rfl) (Nat.le_of_ble_eq_true rfl) rfl (fun r h2 hp => ?_)
        obtain ⟨rfl, hS⟩ := hp
        refine L_iload_n dL_hangs_272 rfl rfl ?_
        refine L_icmp_neE dL_hangs_273 (by decide) (rfl) ?_
        refine L_aload_n dL_hangs_276 rfl rfl ?_
        refine L_bipush dL_hangs_277 rfl ?_
        refine L_callV (ci := 5) (as := [_]) (s_count (y := sumN (v 6) (v 11 0).toNat) hS (inR_of (by omega) (by omega)) rfl) dL_hangs_279 ml_L_46 cv_X5_count hS.obj rfl rfl (Nat.le_of_ble_eq_true rfl) (Nat.le_of_ble_eq_true rfl) rfl (fun r h2 hp => ?_)
        obtain ⟨rfl, hS⟩ := hp
        refine L_iload_n dL_hangs_282 rfl rfl ?_
        refine L_icmp_neE dL_hangs_283 (by decide) (rfl) ?_
        refine L_aload_n dL_hangs_286 rfl rfl ?_
        refine L_bipush dL_hangs_287 rfl ?_
        refine L_callV (ci := 5) (as := [_]) (s_count (y := sumN (v 8) (v 11 0).toNat) hS (inR_of (by omega) (by omega)) rfl) dL_hangs_289 ml_L_46 cv_X5_count hS.obj rfl rfl (Nat.le_of_ble_eq_true rfl) (Nat.le_of_ble_eq_true rfl) rfl (fun r h2 hp => ?_)
        obtain ⟨rfl, hS⟩ := hp
        refine L_iload_n dL_hangs_292 rfl rfl ?_
        refine L_icmp_neE dL_hangs_293 (by decide) (rfl) ?_
        refine L_aload_n dL_hangs_296 rfl rfl ?_
        refine L_iconst dL_hangs_297 ?_
        refine L_callV (ci := 5) (as := [_]) (s_count (y := v 11 0) hS (inR_of (by omega) (by omega)) rfl) dL_hangs_298 ml_L_46 cv_X5_count hS.obj rfl rfl (Nat.le_of_ble_eq_true rfl) (Nat.le_of_ble_eq_true rfl) rfl (fun r h2 hp => ?_)
        obtain ⟨rfl, hS⟩ := hp
        refine L_bipush dL_hangs_301 rfl ?_
        refine L_icmp_ge (tgt := 317) dL_hangs_303 (by decide) (inR_of (by omega) (by omega)) (inR_of (by omega) (by omega)) (fun hc303 => ?_) (fun hc303 => ?_)
        · skip
          exfalso; omega
        · skip
          refine L_aload_n dL_hangs_306 rfl rfl ?_
          refine L_callS (as := [_]) (c_L_bed _ v hv sz ks sw hS) dL_hangs_307 ml_L_56 cs_L_bed rfl (Nat.le_of_ble_eq_true rfl) (Nat.le_of_ble_eq_true rfl) rfl (fun r h2 hp => ?_)
          obtain ⟨rfl, hS⟩ := hp
          refine L_if_eq (tgt := 317) dL_hangs_310 (by decide) (inR_of (by omega) (by omega)) (fun hc310 => ?_) (fun hc310 => ?_)
          · skip
            exfalso; omega
          · skip
            refine L_iconst dL_hangs_313 ?_
            refine L_goto (tgt := 318) dL_hangs_314 (by decide) ?_
            refine M_zreturn dL_hangs_318 rfl (Or.inr rfl) ?_
            exact ⟨rfl, hS⟩
      · skip
        have hb := hS.wel (w := (k : Int)) (by omega) (by omega)
        have hg := hS.gen
        refine L_aload_n dL_hangs_19 rfl rfl ?_
        refine L_iload dL_hangs_20 rfl ?_
        refine L_iconst dL_hangs_22 ?_
        refine L_callV (ci := 5) (as := [_, _]) (s_well hS (inR_of (by omega) (by omega)) (inR_of (by omega) (by omega)) (well_1 (by omega) (by omega))) dL_hangs_23 ml_L_49 cv_X5_well hS.obj rfl rfl (Nat.le_of_ble_eq_true rfl) (Nat.le_of_ble_eq_true rfl) rfl (fun r h2 hp => ?_)
        obtain ⟨rfl, hS⟩ := hp
        refine L_istore dL_hangs_26 (by decide) rfl rfl ?_
        refine L_aload_n dL_hangs_28 rfl rfl ?_
        refine L_iload dL_hangs_29 rfl ?_
        refine L_iconst dL_hangs_31 ?_
        refine L_callV (ci := 5) (as := [_, _]) (s_well hS (inR_of (by omega) (by omega)) (inR_of (by omega) (by omega)) (well_3 (by omega) (by omega))) dL_hangs_32 ml_L_49 cv_X5_well hS.obj rfl rfl (Nat.le_of_ble_eq_true rfl) (Nat.le_of_ble_eq_true rfl) rfl (fun r h2 hp => ?_)
        obtain ⟨rfl, hS⟩ := hp
        refine L_iconst dL_hangs_35 ?_
        refine L_fork2 44 (v 7 (k : Int)) (fun h => SYS h v hv sz ks sw) rfl (fun h2 hS => ?_) (fun J => ?_)
        · skip
          refine L_istore dL_hangs_44 (by decide) rfl rfl ?_
          refine L_iconst dL_hangs_46 ?_
          refine L_istore dL_hangs_47 (by decide) rfl rfl ?_
          have L2 : ∀ (fu2 : Nat) (m : Nat) (hh2 : List PO), SYS hh2 v hv sz ks sw → m ≤ (v 11 0).toNat → (v 11 0).toNat - m < fu2 → GM 7 cL_hangs 9 (some .boolean) hh2 49 [some (p_ 0), some (w_ (sumN (v 7) k)), some (w_ (sumN (v 6) k)), some (w_ (sumN (v 8) k)), some (w_ (k : Int)), some (w_ (conN (v 4) (v 5) (v 7) (k : Int) m)), some (w_ (v 7 (k : Int))), some (w_ (m : Int)), none] [] (fun r0 h2 => r0 = some (w_ 1) ∧ SYS h2 v hv sz ks sw) := by
            intro fu2
            induction fu2 with
            | zero => intro m hh2 hS hm hmeas2; exfalso; omega
            | succ fu2 ih2 =>
              intro m hh2 hS hm hmeas2
              refine L_iload dL_hangs_49 rfl ?_
              refine L_aload_n dL_hangs_51 rfl rfl ?_
              refine L_iconst dL_hangs_52 ?_
              refine L_callV (ci := 5) (as := [_]) (s_count (y := v 11 0) hS (inR_of (by omega) (by omega)) rfl) dL_hangs_53 ml_L_46 cv_X5_count hS.obj rfl rfl (Nat.le_of_ble_eq_true rfl) (Nat.le_of_ble_eq_true rfl) rfl (fun r h2 hp => ?_)
              obtain ⟨rfl, hS⟩ := hp
              refine L_icmp_ge (tgt := 120) dL_hangs_56 (by decide) (inR_of (by omega) (by omega)) (inR_of (by omega) (by omega)) (fun hc56 => ?_) (fun hc56 => ?_)
              · skip
                have hm2 : m = (v 11 0).toNat := by omega
                subst hm2
                have hcr := conN_rng (c := v 4) (z := v 7) (w := (k : Int)) hS.ok.2.2.2.1.2.1 (by omega) (by omega) (v 11 0).toNat (by omega)
                have hcon : conI (v 4) (v 5) (v 7) (v 11 0) (k : Int) = if v 7 (k : Int) = 1 then 0 else max (conN (v 4) (v 5) (v 7) (k : Int) (v 11 0).toNat) 0 := by
                  unfold conI
                  by_cases z : v 7 (k : Int) = 1
                  · rw [if_pos (Or.inr z), if_pos z]
                  · rw [if_neg z, if_neg (by omega)]
                refine L_iload_n dL_hangs_120 rfl rfl ?_
                refine L_aload_n dL_hangs_121 rfl rfl ?_
                refine L_iload dL_hangs_122 rfl ?_
                refine L_iconst dL_hangs_124 ?_
                refine L_callV (ci := 5) (as := [_, _]) (s_well hS (inR_of (by omega) (by omega)) (inR_of (by omega) (by omega)) (well_3 (by omega) (by omega))) dL_hangs_125 ml_L_49 cv_X5_well hS.obj rfl rfl (Nat.le_of_ble_eq_true rfl) (Nat.le_of_ble_eq_true rfl) rfl (fun r h2 hp => ?_)
                obtain ⟨rfl, hS⟩ := hp
                refine L_iadd dL_hangs_128 ?_
                refine L_istore_n dL_hangs_129 rfl (by decide) rfl rfl ?_
                refine L_iload_n dL_hangs_130 rfl rfl ?_
                refine L_aload_n dL_hangs_131 rfl rfl ?_
                refine L_iload dL_hangs_132 rfl ?_
                refine L_iconst dL_hangs_134 ?_
                refine L_callV (ci := 5) (as := [_, _]) (s_well hS (inR_of (by omega) (by omega)) (inR_of (by omega) (by omega)) (well_2 (by omega) (by omega))) dL_hangs_135 ml_L_49 cv_X5_well hS.obj rfl rfl (Nat.le_of_ble_eq_true rfl) (Nat.le_of_ble_eq_true rfl) rfl (fun r h2 hp => ?_)
                obtain ⟨rfl, hS⟩ := hp
                refine L_iadd dL_hangs_138 ?_
                refine L_istore_n dL_hangs_139 rfl (by decide) rfl rfl ?_
                refine L_iload_n dL_hangs_140 rfl rfl ?_
                refine L_aload_n dL_hangs_141 rfl rfl ?_
                refine L_iload dL_hangs_142 rfl ?_
                refine L_iconst dL_hangs_144 ?_
                refine L_callV (ci := 5) (as := [_, _]) (s_well hS (inR_of (by omega) (by omega)) (inR_of (by omega) (by omega)) (well_5 (by omega) (by omega))) dL_hangs_145 ml_L_49 cv_X5_well hS.obj rfl rfl (Nat.le_of_ble_eq_true rfl) (Nat.le_of_ble_eq_true rfl) rfl (fun r h2 hp => ?_)
                obtain ⟨rfl, hS⟩ := hp
                refine L_iadd dL_hangs_148 ?_
                refine L_istore_n dL_hangs_149 rfl (by decide) rfl rfl ?_
                refine L_aload_n dL_hangs_150 rfl rfl ?_
                refine L_iload dL_hangs_151 rfl ?_
                refine L_iconst dL_hangs_153 ?_
                refine L_callV (ci := 5) (as := [_, _]) (s_well hS (inR_of (by omega) (by omega)) (inR_of (by omega) (by omega)) (well_4 (by omega) (by omega))) dL_hangs_154 ml_L_49 cv_X5_well hS.obj rfl rfl (Nat.le_of_ble_eq_true rfl) (Nat.le_of_ble_eq_true rfl) rfl (fun r h2 hp => ?_)
                obtain ⟨rfl, hS⟩ := hp
                refine L_iload dL_hangs_157 rfl ?_
                refine L_fork1 173 (conI (v 4) (v 5) (v 7) (v 11 0) (k : Int)) (fun h => SYS h v hv sz ks sw) rfl (fun h2 hS => ?_) (fun J => ?_)
                · skip
                  refine L_icmp_neE dL_hangs_173 (by decide) (rfl) ?_
                  refine L_aload_n dL_hangs_176 rfl rfl ?_
                  refine L_aload_n dL_hangs_177 rfl rfl ?_
                  refine L_iload dL_hangs_178 rfl ?_
                  refine L_iconst dL_hangs_180 ?_
                  refine L_callV (ci := 5) (as := [_, _]) (s_well hS (inR_of (by omega) (by omega)) (inR_of (by omega) (by omega)) (well_0 (by omega) (by omega))) dL_hangs_181 ml_L_49 cv_X5_well hS.obj rfl rfl (Nat.le_of_ble_eq_true rfl) (Nat.le_of_ble_eq_true rfl) rfl (fun r h2 hp => ?_)
                  obtain ⟨rfl, hS⟩ := hp
                  refine L_iconst dL_hangs_184 ?_
                  refine L_callV (ci := 5) (as := [_, _]) (s_cell hS (inR_of (by omega) (by omega)) (inR_of (by omega) (by omega)) (cell_3 (by omega) (by omega))) dL_hangs_185 ml_L_43 cv_X5_cell hS.obj rfl rfl (Nat.le_of_ble_eq_true rfl) (Nat.le_of_ble_eq_true rfl) rfl (fun r h2 hp => ?_)
                  obtain ⟨rfl, hS⟩ := hp
                  refine L_iload dL_hangs_188 rfl ?_
                  refine L_icmp_neE dL_hangs_190 (by decide) (hS.bes (by omega) (by omega)) ?_
                  have hrx : v 7 (k : Int) = 0 ∨ v 7 (k : Int) = 1 := by omega
                  refine L_iload dL_hangs_193 rfl ?_
                  refine L_if_eq (tgt := 208) dL_hangs_195 (by decide) (inR_of (by omega) (by omega)) (fun hc195 => ?_) (fun hc195 => ?_)
                  · skip
                    refine L_iload dL_hangs_208 rfl ?_
                    refine L_if_ne (tgt := 225) dL_hangs_210 (by decide) (inR_of (by omega) (by omega)) (fun hc210 => ?_) (fun hc210 => ?_)
                    · skip
                      refine L_iload dL_hangs_225 rfl ?_
                      refine L_if_eq (tgt := 241) dL_hangs_227 (by decide) (inR_of (by omega) (by omega)) (fun hc227 => ?_) (fun hc227 => ?_)
                      · skip
                        refine L_aload_n dL_hangs_241 rfl rfl ?_
                        refine L_iload dL_hangs_242 rfl ?_
                        refine L_iconst dL_hangs_244 ?_
                        refine L_callV (ci := 5) (as := [_, _]) (s_well hS (inR_of (by omega) (by omega)) (inR_of (by omega) (by omega)) (well_5 (by omega) (by omega))) dL_hangs_245 ml_L_49 cv_X5_well hS.obj rfl rfl (Nat.le_of_ble_eq_true rfl) (Nat.le_of_ble_eq_true rfl) rfl (fun r h2 hp => ?_)
                        obtain ⟨rfl, hS⟩ := hp
                        refine L_bipush dL_hangs_248 rfl ?_
                        refine L_aload_n dL_hangs_250 rfl rfl ?_
                        refine L_iconst dL_hangs_251 ?_
                        refine L_callV (ci := 5) (as := [_]) (s_count (y := v 11 2) hS (inR_of (by omega) (by omega)) rfl) dL_hangs_252 ml_L_46 cv_X5_count hS.obj rfl rfl (Nat.le_of_ble_eq_true rfl) (Nat.le_of_ble_eq_true rfl) rfl (fun r h2 hp => ?_)
                        obtain ⟨rfl, hS⟩ := hp
                        refine L_imul dL_hangs_255 ?_
                        refine L_icmp_le (tgt := 261) dL_hangs_256 (by decide) (inR_of (by omega) (by omega)) (inR_of (by omega) (by omega)) (fun hc256 => ?_) (fun hc256 => ?_)
                        · skip
                          refine L_iinc dL_hangs_261 (by decide) rfl rfl rfl ?_
                          refine L_goto (tgt := 9) dL_hangs_264 (by decide) ?_
                          refine L_forget 5 rfl ?_
                          refine L_forget 6 rfl ?_
                          refine L_forget 7 rfl ?_
                          refine L_forget 8 rfl ?_
                          exact ih (k + 1) _ hS (by omega) (by omega)
                        · skip
                          exfalso; omega
                      · skip
                        refine L_aload_n dL_hangs_230 rfl rfl ?_
                        refine L_iload dL_hangs_231 rfl ?_
                        refine L_bipush dL_hangs_233 rfl ?_
                        refine L_callV (ci := 5) (as := [_, _]) (s_well hS (inR_of (by omega) (by omega)) (inR_of (by omega) (by omega)) (well_6 (by omega) (by omega))) dL_hangs_235 ml_L_49 cv_X5_well hS.obj rfl rfl (Nat.le_of_ble_eq_true rfl) (Nat.le_of_ble_eq_true rfl) rfl (fun r h2 hp => ?_)
                        obtain ⟨rfl, hS⟩ := hp
                        refine L_if_eq (tgt := 259) dL_hangs_238 (by decide) (inR_of (by omega) (by omega)) (fun hc238 => ?_) (fun hc238 => ?_)
                        · skip
                          exfalso; omega
                        · skip
                          refine L_aload_n dL_hangs_241 rfl rfl ?_
                          refine L_iload dL_hangs_242 rfl ?_
                          refine L_iconst dL_hangs_244 ?_
                          refine L_callV (ci := 5) (as := [_, _]) (s_well hS (inR_of (by omega) (by omega)) (inR_of (by omega) (by omega)) (well_5 (by omega) (by omega))) dL_hangs_245 ml_L_49 cv_X5_well hS.obj rfl rfl (Nat.le_of_ble_eq_true rfl) (Nat.le_of_ble_eq_true rfl) rfl (fun r h2 hp => ?_)
                          obtain ⟨rfl, hS⟩ := hp
                          refine L_bipush dL_hangs_248 rfl ?_
                          refine L_aload_n dL_hangs_250 rfl rfl ?_
                          refine L_iconst dL_hangs_251 ?_
                          refine L_callV (ci := 5) (as := [_]) (s_count (y := v 11 2) hS (inR_of (by omega) (by omega)) rfl) dL_hangs_252 ml_L_46 cv_X5_count hS.obj rfl rfl (Nat.le_of_ble_eq_true rfl) (Nat.le_of_ble_eq_true rfl) rfl (fun r h2 hp => ?_)
                          obtain ⟨rfl, hS⟩ := hp
                          refine L_imul dL_hangs_255 ?_
                          refine L_icmp_le (tgt := 261) dL_hangs_256 (by decide) (inR_of (by omega) (by omega)) (inR_of (by omega) (by omega)) (fun hc256 => ?_) (fun hc256 => ?_)
                          · skip
                            refine L_iinc dL_hangs_261 (by decide) rfl rfl rfl ?_
                            refine L_goto (tgt := 9) dL_hangs_264 (by decide) ?_
                            refine L_forget 5 rfl ?_
                            refine L_forget 6 rfl ?_
                            refine L_forget 7 rfl ?_
                            refine L_forget 8 rfl ?_
                            exact ih (k + 1) _ hS (by omega) (by omega)
                          · skip
                            exfalso; omega
                    · skip
                      refine L_aload_n dL_hangs_213 rfl rfl ?_
                      refine L_iload dL_hangs_214 rfl ?_
                      refine L_iconst dL_hangs_216 ?_
                      refine L_callV (ci := 5) (as := [_, _]) (s_well hS (inR_of (by omega) (by omega)) (inR_of (by omega) (by omega)) (well_2 (by omega) (by omega))) dL_hangs_217 ml_L_49 cv_X5_well hS.obj rfl rfl (Nat.le_of_ble_eq_true rfl) (Nat.le_of_ble_eq_true rfl) rfl (fun r h2 hp => ?_)
                      obtain ⟨rfl, hS⟩ := hp
                      refine L_bipush dL_hangs_220 rfl ?_
                      refine L_icmp_gt (tgt := 259) dL_hangs_222 (by decide) (inR_of (by omega) (by omega)) (inR_of (by omega) (by omega)) (fun hc222 => ?_) (fun hc222 => ?_)
                      · skip
                        exfalso; omega
                      · skip
                        refine L_iload dL_hangs_225 rfl ?_
                        refine L_if_eq (tgt := 241) dL_hangs_227 (by decide) (inR_of (by omega) (by omega)) (fun hc227 => ?_) (fun hc227 => ?_)
                        · skip
                          refine L_aload_n dL_hangs_241 rfl rfl ?_
                          refine L_iload dL_hangs_242 rfl ?_
                          refine L_iconst dL_hangs_244 ?_
                          refine L_callV (ci := 5) (as := [_, _]) (s_well hS (inR_of (by omega) (by omega)) (inR_of (by omega) (by omega)) (well_5 (by omega) (by omega))) dL_hangs_245 ml_L_49 cv_X5_well hS.obj rfl rfl (Nat.le_of_ble_eq_true rfl) (Nat.le_of_ble_eq_true rfl) rfl (fun r h2 hp => ?_)
                          obtain ⟨rfl, hS⟩ := hp
                          refine L_bipush dL_hangs_248 rfl ?_
                          refine L_aload_n dL_hangs_250 rfl rfl ?_
                          refine L_iconst dL_hangs_251 ?_
                          refine L_callV (ci := 5) (as := [_]) (s_count (y := v 11 2) hS (inR_of (by omega) (by omega)) rfl) dL_hangs_252 ml_L_46 cv_X5_count hS.obj rfl rfl (Nat.le_of_ble_eq_true rfl) (Nat.le_of_ble_eq_true rfl) rfl (fun r h2 hp => ?_)
                          obtain ⟨rfl, hS⟩ := hp
                          refine L_imul dL_hangs_255 ?_
                          refine L_icmp_le (tgt := 261) dL_hangs_256 (by decide) (inR_of (by omega) (by omega)) (inR_of (by omega) (by omega)) (fun hc256 => ?_) (fun hc256 => ?_)
                          · skip
                            refine L_iinc dL_hangs_261 (by decide) rfl rfl rfl ?_
                            refine L_goto (tgt := 9) dL_hangs_264 (by decide) ?_
                            refine L_forget 5 rfl ?_
                            refine L_forget 6 rfl ?_
                            refine L_forget 7 rfl ?_
                            refine L_forget 8 rfl ?_
                            exact ih (k + 1) _ hS (by omega) (by omega)
                          · skip
                            exfalso; omega
                        · skip
                          refine L_aload_n dL_hangs_230 rfl rfl ?_
                          refine L_iload dL_hangs_231 rfl ?_
                          refine L_bipush dL_hangs_233 rfl ?_
                          refine L_callV (ci := 5) (as := [_, _]) (s_well hS (inR_of (by omega) (by omega)) (inR_of (by omega) (by omega)) (well_6 (by omega) (by omega))) dL_hangs_235 ml_L_49 cv_X5_well hS.obj rfl rfl (Nat.le_of_ble_eq_true rfl) (Nat.le_of_ble_eq_true rfl) rfl (fun r h2 hp => ?_)
                          obtain ⟨rfl, hS⟩ := hp
                          refine L_if_eq (tgt := 259) dL_hangs_238 (by decide) (inR_of (by omega) (by omega)) (fun hc238 => ?_) (fun hc238 => ?_)
                          · skip
                            exfalso; omega
                          · skip
                            refine L_aload_n dL_hangs_241 rfl rfl ?_
                            refine L_iload dL_hangs_242 rfl ?_
                            refine L_iconst dL_hangs_244 ?_
                            refine L_callV (ci := 5) (as := [_, _]) (s_well hS (inR_of (by omega) (by omega)) (inR_of (by omega) (by omega)) (well_5 (by omega) (by omega))) dL_hangs_245 ml_L_49 cv_X5_well hS.obj rfl rfl (Nat.le_of_ble_eq_true rfl) (Nat.le_of_ble_eq_true rfl) rfl (fun r h2 hp => ?_)
                            obtain ⟨rfl, hS⟩ := hp
                            refine L_bipush dL_hangs_248 rfl ?_
                            refine L_aload_n dL_hangs_250 rfl rfl ?_
                            refine L_iconst dL_hangs_251 ?_
                            refine L_callV (ci := 5) (as := [_]) (s_count (y := v 11 2) hS (inR_of (by omega) (by omega)) rfl) dL_hangs_252 ml_L_46 cv_X5_count hS.obj rfl rfl (Nat.le_of_ble_eq_true rfl) (Nat.le_of_ble_eq_true rfl) rfl (fun r h2 hp => ?_)
                            obtain ⟨rfl, hS⟩ := hp
                            refine L_imul dL_hangs_255 ?_
                            refine L_icmp_le (tgt := 261) dL_hangs_256 (by decide) (inR_of (by omega) (by omega)) (inR_of (by omega) (by omega)) (fun hc256 => ?_) (fun hc256 => ?_)
                            · skip
                              refine L_iinc dL_hangs_261 (by decide) rfl rfl rfl ?_
                              refine L_goto (tgt := 9) dL_hangs_264 (by decide) ?_
                              refine L_forget 5 rfl ?_
                              refine L_forget 6 rfl ?_
                              refine L_forget 7 rfl ?_
                              refine L_forget 8 rfl ?_
                              exact ih (k + 1) _ hS (by omega) (by omega)
                            · skip
                              exfalso; omega
                  · skip
                    refine L_aload_n dL_hangs_198 rfl rfl ?_
                    refine L_iload dL_hangs_199 rfl ?_
                    refine L_iconst dL_hangs_201 ?_
                    refine L_callV (ci := 5) (as := [_, _]) (s_well hS (inR_of (by omega) (by omega)) (inR_of (by omega) (by omega)) (well_2 (by omega) (by omega))) dL_hangs_202 ml_L_49 cv_X5_well hS.obj rfl rfl (Nat.le_of_ble_eq_true rfl) (Nat.le_of_ble_eq_true rfl) rfl (fun r h2 hp => ?_)
                    obtain ⟨rfl, hS⟩ := hp
                    refine L_if_eq (tgt := 259) dL_hangs_205 (by decide) (inR_of (by omega) (by omega)) (fun hc205 => ?_) (fun hc205 => ?_)
                    · skip
                      exfalso; omega
                    · skip
                      refine L_iload dL_hangs_208 rfl ?_
                      refine L_if_ne (tgt := 225) dL_hangs_210 (by decide) (inR_of (by omega) (by omega)) (fun hc210 => ?_) (fun hc210 => ?_)
                      · skip
                        refine L_iload dL_hangs_225 rfl ?_
                        refine L_if_eq (tgt := 241) dL_hangs_227 (by decide) (inR_of (by omega) (by omega)) (fun hc227 => ?_) (fun hc227 => ?_)
                        · skip
                          refine L_aload_n dL_hangs_241 rfl rfl ?_
                          refine L_iload dL_hangs_242 rfl ?_
                          refine L_iconst dL_hangs_244 ?_
                          refine L_callV (ci := 5) (as := [_, _]) (s_well hS (inR_of (by omega) (by omega)) (inR_of (by omega) (by omega)) (well_5 (by omega) (by omega))) dL_hangs_245 ml_L_49 cv_X5_well hS.obj rfl rfl (Nat.le_of_ble_eq_true rfl) (Nat.le_of_ble_eq_true rfl) rfl (fun r h2 hp => ?_)
                          obtain ⟨rfl, hS⟩ := hp
                          refine L_bipush dL_hangs_248 rfl ?_
                          refine L_aload_n dL_hangs_250 rfl rfl ?_
                          refine L_iconst dL_hangs_251 ?_
                          refine L_callV (ci := 5) (as := [_]) (s_count (y := v 11 2) hS (inR_of (by omega) (by omega)) rfl) dL_hangs_252 ml_L_46 cv_X5_count hS.obj rfl rfl (Nat.le_of_ble_eq_true rfl) (Nat.le_of_ble_eq_true rfl) rfl (fun r h2 hp => ?_)
                          obtain ⟨rfl, hS⟩ := hp
                          refine L_imul dL_hangs_255 ?_
                          refine L_icmp_le (tgt := 261) dL_hangs_256 (by decide) (inR_of (by omega) (by omega)) (inR_of (by omega) (by omega)) (fun hc256 => ?_) (fun hc256 => ?_)
                          · skip
                            refine L_iinc dL_hangs_261 (by decide) rfl rfl rfl ?_
                            refine L_goto (tgt := 9) dL_hangs_264 (by decide) ?_
                            refine L_forget 5 rfl ?_
                            refine L_forget 6 rfl ?_
                            refine L_forget 7 rfl ?_
                            refine L_forget 8 rfl ?_
                            exact ih (k + 1) _ hS (by omega) (by omega)
                          · skip
                            exfalso; omega
                        · skip
                          refine L_aload_n dL_hangs_230 rfl rfl ?_
                          refine L_iload dL_hangs_231 rfl ?_
                          refine L_bipush dL_hangs_233 rfl ?_
                          refine L_callV (ci := 5) (as := [_, _]) (s_well hS (inR_of (by omega) (by omega)) (inR_of (by omega) (by omega)) (well_6 (by omega) (by omega))) dL_hangs_235 ml_L_49 cv_X5_well hS.obj rfl rfl (Nat.le_of_ble_eq_true rfl) (Nat.le_of_ble_eq_true rfl) rfl (fun r h2 hp => ?_)
                          obtain ⟨rfl, hS⟩ := hp
                          refine L_if_eq (tgt := 259) dL_hangs_238 (by decide) (inR_of (by omega) (by omega)) (fun hc238 => ?_) (fun hc238 => ?_)
                          · skip
                            exfalso; omega
                          · skip
                            refine L_aload_n dL_hangs_241 rfl rfl ?_
                            refine L_iload dL_hangs_242 rfl ?_
                            refine L_iconst dL_hangs_244 ?_
                            refine L_callV (ci := 5) (as := [_, _]) (s_well hS (inR_of (by omega) (by omega)) (inR_of (by omega) (by omega)) (well_5 (by omega) (by omega))) dL_hangs_245 ml_L_49 cv_X5_well hS.obj rfl rfl (Nat.le_of_ble_eq_true rfl) (Nat.le_of_ble_eq_true rfl) rfl (fun r h2 hp => ?_)
                            obtain ⟨rfl, hS⟩ := hp
                            refine L_bipush dL_hangs_248 rfl ?_
                            refine L_aload_n dL_hangs_250 rfl rfl ?_
                            refine L_iconst dL_hangs_251 ?_
                            refine L_callV (ci := 5) (as := [_]) (s_count (y := v 11 2) hS (inR_of (by omega) (by omega)) rfl) dL_hangs_252 ml_L_46 cv_X5_count hS.obj rfl rfl (Nat.le_of_ble_eq_true rfl) (Nat.le_of_ble_eq_true rfl) rfl (fun r h2 hp => ?_)
                            obtain ⟨rfl, hS⟩ := hp
                            refine L_imul dL_hangs_255 ?_
                            refine L_icmp_le (tgt := 261) dL_hangs_256 (by decide) (inR_of (by omega) (by omega)) (inR_of (by omega) (by omega)) (fun hc256 => ?_) (fun hc256 => ?_)
                            · skip
                              refine L_iinc dL_hangs_261 (by decide) rfl rfl rfl ?_
                              refine L_goto (tgt := 9) dL_hangs_264 (by decide) ?_
                              refine L_forget 5 rfl ?_
                              refine L_forget 6 rfl ?_
                              refine L_forget 7 rfl ?_
                              refine L_forget 8 rfl ?_
                              exact ih (k + 1) _ hS (by omega) (by omega)
                            · skip
                              exfalso; omega
                      · skip
                        refine L_aload_n dL_hangs_213 rfl rfl ?_
                        refine L_iload dL_hangs_214 rfl ?_
                        refine L_iconst dL_hangs_216 ?_
                        refine L_callV (ci := 5) (as := [_, _]) (s_well hS (inR_of (by omega) (by omega)) (inR_of (by omega) (by omega)) (well_2 (by omega) (by omega))) dL_hangs_217 ml_L_49 cv_X5_well hS.obj rfl rfl (Nat.le_of_ble_eq_true rfl) (Nat.le_of_ble_eq_true rfl) rfl (fun r h2 hp => ?_)
                        obtain ⟨rfl, hS⟩ := hp
                        refine L_bipush dL_hangs_220 rfl ?_
                        refine L_icmp_gt (tgt := 259) dL_hangs_222 (by decide) (inR_of (by omega) (by omega)) (inR_of (by omega) (by omega)) (fun hc222 => ?_) (fun hc222 => ?_)
                        · skip
                          exfalso; omega
                        · skip
                          refine L_iload dL_hangs_225 rfl ?_
                          refine L_if_eq (tgt := 241) dL_hangs_227 (by decide) (inR_of (by omega) (by omega)) (fun hc227 => ?_) (fun hc227 => ?_)
                          · skip
                            refine L_aload_n dL_hangs_241 rfl rfl ?_
                            refine L_iload dL_hangs_242 rfl ?_
                            refine L_iconst dL_hangs_244 ?_
                            refine L_callV (ci := 5) (as := [_, _]) (s_well hS (inR_of (by omega) (by omega)) (inR_of (by omega) (by omega)) (well_5 (by omega) (by omega))) dL_hangs_245 ml_L_49 cv_X5_well hS.obj rfl rfl (Nat.le_of_ble_eq_true rfl) (Nat.le_of_ble_eq_true rfl) rfl (fun r h2 hp => ?_)
                            obtain ⟨rfl, hS⟩ := hp
                            refine L_bipush dL_hangs_248 rfl ?_
                            refine L_aload_n dL_hangs_250 rfl rfl ?_
                            refine L_iconst dL_hangs_251 ?_
                            refine L_callV (ci := 5) (as := [_]) (s_count (y := v 11 2) hS (inR_of (by omega) (by omega)) rfl) dL_hangs_252 ml_L_46 cv_X5_count hS.obj rfl rfl (Nat.le_of_ble_eq_true rfl) (Nat.le_of_ble_eq_true rfl) rfl (fun r h2 hp => ?_)
                            obtain ⟨rfl, hS⟩ := hp
                            refine L_imul dL_hangs_255 ?_
                            refine L_icmp_le (tgt := 261) dL_hangs_256 (by decide) (inR_of (by omega) (by omega)) (inR_of (by omega) (by omega)) (fun hc256 => ?_) (fun hc256 => ?_)
                            · skip
                              refine L_iinc dL_hangs_261 (by decide) rfl rfl rfl ?_
                              refine L_goto (tgt := 9) dL_hangs_264 (by decide) ?_
                              refine L_forget 5 rfl ?_
                              refine L_forget 6 rfl ?_
                              refine L_forget 7 rfl ?_
                              refine L_forget 8 rfl ?_
                              exact ih (k + 1) _ hS (by omega) (by omega)
                            · skip
                              exfalso; omega
                          · skip
                            refine L_aload_n dL_hangs_230 rfl rfl ?_
                            refine L_iload dL_hangs_231 rfl ?_
                            refine L_bipush dL_hangs_233 rfl ?_
                            refine L_callV (ci := 5) (as := [_, _]) (s_well hS (inR_of (by omega) (by omega)) (inR_of (by omega) (by omega)) (well_6 (by omega) (by omega))) dL_hangs_235 ml_L_49 cv_X5_well hS.obj rfl rfl (Nat.le_of_ble_eq_true rfl) (Nat.le_of_ble_eq_true rfl) rfl (fun r h2 hp => ?_)
                            obtain ⟨rfl, hS⟩ := hp
                            refine L_if_eq (tgt := 259) dL_hangs_238 (by decide) (inR_of (by omega) (by omega)) (fun hc238 => ?_) (fun hc238 => ?_)
                            · skip
                              exfalso; omega
                            · skip
                              refine L_aload_n dL_hangs_241 rfl rfl ?_
                              refine L_iload dL_hangs_242 rfl ?_
                              refine L_iconst dL_hangs_244 ?_
                              refine L_callV (ci := 5) (as := [_, _]) (s_well hS (inR_of (by omega) (by omega)) (inR_of (by omega) (by omega)) (well_5 (by omega) (by omega))) dL_hangs_245 ml_L_49 cv_X5_well hS.obj rfl rfl (Nat.le_of_ble_eq_true rfl) (Nat.le_of_ble_eq_true rfl) rfl (fun r h2 hp => ?_)
                              obtain ⟨rfl, hS⟩ := hp
                              refine L_bipush dL_hangs_248 rfl ?_
                              refine L_aload_n dL_hangs_250 rfl rfl ?_
                              refine L_iconst dL_hangs_251 ?_
                              refine L_callV (ci := 5) (as := [_]) (s_count (y := v 11 2) hS (inR_of (by omega) (by omega)) rfl) dL_hangs_252 ml_L_46 cv_X5_count hS.obj rfl rfl (Nat.le_of_ble_eq_true rfl) (Nat.le_of_ble_eq_true rfl) rfl (fun r h2 hp => ?_)
                              obtain ⟨rfl, hS⟩ := hp
                              refine L_imul dL_hangs_255 ?_
                              refine L_icmp_le (tgt := 261) dL_hangs_256 (by decide) (inR_of (by omega) (by omega)) (inR_of (by omega) (by omega)) (fun hc256 => ?_) (fun hc256 => ?_)
                              · skip
                                refine L_iinc dL_hangs_261 (by decide) rfl rfl rfl ?_
                                refine L_goto (tgt := 9) dL_hangs_264 (by decide) ?_
                                refine L_forget 5 rfl ?_
                                refine L_forget 6 rfl ?_
                                refine L_forget 7 rfl ?_
                                refine L_forget 8 rfl ?_
                                exact ih (k + 1) _ hS (by omega) (by omega)
                              · skip
                                exfalso; omega
                · skip
                  refine L_if_ne (tgt := 167) dL_hangs_159 (by decide) (inR_of (by omega) (by omega)) (fun hc159 => ?_) (fun hc159 => ?_)
                  · skip
                    refine L_iconst dL_hangs_167 ?_
                    refine L_goto (tgt := 173) dL_hangs_168 (by decide) ?_
                    exact J _ _ hS (by rw [hcon]; split <;> omega)
                  · skip
                    refine L_iload dL_hangs_162 rfl ?_
                    refine L_if_ge (tgt := 171) dL_hangs_164 (by decide) (inR_of (by omega) (by omega)) (fun hc164 => ?_) (fun hc164 => ?_)
                    · skip
                      refine L_iload dL_hangs_171 rfl ?_
                      exact J _ _ hS (by rw [hcon]; split <;> omega)
                    · skip
                      refine L_iconst dL_hangs_167 ?_
                      refine L_goto (tgt := 173) dL_hangs_168 (by decide) ?_
                      exact J _ _ hS (by rw [hcon]; split <;> omega)
              · skip
                have hb2 := hS.wel (w := (m : Int)) (by omega) (by omega)
                refine L_aload_n dL_hangs_59 rfl rfl ?_
                refine L_iload dL_hangs_60 rfl ?_
                refine L_iconst dL_hangs_62 ?_
                refine L_callV (ci := 5) (as := [_, _]) (s_well hS (inR_of (by omega) (by omega)) (inR_of (by omega) (by omega)) (well_0 (by omega) (by omega))) dL_hangs_63 ml_L_49 cv_X5_well hS.obj rfl rfl (Nat.le_of_ble_eq_true rfl) (Nat.le_of_ble_eq_true rfl) rfl (fun r h2 hp => ?_)
                obtain ⟨rfl, hS⟩ := hp
                refine L_aload_n dL_hangs_66 rfl rfl ?_
                refine L_iload dL_hangs_67 rfl ?_
                refine L_iconst dL_hangs_69 ?_
                refine L_callV (ci := 5) (as := [_, _]) (s_well hS (inR_of (by omega) (by omega)) (inR_of (by omega) (by omega)) (well_0 (by omega) (by omega))) dL_hangs_70 ml_L_49 cv_X5_well hS.obj rfl rfl (Nat.le_of_ble_eq_true rfl) (Nat.le_of_ble_eq_true rfl) rfl (fun r h2 hp => ?_)
                obtain ⟨rfl, hS⟩ := hp
                refine L_isub dL_hangs_73 ?_
                refine L_istore dL_hangs_74 (by decide) rfl rfl ?_
                refine L_iload dL_hangs_76 rfl ?_
                refine L_iload dL_hangs_78 rfl ?_
                refine L_iconst dL_hangs_80 ?_
                refine L_fork2 111 (if (v 4 (m : Int) - v 4 (k : Int) = 1 ∨ v 4 (m : Int) - v 4 (k : Int) = -1) ∧ v 7 (m : Int) = 0 then v 5 (m : Int) else 0) (fun h => SYS h v hv sz ks sw) rfl (fun h2 hS => ?_) (fun J => ?_)
                · skip
                  refine L_isub dL_hangs_111 ?_
                  refine L_istore dL_hangs_112 (by decide) rfl rfl ?_
                  refine L_iinc dL_hangs_114 (by decide) rfl rfl rfl ?_
                  refine L_goto (tgt := 49) dL_hangs_117 (by decide) ?_
                  refine L_forget 8 rfl ?_
                  exact ih2 (m + 1) _ hS (by omega) (by omega)
                · skip
                  refine L_icmp_eq (tgt := 90) dL_hangs_81 (by decide) (inR_of (by omega) (by omega)) (inR_of (by omega) (by omega)) (fun hc81 => ?_) (fun hc81 => ?_)
                  · skip
                    refine L_aload_n dL_hangs_90 rfl rfl ?_
                    refine L_iload dL_hangs_91 rfl ?_
                    refine L_iconst dL_hangs_93 ?_
                    refine L_callV (ci := 5) (as := [_, _]) (s_well hS (inR_of (by omega) (by omega)) (inR_of (by omega) (by omega)) (well_3 (by omega) (by omega))) dL_hangs_94 ml_L_49 cv_X5_well hS.obj rfl rfl (Nat.le_of_ble_eq_true rfl) (Nat.le_of_ble_eq_true rfl) rfl (fun r h2 hp => ?_)
                    obtain ⟨rfl, hS⟩ := hp
                    refine L_if_ne (tgt := 110) dL_hangs_97 (by decide) (inR_of (by omega) (by omega)) (fun hc97 => ?_) (fun hc97 => ?_)
                    · skip
                      refine L_iconst dL_hangs_110 ?_
                      exact J _ _ hS (by first | exact (if_pos (by omega)).symm | exact (if_neg (by omega)).symm)
                    · skip
                      refine L_aload_n dL_hangs_100 rfl rfl ?_
                      refine L_iload dL_hangs_101 rfl ?_
                      refine L_iconst dL_hangs_103 ?_
                      refine L_callV (ci := 5) (as := [_, _]) (s_well hS (inR_of (by omega) (by omega)) (inR_of (by omega) (by omega)) (well_1 (by omega) (by omega))) dL_hangs_104 ml_L_49 cv_X5_well hS.obj rfl rfl (Nat.le_of_ble_eq_true rfl) (Nat.le_of_ble_eq_true rfl) rfl (fun r h2 hp => ?_)
                      obtain ⟨rfl, hS⟩ := hp
                      refine L_goto (tgt := 111) dL_hangs_107 (by decide) ?_
                      exact J _ _ hS (by first | exact (if_pos (by omega)).symm | exact (if_neg (by omega)).symm)
                  · skip
                    refine L_iload dL_hangs_84 rfl ?_
                    refine L_iconst dL_hangs_86 ?_
                    refine L_icmp_ne (tgt := 110) dL_hangs_87 (by decide) (inR_of (by omega) (by omega)) (inR_of (by omega) (by omega)) (fun hc87 => ?_) (fun hc87 => ?_)
                    · skip
                      refine L_iconst dL_hangs_110 ?_
                      exact J _ _ hS (by first | exact (if_pos (by omega)).symm | exact (if_neg (by omega)).symm)
                    · skip
                      refine L_aload_n dL_hangs_90 rfl rfl ?_
                      refine L_iload dL_hangs_91 rfl ?_
                      refine L_iconst dL_hangs_93 ?_
                      refine L_callV (ci := 5) (as := [_, _]) (s_well hS (inR_of (by omega) (by omega)) (inR_of (by omega) (by omega)) (well_3 (by omega) (by omega))) dL_hangs_94 ml_L_49 cv_X5_well hS.obj rfl rfl (Nat.le_of_ble_eq_true rfl) (Nat.le_of_ble_eq_true rfl) rfl (fun r h2 hp => ?_)
                      obtain ⟨rfl, hS⟩ := hp
                      refine L_if_ne (tgt := 110) dL_hangs_97 (by decide) (inR_of (by omega) (by omega)) (fun hc97 => ?_) (fun hc97 => ?_)
                      · skip
                        refine L_iconst dL_hangs_110 ?_
                        exact J _ _ hS (by first | exact (if_pos (by omega)).symm | exact (if_neg (by omega)).symm)
                      · skip
                        refine L_aload_n dL_hangs_100 rfl rfl ?_
                        refine L_iload dL_hangs_101 rfl ?_
                        refine L_iconst dL_hangs_103 ?_
                        refine L_callV (ci := 5) (as := [_, _]) (s_well hS (inR_of (by omega) (by omega)) (inR_of (by omega) (by omega)) (well_1 (by omega) (by omega))) dL_hangs_104 ml_L_49 cv_X5_well hS.obj rfl rfl (Nat.le_of_ble_eq_true rfl) (Nat.le_of_ble_eq_true rfl) rfl (fun r h2 hp => ?_)
                        obtain ⟨rfl, hS⟩ := hp
                        refine L_goto (tgt := 111) dL_hangs_107 (by decide) ?_
                        exact J _ _ hS (by first | exact (if_pos (by omega)).symm | exact (if_neg (by omega)).symm)
          exact L2 ((v 11 0).toNat + 1) 0 _ hS (by omega) (by omega)
        · skip
          refine L_icmp_ne (tgt := 43) dL_hangs_36 (by decide) (inR_of (by omega) (by omega)) (inR_of (by omega) (by omega)) (fun hc36 => ?_) (fun hc36 => ?_)
          · skip
            refine L_iconst dL_hangs_43 ?_
            exact J _ _ hS (by omega)
          · skip
            refine L_iconst dL_hangs_39 ?_
            refine L_goto (tgt := 44) dL_hangs_40 (by decide) ?_
            exact J _ _ hS (by omega)
  refine L_iconst dL_hangs_0 ?_
  refine L_istore_n dL_hangs_1 rfl (by decide) rfl rfl ?_
  refine L_iconst dL_hangs_2 ?_
  refine L_istore_n dL_hangs_3 rfl (by decide) rfl rfl ?_
  refine L_iconst dL_hangs_4 ?_
  refine L_istore_n dL_hangs_5 rfl (by decide) rfl rfl ?_
  refine L_iconst dL_hangs_6 ?_
  refine L_istore dL_hangs_7 (by decide) rfl rfl ?_
  exact L ((v 11 0).toNat + 1) 0 _ hS (by omega) (by omega)
theorem count_sz {v : SV} {sz k : Int} (h : ¬ k = 12) : countR v sz 0 k = countR v 0 0 k := by
  unfold countR
  rw [if_neg (c := k = 12) h, if_neg (c := k = 12) h]
def prA (v : SV) : Nat → Int64
  | 0 => 11
  | k + 1 => 31 * prA v k + (I (countR v 0 0 (k : Int))).toInt64
def prB (v : SV) : Nat → Int64
  | 0 => prA v 12
  | k + 1 => 31 * prB v k + (I (cellR v ((k : Int) / 5) ((k : Int) % 5))).toInt64
def prC (v : SV) : Nat → Int64
  | 0 => prB v 200
  | k + 1 => 31 * prC v k + (I (wellR v ((k : Int) / 7) ((k : Int) % 7))).toInt64
/-- what print answers -/
def prnL (v : SV) : Int64 := prC v (7 * v 11 0).toNat
set_option maxRecDepth 100000 in
set_option maxHeartbeats 8000000 in
theorem c_L_print (h : List PO) (v : SV) (hv : Int → SV) (sz ks : Int) (sw : SV) (hS : SYS h v hv sz ks sw) : PMw 6 yL_print cL_print 4 (some .long) h [r_ 0] (fun r0 h2 => r0 = some (l_ (prnL v)) ∧ SYS h2 v hv sz ks sw) := by
  refine PMw_of [some (p_ 0), none, none, none] rfl (by decide +kernel) (Nat.le_of_ble_eq_true rfl) rfl ?_
  have L3 : ∀ (fu : Nat) (k : Nat) (hh : List PO), SYS hh v hv sz ks sw → k ≤ (7 * v 11 0).toNat → (7 * v 11 0).toNat - k < fu → GM 6 cL_print 4 (some .long) hh 66 [some (p_ 0), some (l_ (prC v k)), none, some (w_ (k : Int))] [] (fun r0 h2 => r0 = some (l_ (prnL v)) ∧ SYS h2 v hv sz ks sw) := by
    intro fu
    induction fu with
    | zero => intro k hh hS hk hmeas; exfalso; omega
    | succ fu ih =>
      intro k hh hS hk hmeas
      have hg := hS.gen
      refine L_iload_n dL_print_66 rfl rfl ?_
      refine L_bipush dL_print_67 rfl ?_
      refine L_aload_n dL_print_69 rfl rfl ?_
      refine L_iconst dL_print_70 ?_
      refine L_callV (ci := 5) (as := [_]) (s_count (y := v 11 0) hS (inR_of (by omega) (by omega)) rfl) dL_print_71 ml_L_46 cv_X5_count hS.obj rfl rfl (Nat.le_of_ble_eq_true rfl) (Nat.le_of_ble_eq_true rfl) rfl (fun r h2 hp => ?_)
      obtain ⟨rfl, hS⟩ := hp
      refine L_imul dL_print_74 ?_
      refine L_icmp_ge (tgt := 104) dL_print_75 (by decide) (inR_of (by omega) (by omega)) (inR_of (by omega) (by omega)) (fun hc75 => ?_) (fun hc75 => ?_)
      · skip
        have hk2 : k = (7 * v 11 0).toNat := by omega
        subst hk2
        refine L_lload_n dL_print_104 rfl rfl ?_
        refine M_lreturn dL_print_105 rfl ?_
        exact ⟨rfl, hS⟩
      · skip
        refine L_ldc2 dL_print_78 cl_L_62 ?_
        refine L_lload_n dL_print_81 rfl rfl ?_
        refine L_lmul dL_print_82 ?_
        refine L_aload_n dL_print_83 rfl rfl ?_
        refine L_iload_n dL_print_84 rfl rfl ?_
        refine L_bipush dL_print_85 rfl ?_
        refine L_idiv dL_print_87 (by omega) (inR_of (by omega) (by omega)) (by omega) (inR_of (by omega) (by omega)) ?_
        refine L_iload_n dL_print_88 rfl rfl ?_
        refine L_bipush dL_print_89 rfl ?_
        refine L_irem dL_print_91 (by omega) (inR_of (by omega) (by omega)) (by omega) (inR_of (by omega) (by omega)) ?_
        refine L_callV (ci := 5) (as := [_, _]) (s_well (y := wellR v ((k : Int) / 7) ((k : Int) % 7)) hS (inR_of (by omega) (by omega)) (inR_of (by omega) (by omega)) rfl) dL_print_92 ml_L_49 cv_X5_well hS.obj rfl rfl (Nat.le_of_ble_eq_true rfl) (Nat.le_of_ble_eq_true rfl) rfl (fun r h2 hp => ?_)
        obtain ⟨rfl, hS⟩ := hp
        refine L_i2l dL_print_95 ?_
        refine L_ladd dL_print_96 ?_
        refine L_lstore_n dL_print_97 rfl (by decide) rfl rfl ?_
        refine L_iinc dL_print_98 (by decide) rfl rfl rfl ?_
        refine L_goto (tgt := 66) dL_print_101 (by decide) ?_
        exact ih (k + 1) _ hS (by omega) (by omega)
  have L2 : ∀ (fu : Nat) (k : Nat) (hh : List PO), SYS hh v hv sz ks sw → k ≤ 200 → 200 - k < fu → GM 6 cL_print 4 (some .long) hh 33 [some (p_ 0), some (l_ (prB v k)), none, some (w_ (k : Int))] [] (fun r0 h2 => r0 = some (l_ (prnL v)) ∧ SYS h2 v hv sz ks sw) := by
    intro fu
    induction fu with
    | zero => intro k hh hS hk hmeas; exfalso; omega
    | succ fu ih =>
      intro k hh hS hk hmeas
      have hg := hS.gen
      refine L_iload_n dL_print_33 rfl rfl ?_
      refine L_sipush dL_print_34 rfl ?_
      refine L_icmp_ge (tgt := 64) dL_print_37 (by decide) (inR_of (by omega) (by omega)) (inR_of (by omega) (by omega)) (fun hc37 => ?_) (fun hc37 => ?_)
      · skip
        have hk2 : k = 200 := by omega
        subst hk2
        refine L_iconst dL_print_64 ?_
        refine L_istore_n dL_print_65 rfl (by decide) rfl rfl ?_
        exact L3 ((7 * v 11 0).toNat + 1) 0 _ hS (by omega) (by omega)
      · skip
        refine L_ldc2 dL_print_40 cl_L_62 ?_
        refine L_lload_n dL_print_43 rfl rfl ?_
        refine L_lmul dL_print_44 ?_
        refine L_aload_n dL_print_45 rfl rfl ?_
        refine L_iload_n dL_print_46 rfl rfl ?_
        refine L_iconst dL_print_47 ?_
        refine L_idiv dL_print_48 (by omega) (inR_of (by omega) (by omega)) (by omega) (inR_of (by omega) (by omega)) ?_
        refine L_iload_n dL_print_49 rfl rfl ?_
        refine L_iconst dL_print_50 ?_
        refine L_irem dL_print_51 (by omega) (inR_of (by omega) (by omega)) (by omega) (inR_of (by omega) (by omega)) ?_
        refine L_callV (ci := 5) (as := [_, _]) (s_cell (y := cellR v ((k : Int) / 5) ((k : Int) % 5)) hS (inR_of (by omega) (by omega)) (inR_of (by omega) (by omega)) rfl) dL_print_52 ml_L_43 cv_X5_cell hS.obj rfl rfl (Nat.le_of_ble_eq_true rfl) (Nat.le_of_ble_eq_true rfl) rfl (fun r h2 hp => ?_)
        obtain ⟨rfl, hS⟩ := hp
        refine L_i2l dL_print_55 ?_
        refine L_ladd dL_print_56 ?_
        refine L_lstore_n dL_print_57 rfl (by decide) rfl rfl ?_
        refine L_iinc dL_print_58 (by decide) rfl rfl rfl ?_
        refine L_goto (tgt := 33) dL_print_61 (by decide) ?_
        exact ih (k + 1) _ hS (by omega) (by omega)
  have L1 : ∀ (fu : Nat) (k : Nat) (hh : List PO), SYS hh v hv sz ks sw → k ≤ 12 → 12 - k < fu → GM 6 cL_print 4 (some .long) hh 6 [some (p_ 0), some (l_ (prA v k)), none, some (w_ (k : Int))] [] (fun r0 h2 => r0 = some (l_ (prnL v)) ∧ SYS h2 v hv sz ks sw) := by
    intro fu
    induction fu with
    | zero => intro k hh hS hk hmeas; exfalso; omega
    | succ fu ih =>
      intro k hh hS hk hmeas
      have hg := hS.gen
      refine L_iload_n dL_print_6 rfl rfl ?_
      refine L_bipush dL_print_7 rfl ?_
      refine L_icmp_ge (tgt := 31) dL_print_9 (by decide) (inR_of (by omega) (by omega)) (inR_of (by omega) (by omega)) (fun hc9 => ?_) (fun hc9 => ?_)
      · skip
        have hk2 : k = 12 := by omega
        subst hk2
        refine L_iconst dL_print_31 ?_
        refine L_istore_n dL_print_32 rfl (by decide) rfl rfl ?_
        exact L2 201 0 _ hS (by omega) (by omega)
      · skip
        refine L_ldc2 dL_print_12 cl_L_62 ?_
        refine L_lload_n dL_print_15 rfl rfl ?_
        refine L_lmul dL_print_16 ?_
        refine L_aload_n dL_print_17 rfl rfl ?_
        refine L_iload_n dL_print_18 rfl rfl ?_
        refine L_callV (ci := 5) (as := [_]) (s_count (y := countR v 0 0 (k : Int)) hS (inR_of (by omega) (by omega)) (count_sz (by omega))) dL_print_19 ml_L_46 cv_X5_count hS.obj rfl rfl (Nat.le_of_ble_eq_true rfl) (Nat.le_of_ble_eq_true rfl) rfl (fun r h2 hp => ?_)
        obtain ⟨rfl, hS⟩ := hp
        refine L_i2l dL_print_22 ?_
        refine L_ladd dL_print_23 ?_
        refine L_lstore_n dL_print_24 rfl (by decide) rfl rfl ?_
        refine L_iinc dL_print_25 (by decide) rfl rfl rfl ?_
        refine L_goto (tgt := 6) dL_print_28 (by decide) ?_
        exact ih (k + 1) _ hS (by omega) (by omega)
  refine L_ldc2 dL_print_0 cl_L_60 ?_
  refine L_lstore_n dL_print_3 rfl (by decide) rfl rfl ?_
  refine L_iconst dL_print_4 ?_
  refine L_istore_n dL_print_5 rfl (by decide) rfl rfl ?_
  exact L1 13 0 _ hS (by omega) (by omega)
end
section
/-! the law: what comes in a tide -/
theorem L_fork0 {Ω : GP → State → Array Value → Method → Prop} {R : Room} {F : Nat} {Z : GP → State → Array Value → List Frame → State → Prop} {cc : ByteArray} {nL : Nat} {h : List PO} {pc : Nat} {lv : List (Option PW)} {st st1 : List PW} (pj : Nat) (E : Int) (P : List PO → Prop) (e : st = st1) (b : ∀ h2, P h2 → GL Ω R F Z cc nL h2 pj lv (w_ E :: st1)) (a : (∀ h2 z, P h2 → z = E → GL Ω R F Z cc nL h2 pj lv (w_ z :: st1)) → GL Ω R F Z cc nL h pc lv st) : GL Ω R F Z cc nL h pc lv st := a (fun h2 z q e => e ▸ b h2 q)
def mkV (v : SV) (r c : Int) : Int := mkI (pushI v r) (v 10 1) (v 1) (v 0) c
def ofV (v : SV) (r c : Int) : Int := offI (pushI v r) (v 10 1) (v 1) (v 0) c
def stV (v : SV) (r : Int) : Int := stI (pushI v r) (v 10 1) (v 1) (v 0)
def reV (v : SV) (r c : Int) : Int := reasonR (pushI v r) (v 10 1) (v 1) (v 0) c
/-- what came to the cell k, or to the stop if that is lower -/
def cmV (v : SV) (r k : Int) : Int := ofV v r (min k (stV v r))
section CV
variable {v : SV} {r c : Int}
theorem mark_is (c0 : 0 ≤ c) (c1 : c < 40) (hr : -30 ≤ r ∧ r ≤ 30) : markR v c r = mkV v r c := by
  unfold markR
  rw [if_neg (fun q => q ⟨c0, c1⟩), if_neg (fun q => q hr)]
  rfl
theorem why_is (c0 : 0 ≤ c) (c1 : c < 40) (hr : -30 ≤ r ∧ r ≤ 30) : whyR v c r = reV v r c := by
  unfold whyR
  rw [if_neg (fun q => q ⟨c0, c1⟩), if_neg (fun q => q hr)]
  rfl
theorem stV_is (v : SV) (r : Int) : IsStop (pushI v r) (v 10 1) (v 1) (v 0) (stV v r) := stI_is _ _ _ _
theorem stop_is (hr : -30 ≤ r ∧ r ≤ 30) : (stV v r < 40 ∧ stopR v r = stV v r) ∨ (stV v r = 40 ∧ stopR v r = -5) := by
  have a := (stV_is v r).2.1
  unfold stopR
  rw [if_neg (fun q => q hr)]
  by_cases z : stV v r < 40
  · exact Or.inl ⟨z, if_pos z⟩
  · exact Or.inr ⟨by omega, if_neg z⟩
theorem push_rng (ho : OK v) (hr : -30 ≤ r ∧ r ≤ 30) : -200 ≤ pushI v r ∧ pushI v r ≤ 200 := by
  have a := ho.2.1.1
  have b := ho.2.2.1.2.1
  unfold pushI
  omega
theorem of_rng (ho : OK v) (hr : -30 ≤ r ∧ r ≤ 30) (c0 : 0 ≤ c) (c1 : c ≤ 40) : -200 ≤ ofV v r c ∧ ofV v r c ≤ 200 :=
  offI_rng (push_rng ho hr) ho.2.1.2.1 ho.1.2.1 ho.1.1 c c0 c1
theorem of_s (c0 : 0 ≤ c) : ofV v r (c + 1) = mkV v r c - v 10 1 := offI_s _ _ _ _ c0
theorem mk_facts (ho : OK v) (c0 : 0 ≤ c) (c1 : c < 40) : (c < stV v r → mkV v r c = min (ofV v r c) (v 0 c) ∧ v 1 c < ofV v r c ∧ 1 ≤ mkV v r c) ∧ (stV v r ≤ c → mkV v r c = 0) ∧ (0 ≤ mkV v r c ∧ mkV v r c ≤ 60) := by
  have s := stV_is v r
  have m := mk_iff ho.2.1.2.1.1 ho.1.2.1 ho.1.1 s c0 c1
  have b := ho.1.2.1 c c0 c1
  have d := ho.1.1 c c0 c1
  have g := mkf_rng (o := ofV v r c) b.1 d.1
  refine ⟨fun q => ?_, fun q => m.mpr q, g.1, by have := g.2; unfold mkV mkI; unfold ofV at this; omega⟩
  have q1 : v 1 c < ofV v r c := s.2.2.1 c c0 q
  exact ⟨mkf_gt q1, q1, mk_live ho.1.2.1 ho.1.1 s c0 q⟩
theorem st_facts (v : SV) (r : Int) : 0 ≤ stV v r ∧ stV v r ≤ 40 ∧ (stV v r < 40 → ofV v r (stV v r) ≤ v 1 (stV v r)) := ⟨(stV_is v r).1, (stV_is v r).2.1, (stV_is v r).2.2.2⟩
theorem re_facts (v : SV) (r c : Int) : (c < stV v r → reV v r c = 0) ∧ (stV v r ≤ c → (pushI v r ≤ 0 → reV v r c = 1) ∧ (0 < pushI v r → (0 < ofV v r (stV v r) → reV v r c = 2) ∧ (ofV v r (stV v r) ≤ 0 → reV v r c = 3))) := by
  refine ⟨fun q => if_pos q, fun q => ⟨fun a => ?_, fun a => ⟨fun b => ?_, fun b => ?_⟩⟩⟩
  · unfold reV reasonR
    rw [if_neg (by unfold stV at q; omega), if_pos a]
  · unfold reV reasonR
    rw [if_neg (by unfold stV at q; omega), if_neg (by omega)]
    exact if_pos b
  · unfold reV reasonR
    rw [if_neg (by unfold stV at q; omega), if_neg (by omega)]
    exact if_neg (Int.not_lt.mpr b)
theorem cm_lo (h : c ≤ stV v r) : cmV v r c = ofV v r c := by unfold cmV; rw [Int.min_eq_left h]
theorem cm_hi (h : stV v r ≤ c) : cmV v r c = ofV v r (stV v r) := by unfold cmV; rw [Int.min_eq_right h]
theorem cm_0 (v : SV) (r : Int) : cmV v r 0 = pushI v r := cm_lo (stV_is v r).1
end CV
set_option maxRecDepth 100000 in
set_option maxHeartbeats 8000000 in
theorem c_L_comes (h : List PO) (v : SV) (hv : Int → SV) (sz ks : Int) (sw : SV) (r : Int) (hS : SYS h v hv sz ks sw) (hr : -30 ≤ r ∧ r ≤ 30) (hT : v 11 2 + 1 ≤ 99999) : PMw 8 yL_comes cL_comes 14 (some .boolean) h [r_ 0, i_ r] (fun r0 h2 => r0 = some (w_ 1) ∧ ∃ hv2 sz2, SYS h2 v hv2 sz2 ks sw) := by
  refine PMw_of [some (p_ 0), some (w_ r), none, none, none, none, none, none, none, none, none, none, none, none] rfl (by decide +kernel) (Nat.le_of_ble_eq_true rfl) rfl ?_
  have hS0 := hS
  have L : ∀ (fu : Nat) (k : Nat) (hh : List PO), SYS hh v hv sz ks sw → k ≤ 40 → 40 - k < fu → GM 8 cL_comes 14 (some .boolean) hh 52 [some (p_ 0), some (w_ r), some (l_ (prnL v)), none, some (w_ (stopR v r)), some (w_ (stV v r)), some (w_ (pushI v r)), some (w_ (cmV v r (k : Int))), some (w_ (sumN (tideH r v) k)), some (w_ (k : Int)), none, none, none, none] [] (fun r0 h2 => r0 = some (w_ 1) ∧ ∃ hv2 sz2, SYS h2 v hv2 sz2 ks sw) := by
    intro fu
    induction fu with
    | zero => intro k hh hS hk hmeas; exfalso; omega
    | succ fu ih =>
      intro k hh hS hk hmeas
      have hg := hS.gen
      have hpr := push_rng hS.ok hr
      have hst := st_facts v r
      have hoT := of_rng (c := stV v r) hS.ok hr hst.1 hst.2.1
      have hcr : -200 ≤ cmV v r (k : Int) ∧ cmV v r (k : Int) ≤ 200 := of_rng hS.ok hr (by omega) (by omega)
      refine L_iload dL_comes_52 rfl ?_
      refine L_bipush dL_comes_54 rfl ?_
      refine L_icmp_ge (tgt := 345) dL_comes_56 (by decide) (inR_of (by omega) (by omega)) (inR_of (by omega) (by omega)) (fun hc56 => ?_) (fun hc56 => ?_)
      · skip
        have hk2 : k = 40 := by omega
        subst hk2
        refine L_aload_n dL_comes_345 rfl rfl ?_
        refine L_iload_n dL_comes_346 rfl rfl ?_
        refine L_iconst dL_comes_347 ?_
        refine L_callV (ci := 5) (as := [_, _]) (s_tide hS (inR_of (by omega) (by omega)) (inR_of (by omega) (by omega))) dL_comes_348 ml_L_40 cv_X5_tide hS.obj rfl rfl (Nat.le_of_ble_eq_true rfl) (Nat.le_of_ble_eq_true rfl) rfl (fun r h2 hp => ?_)
        obtain ⟨rfl, hS⟩ := hp
        have td := tides_do (v := v) (t := 1) hr (by omega) hT
        have td1 : tidesV v r 1 = itV r v 1 := td.2.1
        have td2 : tidesR v r 1 = sumN (wetI (itV r v 1 2)) 40 := td.1
        have td3 := td.2.2
        have tr := tidesR_rng (v := v) (a := r) (b := 1)
        rw [td1] at hS
        have ua := und_act (v := v) (V := itV r v 1) (hv := hv) td3 hg.2.2.2.2.2.2.2.1 hg.2.2.2.2.2.2.2.2
        refine L_istore dL_comes_351 (by decide) rfl rfl ?_
        refine L_iload dL_comes_353 rfl ?_
        refine L_aload_n dL_comes_355 rfl rfl ?_
        refine L_iconst dL_comes_356 ?_
        refine L_callV (ci := 5) (as := [_]) (s_count (y := sumN (wetI (itV r v 1 2)) 40) hS (inR_of (by omega) (by omega)) rfl) dL_comes_357 ml_L_46 cv_X5_count hS.obj rfl rfl (Nat.le_of_ble_eq_true rfl) (Nat.le_of_ble_eq_true rfl) rfl (fun r h2 hp => ?_)
        obtain ⟨rfl, hS⟩ := hp
        refine L_icmp_neE dL_comes_360 (by decide) (td2) ?_
        refine L_aload_n dL_comes_363 rfl rfl ?_
        refine L_iconst dL_comes_364 ?_
        refine L_callV (ci := 5) (as := [_]) (s_count (y := sumN (itV r v 1 2) 40) hS (inR_of (by omega) (by omega)) rfl) dL_comes_365 ml_L_46 cv_X5_count hS.obj rfl rfl (Nat.le_of_ble_eq_true rfl) (Nat.le_of_ble_eq_true rfl) rfl (fun r h2 hp => ?_)
        obtain ⟨rfl, hS⟩ := hp
        refine L_iload dL_comes_368 rfl ?_
        refine L_icmp_neE dL_comes_370 (by decide) (rfl) ?_
        refine L_aload_n dL_comes_373 rfl rfl ?_
        refine L_callS (as := [_]) (c_L_hangs _ _ _ _ _ _ hS) dL_comes_374 ml_L_77 cs_L_hangs rfl (Nat.le_of_ble_eq_true rfl) (Nat.le_of_ble_eq_true rfl) rfl (fun r h2 hp => ?_)
        obtain ⟨rfl, hS⟩ := hp
        refine L_if_ne (tgt := 387) dL_comes_377 (by decide) (inR_of (by omega) (by omega)) (fun hc377 => ?_) (fun hc377 => ?_)
        · skip
          refine L_iload dL_comes_387 rfl ?_
          refine L_if_lt (tgt := 399) dL_comes_389 (by decide) (inR_of (by omega) (by omega)) (fun hc389 => ?_) (fun hc389 => ?_)
          · skip
            exfalso; omega
          · skip
            refine L_aload_n dL_comes_392 rfl rfl ?_
            refine L_callV (ci := 5) (as := []) (s_undo (v := v) hS ua.1 hS0.xi) dL_comes_393 ml_L_80 cv_X5_undo hS.obj rfl rfl (Nat.le_of_ble_eq_true rfl) (Nat.le_of_ble_eq_true rfl) rfl (fun r h2 hp => ?_)
            obtain ⟨rfl, hS⟩ := hp
            have hu : 0 ≤ undR (szA sz (tidesR v r 1)) ∧ undR (szA sz (tidesR v r 1)) ≤ 4 := by
              rw [ua.2.1]
              split <;> omega
            refine L_if_lt (tgt := 412) dL_comes_396 (by decide) (inR_of (by omega) (by omega)) (fun hc396 => ?_) (fun hc396 => ?_)
            · skip
              exfalso; omega
            · skip
              refine L_aload_n dL_comes_399 rfl rfl ?_
              refine L_callS (as := [_]) (c_L_print _ _ _ _ _ _ hS) dL_comes_400 ml_L_64 cs_L_print rfl (Nat.le_of_ble_eq_true rfl) (Nat.le_of_ble_eq_true rfl) rfl (fun r h2 hp => ?_)
              obtain ⟨rfl, hS⟩ := hp
              refine L_lload_n dL_comes_403 rfl rfl ?_
              refine L_lcmpE dL_comes_404 rfl ?_
              refine L_if_ne (tgt := 412) dL_comes_405 (by decide) (inR_of (by omega) (by omega)) (fun hc405 => ?_) (fun hc405 => ?_)
              · skip
                exfalso; omega
              · skip
                refine L_iconst dL_comes_408 ?_
                refine L_goto (tgt := 413) dL_comes_409 (by decide) ?_
                refine M_zreturn dL_comes_413 rfl (Or.inr rfl) ?_
                exact ⟨rfl, _, _, hS⟩
        · skip
          exfalso; omega
      · skip
        have hb := hS.bed (c := (k : Int)) (by omega) (by omega)
        have hm := mk_facts (r := r) (c := (k : Int)) hS.ok (by omega) (by omega)
        have hre := re_facts v r (k : Int)
        have hreT := re_facts v r (stV v r)
        have hor := of_rng (c := (k : Int)) hS.ok hr (by omega) (by omega)
        have hcm1 : (k : Int) ≤ stV v r → cmV v r (k : Int) = ofV v r (k : Int) := cm_lo
        refine L_aload_n dL_comes_59 rfl rfl ?_
        refine L_iload dL_comes_60 rfl ?_
        refine L_iload_n dL_comes_62 rfl rfl ?_
        refine L_callV (ci := 5) (as := [_, _]) (s_mark (y := mkV v r (k : Int)) hS (inR_of (by omega) (by omega)) (inR_of (by omega) (by omega)) (mark_is (by omega) (by omega) hr)) dL_comes_63 ml_L_71 cv_X5_mark hS.obj rfl rfl (Nat.le_of_ble_eq_true rfl) (Nat.le_of_ble_eq_true rfl) rfl (fun r h2 hp => ?_)
        obtain ⟨rfl, hS⟩ := hp
        refine L_istore dL_comes_66 (by decide) rfl rfl ?_
        refine L_iload dL_comes_68 rfl ?_
        refine L_aload_n dL_comes_70 rfl rfl ?_
        refine L_iload dL_comes_71 rfl ?_
        refine L_iconst dL_comes_73 ?_
        refine L_callV (ci := 5) (as := [_, _]) (s_cell hS (inR_of (by omega) (by omega)) (inR_of (by omega) (by omega)) (cell_0 (by omega) (by omega))) dL_comes_74 ml_L_43 cv_X5_cell hS.obj rfl rfl (Nat.le_of_ble_eq_true rfl) (Nat.le_of_ble_eq_true rfl) rfl (fun r h2 hp => ?_)
        obtain ⟨rfl, hS⟩ := hp
        refine L_fork2 92 (min (cmV v r (k : Int)) (v 0 (k : Int))) (fun h => SYS h v hv sz ks sw) rfl (fun h2 hS => ?_) (fun J => ?_)
        · skip
          refine L_istore dL_comes_92 (by decide) rfl rfl ?_
          refine L_aload_n dL_comes_94 rfl rfl ?_
          refine L_iload dL_comes_95 rfl ?_
          refine L_iload_n dL_comes_97 rfl rfl ?_
          refine L_callV (ci := 5) (as := [_, _]) (s_reason (y := reV v r (k : Int)) hS (inR_of (by omega) (by omega)) (inR_of (by omega) (by omega)) (why_is (by omega) (by omega) hr)) dL_comes_98 ml_L_74 cv_X5_reason hS.obj rfl rfl (Nat.le_of_ble_eq_true rfl) (Nat.le_of_ble_eq_true rfl) rfl (fun r h2 hp => ?_)
          obtain ⟨rfl, hS⟩ := hp
          refine L_istore dL_comes_101 (by decide) rfl rfl ?_
          refine L_iload dL_comes_103 rfl ?_
          refine L_iload dL_comes_105 rfl ?_
          refine L_iload dL_comes_107 rfl ?_
          refine L_fork2 118 (mkV v r (k : Int)) (fun h => SYS h v hv sz ks sw) rfl (fun h2 hS => ?_) (fun J => ?_)
          · skip
            refine L_icmp_neE dL_comes_118 (by decide) (rfl) ?_
            refine L_fork0 268 (cmV v r ((k : Int) + 1)) (fun h => SYS h v hv sz ks sw) rfl (fun h2 hS => ?_) (fun J0 => ?_)
            · skip
              refine L_istore dL_comes_268 (by decide) rfl rfl ?_
              refine L_iload dL_comes_270 rfl ?_
              refine L_aload_n dL_comes_272 rfl rfl ?_
              refine L_iload dL_comes_273 rfl ?_
              refine L_iconst dL_comes_275 ?_
              refine L_callV (ci := 5) (as := [_, _]) (s_cell hS (inR_of (by omega) (by omega)) (inR_of (by omega) (by omega)) (cell_2 (by omega) (by omega))) dL_comes_276 ml_L_43 cv_X5_cell hS.obj rfl rfl (Nat.le_of_ble_eq_true rfl) (Nat.le_of_ble_eq_true rfl) rfl (fun r h2 hp => ?_)
              obtain ⟨rfl, hS⟩ := hp
              refine L_isub dL_comes_279 ?_
              refine L_istore dL_comes_280 (by decide) rfl rfl ?_
              refine L_iload dL_comes_282 rfl ?_
              refine L_aload_n dL_comes_284 rfl rfl ?_
              refine L_iload dL_comes_285 rfl ?_
              refine L_iconst dL_comes_287 ?_
              refine L_callV (ci := 5) (as := [_, _]) (s_cell hS (inR_of (by omega) (by omega)) (inR_of (by omega) (by omega)) (cell_2 (by omega) (by omega))) dL_comes_288 ml_L_43 cv_X5_cell hS.obj rfl rfl (Nat.le_of_ble_eq_true rfl) (Nat.le_of_ble_eq_true rfl) rfl (fun r h2 hp => ?_)
              obtain ⟨rfl, hS⟩ := hp
              refine L_iload dL_comes_291 rfl ?_
              refine L_aload_n dL_comes_293 rfl rfl ?_
              refine L_bipush dL_comes_294 rfl ?_
              refine L_callV (ci := 5) (as := [_]) (s_count (y := v 10 2) hS (inR_of (by omega) (by omega)) rfl) dL_comes_296 ml_L_46 cv_X5_count hS.obj rfl rfl (Nat.le_of_ble_eq_true rfl) (Nat.le_of_ble_eq_true rfl) rfl (fun r h2 hp => ?_)
              obtain ⟨rfl, hS⟩ := hp
              refine L_fork2 335 (moveI (v 2 (k : Int)) (mkV v r (k : Int)) (v 10 2) - v 2 (k : Int)) (fun h => SYS h v hv sz ks sw) rfl (fun h2 hS => ?_) (fun J => ?_)
              · skip
                refine L_iadd dL_comes_335 ?_
                refine L_iadd dL_comes_336 ?_
                refine L_top (y := sumN (tideH r v) (k + 1)) (by show sumN (tideH r v) k + (v 2 (k : Int) + (moveI (v 2 (k : Int)) (mkV v r (k : Int)) (v 10 2) - v 2 (k : Int))) = sumN (tideH r v) k + moveI (v 2 (k : Int)) (mkV v r (k : Int)) (v 10 2); omega) ?_
                refine L_istore dL_comes_337 (by decide) rfl rfl ?_
                refine L_iinc dL_comes_339 (by decide) rfl rfl rfl ?_
                refine L_goto (tgt := 52) dL_comes_342 (by decide) ?_
                refine L_forget 10 rfl ?_
                refine L_forget 11 rfl ?_
                refine L_forget 12 rfl ?_
                refine L_forget 13 rfl ?_
                exact ih (k + 1) _ hS (by omega) (by omega)
              · skip
                refine L_icmp_le (tgt := 311) dL_comes_299 (by decide) (inR_of (by omega) (by omega)) (inR_of (by omega) (by omega)) (fun hc299 => ?_) (fun hc299 => ?_)
                · skip
                  refine L_iload dL_comes_311 rfl ?_
                  refine L_aload_n dL_comes_313 rfl rfl ?_
                  refine L_bipush dL_comes_314 rfl ?_
                  refine L_callV (ci := 5) (as := [_]) (s_count (y := v 10 2) hS (inR_of (by omega) (by omega)) rfl) dL_comes_316 ml_L_46 cv_X5_count hS.obj rfl rfl (Nat.le_of_ble_eq_true rfl) (Nat.le_of_ble_eq_true rfl) rfl (fun r h2 hp => ?_)
                  obtain ⟨rfl, hS⟩ := hp
                  refine L_ineg dL_comes_319 ?_
                  refine L_icmp_ge (tgt := 333) dL_comes_320 (by decide) (inR_of (by omega) (by omega)) (inR_of (by omega) (by omega)) (fun hc320 => ?_) (fun hc320 => ?_)
                  · skip
                    refine L_iload dL_comes_333 rfl ?_
                    exact J _ _ hS (by unfold moveI; split <;> omega)
                  · skip
                    refine L_aload_n dL_comes_323 rfl rfl ?_
                    refine L_bipush dL_comes_324 rfl ?_
                    refine L_callV (ci := 5) (as := [_]) (s_count (y := v 10 2) hS (inR_of (by omega) (by omega)) rfl) dL_comes_326 ml_L_46 cv_X5_count hS.obj rfl rfl (Nat.le_of_ble_eq_true rfl) (Nat.le_of_ble_eq_true rfl) rfl (fun r h2 hp => ?_)
                    obtain ⟨rfl, hS⟩ := hp
                    refine L_ineg dL_comes_329 ?_
                    refine L_goto (tgt := 335) dL_comes_330 (by decide) ?_
                    exact J _ _ hS (by unfold moveI; split <;> omega)
                · skip
                  refine L_aload_n dL_comes_302 rfl rfl ?_
                  refine L_bipush dL_comes_303 rfl ?_
                  refine L_callV (ci := 5) (as := [_]) (s_count (y := v 10 2) hS (inR_of (by omega) (by omega)) rfl) dL_comes_305 ml_L_46 cv_X5_count hS.obj rfl rfl (Nat.le_of_ble_eq_true rfl) (Nat.le_of_ble_eq_true rfl) rfl (fun r h2 hp => ?_)
                  obtain ⟨rfl, hS⟩ := hp
                  refine L_goto (tgt := 335) dL_comes_308 (by decide) ?_
                  exact J _ _ hS (by unfold moveI; split <;> omega)
            · skip
              rcases Int.lt_trichotomy (k : Int) (stV v r) with hlt | hlt | hlt
              · skip
                refine L_iload dL_comes_121 rfl ?_
                refine L_iload dL_comes_123 rfl ?_
                refine L_icmp_ge (tgt := 151) dL_comes_125 (by decide) (inR_of (by omega) (by omega)) (inR_of (by omega) (by omega)) (fun hc125 => ?_) (fun hc125 => ?_)
                · skip
                  exfalso; omega
                · skip
                  refine L_iload dL_comes_128 rfl ?_
                  refine L_aload_n dL_comes_130 rfl rfl ?_
                  refine L_iload dL_comes_131 rfl ?_
                  refine L_iconst dL_comes_133 ?_
                  refine L_callV (ci := 5) (as := [_, _]) (s_cell hS (inR_of (by omega) (by omega)) (inR_of (by omega) (by omega)) (cell_1 (by omega) (by omega))) dL_comes_134 ml_L_43 cv_X5_cell hS.obj rfl rfl (Nat.le_of_ble_eq_true rfl) (Nat.le_of_ble_eq_true rfl) rfl (fun r h2 hp => ?_)
                  obtain ⟨rfl, hS⟩ := hp
                  refine L_icmp_le (tgt := 245) dL_comes_137 (by decide) (inR_of (by omega) (by omega)) (inR_of (by omega) (by omega)) (fun hc137 => ?_) (fun hc137 => ?_)
                  · skip
                    exfalso; omega
                  · skip
                    refine L_iload dL_comes_140 rfl ?_
                    refine L_if_ne (tgt := 245) dL_comes_142 (by decide) (inR_of (by omega) (by omega)) (fun hc142 => ?_) (fun hc142 => ?_)
                    · skip
                      exfalso; omega
                    · skip
                      refine L_iload dL_comes_145 rfl ?_
                      refine L_iconst dL_comes_147 ?_
                      refine L_icmp_lt (tgt := 245) dL_comes_148 (by decide) (inR_of (by omega) (by omega)) (inR_of (by omega) (by omega)) (fun hc148 => ?_) (fun hc148 => ?_)
                      · skip
                        exfalso; omega
                      · skip
                        refine L_iload dL_comes_151 rfl ?_
                        refine L_iload dL_comes_153 rfl ?_
                        refine L_icmp_ne (tgt := 170) dL_comes_155 (by decide) (inR_of (by omega) (by omega)) (inR_of (by omega) (by omega)) (fun hc155 => ?_) (fun hc155 => ?_)
                        · skip
                          refine L_iload dL_comes_170 rfl ?_
                          refine L_iload dL_comes_172 rfl ?_
                          refine L_icmp_lt (tgt := 198) dL_comes_174 (by decide) (inR_of (by omega) (by omega)) (inR_of (by omega) (by omega)) (fun hc174 => ?_) (fun hc174 => ?_)
                          · skip
                            refine L_iload dL_comes_198 rfl ?_
                            refine L_iload dL_comes_200 rfl ?_
                            refine L_icmp_ne (tgt := 234) dL_comes_202 (by decide) (inR_of (by omega) (by omega)) (inR_of (by omega) (by omega)) (fun hc202 => ?_) (fun hc202 => ?_)
                            · skip
                              refine L_iload dL_comes_234 rfl ?_
                              refine L_if_lt (tgt := 245) dL_comes_236 (by decide) (inR_of (by omega) (by omega)) (fun hc236 => ?_) (fun hc236 => ?_)
                              · skip
                                exfalso; omega
                              · skip
                                refine L_iload dL_comes_239 rfl ?_
                                refine L_iconst dL_comes_241 ?_
                                refine L_icmp_le (tgt := 247) dL_comes_242 (by decide) (inR_of (by omega) (by omega)) (inR_of (by omega) (by omega)) (fun hc242 => ?_) (fun hc242 => ?_)
                                · skip
                                  refine L_iload dL_comes_247 rfl ?_
                                  refine L_iload dL_comes_249 rfl ?_
                                  refine L_icmp_ge (tgt := 266) dL_comes_251 (by decide) (inR_of (by omega) (by omega)) (inR_of (by omega) (by omega)) (fun hc251 => ?_) (fun hc251 => ?_)
                                  · skip
                                    exfalso; omega
                                  · skip
                                    refine L_iload dL_comes_254 rfl ?_
                                    refine L_aload_n dL_comes_256 rfl rfl ?_
                                    refine L_bipush dL_comes_257 rfl ?_
                                    refine L_callV (ci := 5) (as := [_]) (s_count (y := v 10 1) hS (inR_of (by omega) (by omega)) rfl) dL_comes_259 ml_L_46 cv_X5_count hS.obj rfl rfl (Nat.le_of_ble_eq_true rfl) (Nat.le_of_ble_eq_true rfl) rfl (fun r h2 hp => ?_)
                                    obtain ⟨rfl, hS⟩ := hp
                                    refine L_isub dL_comes_262 ?_
                                    refine L_goto (tgt := 268) dL_comes_263 (by decide) ?_
                                    exact J0 _ _ hS (by rw [cm_lo (by omega), of_s (by omega)])
                                · skip
                                  exfalso; omega
                            · skip
                              exfalso; omega
                          · skip
                            exfalso; omega
                        · skip
                          exfalso; omega
              · skip
                have hcm2 := cm_hi (v := v) (r := r) (c := (k : Int)) (by omega)
                have hst4 : ofV v r (k : Int) ≤ v 1 (k : Int) := by
                  have z := hst.2.2 (by omega)
                  rw [← hlt] at z
                  exact z
                refine L_iload dL_comes_121 rfl ?_
                refine L_iload dL_comes_123 rfl ?_
                refine L_icmp_ge (tgt := 151) dL_comes_125 (by decide) (inR_of (by omega) (by omega)) (inR_of (by omega) (by omega)) (fun hc125 => ?_) (fun hc125 => ?_)
                · skip
                  refine L_iload dL_comes_151 rfl ?_
                  refine L_iload dL_comes_153 rfl ?_
                  refine L_icmp_ne (tgt := 170) dL_comes_155 (by decide) (inR_of (by omega) (by omega)) (inR_of (by omega) (by omega)) (fun hc155 => ?_) (fun hc155 => ?_)
                  · skip
                    exfalso; omega
                  · skip
                    refine L_iload dL_comes_158 rfl ?_
                    refine L_aload_n dL_comes_160 rfl rfl ?_
                    refine L_iload dL_comes_161 rfl ?_
                    refine L_iconst dL_comes_163 ?_
                    refine L_callV (ci := 5) (as := [_, _]) (s_cell hS (inR_of (by omega) (by omega)) (inR_of (by omega) (by omega)) (cell_1 (by omega) (by omega))) dL_comes_164 ml_L_43 cv_X5_cell hS.obj rfl rfl (Nat.le_of_ble_eq_true rfl) (Nat.le_of_ble_eq_true rfl) rfl (fun r h2 hp => ?_)
                    obtain ⟨rfl, hS⟩ := hp
                    refine L_icmp_gt (tgt := 245) dL_comes_167 (by decide) (inR_of (by omega) (by omega)) (inR_of (by omega) (by omega)) (fun hc167 => ?_) (fun hc167 => ?_)
                    · skip
                      exfalso; omega
                    · skip
                      refine L_iload dL_comes_170 rfl ?_
                      refine L_iload dL_comes_172 rfl ?_
                      refine L_icmp_lt (tgt := 198) dL_comes_174 (by decide) (inR_of (by omega) (by omega)) (inR_of (by omega) (by omega)) (fun hc174 => ?_) (fun hc174 => ?_)
                      · skip
                        exfalso; omega
                      · skip
                        refine L_iload dL_comes_177 rfl ?_
                        refine L_iload dL_comes_179 rfl ?_
                        refine L_fork1 195 (reV v r (k : Int)) (fun h => SYS h v hv sz ks sw) rfl (fun h2 hS => ?_) (fun J => ?_)
                        · skip
                          refine L_icmp_neE dL_comes_195 (by decide) (rfl) ?_
                          refine L_iload dL_comes_198 rfl ?_
                          refine L_iload dL_comes_200 rfl ?_
                          refine L_icmp_ne (tgt := 234) dL_comes_202 (by decide) (inR_of (by omega) (by omega)) (inR_of (by omega) (by omega)) (fun hc202 => ?_) (fun hc202 => ?_)
                          · skip
                            exfalso; omega
                          · skip
                            refine L_iload dL_comes_205 rfl ?_
                            refine L_if_le (tgt := 234) dL_comes_207 (by decide) (inR_of (by omega) (by omega)) (fun hc207 => ?_) (fun hc207 => ?_)
                            · skip
                              refine L_iload dL_comes_234 rfl ?_
                              refine L_if_lt (tgt := 245) dL_comes_236 (by decide) (inR_of (by omega) (by omega)) (fun hc236 => ?_) (fun hc236 => ?_)
                              · skip
                                exfalso; omega
                              · skip
                                refine L_iload dL_comes_239 rfl ?_
                                refine L_iconst dL_comes_241 ?_
                                refine L_icmp_le (tgt := 247) dL_comes_242 (by decide) (inR_of (by omega) (by omega)) (inR_of (by omega) (by omega)) (fun hc242 => ?_) (fun hc242 => ?_)
                                · skip
                                  refine L_iload dL_comes_247 rfl ?_
                                  refine L_iload dL_comes_249 rfl ?_
                                  refine L_icmp_ge (tgt := 266) dL_comes_251 (by decide) (inR_of (by omega) (by omega)) (inR_of (by omega) (by omega)) (fun hc251 => ?_) (fun hc251 => ?_)
                                  · skip
                                    refine L_iload dL_comes_266 rfl ?_
                                    exact J0 _ _ hS (by rw [cm_hi (c := (k : Int) + 1) (by omega), cm_hi (c := (k : Int)) (by omega)])
                                  · skip
                                    exfalso; omega
                                · skip
                                  exfalso; omega
                            · skip
                              refine L_iload dL_comes_210 rfl ?_
                              refine L_iconst dL_comes_212 ?_
                              refine L_fork2 221 (if reV v r (k : Int) = 2 then 1 else 0) (fun h => SYS h v hv sz ks sw) rfl (fun h2 hS => ?_) (fun J => ?_)
                              · skip
                                refine L_iload dL_comes_221 rfl ?_
                                refine L_fork1 231 (if 0 < cmV v r (k : Int) then 1 else 0) (fun h => SYS h v hv sz ks sw) rfl (fun h2 hS => ?_) (fun J => ?_)
                                · skip
                                  refine L_icmp_neE dL_comes_231 (by decide) (by split <;> split <;> omega) ?_
                                  refine L_iload dL_comes_234 rfl ?_
                                  refine L_if_lt (tgt := 245) dL_comes_236 (by decide) (inR_of (by omega) (by omega)) (fun hc236 => ?_) (fun hc236 => ?_)
                                  · skip
                                    exfalso; omega
                                  · skip
                                    refine L_iload dL_comes_239 rfl ?_
                                    refine L_iconst dL_comes_241 ?_
                                    refine L_icmp_le (tgt := 247) dL_comes_242 (by decide) (inR_of (by omega) (by omega)) (inR_of (by omega) (by omega)) (fun hc242 => ?_) (fun hc242 => ?_)
                                    · skip
                                      refine L_iload dL_comes_247 rfl ?_
                                      refine L_iload dL_comes_249 rfl ?_
                                      refine L_icmp_ge (tgt := 266) dL_comes_251 (by decide) (inR_of (by omega) (by omega)) (inR_of (by omega) (by omega)) (fun hc251 => ?_) (fun hc251 => ?_)
                                      · skip
                                        refine L_iload dL_comes_266 rfl ?_
                                        exact J0 _ _ hS (by rw [cm_hi (c := (k : Int) + 1) (by omega), cm_hi (c := (k : Int)) (by omega)])
                                      · skip
                                        exfalso; omega
                                    · skip
                                      exfalso; omega
                                · skip
                                  refine L_if_le (tgt := 230) dL_comes_223 (by decide) (inR_of (by omega) (by omega)) (fun hc223 => ?_) (fun hc223 => ?_)
                                  · skip
                                    refine L_iconst dL_comes_230 ?_
                                    exact J _ _ hS (by first | exact (if_pos (by omega)).symm | exact (if_neg (by omega)).symm)
                                  · skip
                                    refine L_iconst dL_comes_226 ?_
                                    refine L_goto (tgt := 231) dL_comes_227 (by decide) ?_
                                    exact J _ _ hS (by first | exact (if_pos (by omega)).symm | exact (if_neg (by omega)).symm)
                              · skip
                                refine L_icmp_ne (tgt := 220) dL_comes_213 (by decide) (inR_of (by omega) (by omega)) (inR_of (by omega) (by omega)) (fun hc213 => ?_) (fun hc213 => ?_)
                                · skip
                                  refine L_iconst dL_comes_220 ?_
                                  exact J _ _ hS (by first | exact (if_pos (by omega)).symm | exact (if_neg (by omega)).symm)
                                · skip
                                  refine L_iconst dL_comes_216 ?_
                                  refine L_goto (tgt := 221) dL_comes_217 (by decide) ?_
                                  exact J _ _ hS (by first | exact (if_pos (by omega)).symm | exact (if_neg (by omega)).symm)
                        · skip
                          refine L_if_gt (tgt := 188) dL_comes_181 (by decide) (inR_of (by omega) (by omega)) (fun hc181 => ?_) (fun hc181 => ?_)
                          · skip
                            refine L_aload_n dL_comes_188 rfl rfl ?_
                            refine L_iload dL_comes_189 rfl ?_
                            refine L_iload_n dL_comes_191 rfl rfl ?_
                            refine L_callV (ci := 5) (as := [_, _]) (s_reason (y := reV v r (stV v r)) hS (inR_of (by omega) (by omega)) (inR_of (by omega) (by omega)) (why_is (by omega) (by omega) hr)) dL_comes_192 ml_L_74 cv_X5_reason hS.obj rfl rfl (Nat.le_of_ble_eq_true rfl) (Nat.le_of_ble_eq_true rfl) rfl (fun r h2 hp => ?_)
                            obtain ⟨rfl, hS⟩ := hp
                            exact J _ _ hS (by omega)
                          · skip
                            refine L_iconst dL_comes_184 ?_
                            refine L_goto (tgt := 195) dL_comes_185 (by decide) ?_
                            exact J _ _ hS (by omega)
                · skip
                  exfalso; omega
              · skip
                have hcm2 := cm_hi (v := v) (r := r) (c := (k : Int)) (by omega)
                refine L_iload dL_comes_121 rfl ?_
                refine L_iload dL_comes_123 rfl ?_
                refine L_icmp_ge (tgt := 151) dL_comes_125 (by decide) (inR_of (by omega) (by omega)) (inR_of (by omega) (by omega)) (fun hc125 => ?_) (fun hc125 => ?_)
                · skip
                  refine L_iload dL_comes_151 rfl ?_
                  refine L_iload dL_comes_153 rfl ?_
                  refine L_icmp_ne (tgt := 170) dL_comes_155 (by decide) (inR_of (by omega) (by omega)) (inR_of (by omega) (by omega)) (fun hc155 => ?_) (fun hc155 => ?_)
                  · skip
                    refine L_iload dL_comes_170 rfl ?_
                    refine L_iload dL_comes_172 rfl ?_
                    refine L_icmp_lt (tgt := 198) dL_comes_174 (by decide) (inR_of (by omega) (by omega)) (inR_of (by omega) (by omega)) (fun hc174 => ?_) (fun hc174 => ?_)
                    · skip
                      exfalso; omega
                    · skip
                      refine L_iload dL_comes_177 rfl ?_
                      refine L_iload dL_comes_179 rfl ?_
                      refine L_fork1 195 (reV v r (k : Int)) (fun h => SYS h v hv sz ks sw) rfl (fun h2 hS => ?_) (fun J => ?_)
                      · skip
                        refine L_icmp_neE dL_comes_195 (by decide) (rfl) ?_
                        refine L_iload dL_comes_198 rfl ?_
                        refine L_iload dL_comes_200 rfl ?_
                        refine L_icmp_ne (tgt := 234) dL_comes_202 (by decide) (inR_of (by omega) (by omega)) (inR_of (by omega) (by omega)) (fun hc202 => ?_) (fun hc202 => ?_)
                        · skip
                          refine L_iload dL_comes_234 rfl ?_
                          refine L_if_lt (tgt := 245) dL_comes_236 (by decide) (inR_of (by omega) (by omega)) (fun hc236 => ?_) (fun hc236 => ?_)
                          · skip
                            exfalso; omega
                          · skip
                            refine L_iload dL_comes_239 rfl ?_
                            refine L_iconst dL_comes_241 ?_
                            refine L_icmp_le (tgt := 247) dL_comes_242 (by decide) (inR_of (by omega) (by omega)) (inR_of (by omega) (by omega)) (fun hc242 => ?_) (fun hc242 => ?_)
                            · skip
                              refine L_iload dL_comes_247 rfl ?_
                              refine L_iload dL_comes_249 rfl ?_
                              refine L_icmp_ge (tgt := 266) dL_comes_251 (by decide) (inR_of (by omega) (by omega)) (inR_of (by omega) (by omega)) (fun hc251 => ?_) (fun hc251 => ?_)
                              · skip
                                refine L_iload dL_comes_266 rfl ?_
                                exact J0 _ _ hS (by rw [cm_hi (c := (k : Int) + 1) (by omega), cm_hi (c := (k : Int)) (by omega)])
                              · skip
                                exfalso; omega
                            · skip
                              exfalso; omega
                        · skip
                          exfalso; omega
                      · skip
                        refine L_if_gt (tgt := 188) dL_comes_181 (by decide) (inR_of (by omega) (by omega)) (fun hc181 => ?_) (fun hc181 => ?_)
                        · skip
                          refine L_aload_n dL_comes_188 rfl rfl ?_
                          refine L_iload dL_comes_189 rfl ?_
                          refine L_iload_n dL_comes_191 rfl rfl ?_
                          refine L_callV (ci := 5) (as := [_, _]) (s_reason (y := reV v r (stV v r)) hS (inR_of (by omega) (by omega)) (inR_of (by omega) (by omega)) (why_is (by omega) (by omega) hr)) dL_comes_192 ml_L_74 cv_X5_reason hS.obj rfl rfl (Nat.le_of_ble_eq_true rfl) (Nat.le_of_ble_eq_true rfl) rfl (fun r h2 hp => ?_)
                          obtain ⟨rfl, hS⟩ := hp
                          exact J _ _ hS (by omega)
                        · skip
                          refine L_iconst dL_comes_184 ?_
                          refine L_goto (tgt := 195) dL_comes_185 (by decide) ?_
                          exact J _ _ hS (by omega)
                  · skip
                    exfalso; omega
                · skip
                  exfalso; omega
          · skip
            refine L_icmp_ge (tgt := 117) dL_comes_109 (by decide) (inR_of (by omega) (by omega)) (inR_of (by omega) (by omega)) (fun hc109 => ?_) (fun hc109 => ?_)
            · skip
              refine L_iconst dL_comes_117 ?_
              exact J _ _ hS (by omega)
            · skip
              refine L_iload dL_comes_112 rfl ?_
              refine L_goto (tgt := 118) dL_comes_114 (by decide) ?_
              exact J _ _ hS (by omega)
        · skip
          refine L_icmp_ge (tgt := 85) dL_comes_77 (by decide) (inR_of (by omega) (by omega)) (inR_of (by omega) (by omega)) (fun hc77 => ?_) (fun hc77 => ?_)
          · skip
            refine L_aload_n dL_comes_85 rfl rfl ?_
            refine L_iload dL_comes_86 rfl ?_
            refine L_iconst dL_comes_88 ?_
            refine L_callV (ci := 5) (as := [_, _]) (s_cell hS (inR_of (by omega) (by omega)) (inR_of (by omega) (by omega)) (cell_0 (by omega) (by omega))) dL_comes_89 ml_L_43 cv_X5_cell hS.obj rfl rfl (Nat.le_of_ble_eq_true rfl) (Nat.le_of_ble_eq_true rfl) rfl (fun r h2 hp => ?_)
            obtain ⟨rfl, hS⟩ := hp
            exact J _ _ hS (by omega)
          · skip
            refine L_iload dL_comes_80 rfl ?_
            refine L_goto (tgt := 92) dL_comes_82 (by decide) ?_
            exact J _ _ hS (by omega)
  refine L_aload_n dL_comes_0 rfl rfl ?_
  refine L_callS (as := [_]) (c_L_print _ v hv sz ks sw hS) dL_comes_1 ml_L_64 cs_L_print rfl (Nat.le_of_ble_eq_true rfl) (Nat.le_of_ble_eq_true rfl) rfl (fun r h2 hp => ?_)
  obtain ⟨rfl, hS⟩ := hp
  refine L_lstore_n dL_comes_4 rfl (by decide) rfl rfl ?_
  refine L_aload_n dL_comes_5 rfl rfl ?_
  refine L_iload_n dL_comes_6 rfl rfl ?_
  refine L_callV (ci := 5) (as := [_]) (s_stopCell hS (inR_of (by omega) (by omega))) dL_comes_7 ml_L_68 cv_X5_stopCell hS.obj rfl rfl (Nat.le_of_ble_eq_true rfl) (Nat.le_of_ble_eq_true rfl) rfl (fun r h2 hp => ?_)
  obtain ⟨rfl, hS⟩ := hp
  have hsp := stop_is (v := v) hr
  have hst := st_facts v r
  refine L_istore dL_comes_10 (by decide) rfl rfl ?_
  refine L_iload dL_comes_12 rfl ?_
  refine L_fork1 24 (stV v r) (fun h => SYS h v hv sz ks sw) rfl (fun h2 hS => ?_) (fun J => ?_)
  · skip
    refine L_istore dL_comes_24 (by decide) rfl rfl ?_
    refine L_aload_n dL_comes_26 rfl rfl ?_
    refine L_bipush dL_comes_27 rfl ?_
    refine L_callV (ci := 5) (as := [_]) (s_count (y := v 10 0) hS (inR_of (by omega) (by omega)) rfl) dL_comes_29 ml_L_46 cv_X5_count hS.obj rfl rfl (Nat.le_of_ble_eq_true rfl) (Nat.le_of_ble_eq_true rfl) rfl (fun r h2 hp => ?_)
    obtain ⟨rfl, hS⟩ := hp
    refine L_iload_n dL_comes_32 rfl rfl ?_
    refine L_iadd dL_comes_33 ?_
    refine L_aload_n dL_comes_34 rfl rfl ?_
    refine L_iconst dL_comes_35 ?_
    refine L_callV (ci := 5) (as := [_]) (s_count (y := v 11 1) hS (inR_of (by omega) (by omega)) rfl) dL_comes_36 ml_L_46 cv_X5_count hS.obj rfl rfl (Nat.le_of_ble_eq_true rfl) (Nat.le_of_ble_eq_true rfl) rfl (fun r h2 hp => ?_)
    obtain ⟨rfl, hS⟩ := hp
    refine L_isub dL_comes_39 ?_
    refine L_top (y := pushI v r) rfl ?_
    refine L_istore dL_comes_40 (by decide) rfl rfl ?_
    refine L_iload dL_comes_42 rfl ?_
    refine L_top (y := cmV v r ((0 : Nat) : Int)) (cm_0 v r).symm ?_
    refine L_istore dL_comes_44 (by decide) rfl rfl ?_
    refine L_iconst dL_comes_46 ?_
    refine L_istore dL_comes_47 (by decide) rfl rfl ?_
    refine L_iconst dL_comes_49 ?_
    refine L_istore dL_comes_50 (by decide) rfl rfl ?_
    exact L 41 0 _ hS (by omega) (by omega)
  · skip
    refine L_if_ge (tgt := 22) dL_comes_14 (by decide) (inR_of (by omega) (by omega)) (fun hc14 => ?_) (fun hc14 => ?_)
    · skip
      refine L_iload dL_comes_22 rfl ?_
      exact J _ _ hS (by omega)
    · skip
      refine L_bipush dL_comes_17 rfl ?_
      refine L_goto (tgt := 24) dL_comes_19 (by decide) ?_
      exact J _ _ hS (by omega)
end
section
/-! the law: the least flow, the best sill -/
def mwV (v : SV) (r c q : Int) : Int := mkI (v 10 0 + r - q) (v 10 1) (v 1) (v 0) c
theorem mw_rng {v : SV} {r c q : Int} (ho : OK v) (c0 : 0 ≤ c) (c1 : c < 40) : 0 ≤ mwV v r c q ∧ mwV v r c q ≤ 60 := by
  have b := ho.1.2.1 c c0 c1
  have d := ho.1.1 c c0 c1
  have g := mkf_rng (o := offI (v 10 0 + r - q) (v 10 1) (v 1) (v 0) c) b.1 d.1
  unfold mwV mkI
  omega
theorem least_is2 {v : SV} {c r : Int} (ho : OK v) (hc : 0 ≤ c ∧ c < 40) (hr : -30 ≤ r ∧ r ≤ 30) : 0 ≤ leastR v c r ∧ leastR v c r ≤ 99 ∧ mwV v r c (leastR v c r) = 0 ∧ ∀ i : Int, 0 ≤ i → i < leastR v c r → mwV v r c i ≠ 0 := least_is ho hc hr
theorem best_rng {v : SV} {k r : Int} : -5 ≤ bestR v k r ∧ bestR v k r ≤ 39 := by
  unfold bestR
  split
  · omega
  · rcases bsN_is (push := pushI v r) (slope := v 10 1) (sil := v 1) (dep := v 0) (k := k) 40 (by omega) with a | ⟨a, b, -⟩ <;> omega
set_option maxRecDepth 100000 in
set_option maxHeartbeats 8000000 in
theorem c_L_keeps (h : List PO) (v : SV) (hv : Int → SV) (sz ks : Int) (sw : SV) (c r k : Int) (hS : SYS h v hv sz ks sw) (hc : 0 ≤ c ∧ c < 40) (hr : -30 ≤ r ∧ r ≤ 30) (hk : 1 ≤ k ∧ k ≤ 24) : PMw 8 yL_keeps cL_keeps 14 (some .boolean) h [r_ 0, i_ c, i_ r, i_ k] (fun r0 h2 => r0 = some (w_ 1) ∧ ∃ hv2 sz2, SYS h2 v hv2 sz2 ks sw) := by
  refine PMw_of [some (p_ 0), some (w_ c), some (w_ r), some (w_ k), none, none, none, none, none, none, none, none, none, none] rfl (by decide +kernel) (Nat.le_of_ble_eq_true rfl) rfl ?_
  obtain ⟨l0, l1, l2, l3⟩ := least_is2 hS.ok hc hr
  have hbr := best_rng (v := v) (k := k) (r := r)
  have hsp := stop_is (v := v) hr
  have hst := st_facts v r
  have hmr := mw_rng (r := r) (q := leastR v c r - 1) hS.ok hc.1 hc.2
  have hmn := l3 (leastR v c r - 1)
  have T2 : ∀ (hh : List PO) (hv2 : Int → SV) (sz2 : Int), SYS hh v hv2 sz2 ks sw → GM 8 cL_keeps 14 (some .boolean) hh 42 [some (p_ 0), some (w_ c), some (w_ r), some (w_ k), some (l_ (prnL v)), none, some (w_ (leastR v c r)), some (w_ (bestR v k r)), some (w_ (stopR v r)), some (w_ (v 11 1)), some (w_ 1), some (w_ 2), none, none] [] (fun r0 h2 => r0 = some (w_ 1) ∧ ∃ hv2 sz2, SYS h2 v hv2 sz2 ks sw) := by
    intro hh hv2 sz2 hS
    have hS0 := hS
    have hg := hS.gen
    refine L_iload dL_keeps_42 rfl ?_
    refine L_iconst dL_keeps_44 ?_
    refine L_icmp_ge (tgt := 171) dL_keeps_45 (by decide) (inR_of (by omega) (by omega)) (inR_of (by omega) (by omega)) (fun hc45 => ?_) (fun hc45 => ?_)
    · skip
      refine L_iload dL_keeps_171 rfl ?_
      refine L_if_eq (tgt := 239) dL_keeps_173 (by decide) (inR_of (by omega) (by omega)) (fun hc173 => ?_) (fun hc173 => ?_)
      · skip
        exfalso; omega
      · skip
        refine L_iload dL_keeps_176 rfl ?_
        refine L_if_lt (tgt := 239) dL_keeps_178 (by decide) (inR_of (by omega) (by omega)) (fun hc178 => ?_) (fun hc178 => ?_)
        · skip
          refine L_iload dL_keeps_239 rfl ?_
          refine L_if_eq (tgt := 258) dL_keeps_241 (by decide) (inR_of (by omega) (by omega)) (fun hc241 => ?_) (fun hc241 => ?_)
          · skip
            exfalso; omega
          · skip
            refine L_aload_n dL_keeps_244 rfl rfl ?_
            refine L_callS (as := [_]) (c_L_print _ _ _ _ _ _ hS) dL_keeps_245 ml_L_64 cs_L_print rfl (Nat.le_of_ble_eq_true rfl) (Nat.le_of_ble_eq_true rfl) rfl (fun r h2 hp => ?_)
            obtain ⟨rfl, hS⟩ := hp
            refine L_lload dL_keeps_248 rfl ?_
            refine L_lcmpE dL_keeps_250 rfl ?_
            refine L_if_ne (tgt := 258) dL_keeps_251 (by decide) (inR_of (by omega) (by omega)) (fun hc251 => ?_) (fun hc251 => ?_)
            · skip
              exfalso; omega
            · skip
              refine L_iconst dL_keeps_254 ?_
              refine L_goto (tgt := 259) dL_keeps_255 (by decide) ?_
              refine M_zreturn dL_keeps_259 rfl (Or.inr rfl) ?_
              exact ⟨rfl, _, _, hS⟩
        · skip
          obtain ⟨⟨b40, bR, bs0, bsk⟩, bst, blt⟩ := best_is hS0.ok (k := k) (r := r) ⟨by omega, by omega⟩ hr (by omega)
          refine L_aload_n dL_keeps_181 rfl rfl ?_
          refine L_iload dL_keeps_182 rfl ?_
          refine L_iload_n dL_keeps_184 rfl rfl ?_
          refine L_callV (ci := 5) (as := [_, _]) (s_build hS (inR_of (by omega) (by omega)) (inR_of (by omega) (by omega))) dL_keeps_185 ml_L_21 cv_X5_build hS.obj rfl rfl (Nat.le_of_ble_eq_true rfl) (Nat.le_of_ble_eq_true rfl) rfl (fun r h2 hp => ?_)
          obtain ⟨rfl, hS⟩ := hp
          rw [bR] at hS ⊢
          have ua := und_act (v := v) (V := buildV v (bestR v k r) k) (hv := hv2) (sz := sz2) (R := v 1 (bestR v k r)) bs0 hg.2.2.2.2.2.2.2.1 hg.2.2.2.2.2.2.2.2
          refine L_istore dL_keeps_188 (by decide) rfl rfl ?_
          refine L_aload_n dL_keeps_190 rfl rfl ?_
          refine L_iload_n dL_keeps_191 rfl rfl ?_
          refine L_callV (ci := 5) (as := [_]) (s_stopCell hS (inR_of (by omega) (by omega))) dL_keeps_192 ml_L_68 cv_X5_stopCell hS.obj rfl rfl (Nat.le_of_ble_eq_true rfl) (Nat.le_of_ble_eq_true rfl) rfl (fun r h2 hp => ?_)
          obtain ⟨rfl, hS⟩ := hp
          refine L_top bst ?_
          refine L_istore dL_keeps_195 (by decide) rfl rfl ?_
          refine L_iload dL_keeps_197 rfl ?_
          refine L_if_lt (tgt := 236) dL_keeps_199 (by decide) (inR_of (by omega) (by omega)) (fun hc199 => ?_) (fun hc199 => ?_)
          · skip
            exfalso; omega
          · skip
            refine L_iload dL_keeps_202 rfl ?_
            refine L_iload_n dL_keeps_204 rfl rfl ?_
            refine L_icmp_ge (tgt := 236) dL_keeps_205 (by decide) (inR_of (by omega) (by omega)) (inR_of (by omega) (by omega)) (fun hc205 => ?_) (fun hc205 => ?_)
            · skip
              exfalso; omega
            · skip
              refine L_iload dL_keeps_208 rfl ?_
              refine L_if_lt (tgt := 236) dL_keeps_210 (by decide) (inR_of (by omega) (by omega)) (fun hc210 => ?_) (fun hc210 => ?_)
              · skip
                exfalso; omega
              · skip
                refine L_iload dL_keeps_213 rfl ?_
                refine L_if_lt (tgt := 225) dL_keeps_215 (by decide) (inR_of (by omega) (by omega)) (fun hc215 => ?_) (fun hc215 => ?_)
                · skip
                  refine L_aload_n dL_keeps_225 rfl rfl ?_
                  refine L_callV (ci := 5) (as := []) (s_undo (v := v) hS ua.1 hS0.xi) dL_keeps_226 ml_L_80 cv_X5_undo hS.obj rfl rfl (Nat.le_of_ble_eq_true rfl) (Nat.le_of_ble_eq_true rfl) rfl (fun r h2 hp => ?_)
                  obtain ⟨rfl, hS⟩ := hp
                  have hu : 0 ≤ undR (szA sz2 (v 1 (bestR v k r))) ∧ undR (szA sz2 (v 1 (bestR v k r))) ≤ 4 := by
                    rw [ua.2.1]
                    split <;> omega
                  refine L_if_lt (tgt := 236) dL_keeps_229 (by decide) (inR_of (by omega) (by omega)) (fun hc229 => ?_) (fun hc229 => ?_)
                  · skip
                    exfalso; omega
                  · skip
                    refine L_iconst dL_keeps_232 ?_
                    refine L_goto (tgt := 237) dL_keeps_233 (by decide) ?_
                    refine L_istore dL_keeps_237 (by decide) rfl rfl ?_
                    refine L_iload dL_keeps_239 rfl ?_
                    refine L_if_eq (tgt := 258) dL_keeps_241 (by decide) (inR_of (by omega) (by omega)) (fun hc241 => ?_) (fun hc241 => ?_)
                    · skip
                      exfalso; omega
                    · skip
                      refine L_aload_n dL_keeps_244 rfl rfl ?_
                      refine L_callS (as := [_]) (c_L_print _ _ _ _ _ _ hS) dL_keeps_245 ml_L_64 cs_L_print rfl (Nat.le_of_ble_eq_true rfl) (Nat.le_of_ble_eq_true rfl) rfl (fun r h2 hp => ?_)
                      obtain ⟨rfl, hS⟩ := hp
                      refine L_lload dL_keeps_248 rfl ?_
                      refine L_lcmpE dL_keeps_250 rfl ?_
                      refine L_if_ne (tgt := 258) dL_keeps_251 (by decide) (inR_of (by omega) (by omega)) (fun hc251 => ?_) (fun hc251 => ?_)
                      · skip
                        exfalso; omega
                      · skip
                        refine L_iconst dL_keeps_254 ?_
                        refine L_goto (tgt := 259) dL_keeps_255 (by decide) ?_
                        refine M_zreturn dL_keeps_259 rfl (Or.inr rfl) ?_
                        exact ⟨rfl, _, _, hS⟩
                · skip
                  refine L_iload dL_keeps_218 rfl ?_
                  refine L_iload dL_keeps_220 rfl ?_
                  refine L_icmp_ge (tgt := 236) dL_keeps_222 (by decide) (inR_of (by omega) (by omega)) (inR_of (by omega) (by omega)) (fun hc222 => ?_) (fun hc222 => ?_)
                  · skip
                    exfalso; omega
                  · skip
                    refine L_aload_n dL_keeps_225 rfl rfl ?_
                    refine L_callV (ci := 5) (as := []) (s_undo (v := v) hS ua.1 hS0.xi) dL_keeps_226 ml_L_80 cv_X5_undo hS.obj rfl rfl (Nat.le_of_ble_eq_true rfl) (Nat.le_of_ble_eq_true rfl) rfl (fun r h2 hp => ?_)
                    obtain ⟨rfl, hS⟩ := hp
                    have hu : 0 ≤ undR (szA sz2 (v 1 (bestR v k r))) ∧ undR (szA sz2 (v 1 (bestR v k r))) ≤ 4 := by
                      rw [ua.2.1]
                      split <;> omega
                    refine L_if_lt (tgt := 236) dL_keeps_229 (by decide) (inR_of (by omega) (by omega)) (fun hc229 => ?_) (fun hc229 => ?_)
                    · skip
                      exfalso; omega
                    · skip
                      refine L_iconst dL_keeps_232 ?_
                      refine L_goto (tgt := 237) dL_keeps_233 (by decide) ?_
                      refine L_istore dL_keeps_237 (by decide) rfl rfl ?_
                      refine L_iload dL_keeps_239 rfl ?_
                      refine L_if_eq (tgt := 258) dL_keeps_241 (by decide) (inR_of (by omega) (by omega)) (fun hc241 => ?_) (fun hc241 => ?_)
                      · skip
                        exfalso; omega
                      · skip
                        refine L_aload_n dL_keeps_244 rfl rfl ?_
                        refine L_callS (as := [_]) (c_L_print _ _ _ _ _ _ hS) dL_keeps_245 ml_L_64 cs_L_print rfl (Nat.le_of_ble_eq_true rfl) (Nat.le_of_ble_eq_true rfl) rfl (fun r h2 hp => ?_)
                        obtain ⟨rfl, hS⟩ := hp
                        refine L_lload dL_keeps_248 rfl ?_
                        refine L_lcmpE dL_keeps_250 rfl ?_
                        refine L_if_ne (tgt := 258) dL_keeps_251 (by decide) (inR_of (by omega) (by omega)) (fun hc251 => ?_) (fun hc251 => ?_)
                        · skip
                          exfalso; omega
                        · skip
                          refine L_iconst dL_keeps_254 ?_
                          refine L_goto (tgt := 259) dL_keeps_255 (by decide) ?_
                          refine M_zreturn dL_keeps_259 rfl (Or.inr rfl) ?_
                          exact ⟨rfl, _, _, hS⟩
    · skip
      exfalso; omega
  have T1 : ∀ (hh : List PO) (hv2 : Int → SV) (sz2 : Int), SYS hh v hv2 sz2 ks sw → GM 8 cL_keeps 14 (some .boolean) hh 42 [some (p_ 0), some (w_ c), some (w_ r), some (w_ k), some (l_ (prnL v)), none, some (w_ (leastR v c r)), some (w_ (bestR v k r)), some (w_ (stopR v r)), some (w_ (v 11 1)), some (w_ 1), some (w_ 1), none, none] [] (fun r0 h2 => r0 = some (w_ 1) ∧ ∃ hv2 sz2, SYS h2 v hv2 sz2 ks sw) := by
    intro hh hv2 sz2 hS
    have hS0 := hS
    have hg := hS.gen
    refine L_iload dL_keeps_42 rfl ?_
    refine L_iconst dL_keeps_44 ?_
    refine L_icmp_ge (tgt := 171) dL_keeps_45 (by decide) (inR_of (by omega) (by omega)) (inR_of (by omega) (by omega)) (fun hc45 => ?_) (fun hc45 => ?_)
    · skip
      exfalso; omega
    · skip
      refine L_iload dL_keeps_48 rfl ?_
      refine L_if_eq (tgt := 171) dL_keeps_50 (by decide) (inR_of (by omega) (by omega)) (fun hc50 => ?_) (fun hc50 => ?_)
      · skip
        exfalso; omega
      · skip
        refine L_iload dL_keeps_53 rfl ?_
        refine L_if_ge (tgt := 63) dL_keeps_55 (by decide) (inR_of (by omega) (by omega)) (fun hc55 => ?_) (fun hc55 => ?_)
        · skip
          refine L_iload dL_keeps_63 rfl ?_
          refine L_iload dL_keeps_65 rfl ?_
          refine L_isub dL_keeps_67 ?_
          refine L_istore dL_keeps_68 (by decide) rfl rfl ?_
          refine L_iload dL_keeps_70 rfl ?_
          refine L_if_ge (tgt := 80) dL_keeps_72 (by decide) (inR_of (by omega) (by omega)) (fun hc72 => ?_) (fun hc72 => ?_)
          · skip
            refine L_aload_n dL_keeps_80 rfl rfl ?_
            refine L_iload dL_keeps_81 rfl ?_
            refine L_callV (ci := 5) (as := [_]) (s_flow hS (inR_of (by omega) (by omega))) dL_keeps_83 ml_L_24 cv_X5_flow hS.obj rfl rfl (Nat.le_of_ble_eq_true rfl) (Nat.le_of_ble_eq_true rfl) rfl (fun r h2 hp => ?_)
            obtain ⟨rfl, hS⟩ := hp
            rcases flow_do hS0.ok (q := leastR v c r - 1) ⟨by omega, by omega⟩ with ⟨e1, e2, e3⟩ | ⟨e1, e2, e3⟩
            · rw [e1] at hS ⊢
              refine L_istore dL_keeps_86 (by decide) rfl rfl ?_
              refine L_iload dL_keeps_88 rfl ?_
              refine L_if_lt (tgt := 158) dL_keeps_90 (by decide) (inR_of (by omega) (by omega)) (fun hc90 => ?_) (fun hc90 => ?_)
              · skip
                exfalso; omega
              · skip
                refine L_iload dL_keeps_93 rfl ?_
                refine L_iload dL_keeps_95 rfl ?_
                refine L_icmp_eq (tgt := 114) dL_keeps_97 (by decide) (inR_of (by omega) (by omega)) (inR_of (by omega) (by omega)) (fun hc97 => ?_) (fun hc97 => ?_)
                · skip
                  exfalso; omega
                · skip
                  refine L_iload dL_keeps_100 rfl ?_
                  refine L_bipush dL_keeps_102 rfl ?_
                  refine L_icmp_ne (tgt := 162) dL_keeps_104 (by decide) (inR_of (by omega) (by omega)) (inR_of (by omega) (by omega)) (fun hc104 => ?_) (fun hc104 => ?_)
                  · skip
                    exfalso; omega
                  · skip
                    refine L_iload dL_keeps_107 rfl ?_
                    refine L_iload dL_keeps_109 rfl ?_
                    refine L_icmp_ne (tgt := 162) dL_keeps_111 (by decide) (inR_of (by omega) (by omega)) (inR_of (by omega) (by omega)) (fun hc111 => ?_) (fun hc111 => ?_)
                    · skip
                      exfalso; omega
                    · skip
                      refine L_aload_n dL_keeps_114 rfl rfl ?_
                      refine L_iload_n dL_keeps_115 rfl rfl ?_
                      refine L_iload_n dL_keeps_116 rfl rfl ?_
                      refine L_callV (ci := 5) (as := [_, _]) (s_mark (y := mwV v r c (leastR v c r - 1)) hS (inR_of (by omega) (by omega)) (inR_of (by omega) (by omega)) (flow_mark hS0.ok ⟨by omega, by omega⟩ hc hr)) dL_keeps_117 ml_L_71 cv_X5_mark hS.obj rfl rfl (Nat.le_of_ble_eq_true rfl) (Nat.le_of_ble_eq_true rfl) rfl (fun r h2 hp => ?_)
                      obtain ⟨rfl, hS⟩ := hp
                      refine L_if_ne (tgt := 127) dL_keeps_120 (by decide) (inR_of (by omega) (by omega)) (fun hc120 => ?_) (fun hc120 => ?_)
                      · skip
                        refine L_iconst dL_keeps_127 ?_
                        refine L_iload dL_keeps_128 rfl ?_
                        refine L_if_lt (tgt := 142) dL_keeps_130 (by decide) (inR_of (by omega) (by omega)) (fun hc130 => ?_) (fun hc130 => ?_)
                        · skip
                          exfalso; omega
                        · skip
                          refine L_iload dL_keeps_133 rfl ?_
                          refine L_if_ne (tgt := 142) dL_keeps_135 (by decide) (inR_of (by omega) (by omega)) (fun hc135 => ?_) (fun hc135 => ?_)
                          · skip
                            refine L_iconst dL_keeps_142 ?_
                            refine L_icmp_neE dL_keeps_143 (by decide) (rfl) ?_
                            refine L_iload dL_keeps_146 rfl ?_
                            refine L_if_lt (tgt := 158) dL_keeps_148 (by decide) (inR_of (by omega) (by omega)) (fun hc148 => ?_) (fun hc148 => ?_)
                            · skip
                              refine L_iconst dL_keeps_158 ?_
                              refine L_goto (tgt := 163) dL_keeps_159 (by decide) ?_
                              refine L_istore dL_keeps_163 (by decide) rfl rfl ?_
                              refine L_iinc dL_keeps_165 (by decide) rfl rfl rfl ?_
                              refine L_goto (tgt := 42) dL_keeps_168 (by decide) ?_
                              rw [e3] at hS
                              refine L_forget 12 rfl ?_
                              refine L_forget 13 rfl ?_
                              exact T2 _ _ _ hS
                            · skip
                              exfalso; omega
                          · skip
                            exfalso; omega
                      · skip
                        exfalso; omega
            · rw [e1] at hS ⊢
              have ua := und_act (v := v) (V := flowV v (leastR v c r - 1)) (hv := hv2) (sz := sz2) (R := v 11 1) hg.2.1.1 hg.2.2.2.2.2.2.2.1 hg.2.2.2.2.2.2.2.2
              refine L_istore dL_keeps_86 (by decide) rfl rfl ?_
              refine L_iload dL_keeps_88 rfl ?_
              refine L_if_lt (tgt := 158) dL_keeps_90 (by decide) (inR_of (by omega) (by omega)) (fun hc90 => ?_) (fun hc90 => ?_)
              · skip
                exfalso; omega
              · skip
                refine L_iload dL_keeps_93 rfl ?_
                refine L_iload dL_keeps_95 rfl ?_
                refine L_icmp_eq (tgt := 114) dL_keeps_97 (by decide) (inR_of (by omega) (by omega)) (inR_of (by omega) (by omega)) (fun hc97 => ?_) (fun hc97 => ?_)
                · skip
                  refine L_aload_n dL_keeps_114 rfl rfl ?_
                  refine L_iload_n dL_keeps_115 rfl rfl ?_
                  refine L_iload_n dL_keeps_116 rfl rfl ?_
                  refine L_callV (ci := 5) (as := [_, _]) (s_mark (y := mwV v r c (leastR v c r - 1)) hS (inR_of (by omega) (by omega)) (inR_of (by omega) (by omega)) (flow_mark hS0.ok ⟨by omega, by omega⟩ hc hr)) dL_keeps_117 ml_L_71 cv_X5_mark hS.obj rfl rfl (Nat.le_of_ble_eq_true rfl) (Nat.le_of_ble_eq_true rfl) rfl (fun r h2 hp => ?_)
                  obtain ⟨rfl, hS⟩ := hp
                  refine L_if_ne (tgt := 127) dL_keeps_120 (by decide) (inR_of (by omega) (by omega)) (fun hc120 => ?_) (fun hc120 => ?_)
                  · skip
                    refine L_iconst dL_keeps_127 ?_
                    refine L_iload dL_keeps_128 rfl ?_
                    refine L_if_lt (tgt := 142) dL_keeps_130 (by decide) (inR_of (by omega) (by omega)) (fun hc130 => ?_) (fun hc130 => ?_)
                    · skip
                      exfalso; omega
                    · skip
                      refine L_iload dL_keeps_133 rfl ?_
                      refine L_if_ne (tgt := 142) dL_keeps_135 (by decide) (inR_of (by omega) (by omega)) (fun hc135 => ?_) (fun hc135 => ?_)
                      · skip
                        refine L_iconst dL_keeps_142 ?_
                        refine L_icmp_neE dL_keeps_143 (by decide) (rfl) ?_
                        refine L_iload dL_keeps_146 rfl ?_
                        refine L_if_lt (tgt := 158) dL_keeps_148 (by decide) (inR_of (by omega) (by omega)) (fun hc148 => ?_) (fun hc148 => ?_)
                        · skip
                          exfalso; omega
                        · skip
                          refine L_aload_n dL_keeps_151 rfl rfl ?_
                          refine L_callV (ci := 5) (as := []) (s_undo (v := v) hS ua.1 hS0.xi) dL_keeps_152 ml_L_80 cv_X5_undo hS.obj rfl rfl (Nat.le_of_ble_eq_true rfl) (Nat.le_of_ble_eq_true rfl) rfl (fun r h2 hp => ?_)
                          obtain ⟨rfl, hS⟩ := hp
                          have hu : 0 ≤ undR (szA sz2 (v 11 1)) ∧ undR (szA sz2 (v 11 1)) ≤ 4 := by
                            rw [ua.2.1]
                            split <;> omega
                          refine L_if_lt (tgt := 162) dL_keeps_155 (by decide) (inR_of (by omega) (by omega)) (fun hc155 => ?_) (fun hc155 => ?_)
                          · skip
                            exfalso; omega
                          · skip
                            refine L_iconst dL_keeps_158 ?_
                            refine L_goto (tgt := 163) dL_keeps_159 (by decide) ?_
                            refine L_istore dL_keeps_163 (by decide) rfl rfl ?_
                            refine L_iinc dL_keeps_165 (by decide) rfl rfl rfl ?_
                            refine L_goto (tgt := 42) dL_keeps_168 (by decide) ?_
                            refine L_forget 12 rfl ?_
                            refine L_forget 13 rfl ?_
                            exact T2 _ _ _ hS
                      · skip
                        exfalso; omega
                  · skip
                    exfalso; omega
                · skip
                  exfalso; omega
          · skip
            refine L_bipush dL_keeps_75 rfl ?_
            refine L_goto (tgt := 86) dL_keeps_77 (by decide) ?_
            refine L_istore dL_keeps_86 (by decide) rfl rfl ?_
            refine L_iload dL_keeps_88 rfl ?_
            refine L_if_lt (tgt := 158) dL_keeps_90 (by decide) (inR_of (by omega) (by omega)) (fun hc90 => ?_) (fun hc90 => ?_)
            · skip
              refine L_iconst dL_keeps_158 ?_
              refine L_goto (tgt := 163) dL_keeps_159 (by decide) ?_
              refine L_istore dL_keeps_163 (by decide) rfl rfl ?_
              refine L_iinc dL_keeps_165 (by decide) rfl rfl rfl ?_
              refine L_goto (tgt := 42) dL_keeps_168 (by decide) ?_
              refine L_forget 12 rfl ?_
              refine L_forget 13 rfl ?_
              exact T2 _ _ _ hS
            · skip
              exfalso; omega
        · skip
          exfalso; omega
  have T0 : ∀ (hh : List PO) (hv2 : Int → SV) (sz2 : Int), SYS hh v hv2 sz2 ks sw → GM 8 cL_keeps 14 (some .boolean) hh 42 [some (p_ 0), some (w_ c), some (w_ r), some (w_ k), some (l_ (prnL v)), none, some (w_ (leastR v c r)), some (w_ (bestR v k r)), some (w_ (stopR v r)), some (w_ (v 11 1)), some (w_ 1), some (w_ 0), none, none] [] (fun r0 h2 => r0 = some (w_ 1) ∧ ∃ hv2 sz2, SYS h2 v hv2 sz2 ks sw) := by
    intro hh hv2 sz2 hS
    have hS0 := hS
    have hg := hS.gen
    refine L_iload dL_keeps_42 rfl ?_
    refine L_iconst dL_keeps_44 ?_
    refine L_icmp_ge (tgt := 171) dL_keeps_45 (by decide) (inR_of (by omega) (by omega)) (inR_of (by omega) (by omega)) (fun hc45 => ?_) (fun hc45 => ?_)
    · skip
      exfalso; omega
    · skip
      refine L_iload dL_keeps_48 rfl ?_
      refine L_if_eq (tgt := 171) dL_keeps_50 (by decide) (inR_of (by omega) (by omega)) (fun hc50 => ?_) (fun hc50 => ?_)
      · skip
        exfalso; omega
      · skip
        refine L_iload dL_keeps_53 rfl ?_
        refine L_if_ge (tgt := 63) dL_keeps_55 (by decide) (inR_of (by omega) (by omega)) (fun hc55 => ?_) (fun hc55 => ?_)
        · skip
          refine L_iload dL_keeps_63 rfl ?_
          refine L_iload dL_keeps_65 rfl ?_
          refine L_isub dL_keeps_67 ?_
          refine L_top (y := leastR v c r) (by omega) ?_
          refine L_istore dL_keeps_68 (by decide) rfl rfl ?_
          refine L_iload dL_keeps_70 rfl ?_
          refine L_if_ge (tgt := 80) dL_keeps_72 (by decide) (inR_of (by omega) (by omega)) (fun hc72 => ?_) (fun hc72 => ?_)
          · skip
            refine L_aload_n dL_keeps_80 rfl rfl ?_
            refine L_iload dL_keeps_81 rfl ?_
            refine L_callV (ci := 5) (as := [_]) (s_flow hS (inR_of (by omega) (by omega))) dL_keeps_83 ml_L_24 cv_X5_flow hS.obj rfl rfl (Nat.le_of_ble_eq_true rfl) (Nat.le_of_ble_eq_true rfl) rfl (fun r h2 hp => ?_)
            obtain ⟨rfl, hS⟩ := hp
            rcases flow_do hS0.ok (q := leastR v c r) ⟨by omega, by omega⟩ with ⟨e1, e2, e3⟩ | ⟨e1, e2, e3⟩
            · rw [e1] at hS ⊢
              refine L_istore dL_keeps_86 (by decide) rfl rfl ?_
              refine L_iload dL_keeps_88 rfl ?_
              refine L_if_lt (tgt := 158) dL_keeps_90 (by decide) (inR_of (by omega) (by omega)) (fun hc90 => ?_) (fun hc90 => ?_)
              · skip
                exfalso; omega
              · skip
                refine L_iload dL_keeps_93 rfl ?_
                refine L_iload dL_keeps_95 rfl ?_
                refine L_icmp_eq (tgt := 114) dL_keeps_97 (by decide) (inR_of (by omega) (by omega)) (inR_of (by omega) (by omega)) (fun hc97 => ?_) (fun hc97 => ?_)
                · skip
                  exfalso; omega
                · skip
                  refine L_iload dL_keeps_100 rfl ?_
                  refine L_bipush dL_keeps_102 rfl ?_
                  refine L_icmp_ne (tgt := 162) dL_keeps_104 (by decide) (inR_of (by omega) (by omega)) (inR_of (by omega) (by omega)) (fun hc104 => ?_) (fun hc104 => ?_)
                  · skip
                    exfalso; omega
                  · skip
                    refine L_iload dL_keeps_107 rfl ?_
                    refine L_iload dL_keeps_109 rfl ?_
                    refine L_icmp_ne (tgt := 162) dL_keeps_111 (by decide) (inR_of (by omega) (by omega)) (inR_of (by omega) (by omega)) (fun hc111 => ?_) (fun hc111 => ?_)
                    · skip
                      exfalso; omega
                    · skip
                      refine L_aload_n dL_keeps_114 rfl rfl ?_
                      refine L_iload_n dL_keeps_115 rfl rfl ?_
                      refine L_iload_n dL_keeps_116 rfl rfl ?_
                      refine L_callV (ci := 5) (as := [_, _]) (s_mark (y := 0) hS (inR_of (by omega) (by omega)) (inR_of (by omega) (by omega)) ((flow_mark hS0.ok ⟨by omega, by omega⟩ hc hr).trans l2)) dL_keeps_117 ml_L_71 cv_X5_mark hS.obj rfl rfl (Nat.le_of_ble_eq_true rfl) (Nat.le_of_ble_eq_true rfl) rfl (fun r h2 hp => ?_)
                      obtain ⟨rfl, hS⟩ := hp
                      refine L_if_ne (tgt := 127) dL_keeps_120 (by decide) (inR_of (by omega) (by omega)) (fun hc120 => ?_) (fun hc120 => ?_)
                      · skip
                        exfalso; omega
                      · skip
                        refine L_iconst dL_keeps_123 ?_
                        refine L_goto (tgt := 128) dL_keeps_124 (by decide) ?_
                        refine L_iload dL_keeps_128 rfl ?_
                        refine L_if_lt (tgt := 142) dL_keeps_130 (by decide) (inR_of (by omega) (by omega)) (fun hc130 => ?_) (fun hc130 => ?_)
                        · skip
                          exfalso; omega
                        · skip
                          refine L_iload dL_keeps_133 rfl ?_
                          refine L_if_ne (tgt := 142) dL_keeps_135 (by decide) (inR_of (by omega) (by omega)) (fun hc135 => ?_) (fun hc135 => ?_)
                          · skip
                            exfalso; omega
                          · skip
                            refine L_iconst dL_keeps_138 ?_
                            refine L_goto (tgt := 143) dL_keeps_139 (by decide) ?_
                            refine L_icmp_neE dL_keeps_143 (by decide) (rfl) ?_
                            refine L_iload dL_keeps_146 rfl ?_
                            refine L_if_lt (tgt := 158) dL_keeps_148 (by decide) (inR_of (by omega) (by omega)) (fun hc148 => ?_) (fun hc148 => ?_)
                            · skip
                              refine L_iconst dL_keeps_158 ?_
                              refine L_goto (tgt := 163) dL_keeps_159 (by decide) ?_
                              refine L_istore dL_keeps_163 (by decide) rfl rfl ?_
                              refine L_iinc dL_keeps_165 (by decide) rfl rfl rfl ?_
                              refine L_goto (tgt := 42) dL_keeps_168 (by decide) ?_
                              rw [e3] at hS
                              refine L_forget 12 rfl ?_
                              refine L_forget 13 rfl ?_
                              exact T1 _ _ _ hS
                            · skip
                              exfalso; omega
            · rw [e1] at hS ⊢
              have ua := und_act (v := v) (V := flowV v (leastR v c r)) (hv := hv2) (sz := sz2) (R := v 11 1) hg.2.1.1 hg.2.2.2.2.2.2.2.1 hg.2.2.2.2.2.2.2.2
              refine L_istore dL_keeps_86 (by decide) rfl rfl ?_
              refine L_iload dL_keeps_88 rfl ?_
              refine L_if_lt (tgt := 158) dL_keeps_90 (by decide) (inR_of (by omega) (by omega)) (fun hc90 => ?_) (fun hc90 => ?_)
              · skip
                exfalso; omega
              · skip
                refine L_iload dL_keeps_93 rfl ?_
                refine L_iload dL_keeps_95 rfl ?_
                refine L_icmp_eq (tgt := 114) dL_keeps_97 (by decide) (inR_of (by omega) (by omega)) (inR_of (by omega) (by omega)) (fun hc97 => ?_) (fun hc97 => ?_)
                · skip
                  refine L_aload_n dL_keeps_114 rfl rfl ?_
                  refine L_iload_n dL_keeps_115 rfl rfl ?_
                  refine L_iload_n dL_keeps_116 rfl rfl ?_
                  refine L_callV (ci := 5) (as := [_, _]) (s_mark (y := 0) hS (inR_of (by omega) (by omega)) (inR_of (by omega) (by omega)) ((flow_mark hS0.ok ⟨by omega, by omega⟩ hc hr).trans l2)) dL_keeps_117 ml_L_71 cv_X5_mark hS.obj rfl rfl (Nat.le_of_ble_eq_true rfl) (Nat.le_of_ble_eq_true rfl) rfl (fun r h2 hp => ?_)
                  obtain ⟨rfl, hS⟩ := hp
                  refine L_if_ne (tgt := 127) dL_keeps_120 (by decide) (inR_of (by omega) (by omega)) (fun hc120 => ?_) (fun hc120 => ?_)
                  · skip
                    exfalso; omega
                  · skip
                    refine L_iconst dL_keeps_123 ?_
                    refine L_goto (tgt := 128) dL_keeps_124 (by decide) ?_
                    refine L_iload dL_keeps_128 rfl ?_
                    refine L_if_lt (tgt := 142) dL_keeps_130 (by decide) (inR_of (by omega) (by omega)) (fun hc130 => ?_) (fun hc130 => ?_)
                    · skip
                      exfalso; omega
                    · skip
                      refine L_iload dL_keeps_133 rfl ?_
                      refine L_if_ne (tgt := 142) dL_keeps_135 (by decide) (inR_of (by omega) (by omega)) (fun hc135 => ?_) (fun hc135 => ?_)
                      · skip
                        exfalso; omega
                      · skip
                        refine L_iconst dL_keeps_138 ?_
                        refine L_goto (tgt := 143) dL_keeps_139 (by decide) ?_
                        refine L_icmp_neE dL_keeps_143 (by decide) (rfl) ?_
                        refine L_iload dL_keeps_146 rfl ?_
                        refine L_if_lt (tgt := 158) dL_keeps_148 (by decide) (inR_of (by omega) (by omega)) (fun hc148 => ?_) (fun hc148 => ?_)
                        · skip
                          exfalso; omega
                        · skip
                          refine L_aload_n dL_keeps_151 rfl rfl ?_
                          refine L_callV (ci := 5) (as := []) (s_undo (v := v) hS ua.1 hS0.xi) dL_keeps_152 ml_L_80 cv_X5_undo hS.obj rfl rfl (Nat.le_of_ble_eq_true rfl) (Nat.le_of_ble_eq_true rfl) rfl (fun r h2 hp => ?_)
                          obtain ⟨rfl, hS⟩ := hp
                          have hu : 0 ≤ undR (szA sz2 (v 11 1)) ∧ undR (szA sz2 (v 11 1)) ≤ 4 := by
                            rw [ua.2.1]
                            split <;> omega
                          refine L_if_lt (tgt := 162) dL_keeps_155 (by decide) (inR_of (by omega) (by omega)) (fun hc155 => ?_) (fun hc155 => ?_)
                          · skip
                            exfalso; omega
                          · skip
                            refine L_iconst dL_keeps_158 ?_
                            refine L_goto (tgt := 163) dL_keeps_159 (by decide) ?_
                            refine L_istore dL_keeps_163 (by decide) rfl rfl ?_
                            refine L_iinc dL_keeps_165 (by decide) rfl rfl rfl ?_
                            refine L_goto (tgt := 42) dL_keeps_168 (by decide) ?_
                            refine L_forget 12 rfl ?_
                            refine L_forget 13 rfl ?_
                            exact T1 _ _ _ hS
                · skip
                  exfalso; omega
          · skip
            exfalso; omega
        · skip
          exfalso; omega
  refine L_aload_n dL_keeps_0 rfl rfl ?_
  refine L_callS (as := [_]) (c_L_print _ _ _ _ _ _ hS) dL_keeps_1 ml_L_64 cs_L_print rfl (Nat.le_of_ble_eq_true rfl) (Nat.le_of_ble_eq_true rfl) rfl (fun r h2 hp => ?_)
  obtain ⟨rfl, hS⟩ := hp
  refine L_lstore dL_keeps_4 (by decide) rfl rfl ?_
  refine L_aload_n dL_keeps_6 rfl rfl ?_
  refine L_iload_n dL_keeps_7 rfl rfl ?_
  refine L_iload_n dL_keeps_8 rfl rfl ?_
  refine L_callV (ci := 5) (as := [_, _]) (s_leastFlow hS (inR_of (by omega) (by omega)) (inR_of (by omega) (by omega))) dL_keeps_9 ml_L_83 cv_X5_leastFlow hS.obj rfl rfl (Nat.le_of_ble_eq_true rfl) (Nat.le_of_ble_eq_true rfl) rfl (fun r h2 hp => ?_)
  obtain ⟨rfl, hS⟩ := hp
  refine L_istore dL_keeps_12 (by decide) rfl rfl ?_
  refine L_aload_n dL_keeps_14 rfl rfl ?_
  refine L_iload_n dL_keeps_15 rfl rfl ?_
  refine L_iload_n dL_keeps_16 rfl rfl ?_
  refine L_callV (ci := 5) (as := [_, _]) (s_bestSill hS (inR_of (by omega) (by omega)) (inR_of (by omega) (by omega))) dL_keeps_17 ml_L_86 cv_X5_bestSill hS.obj rfl rfl (Nat.le_of_ble_eq_true rfl) (Nat.le_of_ble_eq_true rfl) rfl (fun r h2 hp => ?_)
  obtain ⟨rfl, hS⟩ := hp
  refine L_istore dL_keeps_20 (by decide) rfl rfl ?_
  refine L_aload_n dL_keeps_22 rfl rfl ?_
  refine L_iload_n dL_keeps_23 rfl rfl ?_
  refine L_callV (ci := 5) (as := [_]) (s_stopCell hS (inR_of (by omega) (by omega))) dL_keeps_24 ml_L_68 cv_X5_stopCell hS.obj rfl rfl (Nat.le_of_ble_eq_true rfl) (Nat.le_of_ble_eq_true rfl) rfl (fun r h2 hp => ?_)
  obtain ⟨rfl, hS⟩ := hp
  refine L_istore dL_keeps_27 (by decide) rfl rfl ?_
  refine L_aload_n dL_keeps_29 rfl rfl ?_
  refine L_iconst dL_keeps_30 ?_
  refine L_callV (ci := 5) (as := [_]) (s_count (y := v 11 1) hS (inR_of (by omega) (by omega)) rfl) dL_keeps_31 ml_L_46 cv_X5_count hS.obj rfl rfl (Nat.le_of_ble_eq_true rfl) (Nat.le_of_ble_eq_true rfl) rfl (fun r h2 hp => ?_)
  obtain ⟨rfl, hS⟩ := hp
  refine L_istore dL_keeps_34 (by decide) rfl rfl ?_
  refine L_iconst dL_keeps_36 ?_
  refine L_istore dL_keeps_37 (by decide) rfl rfl ?_
  refine L_iconst dL_keeps_39 ?_
  refine L_istore dL_keeps_40 (by decide) rfl rfl ?_
  exact T0 _ _ _ hS
end
