section
-- ===== PART A: goes FIRST, ahead of the names: the tables' words, and 'selects' of the private methods out of them =====
/-- a private method of a class that the tables say can be made, by its rows of tables_1 -/
def lw_okq (q : MethodName × Nat) : Prop := (q.1.cls ≠ "java/lang/invoke/MethodHandle" ∧ q.1.cls ≠ "java/lang/invoke/VarHandle") ∧ Cond.instantiable q.1.cls q.2 ∈ tables_1 ∧ Cond.privateMethod q.1 ∈ tables_1 ∧ Cond.instanceMethod q.1 ∈ tables_1
theorem lw_p0 : lw_okq (⟨"FuseBoards", "noteState", "()V"⟩, 8) := ⟨⟨by decide +kernel, by decide +kernel⟩, List.mem_of_getElem? (i := 9) (by decide +kernel), List.mem_of_getElem? (i := 91) (by decide +kernel), List.mem_of_getElem? (i := 92) (by decide +kernel)⟩
theorem lw_p1 : lw_okq (⟨"FuseBoards$House", "putNewFuse", "(III)V"⟩, 2) := ⟨⟨by decide +kernel, by decide +kernel⟩, List.mem_of_getElem? (i := 17) (by decide +kernel), List.mem_of_getElem? (i := 113) (by decide +kernel), List.mem_of_getElem? (i := 114) (by decide +kernel)⟩
theorem lw_p2 : lw_okq (⟨"FuseBoards", "keepUnlessError", "(I)I"⟩, 8) := ⟨⟨by decide +kernel, by decide +kernel⟩, List.mem_of_getElem? (i := 9) (by decide +kernel), List.mem_of_getElem? (i := 117) (by decide +kernel), List.mem_of_getElem? (i := 118) (by decide +kernel)⟩
theorem lw_p3 : lw_okq (⟨"FuseBoards$House", "deadBoards", "()I"⟩, 2) := ⟨⟨by decide +kernel, by decide +kernel⟩, List.mem_of_getElem? (i := 17) (by decide +kernel), List.mem_of_getElem? (i := 144) (by decide +kernel), List.mem_of_getElem? (i := 145) (by decide +kernel)⟩
theorem lw_p4 : lw_okq (⟨"FuseBoards$House", "allBoards", "()I"⟩, 2) := ⟨⟨by decide +kernel, by decide +kernel⟩, List.mem_of_getElem? (i := 17) (by decide +kernel), List.mem_of_getElem? (i := 148) (by decide +kernel), List.mem_of_getElem? (i := 149) (by decide +kernel)⟩
theorem lw_p5 : lw_okq (⟨"FuseBoards$House", "burningBoards", "()I"⟩, 2) := ⟨⟨by decide +kernel, by decide +kernel⟩, List.mem_of_getElem? (i := 17) (by decide +kernel), List.mem_of_getElem? (i := 156) (by decide +kernel), List.mem_of_getElem? (i := 157) (by decide +kernel)⟩
theorem lw_p6 : lw_okq (⟨"FuseBoards$House", "current", "(I)I"⟩, 2) := ⟨⟨by decide +kernel, by decide +kernel⟩, List.mem_of_getElem? (i := 17) (by decide +kernel), List.mem_of_getElem? (i := 160) (by decide +kernel), List.mem_of_getElem? (i := 161) (by decide +kernel)⟩
theorem lw_p7 : lw_okq (⟨"FuseBoards$House", "addUpCurrents", "()V"⟩, 2) := ⟨⟨by decide +kernel, by decide +kernel⟩, List.mem_of_getElem? (i := 17) (by decide +kernel), List.mem_of_getElem? (i := 164) (by decide +kernel), List.mem_of_getElem? (i := 165) (by decide +kernel)⟩
theorem lw_p8 : lw_okq (⟨"FuseBoards$House", "addFlow", "(II)V"⟩, 2) := ⟨⟨by decide +kernel, by decide +kernel⟩, List.mem_of_getElem? (i := 17) (by decide +kernel), List.mem_of_getElem? (i := 171) (by decide +kernel), List.mem_of_getElem? (i := 172) (by decide +kernel)⟩
theorem lw_p9 : lw_okq (⟨"FuseBoards$House", "burnArcs", "()V"⟩, 2) := ⟨⟨by decide +kernel, by decide +kernel⟩, List.mem_of_getElem? (i := 17) (by decide +kernel), List.mem_of_getElem? (i := 239) (by decide +kernel), List.mem_of_getElem? (i := 240) (by decide +kernel)⟩
theorem lw_p10 : lw_okq (⟨"FuseBoards$House", "state", "(I)I"⟩, 2) := ⟨⟨by decide +kernel, by decide +kernel⟩, List.mem_of_getElem? (i := 17) (by decide +kernel), List.mem_of_getElem? (i := 243) (by decide +kernel), List.mem_of_getElem? (i := 244) (by decide +kernel)⟩
theorem lw_p11 : lw_okq (⟨"FuseBoards$House", "warm", "(II)V"⟩, 2) := ⟨⟨by decide +kernel, by decide +kernel⟩, List.mem_of_getElem? (i := 17) (by decide +kernel), List.mem_of_getElem? (i := 247) (by decide +kernel), List.mem_of_getElem? (i := 248) (by decide +kernel)⟩
theorem lw_p12 : lw_okq (⟨"FuseBoards$House", "creep", "(I)V"⟩, 2) := ⟨⟨by decide +kernel, by decide +kernel⟩, List.mem_of_getElem? (i := 17) (by decide +kernel), List.mem_of_getElem? (i := 256) (by decide +kernel), List.mem_of_getElem? (i := 257) (by decide +kernel)⟩
theorem lw_p13 : lw_okq (⟨"FuseBoards$House", "molten", "()I"⟩, 2) := ⟨⟨by decide +kernel, by decide +kernel⟩, List.mem_of_getElem? (i := 17) (by decide +kernel), List.mem_of_getElem? (i := 260) (by decide +kernel), List.mem_of_getElem? (i := 261) (by decide +kernel)⟩
theorem lw_p14 : lw_okq (⟨"FuseBoards$House", "meltingHeat", "(I)I"⟩, 2) := ⟨⟨by decide +kernel, by decide +kernel⟩, List.mem_of_getElem? (i := 17) (by decide +kernel), List.mem_of_getElem? (i := 264) (by decide +kernel), List.mem_of_getElem? (i := 265) (by decide +kernel)⟩
theorem lw_p15 : lw_okq (⟨"FuseBoards$House", "nearestOf", "(I)I"⟩, 2) := ⟨⟨by decide +kernel, by decide +kernel⟩, List.mem_of_getElem? (i := 17) (by decide +kernel), List.mem_of_getElem? (i := 271) (by decide +kernel), List.mem_of_getElem? (i := 272) (by decide +kernel)⟩
def lw_privs_1 : List (MethodName × Nat) := [(⟨"FuseBoards", "noteState", "()V"⟩, 8), (⟨"FuseBoards$House", "putNewFuse", "(III)V"⟩, 2), (⟨"FuseBoards", "keepUnlessError", "(I)I"⟩, 8), (⟨"FuseBoards$House", "deadBoards", "()I"⟩, 2), (⟨"FuseBoards$House", "allBoards", "()I"⟩, 2), (⟨"FuseBoards$House", "burningBoards", "()I"⟩, 2), (⟨"FuseBoards$House", "current", "(I)I"⟩, 2), (⟨"FuseBoards$House", "addUpCurrents", "()V"⟩, 2), (⟨"FuseBoards$House", "addFlow", "(II)V"⟩, 2), (⟨"FuseBoards$House", "burnArcs", "()V"⟩, 2), (⟨"FuseBoards$House", "state", "(I)I"⟩, 2), (⟨"FuseBoards$House", "warm", "(II)V"⟩, 2), (⟨"FuseBoards$House", "creep", "(I)V"⟩, 2), (⟨"FuseBoards$House", "molten", "()I"⟩, 2), (⟨"FuseBoards$House", "meltingHeat", "(I)I"⟩, 2), (⟨"FuseBoards$House", "nearestOf", "(I)I"⟩, 2)]
theorem lw_r1 : ∀ q ∈ lw_privs_1, lw_okq q := List.forall_mem_cons.mpr ⟨lw_p0, List.forall_mem_cons.mpr ⟨lw_p1, List.forall_mem_cons.mpr ⟨lw_p2, List.forall_mem_cons.mpr ⟨lw_p3, List.forall_mem_cons.mpr ⟨lw_p4, List.forall_mem_cons.mpr ⟨lw_p5, List.forall_mem_cons.mpr ⟨lw_p6, List.forall_mem_cons.mpr ⟨lw_p7, List.forall_mem_cons.mpr ⟨lw_p8, List.forall_mem_cons.mpr ⟨lw_p9, List.forall_mem_cons.mpr ⟨lw_p10, List.forall_mem_cons.mpr ⟨lw_p11, List.forall_mem_cons.mpr ⟨lw_p12, List.forall_mem_cons.mpr ⟨lw_p13, List.forall_mem_cons.mpr ⟨lw_p14, List.forall_mem_cons.mpr ⟨lw_p15, fun _ h => absurd h List.not_mem_nil⟩⟩⟩⟩⟩⟩⟩⟩⟩⟩⟩⟩⟩⟩⟩⟩
theorem lw_p16 : lw_okq (⟨"FuseBoards$House", "blow", "(I)V"⟩, 2) := ⟨⟨by decide +kernel, by decide +kernel⟩, List.mem_of_getElem? (i := 17) (by decide +kernel), List.mem_of_getElem? (i := 279) (by decide +kernel), List.mem_of_getElem? (i := 280) (by decide +kernel)⟩
theorem lw_p17 : lw_okq (⟨"FuseBoards$House", "boardsAhead", "(I)I"⟩, 2) := ⟨⟨by decide +kernel, by decide +kernel⟩, List.mem_of_getElem? (i := 17) (by decide +kernel), List.mem_of_getElem? (i := 310) (by decide +kernel), List.mem_of_getElem? (i := 311) (by decide +kernel)⟩
theorem lw_p18 : lw_okq (⟨"FuseBoards", "firstBlow", "(I)I"⟩, 8) := ⟨⟨by decide +kernel, by decide +kernel⟩, List.mem_of_getElem? (i := 9) (by decide +kernel), List.mem_of_getElem? (i := 355) (by decide +kernel), List.mem_of_getElem? (i := 356) (by decide +kernel)⟩
theorem lw_p19 : lw_okq (⟨"FuseBoards", "tryFault", "(III)I"⟩, 8) := ⟨⟨by decide +kernel, by decide +kernel⟩, List.mem_of_getElem? (i := 9) (by decide +kernel), List.mem_of_getElem? (i := 385) (by decide +kernel), List.mem_of_getElem? (i := 386) (by decide +kernel)⟩
def lw_privs_2 : List (MethodName × Nat) := [(⟨"FuseBoards$House", "blow", "(I)V"⟩, 2), (⟨"FuseBoards$House", "boardsAhead", "(I)I"⟩, 2), (⟨"FuseBoards", "firstBlow", "(I)I"⟩, 8), (⟨"FuseBoards", "tryFault", "(III)I"⟩, 8)]
theorem lw_r2 : ∀ q ∈ lw_privs_2, lw_okq q := List.forall_mem_cons.mpr ⟨lw_p16, List.forall_mem_cons.mpr ⟨lw_p17, List.forall_mem_cons.mpr ⟨lw_p18, List.forall_mem_cons.mpr ⟨lw_p19, fun _ h => absurd h List.not_mem_nil⟩⟩⟩⟩
def lw_privs : List (MethodName × Nat) := lw_privs_1 ++ (lw_privs_2)
def lw_tbl : List Cond := k2_sels lw_privs ++ tables_1
theorem lw_privs_ok : ∀ q ∈ lw_privs, lw_okq q := by
  show ∀ q ∈ lw_privs_1 ++ (lw_privs_2), lw_okq q
  exact List.forall_mem_append.mpr ⟨lw_r1, lw_r2⟩
-- ===== end of PART A; then your names; then what follows =====
end
section
def RX0 : String := "FuseBoards$House"
def TX0 : u_T := fun k => match k with
  | 0 => ("FuseBoards$House", "row", "[I", true)
  | _ => ("FuseBoards$House", "flow", "[I", true)
def tyX0 : Nat → FieldType := fun k => match k with
  | 0 => .array .int
  | _ => .array .int
abbrev wsX00 : List Cond := u_ws RX0 TX0 2
theorem nmX0 : ∀ a, a < 2 → ∀ b, b < 2 → a ≠ b → (TX0 a).2.1 ≠ (TX0 b).2.1 := by decide +kernel
theorem tyX0_ok : ∀ k, k < 2 → parseFieldDescriptor (TX0 k).2.2.1 = some (tyX0 k) := by decide +kernel
abbrev cX0_init : ByteArray := prog_2_method_1_code
def yX0_init : MethodName := ⟨RX0, "<init>", "()V"⟩
abbrev cX0_copyFrom : ByteArray := prog_2_method_2_code
def yX0_copyFrom : MethodName := ⟨RX0, "copyFrom", "(LFuseBoards$House;)V"⟩
abbrev cX0_readFrom : ByteArray := prog_2_method_3_code
def yX0_readFrom : MethodName := ⟨RX0, "readFrom", "([I)V"⟩
abbrev cX0_writeTo : ByteArray := prog_2_method_4_code
def yX0_writeTo : MethodName := ⟨RX0, "writeTo", "([I)V"⟩
abbrev cX0_boards : ByteArray := prog_2_method_5_code
def yX0_boards : MethodName := ⟨RX0, "boards", "()I"⟩
abbrev cX0_isBoard : ByteArray := prog_2_method_6_code
def yX0_isBoard : MethodName := ⟨RX0, "isBoard", "(I)Z"⟩
abbrev cX0_isLoad : ByteArray := prog_2_method_7_code
def yX0_isLoad : MethodName := ⟨RX0, "isLoad", "(I)Z"⟩
abbrev cX0_rating : ByteArray := prog_2_method_8_code
def yX0_rating : MethodName := ⟨RX0, "rating", "(I)I"⟩
abbrev cX0_changeSetting : ByteArray := prog_2_method_9_code
def yX0_changeSetting : MethodName := ⟨RX0, "changeSetting", "(II)I"⟩
abbrev cX0_addBoard : ByteArray := prog_2_method_10_code
def yX0_addBoard : MethodName := ⟨RX0, "addBoard", "(III)I"⟩
abbrev cX0_addLoad : ByteArray := prog_2_method_11_code
def yX0_addLoad : MethodName := ⟨RX0, "addLoad", "(II)I"⟩
abbrev cX0_switchLoad : ByteArray := prog_2_method_12_code
def yX0_switchLoad : MethodName := ⟨RX0, "switchLoad", "(I)I"⟩
abbrev cX0_changeFuse : ByteArray := prog_2_method_13_code
def yX0_changeFuse : MethodName := ⟨RX0, "changeFuse", "(III)I"⟩
abbrev cX0_letPass : ByteArray := prog_2_method_14_code
def yX0_letPass : MethodName := ⟨RX0, "letPass", "(I)I"⟩
abbrev cX0_leaveOnlyFault : ByteArray := prog_2_method_15_code
def yX0_leaveOnlyFault : MethodName := ⟨RX0, "leaveOnlyFault", "(II)V"⟩
abbrev cX0_isFuse : ByteArray := prog_2_method_16_code
def yX0_isFuse : MethodName := ⟨RX0, "isFuse", "(II)Z"⟩
abbrev cX0_putNewFuse : ByteArray := prog_2_method_17_code
def yX0_putNewFuse : MethodName := ⟨RX0, "putNewFuse", "(III)V"⟩
abbrev cX0_tick : ByteArray := prog_2_method_18_code
def yX0_tick : MethodName := ⟨RX0, "tick", "()I"⟩
abbrev cX0_addUpCurrents : ByteArray := prog_2_method_19_code
def yX0_addUpCurrents : MethodName := ⟨RX0, "addUpCurrents", "()V"⟩
abbrev cX0_addFlow : ByteArray := prog_2_method_20_code
def yX0_addFlow : MethodName := ⟨RX0, "addFlow", "(II)V"⟩
abbrev cX0_burnArcs : ByteArray := prog_2_method_21_code
def yX0_burnArcs : MethodName := ⟨RX0, "burnArcs", "()V"⟩
abbrev cX0_warm : ByteArray := prog_2_method_22_code
def yX0_warm : MethodName := ⟨RX0, "warm", "(II)V"⟩
abbrev cX0_creep : ByteArray := prog_2_method_23_code
def yX0_creep : MethodName := ⟨RX0, "creep", "(I)V"⟩
abbrev cX0_molten : ByteArray := prog_2_method_24_code
def yX0_molten : MethodName := ⟨RX0, "molten", "()I"⟩
abbrev cX0_nearestOf : ByteArray := prog_2_method_25_code
def yX0_nearestOf : MethodName := ⟨RX0, "nearestOf", "(I)I"⟩
abbrev cX0_blow : ByteArray := prog_2_method_26_code
def yX0_blow : MethodName := ⟨RX0, "blow", "(I)V"⟩
abbrev cX0_aboutBoard : ByteArray := prog_2_method_27_code
def yX0_aboutBoard : MethodName := ⟨RX0, "aboutBoard", "(II)I"⟩
abbrev cX0_aboutLoad : ByteArray := prog_2_method_28_code
def yX0_aboutLoad : MethodName := ⟨RX0, "aboutLoad", "(II)I"⟩
abbrev cX0_aboutHouse : ByteArray := prog_2_method_29_code
def yX0_aboutHouse : MethodName := ⟨RX0, "aboutHouse", "(I)I"⟩
abbrev cX0_latestBlown : ByteArray := prog_2_method_30_code
def yX0_latestBlown : MethodName := ⟨RX0, "latestBlown", "(I)I"⟩
abbrev cX0_fedThrough : ByteArray := prog_2_method_31_code
def yX0_fedThrough : MethodName := ⟨RX0, "fedThrough", "(I)I"⟩
abbrev cX0_workingLoadsAt : ByteArray := prog_2_method_32_code
def yX0_workingLoadsAt : MethodName := ⟨RX0, "workingLoadsAt", "(I)I"⟩
abbrev cX0_allBoards : ByteArray := prog_2_method_33_code
def yX0_allBoards : MethodName := ⟨RX0, "allBoards", "()I"⟩
abbrev cX0_deadBoards : ByteArray := prog_2_method_34_code
def yX0_deadBoards : MethodName := ⟨RX0, "deadBoards", "()I"⟩
abbrev cX0_burningBoards : ByteArray := prog_2_method_35_code
def yX0_burningBoards : MethodName := ⟨RX0, "burningBoards", "()I"⟩
abbrev cX0_state : ByteArray := prog_2_method_36_code
def yX0_state : MethodName := ⟨RX0, "state", "(I)I"⟩
abbrev cX0_current : ByteArray := prog_2_method_37_code
def yX0_current : MethodName := ⟨RX0, "current", "(I)I"⟩
abbrev cX0_meltingHeat : ByteArray := prog_2_method_38_code
def yX0_meltingHeat : MethodName := ⟨RX0, "meltingHeat", "(I)I"⟩
abbrev cX0_heatFactor : ByteArray := prog_2_method_39_code
def yX0_heatFactor : MethodName := ⟨RX0, "heatFactor", "(I)I"⟩
abbrev cX0_boardsAhead : ByteArray := prog_2_method_40_code
def yX0_boardsAhead : MethodName := ⟨RX0, "boardsAhead", "(I)I"⟩
def RX1 : String := "FuseBoards$Pad"
def TX1 : u_T := fun k => match k with
  | 0 => ("FuseBoards$Pad", "codes", "[I", true)
  | 1 => ("FuseBoards$Pad", "length", "I", false)
  | 2 => ("FuseBoards$Pad", "at", "I", false)
  | 3 => ("FuseBoards$Pad", "letter", "I", false)
  | 4 => ("FuseBoards$Pad", "digit", "I", false)
  | 5 => ("FuseBoards$Pad", "number", "I", false)
  | _ => ("FuseBoards$Pad", "kind", "I", false)
def tyX1 : Nat → FieldType := fun k => match k with
  | 0 => .array .int
  | 1 => .int
  | 2 => .int
  | 3 => .int
  | 4 => .int
  | 5 => .int
  | _ => .int
abbrev wsX10 : List Cond := u_ws RX1 TX1 7
theorem nmX1 : ∀ a, a < 7 → ∀ b, b < 7 → a ≠ b → (TX1 a).2.1 ≠ (TX1 b).2.1 := by decide +kernel
theorem tyX1_ok : ∀ k, k < 7 → parseFieldDescriptor (TX1 k).2.2.1 = some (tyX1 k) := by decide +kernel
abbrev cX1_init : ByteArray := prog_3_method_1_code
def yX1_init : MethodName := ⟨RX1, "<init>", "()V"⟩
abbrev cX1_length : ByteArray := prog_3_method_2_code
def yX1_length : MethodName := ⟨RX1, "length", "()I"⟩
def RX2 : String := "FuseBoards"
def TX2 : u_T := fun k => match k with
  | 0 => ("FuseBoards", "now", "LFuseBoards$House;", true)
  | 1 => ("FuseBoards", "trial", "LFuseBoards$House;", true)
  | 2 => ("FuseBoards", "pad", "LFuseBoards$Pad;", true)
  | 3 => ("FuseBoards", "history", "[[I", true)
  | 4 => ("FuseBoards", "slots", "[[I", true)
  | 5 => ("FuseBoards", "saved", "[Z", true)
  | 6 => ("FuseBoards", "spare", "I", false)
  | _ => ("FuseBoards", "undoable", "I", false)
def tyX2 : Nat → FieldType := fun k => match k with
  | 0 => .object "FuseBoards$House"
  | 1 => .object "FuseBoards$House"
  | 2 => .object "FuseBoards$Pad"
  | 3 => .array (.array .int)
  | 4 => .array (.array .int)
  | 5 => .array .boolean
  | 6 => .int
  | _ => .int
abbrev wsX20 : List Cond := u_ws RX2 TX2 8
theorem nmX2 : ∀ a, a < 8 → ∀ b, b < 8 → a ≠ b → (TX2 a).2.1 ≠ (TX2 b).2.1 := by decide +kernel
theorem tyX2_ok : ∀ k, k < 8 → parseFieldDescriptor (TX2 k).2.2.1 = some (tyX2 k) := by decide +kernel
abbrev cX2_init : ByteArray := prog_1_method_1_code
def yX2_init : MethodName := ⟨RX2, "<init>", "()V"⟩
abbrev cX2_set : ByteArray := prog_1_method_2_code
def yX2_set : MethodName := ⟨RX2, "set", "(II)I"⟩
abbrev cX2_board : ByteArray := prog_1_method_3_code
def yX2_board : MethodName := ⟨RX2, "board", "(III)I"⟩
abbrev cX2_load : ByteArray := prog_1_method_4_code
def yX2_load : MethodName := ⟨RX2, "load", "(II)I"⟩
abbrev cX2_turn : ByteArray := prog_1_method_5_code
def yX2_turn : MethodName := ⟨RX2, "turn", "(I)I"⟩
abbrev cX2_fuse : ByteArray := prog_1_method_6_code
def yX2_fuse : MethodName := ⟨RX2, "fuse", "(III)I"⟩
abbrev cX2_pass : ByteArray := prog_1_method_7_code
def yX2_pass : MethodName := ⟨RX2, "pass", "(I)I"⟩
abbrev cX2_of : ByteArray := prog_1_method_8_code
def yX2_of : MethodName := ⟨RX2, "of", "(II)I"⟩
abbrev cX2_ofLoad : ByteArray := prog_1_method_9_code
def yX2_ofLoad : MethodName := ⟨RX2, "ofLoad", "(II)I"⟩
abbrev cX2_fed : ByteArray := prog_1_method_10_code
def yX2_fed : MethodName := ⟨RX2, "fed", "(I)I"⟩
abbrev cX2_blown : ByteArray := prog_1_method_11_code
def yX2_blown : MethodName := ⟨RX2, "blown", "(I)I"⟩
abbrev cX2_count : ByteArray := prog_1_method_12_code
def yX2_count : MethodName := ⟨RX2, "count", "(I)I"⟩
abbrev cX2_next : ByteArray := prog_1_method_13_code
def yX2_next : MethodName := ⟨RX2, "next", "(I)I"⟩
abbrev cX2_test : ByteArray := prog_1_method_14_code
def yX2_test : MethodName := ⟨RX2, "test", "(III)I"⟩
abbrev cX2_unfair : ByteArray := prog_1_method_15_code
def yX2_unfair : MethodName := ⟨RX2, "unfair", "(I)I"⟩
abbrev cX2_ifOpen : ByteArray := prog_1_method_16_code
def yX2_ifOpen : MethodName := ⟨RX2, "ifOpen", "(I)I"⟩
abbrev cX2_undo : ByteArray := prog_1_method_21_code
def yX2_undo : MethodName := ⟨RX2, "undo", "()I"⟩
abbrev cX2_save : ByteArray := prog_1_method_22_code
def yX2_save : MethodName := ⟨RX2, "save", "(I)I"⟩
abbrev cX2_restore : ByteArray := prog_1_method_23_code
def yX2_restore : MethodName := ⟨RX2, "restore", "(I)I"⟩
abbrev cX2_isSlot : ByteArray := prog_1_method_24_code
def yX2_isSlot : MethodName := ⟨RX2, "isSlot", "(I)Z"⟩
abbrev cX2_noteState : ByteArray := prog_1_method_25_code
def yX2_noteState : MethodName := ⟨RX2, "noteState", "()V"⟩
abbrev cX2_keepUnlessError : ByteArray := prog_1_method_26_code
def yX2_keepUnlessError : MethodName := ⟨RX2, "keepUnlessError", "(I)I"⟩
abbrev cX2_isTrialQuestion : ByteArray := prog_1_method_27_code
def yX2_isTrialQuestion : MethodName := ⟨RX2, "isTrialQuestion", "(I)Z"⟩
abbrev cX2_tryFault : ByteArray := prog_1_method_28_code
def yX2_tryFault : MethodName := ⟨RX2, "tryFault", "(III)I"⟩
abbrev cX2_firstBlow : ByteArray := prog_1_method_29_code
def yX2_firstBlow : MethodName := ⟨RX2, "firstBlow", "(I)I"⟩
abbrev cX2_lowest : ByteArray := prog_1_method_30_code
def yX2_lowest : MethodName := ⟨RX2, "lowest", "(I)I"⟩
def RX3 : String := "FuseBoardsModel"
def TX3 : u_T := fun k => match k with
  | _ => ("", "", "", false)
def tyX3 : Nat → FieldType := fun k => match k with
  | _ => .int
abbrev wsX30 : List Cond := u_ws RX3 TX3 0
theorem nmX3 : ∀ a, a < 0 → ∀ b, b < 0 → a ≠ b → (TX3 a).2.1 ≠ (TX3 b).2.1 := by decide +kernel
theorem tyX3_ok : ∀ k, k < 0 → parseFieldDescriptor (TX3 k).2.2.1 = some (tyX3 k) := by decide +kernel
def RJ6 : String := "java/lang/Integer"
def TJ6 : u_T := fun k => match k with
  | _ => ("", "", "", false)
def tyJ6 : Nat → FieldType := fun k => match k with
  | _ => .int
abbrev wsJ60 : List Cond := u_ws RJ6 TJ6 0
theorem nmJ6 : ∀ a, a < 0 → ∀ b, b < 0 → a ≠ b → (TJ6 a).2.1 ≠ (TJ6 b).2.1 := by decide +kernel
theorem tyJ6_ok : ∀ k, k < 0 → parseFieldDescriptor (TJ6 k).2.2.1 = some (tyJ6 k) := by decide +kernel
abbrev cJ6_bitCount_0f7a4 : ByteArray := prog_6_method_49_code
def yJ6_bitCount_0f7a4 : MethodName := ⟨RJ6, "bitCount", "(I)I"⟩
def RJ9 : String := "java/lang/Math"
def TJ9 : u_T := fun k => match k with
  | _ => ("", "", "", false)
def tyJ9 : Nat → FieldType := fun k => match k with
  | _ => .int
abbrev wsJ90 : List Cond := u_ws RJ9 TJ9 0
theorem nmJ9 : ∀ a, a < 0 → ∀ b, b < 0 → a ≠ b → (TJ9 a).2.1 ≠ (TJ9 b).2.1 := by decide +kernel
theorem tyJ9_ok : ∀ k, k < 0 → parseFieldDescriptor (TJ9 k).2.2.1 = some (tyJ9 k) := by decide +kernel
abbrev cJ9_max_7cf53 : ByteArray := prog_7_method_65_code
def yJ9_max_7cf53 : MethodName := ⟨RJ9, "max", "(II)I"⟩
abbrev cJ9_min_7cf53 : ByteArray := prog_7_method_69_code
def yJ9_min_7cf53 : MethodName := ⟨RJ9, "min", "(II)I"⟩
def RJ10 : String := "java/lang/System"
def TJ10 : u_T := fun k => match k with
  | _ => ("", "", "", false)
def tyJ10 : Nat → FieldType := fun k => match k with
  | _ => .int
abbrev wsJ100 : List Cond := u_ws RJ10 TJ10 0
theorem nmJ10 : ∀ a, a < 0 → ∀ b, b < 0 → a ≠ b → (TJ10 a).2.1 ≠ (TJ10 b).2.1 := by decide +kernel
theorem tyJ10_ok : ∀ k, k < 0 → parseFieldDescriptor (TJ10 k).2.2.1 = some (tyJ10 k) := by decide +kernel
def RJ7 : String := "java/util/Arrays"
def TJ7 : u_T := fun k => match k with
  | _ => ("", "", "", false)
def tyJ7 : Nat → FieldType := fun k => match k with
  | _ => .int
abbrev wsJ70 : List Cond := u_ws RJ7 TJ7 0
theorem nmJ7 : ∀ a, a < 0 → ∀ b, b < 0 → a ≠ b → (TJ7 a).2.1 ≠ (TJ7 b).2.1 := by decide +kernel
theorem tyJ7_ok : ∀ k, k < 0 → parseFieldDescriptor (TJ7 k).2.2.1 = some (tyJ7 k) := by decide +kernel
abbrev cJ7_rangeCheck_23922 : ByteArray := prog_9_method_30_code
def yJ7_rangeCheck_23922 : MethodName := ⟨RJ7, "rangeCheck", "(III)V"⟩
abbrev cJ7_fill_53178 : ByteArray := prog_9_method_103_code
def yJ7_fill_53178 : MethodName := ⟨RJ7, "fill", "([II)V"⟩
abbrev cJ7_fill_fda19 : ByteArray := prog_9_method_104_code
def yJ7_fill_fda19 : MethodName := ⟨RJ7, "fill", "([IIII)V"⟩
def RL : String := "FuseBoardsLaw"
abbrev cL_cell : ByteArray := method_2_code
def yL_cell : MethodName := ⟨RL, "cell", "([II)I"⟩
abbrev cL_low : ByteArray := method_3_code
def yL_low : MethodName := ⟨RL, "low", "(II)I"⟩
abbrev cL_act : ByteArray := method_4_code
def yL_act : MethodName := ⟨RL, "act", "(LFuseBoards;II)I"⟩
abbrev cL_boards : ByteArray := method_5_code
def yL_boards : MethodName := ⟨RL, "boards", "(LFuseBoards;)Z"⟩
abbrev cL_hangs : ByteArray := method_6_code
def yL_hangs : MethodName := ⟨RL, "hangs", "(LFuseBoards;)Z"⟩
abbrev cL_print : ByteArray := method_7_code
def yL_print : MethodName := ⟨RL, "print", "(LFuseBoards;)J"⟩
abbrev cL_goes : ByteArray := method_8_code
def yL_goes : MethodName := ⟨RL, "goes", "(LFuseBoards;)Z"⟩
abbrev cL_tests : ByteArray := method_9_code
def yL_tests : MethodName := ⟨RL, "tests", "(LFuseBoards;II)Z"⟩
abbrev cL_faults : ByteArray := method_10_code
def yL_faults : MethodName := ⟨RL, "faults", "(LFuseBoards;I)Z"⟩
abbrev cL_law : ByteArray := code
def yL_law : MethodName := ⟨RL, "law", "([I)Z"⟩
abbrev vwCl : List vw_C := [(RX0, TX0, 2), (RX1, TX1, 7), (RX2, TX2, 8)]
end
section
theorem mt_1 : ∀ w ∈ tables_1_1, w ∈ lw_tbl := fun _ h => List.mem_append_right _ (List.mem_append_left _ h)
theorem mt_2 : ∀ w ∈ tables_1_2, w ∈ lw_tbl := fun _ h => List.mem_append_right _ (List.mem_append_right _ h)
theorem mp_1 : ∀ q ∈ lw_privs_1, Cond.selects q.1.cls q.1 q.1 ∈ lw_tbl := fun q h => List.mem_append_left _ (List.mem_map_of_mem (f := fun q : MethodName × Nat => Cond.selects q.1.cls q.1 q.1) (List.mem_append_left _ h))
theorem mp_2 : ∀ q ∈ lw_privs_2, Cond.selects q.1.cls q.1 q.1 ∈ lw_tbl := fun q h => List.mem_append_left _ (List.mem_map_of_mem (f := fun q : MethodName × Nat => Cond.selects q.1.cls q.1 q.1) (List.mem_append_right _ (h)))
def lw_tg : List Cond := lw_tbl.filter goodWord
theorem lw_good : GoodIn lw_tg lw_tg := fun w h => ⟨h, good_of_word (List.mem_filter.mp h).2⟩
theorem tg_of {w : Cond} (h : w ∈ lw_tbl) (g : goodWord w = true) : w ∈ lw_tg := List.mem_filter.mpr ⟨h, g⟩
theorem in_X0 : ∀ w ∈ u_ws RX0 TX0 2, w ∈ lw_tg := by decide +kernel
theorem in_X1 : ∀ w ∈ u_ws RX1 TX1 7, w ∈ lw_tg := by decide +kernel
theorem in_X2 : ∀ w ∈ u_ws RX2 TX2 8, w ∈ lw_tg := by decide +kernel
theorem tw_0 : Cond.code yL_cell cL_cell 2 (some .int) ∈ lw_tg := tg_of (mt_1 _ (List.mem_of_getElem? (i := 184) (by rfl))) (by rfl)
theorem tw_1 : Cond.constant RL 7 (957851075) ∈ lw_tg := tg_of (mt_1 _ (List.mem_of_getElem? (i := 185) (by rfl))) (by rfl)
theorem tw_2 : Cond.constant RL 8 (365160361) ∈ lw_tg := tg_of (mt_1 _ (List.mem_of_getElem? (i := 186) (by rfl))) (by rfl)
theorem tw_3 : Cond.code yL_low cL_low 2 (some .int) ∈ lw_tg := tg_of (mt_1 _ (List.mem_of_getElem? (i := 189) (by rfl))) (by rfl)
theorem tw_4 : Cond.constant RL 9 (2147483647) ∈ lw_tg := tg_of (mt_1 _ (List.mem_of_getElem? (i := 190) (by rfl))) (by rfl)
theorem tw_5 : Cond.methodLink RL 10 yL_low ∈ lw_tg := tg_of (mt_1 _ (List.mem_of_getElem? (i := 187) (by rfl))) (by rfl)
theorem tw_6 : Cond.static yL_low ∈ lw_tg := tg_of (mt_1 _ (List.mem_of_getElem? (i := 188) (by rfl))) (by rfl)
theorem tw_7 : Cond.initialized RL ∈ lw_tg := tg_of (mt_1 _ (List.mem_of_getElem? (i := 0) (by rfl))) (by rfl)
theorem tw_8 : Cond.methodLink RL 16 yX2_board ∈ lw_tg := tg_of (mt_1 _ (List.mem_of_getElem? (i := 86) (by rfl))) (by rfl)
theorem tw_9 : Cond.instanceMethod yX2_board ∈ lw_tg := tg_of (mt_1 _ (List.mem_of_getElem? (i := 87) (by rfl))) (by rfl)
theorem tw_10 : Cond.selects RX2 yX2_board yX2_board ∈ lw_tg := tg_of (mt_1 _ (List.mem_of_getElem? (i := 88) (by rfl))) (by rfl)
theorem tw_11 : Cond.initialized RX2 ∈ lw_tg := tg_of (mt_1 _ (List.mem_of_getElem? (i := 1) (by rfl))) (by rfl)
theorem tw_12 : Cond.code yX2_board cX2_board 4 (some .int) ∈ lw_tg := tg_of (mt_1 _ (List.mem_of_getElem? (i := 89) (by rfl))) (by rfl)
theorem tw_13 : Cond.fieldLink RX2 12 "FuseBoards" "now" "LFuseBoards$House;" ∈ lw_tg := tg_of (mt_1 _ (List.mem_of_getElem? (i := 60) (by rfl))) (by rfl)
theorem tw_14 : Cond.methodLink RX2 45 yX2_noteState ∈ lw_tg := tg_of (mt_1 _ (List.mem_of_getElem? (i := 90) (by rfl))) (by rfl)
theorem tw_15 : Cond.instanceMethod yX2_noteState ∈ lw_tg := tg_of (mt_1 _ (List.mem_of_getElem? (i := 92) (by rfl))) (by rfl)
theorem tw_16 : Cond.selects RX2 yX2_noteState yX2_noteState ∈ lw_tg := tg_of (mp_1 _ (List.mem_of_getElem? (l := lw_privs_1) (i := 0) (by rfl))) (by rfl)
theorem tw_17 : Cond.code yX2_noteState cX2_noteState 1 none ∈ lw_tg := tg_of (mt_1 _ (List.mem_of_getElem? (i := 93) (by rfl))) (by rfl)
theorem tw_18 : Cond.fieldLink RX2 28 "FuseBoards" "history" "[[I" ∈ lw_tg := tg_of (mt_1 _ (List.mem_of_getElem? (i := 63) (by rfl))) (by rfl)
theorem tw_19 : Cond.fieldLink RX2 38 "FuseBoards" "spare" "I" ∈ lw_tg := tg_of (mt_1 _ (List.mem_of_getElem? (i := 66) (by rfl))) (by rfl)
theorem tw_20 : Cond.methodLink RX2 147 yX0_writeTo ∈ lw_tg := tg_of (mt_1 _ (List.mem_of_getElem? (i := 94) (by rfl))) (by rfl)
theorem tw_21 : Cond.instanceMethod yX0_writeTo ∈ lw_tg := tg_of (mt_1 _ (List.mem_of_getElem? (i := 95) (by rfl))) (by rfl)
theorem tw_22 : Cond.selects RX0 yX0_writeTo yX0_writeTo ∈ lw_tg := tg_of (mt_1 _ (List.mem_of_getElem? (i := 96) (by rfl))) (by rfl)
theorem tw_23 : Cond.initialized RX0 ∈ lw_tg := tg_of (mt_1 _ (List.mem_of_getElem? (i := 2) (by rfl))) (by rfl)
theorem tw_24 : Cond.code yX0_writeTo cX0_writeTo 2 none ∈ lw_tg := tg_of (mt_1 _ (List.mem_of_getElem? (i := 97) (by rfl))) (by rfl)
theorem tw_25 : Cond.fieldLink RX0 11 "FuseBoards$House" "row" "[I" ∈ lw_tg := tg_of (mt_1 _ (List.mem_of_getElem? (i := 22) (by rfl))) (by rfl)
theorem tw_26 : Cond.methodLink RX0 18 arraycopyName ∈ lw_tg := tg_of (mt_1 _ (List.mem_of_getElem? (i := 98) (by rfl))) (by rfl)
theorem tw_27 : Cond.native arraycopyName ∈ lw_tg := tg_of (mt_1 _ (List.mem_of_getElem? (i := 100) (by rfl))) (by rfl)
theorem tw_28 : Cond.static arraycopyName ∈ lw_tg := tg_of (mt_1 _ (List.mem_of_getElem? (i := 99) (by rfl))) (by rfl)
theorem tw_29 : Cond.initialized "java/lang/System" ∈ lw_tg := tg_of (mt_1 _ (List.mem_of_getElem? (i := 6) (by rfl))) (by rfl)
theorem tw_30 : Cond.methodLink RX2 56 yX0_addBoard ∈ lw_tg := tg_of (mt_1 _ (List.mem_of_getElem? (i := 101) (by rfl))) (by rfl)
theorem tw_31 : Cond.instanceMethod yX0_addBoard ∈ lw_tg := tg_of (mt_1 _ (List.mem_of_getElem? (i := 102) (by rfl))) (by rfl)
theorem tw_32 : Cond.selects RX0 yX0_addBoard yX0_addBoard ∈ lw_tg := tg_of (mt_1 _ (List.mem_of_getElem? (i := 103) (by rfl))) (by rfl)
theorem tw_33 : Cond.code yX0_addBoard cX0_addBoard 5 (some .int) ∈ lw_tg := tg_of (mt_1 _ (List.mem_of_getElem? (i := 104) (by rfl))) (by rfl)
theorem tw_34 : Cond.methodLink RX0 24 yX0_isBoard ∈ lw_tg := tg_of (mt_1 _ (List.mem_of_getElem? (i := 105) (by rfl))) (by rfl)
theorem tw_35 : Cond.instanceMethod yX0_isBoard ∈ lw_tg := tg_of (mt_1 _ (List.mem_of_getElem? (i := 106) (by rfl))) (by rfl)
theorem tw_36 : Cond.selects RX0 yX0_isBoard yX0_isBoard ∈ lw_tg := tg_of (mt_1 _ (List.mem_of_getElem? (i := 107) (by rfl))) (by rfl)
theorem tw_37 : Cond.code yX0_isBoard cX0_isBoard 2 (some .boolean) ∈ lw_tg := tg_of (mt_1 _ (List.mem_of_getElem? (i := 108) (by rfl))) (by rfl)
theorem tw_38 : Cond.methodLink RX0 34 yX0_isFuse ∈ lw_tg := tg_of (mt_1 _ (List.mem_of_getElem? (i := 109) (by rfl))) (by rfl)
theorem tw_39 : Cond.static yX0_isFuse ∈ lw_tg := tg_of (mt_1 _ (List.mem_of_getElem? (i := 110) (by rfl))) (by rfl)
theorem tw_40 : Cond.code yX0_isFuse cX0_isFuse 2 (some .boolean) ∈ lw_tg := tg_of (mt_1 _ (List.mem_of_getElem? (i := 111) (by rfl))) (by rfl)
theorem tw_41 : Cond.methodLink RX0 38 yX0_putNewFuse ∈ lw_tg := tg_of (mt_1 _ (List.mem_of_getElem? (i := 112) (by rfl))) (by rfl)
theorem tw_42 : Cond.instanceMethod yX0_putNewFuse ∈ lw_tg := tg_of (mt_1 _ (List.mem_of_getElem? (i := 114) (by rfl))) (by rfl)
theorem tw_43 : Cond.selects RX0 yX0_putNewFuse yX0_putNewFuse ∈ lw_tg := tg_of (mp_1 _ (List.mem_of_getElem? (l := lw_privs_1) (i := 1) (by rfl))) (by rfl)
theorem tw_44 : Cond.code yX0_putNewFuse cX0_putNewFuse 4 none ∈ lw_tg := tg_of (mt_1 _ (List.mem_of_getElem? (i := 115) (by rfl))) (by rfl)
theorem tw_45 : Cond.methodLink RX2 52 yX2_keepUnlessError ∈ lw_tg := tg_of (mt_1 _ (List.mem_of_getElem? (i := 116) (by rfl))) (by rfl)
theorem tw_46 : Cond.instanceMethod yX2_keepUnlessError ∈ lw_tg := tg_of (mt_1 _ (List.mem_of_getElem? (i := 118) (by rfl))) (by rfl)
theorem tw_47 : Cond.selects RX2 yX2_keepUnlessError yX2_keepUnlessError ∈ lw_tg := tg_of (mp_1 _ (List.mem_of_getElem? (l := lw_privs_1) (i := 2) (by rfl))) (by rfl)
theorem tw_48 : Cond.code yX2_keepUnlessError cX2_keepUnlessError 2 (some .int) ∈ lw_tg := tg_of (mt_1 _ (List.mem_of_getElem? (i := 119) (by rfl))) (by rfl)
theorem tw_49 : Cond.fieldLink RX2 42 "FuseBoards" "undoable" "I" ∈ lw_tg := tg_of (mt_1 _ (List.mem_of_getElem? (i := 67) (by rfl))) (by rfl)
theorem tw_50 : Cond.methodLink RX2 150 Lib.Math.min.name ∈ lw_tg := tg_of (mt_1 _ (List.mem_of_getElem? (i := 120) (by rfl))) (by rfl)
theorem tw_51 : Cond.static Lib.Math.min.name ∈ lw_tg := tg_of (mt_1 _ (List.mem_of_getElem? (i := 121) (by rfl))) (by rfl)
theorem tw_52 : Cond.initialized "java/lang/Math" ∈ lw_tg := tg_of (mt_1 _ (List.mem_of_getElem? (i := 5) (by rfl))) (by rfl)
theorem tw_53 : Cond.code Lib.Math.min.name Lib.Math.min.code 2 (some .int) ∈ lw_tg := tg_of (mt_1 _ (List.mem_of_getElem? (i := 122) (by rfl))) (by rfl)
theorem tw_54 : Cond.methodLink RL 22 yX2_load ∈ lw_tg := tg_of (mt_1 _ (List.mem_of_getElem? (i := 123) (by rfl))) (by rfl)
theorem tw_55 : Cond.instanceMethod yX2_load ∈ lw_tg := tg_of (mt_1 _ (List.mem_of_getElem? (i := 124) (by rfl))) (by rfl)
theorem tw_56 : Cond.selects RX2 yX2_load yX2_load ∈ lw_tg := tg_of (mt_1 _ (List.mem_of_getElem? (i := 125) (by rfl))) (by rfl)
theorem tw_57 : Cond.code yX2_load cX2_load 3 (some .int) ∈ lw_tg := tg_of (mt_1 _ (List.mem_of_getElem? (i := 126) (by rfl))) (by rfl)
theorem tw_58 : Cond.methodLink RX2 60 yX0_addLoad ∈ lw_tg := tg_of (mt_1 _ (List.mem_of_getElem? (i := 127) (by rfl))) (by rfl)
theorem tw_59 : Cond.instanceMethod yX0_addLoad ∈ lw_tg := tg_of (mt_1 _ (List.mem_of_getElem? (i := 128) (by rfl))) (by rfl)
theorem tw_60 : Cond.selects RX0 yX0_addLoad yX0_addLoad ∈ lw_tg := tg_of (mt_1 _ (List.mem_of_getElem? (i := 129) (by rfl))) (by rfl)
theorem tw_61 : Cond.code yX0_addLoad cX0_addLoad 4 (some .int) ∈ lw_tg := tg_of (mt_1 _ (List.mem_of_getElem? (i := 130) (by rfl))) (by rfl)
theorem tw_62 : Cond.methodLink RL 25 yX2_fuse ∈ lw_tg := tg_of (mt_1 _ (List.mem_of_getElem? (i := 194) (by rfl))) (by rfl)
theorem tw_63 : Cond.instanceMethod yX2_fuse ∈ lw_tg := tg_of (mt_1 _ (List.mem_of_getElem? (i := 195) (by rfl))) (by rfl)
theorem tw_64 : Cond.selects RX2 yX2_fuse yX2_fuse ∈ lw_tg := tg_of (mt_1 _ (List.mem_of_getElem? (i := 196) (by rfl))) (by rfl)
theorem tw_65 : Cond.code yX2_fuse cX2_fuse 4 (some .int) ∈ lw_tg := tg_of (mt_1 _ (List.mem_of_getElem? (i := 197) (by rfl))) (by rfl)
theorem tw_66 : Cond.methodLink RX2 66 yX0_changeFuse ∈ lw_tg := tg_of (mt_1 _ (List.mem_of_getElem? (i := 198) (by rfl))) (by rfl)
theorem tw_67 : Cond.instanceMethod yX0_changeFuse ∈ lw_tg := tg_of (mt_1 _ (List.mem_of_getElem? (i := 199) (by rfl))) (by rfl)
theorem tw_68 : Cond.selects RX0 yX0_changeFuse yX0_changeFuse ∈ lw_tg := tg_of (mt_1 _ (List.mem_of_getElem? (i := 200) (by rfl))) (by rfl)
theorem tw_69 : Cond.code yX0_changeFuse cX0_changeFuse 5 (some .int) ∈ lw_tg := tg_of (mt_1 _ (List.mem_of_getElem? (i := 201) (by rfl))) (by rfl)
theorem tw_70 : Cond.methodLink RL 28 yX2_set ∈ lw_tg := tg_of (mt_1 _ (List.mem_of_getElem? (i := 202) (by rfl))) (by rfl)
theorem tw_71 : Cond.instanceMethod yX2_set ∈ lw_tg := tg_of (mt_1 _ (List.mem_of_getElem? (i := 203) (by rfl))) (by rfl)
theorem tw_72 : Cond.selects RX2 yX2_set yX2_set ∈ lw_tg := tg_of (mt_1 _ (List.mem_of_getElem? (i := 204) (by rfl))) (by rfl)
theorem tw_73 : Cond.code yX2_set cX2_set 3 (some .int) ∈ lw_tg := tg_of (mt_1 _ (List.mem_of_getElem? (i := 205) (by rfl))) (by rfl)
theorem tw_74 : Cond.methodLink RX2 48 yX0_changeSetting ∈ lw_tg := tg_of (mt_1 _ (List.mem_of_getElem? (i := 206) (by rfl))) (by rfl)
theorem tw_75 : Cond.instanceMethod yX0_changeSetting ∈ lw_tg := tg_of (mt_1 _ (List.mem_of_getElem? (i := 207) (by rfl))) (by rfl)
theorem tw_76 : Cond.selects RX0 yX0_changeSetting yX0_changeSetting ∈ lw_tg := tg_of (mt_1 _ (List.mem_of_getElem? (i := 208) (by rfl))) (by rfl)
theorem tw_77 : Cond.code yX0_changeSetting cX0_changeSetting 4 (some .int) ∈ lw_tg := tg_of (mt_1 _ (List.mem_of_getElem? (i := 209) (by rfl))) (by rfl)
theorem tw_78 : Cond.fieldLink RX0 28 "FuseBoards$House" "LEAST_VALUES" "[I" ∈ lw_tg := tg_of (mt_1 _ (List.mem_of_getElem? (i := 210) (by rfl))) (by rfl)
theorem tw_79 : Cond.fieldLink RX0 31 "FuseBoards$House" "MOST_VALUES" "[I" ∈ lw_tg := tg_of (mt_1 _ (List.mem_of_getElem? (i := 212) (by rfl))) (by rfl)
theorem tw_80 : Cond.methodLink RL 31 yX2_turn ∈ lw_tg := tg_of (mt_1 _ (List.mem_of_getElem? (i := 214) (by rfl))) (by rfl)
theorem tw_81 : Cond.instanceMethod yX2_turn ∈ lw_tg := tg_of (mt_1 _ (List.mem_of_getElem? (i := 215) (by rfl))) (by rfl)
theorem tw_82 : Cond.selects RX2 yX2_turn yX2_turn ∈ lw_tg := tg_of (mt_1 _ (List.mem_of_getElem? (i := 216) (by rfl))) (by rfl)
theorem tw_83 : Cond.code yX2_turn cX2_turn 2 (some .int) ∈ lw_tg := tg_of (mt_1 _ (List.mem_of_getElem? (i := 217) (by rfl))) (by rfl)
theorem tw_84 : Cond.methodLink RX2 63 yX0_switchLoad ∈ lw_tg := tg_of (mt_1 _ (List.mem_of_getElem? (i := 218) (by rfl))) (by rfl)
theorem tw_85 : Cond.instanceMethod yX0_switchLoad ∈ lw_tg := tg_of (mt_1 _ (List.mem_of_getElem? (i := 219) (by rfl))) (by rfl)
theorem tw_86 : Cond.selects RX0 yX0_switchLoad yX0_switchLoad ∈ lw_tg := tg_of (mt_1 _ (List.mem_of_getElem? (i := 220) (by rfl))) (by rfl)
theorem tw_87 : Cond.code yX0_switchLoad cX0_switchLoad 2 (some .int) ∈ lw_tg := tg_of (mt_1 _ (List.mem_of_getElem? (i := 221) (by rfl))) (by rfl)
theorem tw_88 : Cond.methodLink RX0 42 yX0_isLoad ∈ lw_tg := tg_of (mt_1 _ (List.mem_of_getElem? (i := 222) (by rfl))) (by rfl)
theorem tw_89 : Cond.instanceMethod yX0_isLoad ∈ lw_tg := tg_of (mt_1 _ (List.mem_of_getElem? (i := 223) (by rfl))) (by rfl)
theorem tw_90 : Cond.selects RX0 yX0_isLoad yX0_isLoad ∈ lw_tg := tg_of (mt_1 _ (List.mem_of_getElem? (i := 224) (by rfl))) (by rfl)
theorem tw_91 : Cond.code yX0_isLoad cX0_isLoad 2 (some .boolean) ∈ lw_tg := tg_of (mt_1 _ (List.mem_of_getElem? (i := 225) (by rfl))) (by rfl)
theorem tw_92 : Cond.methodLink RL 35 yX2_pass ∈ lw_tg := tg_of (mt_1 _ (List.mem_of_getElem? (i := 226) (by rfl))) (by rfl)
theorem tw_93 : Cond.instanceMethod yX2_pass ∈ lw_tg := tg_of (mt_1 _ (List.mem_of_getElem? (i := 227) (by rfl))) (by rfl)
theorem tw_94 : Cond.selects RX2 yX2_pass yX2_pass ∈ lw_tg := tg_of (mt_1 _ (List.mem_of_getElem? (i := 228) (by rfl))) (by rfl)
theorem tw_95 : Cond.code yX2_pass cX2_pass 2 (some .int) ∈ lw_tg := tg_of (mt_1 _ (List.mem_of_getElem? (i := 229) (by rfl))) (by rfl)
theorem tw_96 : Cond.methodLink RX2 69 yX0_letPass ∈ lw_tg := tg_of (mt_1 _ (List.mem_of_getElem? (i := 230) (by rfl))) (by rfl)
theorem tw_97 : Cond.instanceMethod yX0_letPass ∈ lw_tg := tg_of (mt_1 _ (List.mem_of_getElem? (i := 231) (by rfl))) (by rfl)
theorem tw_98 : Cond.selects RX0 yX0_letPass yX0_letPass ∈ lw_tg := tg_of (mt_1 _ (List.mem_of_getElem? (i := 232) (by rfl))) (by rfl)
theorem tw_99 : Cond.code yX0_letPass cX0_letPass 4 (some .int) ∈ lw_tg := tg_of (mt_1 _ (List.mem_of_getElem? (i := 233) (by rfl))) (by rfl)
theorem tw_100 : Cond.methodLink RX0 45 yX0_tick ∈ lw_tg := tg_of (mt_1 _ (List.mem_of_getElem? (i := 234) (by rfl))) (by rfl)
theorem tw_101 : Cond.instanceMethod yX0_tick ∈ lw_tg := tg_of (mt_1 _ (List.mem_of_getElem? (i := 235) (by rfl))) (by rfl)
theorem tw_102 : Cond.selects RX0 yX0_tick yX0_tick ∈ lw_tg := tg_of (mt_1 _ (List.mem_of_getElem? (i := 236) (by rfl))) (by rfl)
theorem tw_103 : Cond.code yX0_tick cX0_tick 3 (some .int) ∈ lw_tg := tg_of (mt_1 _ (List.mem_of_getElem? (i := 237) (by rfl))) (by rfl)
theorem tw_104 : Cond.fieldLink RX0 15 "FuseBoards$House" "flow" "[I" ∈ lw_tg := tg_of (mt_1 _ (List.mem_of_getElem? (i := 23) (by rfl))) (by rfl)
theorem tw_105 : Cond.methodLink RX0 61 yX0_addUpCurrents ∈ lw_tg := tg_of (mt_1 _ (List.mem_of_getElem? (i := 163) (by rfl))) (by rfl)
theorem tw_106 : Cond.instanceMethod yX0_addUpCurrents ∈ lw_tg := tg_of (mt_1 _ (List.mem_of_getElem? (i := 165) (by rfl))) (by rfl)
theorem tw_107 : Cond.selects RX0 yX0_addUpCurrents yX0_addUpCurrents ∈ lw_tg := tg_of (mp_1 _ (List.mem_of_getElem? (l := lw_privs_1) (i := 7) (by rfl))) (by rfl)
theorem tw_108 : Cond.code yX0_addUpCurrents cX0_addUpCurrents 4 none ∈ lw_tg := tg_of (mt_1 _ (List.mem_of_getElem? (i := 166) (by rfl))) (by rfl)
theorem tw_109 : Cond.methodLink RX0 84 yJ7_fill_53178 ∈ lw_tg := tg_of (mt_1 _ (List.mem_of_getElem? (i := 167) (by rfl))) (by rfl)
theorem tw_110 : Cond.static yJ7_fill_53178 ∈ lw_tg := tg_of (mt_1 _ (List.mem_of_getElem? (i := 168) (by rfl))) (by rfl)
theorem tw_111 : Cond.initialized RJ7 ∈ lw_tg := tg_of (mt_1 _ (List.mem_of_getElem? (i := 4) (by rfl))) (by rfl)
theorem tw_112 : Cond.code yJ7_fill_53178 cJ7_fill_53178 4 none ∈ lw_tg := tg_of (mt_1 _ (List.mem_of_getElem? (i := 169) (by rfl))) (by rfl)
theorem tw_113 : Cond.methodLink RX0 87 yX0_deadBoards ∈ lw_tg := tg_of (mt_1 _ (List.mem_of_getElem? (i := 143) (by rfl))) (by rfl)
theorem tw_114 : Cond.instanceMethod yX0_deadBoards ∈ lw_tg := tg_of (mt_1 _ (List.mem_of_getElem? (i := 145) (by rfl))) (by rfl)
theorem tw_115 : Cond.selects RX0 yX0_deadBoards yX0_deadBoards ∈ lw_tg := tg_of (mp_1 _ (List.mem_of_getElem? (l := lw_privs_1) (i := 3) (by rfl))) (by rfl)
theorem tw_116 : Cond.code yX0_deadBoards cX0_deadBoards 3 (some .int) ∈ lw_tg := tg_of (mt_1 _ (List.mem_of_getElem? (i := 146) (by rfl))) (by rfl)
theorem tw_117 : Cond.methodLink RX0 90 yX0_addFlow ∈ lw_tg := tg_of (mt_1 _ (List.mem_of_getElem? (i := 170) (by rfl))) (by rfl)
theorem tw_118 : Cond.instanceMethod yX0_addFlow ∈ lw_tg := tg_of (mt_1 _ (List.mem_of_getElem? (i := 172) (by rfl))) (by rfl)
theorem tw_119 : Cond.selects RX0 yX0_addFlow yX0_addFlow ∈ lw_tg := tg_of (mp_1 _ (List.mem_of_getElem? (l := lw_privs_1) (i := 8) (by rfl))) (by rfl)
theorem tw_120 : Cond.code yX0_addFlow cX0_addFlow 3 none ∈ lw_tg := tg_of (mt_1 _ (List.mem_of_getElem? (i := 173) (by rfl))) (by rfl)
theorem tw_121 : Cond.methodLink RX0 64 yX0_burnArcs ∈ lw_tg := tg_of (mt_1 _ (List.mem_of_getElem? (i := 238) (by rfl))) (by rfl)
theorem tw_122 : Cond.instanceMethod yX0_burnArcs ∈ lw_tg := tg_of (mt_2 _ (List.mem_of_getElem? (i := 0) (by rfl))) (by rfl)
theorem tw_123 : Cond.selects RX0 yX0_burnArcs yX0_burnArcs ∈ lw_tg := tg_of (mp_1 _ (List.mem_of_getElem? (l := lw_privs_1) (i := 9) (by rfl))) (by rfl)
theorem tw_124 : Cond.code yX0_burnArcs cX0_burnArcs 2 none ∈ lw_tg := tg_of (mt_2 _ (List.mem_of_getElem? (i := 1) (by rfl))) (by rfl)
theorem tw_125 : Cond.methodLink RX0 67 yX0_state ∈ lw_tg := tg_of (mt_2 _ (List.mem_of_getElem? (i := 2) (by rfl))) (by rfl)
theorem tw_126 : Cond.instanceMethod yX0_state ∈ lw_tg := tg_of (mt_2 _ (List.mem_of_getElem? (i := 4) (by rfl))) (by rfl)
theorem tw_127 : Cond.selects RX0 yX0_state yX0_state ∈ lw_tg := tg_of (mp_1 _ (List.mem_of_getElem? (l := lw_privs_1) (i := 10) (by rfl))) (by rfl)
theorem tw_128 : Cond.code yX0_state cX0_state 2 (some .int) ∈ lw_tg := tg_of (mt_2 _ (List.mem_of_getElem? (i := 5) (by rfl))) (by rfl)
theorem tw_129 : Cond.methodLink RX0 70 yX0_warm ∈ lw_tg := tg_of (mt_2 _ (List.mem_of_getElem? (i := 6) (by rfl))) (by rfl)
theorem tw_130 : Cond.instanceMethod yX0_warm ∈ lw_tg := tg_of (mt_2 _ (List.mem_of_getElem? (i := 8) (by rfl))) (by rfl)
theorem tw_131 : Cond.selects RX0 yX0_warm yX0_warm ∈ lw_tg := tg_of (mp_1 _ (List.mem_of_getElem? (l := lw_privs_1) (i := 11) (by rfl))) (by rfl)
theorem tw_132 : Cond.code yX0_warm cX0_warm 7 none ∈ lw_tg := tg_of (mt_2 _ (List.mem_of_getElem? (i := 9) (by rfl))) (by rfl)
theorem tw_133 : Cond.constant RX0 93 (1000000) ∈ lw_tg := tg_of (mt_2 _ (List.mem_of_getElem? (i := 10) (by rfl))) (by rfl)
theorem tw_134 : Cond.methodLink RX0 94 Lib.Math.min.name ∈ lw_tg := tg_of (mt_2 _ (List.mem_of_getElem? (i := 11) (by rfl))) (by rfl)
theorem tw_135 : Cond.methodLink RX0 100 Lib.Math.max.name ∈ lw_tg := tg_of (mt_2 _ (List.mem_of_getElem? (i := 12) (by rfl))) (by rfl)
theorem tw_136 : Cond.static Lib.Math.max.name ∈ lw_tg := tg_of (mt_2 _ (List.mem_of_getElem? (i := 13) (by rfl))) (by rfl)
theorem tw_137 : Cond.code Lib.Math.max.name Lib.Math.max.code 2 (some .int) ∈ lw_tg := tg_of (mt_2 _ (List.mem_of_getElem? (i := 14) (by rfl))) (by rfl)
theorem tw_138 : Cond.methodLink RX0 103 yX0_creep ∈ lw_tg := tg_of (mt_2 _ (List.mem_of_getElem? (i := 15) (by rfl))) (by rfl)
theorem tw_139 : Cond.instanceMethod yX0_creep ∈ lw_tg := tg_of (mt_2 _ (List.mem_of_getElem? (i := 17) (by rfl))) (by rfl)
theorem tw_140 : Cond.selects RX0 yX0_creep yX0_creep ∈ lw_tg := tg_of (mp_1 _ (List.mem_of_getElem? (l := lw_privs_1) (i := 12) (by rfl))) (by rfl)
theorem tw_141 : Cond.code yX0_creep cX0_creep 2 none ∈ lw_tg := tg_of (mt_2 _ (List.mem_of_getElem? (i := 18) (by rfl))) (by rfl)
theorem tw_142 : Cond.methodLink RX0 74 yX0_molten ∈ lw_tg := tg_of (mt_2 _ (List.mem_of_getElem? (i := 19) (by rfl))) (by rfl)
theorem tw_143 : Cond.instanceMethod yX0_molten ∈ lw_tg := tg_of (mt_2 _ (List.mem_of_getElem? (i := 21) (by rfl))) (by rfl)
theorem tw_144 : Cond.selects RX0 yX0_molten yX0_molten ∈ lw_tg := tg_of (mp_1 _ (List.mem_of_getElem? (l := lw_privs_1) (i := 13) (by rfl))) (by rfl)
theorem tw_145 : Cond.code yX0_molten cX0_molten 3 (some .int) ∈ lw_tg := tg_of (mt_2 _ (List.mem_of_getElem? (i := 22) (by rfl))) (by rfl)
theorem tw_146 : Cond.methodLink RX0 106 yX0_meltingHeat ∈ lw_tg := tg_of (mt_2 _ (List.mem_of_getElem? (i := 23) (by rfl))) (by rfl)
theorem tw_147 : Cond.instanceMethod yX0_meltingHeat ∈ lw_tg := tg_of (mt_2 _ (List.mem_of_getElem? (i := 25) (by rfl))) (by rfl)
theorem tw_148 : Cond.selects RX0 yX0_meltingHeat yX0_meltingHeat ∈ lw_tg := tg_of (mp_1 _ (List.mem_of_getElem? (l := lw_privs_1) (i := 14) (by rfl))) (by rfl)
theorem tw_149 : Cond.code yX0_meltingHeat cX0_meltingHeat 4 (some .int) ∈ lw_tg := tg_of (mt_2 _ (List.mem_of_getElem? (i := 26) (by rfl))) (by rfl)
theorem tw_150 : Cond.methodLink RX0 127 yX0_heatFactor ∈ lw_tg := tg_of (mt_2 _ (List.mem_of_getElem? (i := 27) (by rfl))) (by rfl)
theorem tw_151 : Cond.static yX0_heatFactor ∈ lw_tg := tg_of (mt_2 _ (List.mem_of_getElem? (i := 28) (by rfl))) (by rfl)
theorem tw_152 : Cond.code yX0_heatFactor cX0_heatFactor 1 (some .int) ∈ lw_tg := tg_of (mt_2 _ (List.mem_of_getElem? (i := 29) (by rfl))) (by rfl)
theorem tw_153 : Cond.methodLink RX0 77 yX0_nearestOf ∈ lw_tg := tg_of (mt_2 _ (List.mem_of_getElem? (i := 30) (by rfl))) (by rfl)
theorem tw_154 : Cond.instanceMethod yX0_nearestOf ∈ lw_tg := tg_of (mt_2 _ (List.mem_of_getElem? (i := 32) (by rfl))) (by rfl)
theorem tw_155 : Cond.selects RX0 yX0_nearestOf yX0_nearestOf ∈ lw_tg := tg_of (mp_1 _ (List.mem_of_getElem? (l := lw_privs_1) (i := 15) (by rfl))) (by rfl)
theorem tw_156 : Cond.code yX0_nearestOf cX0_nearestOf 4 (some .int) ∈ lw_tg := tg_of (mt_2 _ (List.mem_of_getElem? (i := 33) (by rfl))) (by rfl)
theorem tw_157 : Cond.methodLink RX0 109 yX0_fedThrough ∈ lw_tg := tg_of (mt_2 _ (List.mem_of_getElem? (i := 34) (by rfl))) (by rfl)
theorem tw_158 : Cond.instanceMethod yX0_fedThrough ∈ lw_tg := tg_of (mt_2 _ (List.mem_of_getElem? (i := 35) (by rfl))) (by rfl)
theorem tw_159 : Cond.selects RX0 yX0_fedThrough yX0_fedThrough ∈ lw_tg := tg_of (mt_2 _ (List.mem_of_getElem? (i := 36) (by rfl))) (by rfl)
theorem tw_160 : Cond.code yX0_fedThrough cX0_fedThrough 4 (some .int) ∈ lw_tg := tg_of (mt_2 _ (List.mem_of_getElem? (i := 37) (by rfl))) (by rfl)
theorem tw_161 : Cond.methodLink RX0 80 yX0_blow ∈ lw_tg := tg_of (mt_2 _ (List.mem_of_getElem? (i := 38) (by rfl))) (by rfl)
theorem tw_162 : Cond.instanceMethod yX0_blow ∈ lw_tg := tg_of (mt_2 _ (List.mem_of_getElem? (i := 40) (by rfl))) (by rfl)
theorem tw_163 : Cond.selects RX0 yX0_blow yX0_blow ∈ lw_tg := tg_of (mp_2 _ (List.mem_of_getElem? (l := lw_privs_2) (i := 0) (by rfl))) (by rfl)
theorem tw_164 : Cond.code yX0_blow cX0_blow 2 none ∈ lw_tg := tg_of (mt_2 _ (List.mem_of_getElem? (i := 41) (by rfl))) (by rfl)
theorem tw_165 : Cond.methodLink RX0 49 yJ6_bitCount_0f7a4 ∈ lw_tg := tg_of (mt_2 _ (List.mem_of_getElem? (i := 42) (by rfl))) (by rfl)
theorem tw_166 : Cond.static yJ6_bitCount_0f7a4 ∈ lw_tg := tg_of (mt_2 _ (List.mem_of_getElem? (i := 43) (by rfl))) (by rfl)
theorem tw_167 : Cond.initialized RJ6 ∈ lw_tg := tg_of (mt_1 _ (List.mem_of_getElem? (i := 7) (by rfl))) (by rfl)
theorem tw_168 : Cond.code yJ6_bitCount_0f7a4 cJ6_bitCount_0f7a4 1 (some .int) ∈ lw_tg := tg_of (mt_2 _ (List.mem_of_getElem? (i := 44) (by rfl))) (by rfl)
theorem tw_169 : Cond.constant RJ6 265 (1431655765) ∈ lw_tg := tg_of (mt_2 _ (List.mem_of_getElem? (i := 45) (by rfl))) (by rfl)
theorem tw_170 : Cond.constant RJ6 266 (858993459) ∈ lw_tg := tg_of (mt_2 _ (List.mem_of_getElem? (i := 46) (by rfl))) (by rfl)
theorem tw_171 : Cond.constant RJ6 267 (252645135) ∈ lw_tg := tg_of (mt_2 _ (List.mem_of_getElem? (i := 47) (by rfl))) (by rfl)
theorem tw_172 : Cond.code yL_act cL_act 5 (some .int) ∈ lw_tg := tg_of (mt_1 _ (List.mem_of_getElem? (i := 193) (by rfl))) (by rfl)
theorem tw_173 : Cond.constant RL 50 (1000000) ∈ lw_tg := tg_of (mt_2 _ (List.mem_of_getElem? (i := 94) (by rfl))) (by rfl)
theorem tw_174 : Cond.methodLink RL 38 yX2_count ∈ lw_tg := tg_of (mt_1 _ (List.mem_of_getElem? (i := 131) (by rfl))) (by rfl)
theorem tw_175 : Cond.instanceMethod yX2_count ∈ lw_tg := tg_of (mt_1 _ (List.mem_of_getElem? (i := 132) (by rfl))) (by rfl)
theorem tw_176 : Cond.selects RX2 yX2_count yX2_count ∈ lw_tg := tg_of (mt_1 _ (List.mem_of_getElem? (i := 133) (by rfl))) (by rfl)
theorem tw_177 : Cond.code yX2_count cX2_count 2 (some .int) ∈ lw_tg := tg_of (mt_1 _ (List.mem_of_getElem? (i := 134) (by rfl))) (by rfl)
theorem tw_178 : Cond.fieldLink RX2 22 "FuseBoards" "pad" "LFuseBoards$Pad;" ∈ lw_tg := tg_of (mt_1 _ (List.mem_of_getElem? (i := 62) (by rfl))) (by rfl)
theorem tw_179 : Cond.methodLink RX2 91 yX1_length ∈ lw_tg := tg_of (mt_1 _ (List.mem_of_getElem? (i := 135) (by rfl))) (by rfl)
theorem tw_180 : Cond.instanceMethod yX1_length ∈ lw_tg := tg_of (mt_1 _ (List.mem_of_getElem? (i := 136) (by rfl))) (by rfl)
theorem tw_181 : Cond.selects RX1 yX1_length yX1_length ∈ lw_tg := tg_of (mt_1 _ (List.mem_of_getElem? (i := 137) (by rfl))) (by rfl)
theorem tw_182 : Cond.initialized RX1 ∈ lw_tg := tg_of (mt_1 _ (List.mem_of_getElem? (i := 3) (by rfl))) (by rfl)
theorem tw_183 : Cond.code yX1_length cX1_length 1 (some .int) ∈ lw_tg := tg_of (mt_1 _ (List.mem_of_getElem? (i := 138) (by rfl))) (by rfl)
theorem tw_184 : Cond.fieldLink RX1 15 "FuseBoards$Pad" "length" "I" ∈ lw_tg := tg_of (mt_1 _ (List.mem_of_getElem? (i := 37) (by rfl))) (by rfl)
theorem tw_185 : Cond.methodLink RX2 95 yX0_aboutHouse ∈ lw_tg := tg_of (mt_1 _ (List.mem_of_getElem? (i := 139) (by rfl))) (by rfl)
theorem tw_186 : Cond.instanceMethod yX0_aboutHouse ∈ lw_tg := tg_of (mt_1 _ (List.mem_of_getElem? (i := 140) (by rfl))) (by rfl)
theorem tw_187 : Cond.selects RX0 yX0_aboutHouse yX0_aboutHouse ∈ lw_tg := tg_of (mt_1 _ (List.mem_of_getElem? (i := 141) (by rfl))) (by rfl)
theorem tw_188 : Cond.code yX0_aboutHouse cX0_aboutHouse 2 (some .int) ∈ lw_tg := tg_of (mt_1 _ (List.mem_of_getElem? (i := 142) (by rfl))) (by rfl)
theorem tw_189 : Cond.methodLink RX0 118 yX0_allBoards ∈ lw_tg := tg_of (mt_1 _ (List.mem_of_getElem? (i := 147) (by rfl))) (by rfl)
theorem tw_190 : Cond.instanceMethod yX0_allBoards ∈ lw_tg := tg_of (mt_1 _ (List.mem_of_getElem? (i := 149) (by rfl))) (by rfl)
theorem tw_191 : Cond.selects RX0 yX0_allBoards yX0_allBoards ∈ lw_tg := tg_of (mp_1 _ (List.mem_of_getElem? (l := lw_privs_1) (i := 4) (by rfl))) (by rfl)
theorem tw_192 : Cond.code yX0_allBoards cX0_allBoards 1 (some .int) ∈ lw_tg := tg_of (mt_1 _ (List.mem_of_getElem? (i := 150) (by rfl))) (by rfl)
theorem tw_193 : Cond.methodLink RX0 121 yX0_workingLoadsAt ∈ lw_tg := tg_of (mt_1 _ (List.mem_of_getElem? (i := 151) (by rfl))) (by rfl)
theorem tw_194 : Cond.instanceMethod yX0_workingLoadsAt ∈ lw_tg := tg_of (mt_1 _ (List.mem_of_getElem? (i := 152) (by rfl))) (by rfl)
theorem tw_195 : Cond.selects RX0 yX0_workingLoadsAt yX0_workingLoadsAt ∈ lw_tg := tg_of (mt_1 _ (List.mem_of_getElem? (i := 153) (by rfl))) (by rfl)
theorem tw_196 : Cond.code yX0_workingLoadsAt cX0_workingLoadsAt 5 (some .int) ∈ lw_tg := tg_of (mt_1 _ (List.mem_of_getElem? (i := 154) (by rfl))) (by rfl)
theorem tw_197 : Cond.methodLink RX0 124 yX0_burningBoards ∈ lw_tg := tg_of (mt_1 _ (List.mem_of_getElem? (i := 155) (by rfl))) (by rfl)
theorem tw_198 : Cond.instanceMethod yX0_burningBoards ∈ lw_tg := tg_of (mt_1 _ (List.mem_of_getElem? (i := 157) (by rfl))) (by rfl)
theorem tw_199 : Cond.selects RX0 yX0_burningBoards yX0_burningBoards ∈ lw_tg := tg_of (mp_1 _ (List.mem_of_getElem? (l := lw_privs_1) (i := 5) (by rfl))) (by rfl)
theorem tw_200 : Cond.code yX0_burningBoards cX0_burningBoards 3 (some .int) ∈ lw_tg := tg_of (mt_1 _ (List.mem_of_getElem? (i := 158) (by rfl))) (by rfl)
theorem tw_201 : Cond.methodLink RX0 112 yX0_current ∈ lw_tg := tg_of (mt_1 _ (List.mem_of_getElem? (i := 159) (by rfl))) (by rfl)
theorem tw_202 : Cond.instanceMethod yX0_current ∈ lw_tg := tg_of (mt_1 _ (List.mem_of_getElem? (i := 161) (by rfl))) (by rfl)
theorem tw_203 : Cond.selects RX0 yX0_current yX0_current ∈ lw_tg := tg_of (mp_1 _ (List.mem_of_getElem? (l := lw_privs_1) (i := 6) (by rfl))) (by rfl)
theorem tw_204 : Cond.code yX0_current cX0_current 2 (some .int) ∈ lw_tg := tg_of (mt_1 _ (List.mem_of_getElem? (i := 162) (by rfl))) (by rfl)
theorem tw_205 : Cond.methodLink RL 41 yX2_of ∈ lw_tg := tg_of (mt_2 _ (List.mem_of_getElem? (i := 60) (by rfl))) (by rfl)
theorem tw_206 : Cond.instanceMethod yX2_of ∈ lw_tg := tg_of (mt_2 _ (List.mem_of_getElem? (i := 61) (by rfl))) (by rfl)
theorem tw_207 : Cond.selects RX2 yX2_of yX2_of ∈ lw_tg := tg_of (mt_2 _ (List.mem_of_getElem? (i := 62) (by rfl))) (by rfl)
theorem tw_208 : Cond.code yX2_of cX2_of 3 (some .int) ∈ lw_tg := tg_of (mt_2 _ (List.mem_of_getElem? (i := 63) (by rfl))) (by rfl)
theorem tw_209 : Cond.methodLink RX2 72 yX0_isBoard ∈ lw_tg := tg_of (mt_2 _ (List.mem_of_getElem? (i := 64) (by rfl))) (by rfl)
theorem tw_210 : Cond.methodLink RX2 76 yX0_aboutBoard ∈ lw_tg := tg_of (mt_2 _ (List.mem_of_getElem? (i := 65) (by rfl))) (by rfl)
theorem tw_211 : Cond.instanceMethod yX0_aboutBoard ∈ lw_tg := tg_of (mt_2 _ (List.mem_of_getElem? (i := 66) (by rfl))) (by rfl)
theorem tw_212 : Cond.selects RX0 yX0_aboutBoard yX0_aboutBoard ∈ lw_tg := tg_of (mt_2 _ (List.mem_of_getElem? (i := 67) (by rfl))) (by rfl)
theorem tw_213 : Cond.code yX0_aboutBoard cX0_aboutBoard 3 (some .int) ∈ lw_tg := tg_of (mt_2 _ (List.mem_of_getElem? (i := 68) (by rfl))) (by rfl)
theorem tw_214 : Cond.methodLink RX0 115 yX0_boardsAhead ∈ lw_tg := tg_of (mt_2 _ (List.mem_of_getElem? (i := 69) (by rfl))) (by rfl)
theorem tw_215 : Cond.instanceMethod yX0_boardsAhead ∈ lw_tg := tg_of (mt_2 _ (List.mem_of_getElem? (i := 71) (by rfl))) (by rfl)
theorem tw_216 : Cond.selects RX0 yX0_boardsAhead yX0_boardsAhead ∈ lw_tg := tg_of (mp_2 _ (List.mem_of_getElem? (l := lw_privs_2) (i := 1) (by rfl))) (by rfl)
theorem tw_217 : Cond.code yX0_boardsAhead cX0_boardsAhead 5 (some .int) ∈ lw_tg := tg_of (mt_2 _ (List.mem_of_getElem? (i := 72) (by rfl))) (by rfl)
theorem tw_218 : Cond.methodLink RL 44 yX2_fed ∈ lw_tg := tg_of (mt_2 _ (List.mem_of_getElem? (i := 90) (by rfl))) (by rfl)
theorem tw_219 : Cond.instanceMethod yX2_fed ∈ lw_tg := tg_of (mt_2 _ (List.mem_of_getElem? (i := 91) (by rfl))) (by rfl)
theorem tw_220 : Cond.selects RX2 yX2_fed yX2_fed ∈ lw_tg := tg_of (mt_2 _ (List.mem_of_getElem? (i := 92) (by rfl))) (by rfl)
theorem tw_221 : Cond.code yX2_fed cX2_fed 2 (some .int) ∈ lw_tg := tg_of (mt_2 _ (List.mem_of_getElem? (i := 93) (by rfl))) (by rfl)
theorem tw_222 : Cond.methodLink RX2 85 yX0_fedThrough ∈ lw_tg := tg_of (mt_2 _ (List.mem_of_getElem? (i := 77) (by rfl))) (by rfl)
theorem tw_223 : Cond.methodLink RL 47 yX2_ofLoad ∈ lw_tg := tg_of (mt_2 _ (List.mem_of_getElem? (i := 51) (by rfl))) (by rfl)
theorem tw_224 : Cond.instanceMethod yX2_ofLoad ∈ lw_tg := tg_of (mt_2 _ (List.mem_of_getElem? (i := 52) (by rfl))) (by rfl)
theorem tw_225 : Cond.selects RX2 yX2_ofLoad yX2_ofLoad ∈ lw_tg := tg_of (mt_2 _ (List.mem_of_getElem? (i := 53) (by rfl))) (by rfl)
theorem tw_226 : Cond.code yX2_ofLoad cX2_ofLoad 3 (some .int) ∈ lw_tg := tg_of (mt_2 _ (List.mem_of_getElem? (i := 54) (by rfl))) (by rfl)
theorem tw_227 : Cond.methodLink RX2 79 yX0_isLoad ∈ lw_tg := tg_of (mt_2 _ (List.mem_of_getElem? (i := 55) (by rfl))) (by rfl)
theorem tw_228 : Cond.methodLink RX2 82 yX0_aboutLoad ∈ lw_tg := tg_of (mt_2 _ (List.mem_of_getElem? (i := 56) (by rfl))) (by rfl)
theorem tw_229 : Cond.instanceMethod yX0_aboutLoad ∈ lw_tg := tg_of (mt_2 _ (List.mem_of_getElem? (i := 57) (by rfl))) (by rfl)
theorem tw_230 : Cond.selects RX0 yX0_aboutLoad yX0_aboutLoad ∈ lw_tg := tg_of (mt_2 _ (List.mem_of_getElem? (i := 58) (by rfl))) (by rfl)
theorem tw_231 : Cond.code yX0_aboutLoad cX0_aboutLoad 3 (some .int) ∈ lw_tg := tg_of (mt_2 _ (List.mem_of_getElem? (i := 59) (by rfl))) (by rfl)
theorem tw_232 : Cond.code yL_boards cL_boards 11 (some .boolean) ∈ lw_tg := tg_of (mt_2 _ (List.mem_of_getElem? (i := 89) (by rfl))) (by rfl)
theorem tw_233 : Cond.methodLink RL 51 yX2_ifOpen ∈ lw_tg := tg_of (mt_2 _ (List.mem_of_getElem? (i := 73) (by rfl))) (by rfl)
theorem tw_234 : Cond.instanceMethod yX2_ifOpen ∈ lw_tg := tg_of (mt_2 _ (List.mem_of_getElem? (i := 74) (by rfl))) (by rfl)
theorem tw_235 : Cond.selects RX2 yX2_ifOpen yX2_ifOpen ∈ lw_tg := tg_of (mt_2 _ (List.mem_of_getElem? (i := 75) (by rfl))) (by rfl)
theorem tw_236 : Cond.code yX2_ifOpen cX2_ifOpen 2 (some .int) ∈ lw_tg := tg_of (mt_2 _ (List.mem_of_getElem? (i := 76) (by rfl))) (by rfl)
theorem tw_237 : Cond.methodLink RX2 117 yX0_workingLoadsAt ∈ lw_tg := tg_of (mt_2 _ (List.mem_of_getElem? (i := 78) (by rfl))) (by rfl)
theorem tw_238 : Cond.methodLink RL 54 yX2_blown ∈ lw_tg := tg_of (mt_2 _ (List.mem_of_getElem? (i := 79) (by rfl))) (by rfl)
theorem tw_239 : Cond.instanceMethod yX2_blown ∈ lw_tg := tg_of (mt_2 _ (List.mem_of_getElem? (i := 80) (by rfl))) (by rfl)
theorem tw_240 : Cond.selects RX2 yX2_blown yX2_blown ∈ lw_tg := tg_of (mt_2 _ (List.mem_of_getElem? (i := 81) (by rfl))) (by rfl)
theorem tw_241 : Cond.code yX2_blown cX2_blown 2 (some .int) ∈ lw_tg := tg_of (mt_2 _ (List.mem_of_getElem? (i := 82) (by rfl))) (by rfl)
theorem tw_242 : Cond.methodLink RX2 88 yX0_latestBlown ∈ lw_tg := tg_of (mt_2 _ (List.mem_of_getElem? (i := 83) (by rfl))) (by rfl)
theorem tw_243 : Cond.instanceMethod yX0_latestBlown ∈ lw_tg := tg_of (mt_2 _ (List.mem_of_getElem? (i := 84) (by rfl))) (by rfl)
theorem tw_244 : Cond.selects RX0 yX0_latestBlown yX0_latestBlown ∈ lw_tg := tg_of (mt_2 _ (List.mem_of_getElem? (i := 85) (by rfl))) (by rfl)
theorem tw_245 : Cond.code yX0_latestBlown cX0_latestBlown 2 (some .int) ∈ lw_tg := tg_of (mt_2 _ (List.mem_of_getElem? (i := 86) (by rfl))) (by rfl)
theorem tw_246 : Cond.methodLink RL 57 yL_boards ∈ lw_tg := tg_of (mt_2 _ (List.mem_of_getElem? (i := 87) (by rfl))) (by rfl)
theorem tw_247 : Cond.static yL_boards ∈ lw_tg := tg_of (mt_2 _ (List.mem_of_getElem? (i := 88) (by rfl))) (by rfl)
theorem tw_248 : Cond.code yL_hangs cL_hangs 5 (some .boolean) ∈ lw_tg := tg_of (mt_2 _ (List.mem_of_getElem? (i := 50) (by rfl))) (by rfl)
theorem tw_249 : Cond.constantLong RL 61 (9) ∈ lw_tg := tg_of (mt_2 _ (List.mem_of_getElem? (i := 98) (by rfl))) (by rfl)
theorem tw_250 : Cond.constantLong RL 63 (31) ∈ lw_tg := tg_of (mt_2 _ (List.mem_of_getElem? (i := 99) (by rfl))) (by rfl)
theorem tw_251 : Cond.code yL_print cL_print 4 (some .long) ∈ lw_tg := tg_of (mt_2 _ (List.mem_of_getElem? (i := 97) (by rfl))) (by rfl)
theorem tw_252 : Cond.methodLink RL 65 yX2_next ∈ lw_tg := tg_of (mt_2 _ (List.mem_of_getElem? (i := 103) (by rfl))) (by rfl)
theorem tw_253 : Cond.instanceMethod yX2_next ∈ lw_tg := tg_of (mt_2 _ (List.mem_of_getElem? (i := 104) (by rfl))) (by rfl)
theorem tw_254 : Cond.selects RX2 yX2_next yX2_next ∈ lw_tg := tg_of (mt_2 _ (List.mem_of_getElem? (i := 105) (by rfl))) (by rfl)
theorem tw_255 : Cond.code yX2_next cX2_next 2 (some .int) ∈ lw_tg := tg_of (mt_2 _ (List.mem_of_getElem? (i := 106) (by rfl))) (by rfl)
theorem tw_256 : Cond.fieldLink RX2 16 "FuseBoards" "trial" "LFuseBoards$House;" ∈ lw_tg := tg_of (mt_1 _ (List.mem_of_getElem? (i := 61) (by rfl))) (by rfl)
theorem tw_257 : Cond.methodLink RX2 98 yX2_isTrialQuestion ∈ lw_tg := tg_of (mt_2 _ (List.mem_of_getElem? (i := 107) (by rfl))) (by rfl)
theorem tw_258 : Cond.static yX2_isTrialQuestion ∈ lw_tg := tg_of (mt_2 _ (List.mem_of_getElem? (i := 108) (by rfl))) (by rfl)
theorem tw_259 : Cond.code yX2_isTrialQuestion cX2_isTrialQuestion 1 (some .boolean) ∈ lw_tg := tg_of (mt_2 _ (List.mem_of_getElem? (i := 109) (by rfl))) (by rfl)
theorem tw_260 : Cond.methodLink RX2 101 yX0_copyFrom ∈ lw_tg := tg_of (mt_2 _ (List.mem_of_getElem? (i := 110) (by rfl))) (by rfl)
theorem tw_261 : Cond.instanceMethod yX0_copyFrom ∈ lw_tg := tg_of (mt_2 _ (List.mem_of_getElem? (i := 111) (by rfl))) (by rfl)
theorem tw_262 : Cond.selects RX0 yX0_copyFrom yX0_copyFrom ∈ lw_tg := tg_of (mt_2 _ (List.mem_of_getElem? (i := 112) (by rfl))) (by rfl)
theorem tw_263 : Cond.code yX0_copyFrom cX0_copyFrom 2 none ∈ lw_tg := tg_of (mt_2 _ (List.mem_of_getElem? (i := 113) (by rfl))) (by rfl)
theorem tw_264 : Cond.methodLink RX2 105 yX2_firstBlow ∈ lw_tg := tg_of (mt_2 _ (List.mem_of_getElem? (i := 114) (by rfl))) (by rfl)
theorem tw_265 : Cond.instanceMethod yX2_firstBlow ∈ lw_tg := tg_of (mt_2 _ (List.mem_of_getElem? (i := 116) (by rfl))) (by rfl)
theorem tw_266 : Cond.selects RX2 yX2_firstBlow yX2_firstBlow ∈ lw_tg := tg_of (mp_2 _ (List.mem_of_getElem? (l := lw_privs_2) (i := 2) (by rfl))) (by rfl)
theorem tw_267 : Cond.code yX2_firstBlow cX2_firstBlow 4 (some .int) ∈ lw_tg := tg_of (mt_2 _ (List.mem_of_getElem? (i := 117) (by rfl))) (by rfl)
theorem tw_268 : Cond.methodLink RX2 159 yX0_tick ∈ lw_tg := tg_of (mt_2 _ (List.mem_of_getElem? (i := 118) (by rfl))) (by rfl)
theorem tw_269 : Cond.methodLink RX2 162 yX2_lowest ∈ lw_tg := tg_of (mt_2 _ (List.mem_of_getElem? (i := 119) (by rfl))) (by rfl)
theorem tw_270 : Cond.static yX2_lowest ∈ lw_tg := tg_of (mt_2 _ (List.mem_of_getElem? (i := 120) (by rfl))) (by rfl)
theorem tw_271 : Cond.code yX2_lowest cX2_lowest 2 (some .int) ∈ lw_tg := tg_of (mt_2 _ (List.mem_of_getElem? (i := 121) (by rfl))) (by rfl)
theorem tw_272 : Cond.methodLink RL 68 yL_print ∈ lw_tg := tg_of (mt_2 _ (List.mem_of_getElem? (i := 95) (by rfl))) (by rfl)
theorem tw_273 : Cond.static yL_print ∈ lw_tg := tg_of (mt_2 _ (List.mem_of_getElem? (i := 96) (by rfl))) (by rfl)
theorem tw_274 : Cond.methodLink RL 72 yX2_save ∈ lw_tg := tg_of (mt_2 _ (List.mem_of_getElem? (i := 122) (by rfl))) (by rfl)
theorem tw_275 : Cond.instanceMethod yX2_save ∈ lw_tg := tg_of (mt_2 _ (List.mem_of_getElem? (i := 123) (by rfl))) (by rfl)
theorem tw_276 : Cond.selects RX2 yX2_save yX2_save ∈ lw_tg := tg_of (mt_2 _ (List.mem_of_getElem? (i := 124) (by rfl))) (by rfl)
theorem tw_277 : Cond.code yX2_save cX2_save 2 (some .int) ∈ lw_tg := tg_of (mt_2 _ (List.mem_of_getElem? (i := 125) (by rfl))) (by rfl)
theorem tw_278 : Cond.fieldLink RX2 31 "FuseBoards" "slots" "[[I" ∈ lw_tg := tg_of (mt_1 _ (List.mem_of_getElem? (i := 64) (by rfl))) (by rfl)
theorem tw_279 : Cond.fieldLink RX2 34 "FuseBoards" "saved" "[Z" ∈ lw_tg := tg_of (mt_1 _ (List.mem_of_getElem? (i := 65) (by rfl))) (by rfl)
theorem tw_280 : Cond.methodLink RX2 144 yX2_isSlot ∈ lw_tg := tg_of (mt_2 _ (List.mem_of_getElem? (i := 126) (by rfl))) (by rfl)
theorem tw_281 : Cond.static yX2_isSlot ∈ lw_tg := tg_of (mt_2 _ (List.mem_of_getElem? (i := 127) (by rfl))) (by rfl)
theorem tw_282 : Cond.code yX2_isSlot cX2_isSlot 1 (some .boolean) ∈ lw_tg := tg_of (mt_2 _ (List.mem_of_getElem? (i := 128) (by rfl))) (by rfl)
theorem tw_283 : Cond.methodLink RX2 111 yX0_boards ∈ lw_tg := tg_of (mt_2 _ (List.mem_of_getElem? (i := 129) (by rfl))) (by rfl)
theorem tw_284 : Cond.instanceMethod yX0_boards ∈ lw_tg := tg_of (mt_2 _ (List.mem_of_getElem? (i := 130) (by rfl))) (by rfl)
theorem tw_285 : Cond.selects RX0 yX0_boards yX0_boards ∈ lw_tg := tg_of (mt_2 _ (List.mem_of_getElem? (i := 131) (by rfl))) (by rfl)
theorem tw_286 : Cond.code yX0_boards cX0_boards 1 (some .int) ∈ lw_tg := tg_of (mt_2 _ (List.mem_of_getElem? (i := 132) (by rfl))) (by rfl)
theorem tw_287 : Cond.methodLink RL 75 yX2_restore ∈ lw_tg := tg_of (mt_2 _ (List.mem_of_getElem? (i := 133) (by rfl))) (by rfl)
theorem tw_288 : Cond.instanceMethod yX2_restore ∈ lw_tg := tg_of (mt_2 _ (List.mem_of_getElem? (i := 134) (by rfl))) (by rfl)
theorem tw_289 : Cond.selects RX2 yX2_restore yX2_restore ∈ lw_tg := tg_of (mt_2 _ (List.mem_of_getElem? (i := 135) (by rfl))) (by rfl)
theorem tw_290 : Cond.code yX2_restore cX2_restore 2 (some .int) ∈ lw_tg := tg_of (mt_2 _ (List.mem_of_getElem? (i := 136) (by rfl))) (by rfl)
theorem tw_291 : Cond.methodLink RX2 140 yX0_readFrom ∈ lw_tg := tg_of (mt_1 _ (List.mem_of_getElem? (i := 178) (by rfl))) (by rfl)
theorem tw_292 : Cond.instanceMethod yX0_readFrom ∈ lw_tg := tg_of (mt_1 _ (List.mem_of_getElem? (i := 179) (by rfl))) (by rfl)
theorem tw_293 : Cond.selects RX0 yX0_readFrom yX0_readFrom ∈ lw_tg := tg_of (mt_1 _ (List.mem_of_getElem? (i := 180) (by rfl))) (by rfl)
theorem tw_294 : Cond.code yX0_readFrom cX0_readFrom 2 none ∈ lw_tg := tg_of (mt_1 _ (List.mem_of_getElem? (i := 181) (by rfl))) (by rfl)
theorem tw_295 : Cond.code yL_goes cL_goes 8 (some .boolean) ∈ lw_tg := tg_of (mt_2 _ (List.mem_of_getElem? (i := 102) (by rfl))) (by rfl)
theorem tw_296 : Cond.methodLink RL 78 yX2_test ∈ lw_tg := tg_of (mt_2 _ (List.mem_of_getElem? (i := 140) (by rfl))) (by rfl)
theorem tw_297 : Cond.instanceMethod yX2_test ∈ lw_tg := tg_of (mt_2 _ (List.mem_of_getElem? (i := 141) (by rfl))) (by rfl)
theorem tw_298 : Cond.selects RX2 yX2_test yX2_test ∈ lw_tg := tg_of (mt_2 _ (List.mem_of_getElem? (i := 142) (by rfl))) (by rfl)
theorem tw_299 : Cond.code yX2_test cX2_test 4 (some .int) ∈ lw_tg := tg_of (mt_2 _ (List.mem_of_getElem? (i := 143) (by rfl))) (by rfl)
theorem tw_300 : Cond.methodLink RX2 108 yX2_tryFault ∈ lw_tg := tg_of (mt_2 _ (List.mem_of_getElem? (i := 144) (by rfl))) (by rfl)
theorem tw_301 : Cond.instanceMethod yX2_tryFault ∈ lw_tg := tg_of (mt_2 _ (List.mem_of_getElem? (i := 146) (by rfl))) (by rfl)
theorem tw_302 : Cond.selects RX2 yX2_tryFault yX2_tryFault ∈ lw_tg := tg_of (mp_2 _ (List.mem_of_getElem? (l := lw_privs_2) (i := 3) (by rfl))) (by rfl)
theorem tw_303 : Cond.code yX2_tryFault cX2_tryFault 4 (some .int) ∈ lw_tg := tg_of (mt_2 _ (List.mem_of_getElem? (i := 147) (by rfl))) (by rfl)
theorem tw_304 : Cond.methodLink RX2 155 yX0_leaveOnlyFault ∈ lw_tg := tg_of (mt_2 _ (List.mem_of_getElem? (i := 148) (by rfl))) (by rfl)
theorem tw_305 : Cond.instanceMethod yX0_leaveOnlyFault ∈ lw_tg := tg_of (mt_2 _ (List.mem_of_getElem? (i := 149) (by rfl))) (by rfl)
theorem tw_306 : Cond.selects RX0 yX0_leaveOnlyFault yX0_leaveOnlyFault ∈ lw_tg := tg_of (mt_2 _ (List.mem_of_getElem? (i := 150) (by rfl))) (by rfl)
theorem tw_307 : Cond.code yX0_leaveOnlyFault cX0_leaveOnlyFault 3 none ∈ lw_tg := tg_of (mt_2 _ (List.mem_of_getElem? (i := 151) (by rfl))) (by rfl)
theorem tw_308 : Cond.methodLink RX0 55 yJ7_fill_fda19 ∈ lw_tg := tg_of (mt_2 _ (List.mem_of_getElem? (i := 152) (by rfl))) (by rfl)
theorem tw_309 : Cond.static yJ7_fill_fda19 ∈ lw_tg := tg_of (mt_2 _ (List.mem_of_getElem? (i := 153) (by rfl))) (by rfl)
theorem tw_310 : Cond.code yJ7_fill_fda19 cJ7_fill_fda19 5 none ∈ lw_tg := tg_of (mt_2 _ (List.mem_of_getElem? (i := 154) (by rfl))) (by rfl)
theorem tw_311 : Cond.methodLink RJ7 13 yJ7_rangeCheck_23922 ∈ lw_tg := tg_of (mt_2 _ (List.mem_of_getElem? (i := 155) (by rfl))) (by rfl)
theorem tw_312 : Cond.static yJ7_rangeCheck_23922 ∈ lw_tg := tg_of (mt_2 _ (List.mem_of_getElem? (i := 156) (by rfl))) (by rfl)
theorem tw_313 : Cond.code yJ7_rangeCheck_23922 cJ7_rangeCheck_23922 3 none ∈ lw_tg := tg_of (mt_2 _ (List.mem_of_getElem? (i := 157) (by rfl))) (by rfl)
theorem tw_314 : Cond.code yL_tests cL_tests 10 (some .boolean) ∈ lw_tg := tg_of (mt_2 _ (List.mem_of_getElem? (i := 139) (by rfl))) (by rfl)
theorem tw_315 : Cond.methodLink RL 81 yX2_unfair ∈ lw_tg := tg_of (mt_2 _ (List.mem_of_getElem? (i := 161) (by rfl))) (by rfl)
theorem tw_316 : Cond.instanceMethod yX2_unfair ∈ lw_tg := tg_of (mt_2 _ (List.mem_of_getElem? (i := 162) (by rfl))) (by rfl)
theorem tw_317 : Cond.selects RX2 yX2_unfair yX2_unfair ∈ lw_tg := tg_of (mt_2 _ (List.mem_of_getElem? (i := 163) (by rfl))) (by rfl)
theorem tw_318 : Cond.code yX2_unfair cX2_unfair 5 (some .int) ∈ lw_tg := tg_of (mt_2 _ (List.mem_of_getElem? (i := 164) (by rfl))) (by rfl)
theorem tw_319 : Cond.methodLink RX2 114 yX0_rating ∈ lw_tg := tg_of (mt_2 _ (List.mem_of_getElem? (i := 165) (by rfl))) (by rfl)
theorem tw_320 : Cond.instanceMethod yX0_rating ∈ lw_tg := tg_of (mt_2 _ (List.mem_of_getElem? (i := 166) (by rfl))) (by rfl)
theorem tw_321 : Cond.selects RX0 yX0_rating yX0_rating ∈ lw_tg := tg_of (mt_2 _ (List.mem_of_getElem? (i := 167) (by rfl))) (by rfl)
theorem tw_322 : Cond.code yX0_rating cX0_rating 2 (some .int) ∈ lw_tg := tg_of (mt_2 _ (List.mem_of_getElem? (i := 168) (by rfl))) (by rfl)
theorem tw_323 : Cond.code yL_faults cL_faults 5 (some .boolean) ∈ lw_tg := tg_of (mt_2 _ (List.mem_of_getElem? (i := 160) (by rfl))) (by rfl)
theorem tw_324 : Cond.classLink RL 17 RX2 ∈ lw_tg := tg_of (mt_1 _ (List.mem_of_getElem? (i := 8) (by rfl))) (by rfl)
theorem tw_325 : Cond.instantiable RX2 8 ∈ lw_tg := tg_of (mt_1 _ (List.mem_of_getElem? (i := 9) (by rfl))) (by rfl)
theorem tw_326 : Cond.methodLink RL 84 yX2_init ∈ lw_tg := tg_of (mt_1 _ (List.mem_of_getElem? (i := 10) (by rfl))) (by rfl)
theorem tw_327 : Cond.instanceMethod yX2_init ∈ lw_tg := tg_of (mt_1 _ (List.mem_of_getElem? (i := 11) (by rfl))) (by rfl)
theorem tw_328 : Cond.code yX2_init cX2_init 1 none ∈ lw_tg := tg_of (mt_1 _ (List.mem_of_getElem? (i := 12) (by rfl))) (by rfl)
theorem tw_329 : Cond.methodLink RX2 3 objectInit ∈ lw_tg := tg_of (mt_1 _ (List.mem_of_getElem? (i := 13) (by rfl))) (by rfl)
theorem tw_330 : Cond.instanceMethod objectInit ∈ lw_tg := tg_of (mt_1 _ (List.mem_of_getElem? (i := 14) (by rfl))) (by rfl)
theorem tw_331 : Cond.code objectInit ⟨#[0xb1]⟩ 1 none ∈ lw_tg := tg_of (mt_1 _ (List.mem_of_getElem? (i := 15) (by rfl))) (by rfl)
theorem tw_332 : Cond.classLink RX2 9 RX0 ∈ lw_tg := tg_of (mt_1 _ (List.mem_of_getElem? (i := 16) (by rfl))) (by rfl)
theorem tw_333 : Cond.instantiable RX0 2 ∈ lw_tg := tg_of (mt_1 _ (List.mem_of_getElem? (i := 17) (by rfl))) (by rfl)
theorem tw_334 : Cond.classLink RX2 19 RX1 ∈ lw_tg := tg_of (mt_1 _ (List.mem_of_getElem? (i := 30) (by rfl))) (by rfl)
theorem tw_335 : Cond.instantiable RX1 7 ∈ lw_tg := tg_of (mt_1 _ (List.mem_of_getElem? (i := 31) (by rfl))) (by rfl)
theorem tw_336 : Cond.classLink RX2 26 "[[I" ∈ lw_tg := tg_of (mt_1 _ (List.mem_of_getElem? (i := 58) (by rfl))) (by rfl)
theorem tw_337 : Cond.arrayClass .int ∈ lw_tg := tg_of (mt_1 _ (List.mem_of_getElem? (i := 29) (by rfl))) (by rfl)
theorem tw_338 : Cond.arrayClass .boolean ∈ lw_tg := tg_of (mt_1 _ (List.mem_of_getElem? (i := 85) (by rfl))) (by rfl)
theorem tw_339 : Cond.methodLink RX2 11 yX0_init ∈ lw_tg := tg_of (mt_1 _ (List.mem_of_getElem? (i := 18) (by rfl))) (by rfl)
theorem tw_340 : Cond.instanceMethod yX0_init ∈ lw_tg := tg_of (mt_1 _ (List.mem_of_getElem? (i := 19) (by rfl))) (by rfl)
theorem tw_341 : Cond.code yX0_init cX0_init 1 none ∈ lw_tg := tg_of (mt_1 _ (List.mem_of_getElem? (i := 20) (by rfl))) (by rfl)
theorem tw_342 : Cond.methodLink RX0 5 objectInit ∈ lw_tg := tg_of (mt_1 _ (List.mem_of_getElem? (i := 21) (by rfl))) (by rfl)
theorem tw_343 : Cond.methodLink RX2 21 yX1_init ∈ lw_tg := tg_of (mt_1 _ (List.mem_of_getElem? (i := 32) (by rfl))) (by rfl)
theorem tw_344 : Cond.instanceMethod yX1_init ∈ lw_tg := tg_of (mt_1 _ (List.mem_of_getElem? (i := 33) (by rfl))) (by rfl)
theorem tw_345 : Cond.code yX1_init cX1_init 1 none ∈ lw_tg := tg_of (mt_1 _ (List.mem_of_getElem? (i := 34) (by rfl))) (by rfl)
theorem tw_346 : Cond.methodLink RX1 3 objectInit ∈ lw_tg := tg_of (mt_1 _ (List.mem_of_getElem? (i := 35) (by rfl))) (by rfl)
theorem tw_347 : Cond.fieldLink RX1 11 "FuseBoards$Pad" "codes" "[I" ∈ lw_tg := tg_of (mt_1 _ (List.mem_of_getElem? (i := 36) (by rfl))) (by rfl)
theorem tw_348 : Cond.fieldLink RX1 19 "FuseBoards$Pad" "at" "I" ∈ lw_tg := tg_of (mt_1 _ (List.mem_of_getElem? (i := 38) (by rfl))) (by rfl)
theorem tw_349 : Cond.fieldLink RX1 22 "FuseBoards$Pad" "letter" "I" ∈ lw_tg := tg_of (mt_1 _ (List.mem_of_getElem? (i := 39) (by rfl))) (by rfl)
theorem tw_350 : Cond.fieldLink RX1 25 "FuseBoards$Pad" "digit" "I" ∈ lw_tg := tg_of (mt_1 _ (List.mem_of_getElem? (i := 40) (by rfl))) (by rfl)
theorem tw_351 : Cond.fieldLink RX1 28 "FuseBoards$Pad" "number" "I" ∈ lw_tg := tg_of (mt_1 _ (List.mem_of_getElem? (i := 41) (by rfl))) (by rfl)
theorem tw_352 : Cond.fieldLink RX1 31 "FuseBoards$Pad" "kind" "I" ∈ lw_tg := tg_of (mt_1 _ (List.mem_of_getElem? (i := 42) (by rfl))) (by rfl)
theorem tw_353 : Cond.methodLink RL 85 yL_hangs ∈ lw_tg := tg_of (mt_2 _ (List.mem_of_getElem? (i := 48) (by rfl))) (by rfl)
theorem tw_354 : Cond.static yL_hangs ∈ lw_tg := tg_of (mt_2 _ (List.mem_of_getElem? (i := 49) (by rfl))) (by rfl)
theorem tw_355 : Cond.methodLink RL 88 yL_goes ∈ lw_tg := tg_of (mt_2 _ (List.mem_of_getElem? (i := 100) (by rfl))) (by rfl)
theorem tw_356 : Cond.static yL_goes ∈ lw_tg := tg_of (mt_2 _ (List.mem_of_getElem? (i := 101) (by rfl))) (by rfl)
theorem tw_357 : Cond.methodLink RL 91 yL_faults ∈ lw_tg := tg_of (mt_2 _ (List.mem_of_getElem? (i := 158) (by rfl))) (by rfl)
theorem tw_358 : Cond.static yL_faults ∈ lw_tg := tg_of (mt_2 _ (List.mem_of_getElem? (i := 159) (by rfl))) (by rfl)
theorem tw_359 : Cond.methodLink RL 95 yL_cell ∈ lw_tg := tg_of (mt_1 _ (List.mem_of_getElem? (i := 182) (by rfl))) (by rfl)
theorem tw_360 : Cond.static yL_cell ∈ lw_tg := tg_of (mt_1 _ (List.mem_of_getElem? (i := 183) (by rfl))) (by rfl)
theorem tw_361 : Cond.methodLink RL 99 yL_act ∈ lw_tg := tg_of (mt_1 _ (List.mem_of_getElem? (i := 191) (by rfl))) (by rfl)
theorem tw_362 : Cond.static yL_act ∈ lw_tg := tg_of (mt_1 _ (List.mem_of_getElem? (i := 192) (by rfl))) (by rfl)
theorem tw_363 : Cond.methodLink RL 103 yX2_undo ∈ lw_tg := tg_of (mt_1 _ (List.mem_of_getElem? (i := 174) (by rfl))) (by rfl)
theorem tw_364 : Cond.instanceMethod yX2_undo ∈ lw_tg := tg_of (mt_1 _ (List.mem_of_getElem? (i := 175) (by rfl))) (by rfl)
theorem tw_365 : Cond.selects RX2 yX2_undo yX2_undo ∈ lw_tg := tg_of (mt_1 _ (List.mem_of_getElem? (i := 176) (by rfl))) (by rfl)
theorem tw_366 : Cond.code yX2_undo cX2_undo 1 (some .int) ∈ lw_tg := tg_of (mt_1 _ (List.mem_of_getElem? (i := 177) (by rfl))) (by rfl)
theorem tw_367 : Cond.methodLink RL 107 yL_tests ∈ lw_tg := tg_of (mt_2 _ (List.mem_of_getElem? (i := 137) (by rfl))) (by rfl)
theorem tw_368 : Cond.static yL_tests ∈ lw_tg := tg_of (mt_2 _ (List.mem_of_getElem? (i := 138) (by rfl))) (by rfl)
end
section
theorem dX0_init_0 : decode cX0_init 0 = .ok (.aload_n 0, 1) := by decide +kernel
theorem dX0_init_1 : decode cX0_init 1 = .ok (.invokespecial 5, 3) := by decide +kernel
theorem dX0_init_4 : decode cX0_init 4 = .ok (.aload_n 0, 1) := by decide +kernel
theorem dX0_init_5 : decode cX0_init 5 = .ok (.bipush 125, 2) := by decide +kernel
theorem dX0_init_7 : decode cX0_init 7 = .ok (.newarray .int, 2) := by decide +kernel
theorem dX0_init_9 : decode cX0_init 9 = .ok (.putfield 11, 3) := by decide +kernel
theorem dX0_init_12 : decode cX0_init 12 = .ok (.aload_n 0, 1) := by decide +kernel
theorem dX0_init_13 : decode cX0_init 13 = .ok (.bipush 10, 2) := by decide +kernel
theorem dX0_init_15 : decode cX0_init 15 = .ok (.newarray .int, 2) := by decide +kernel
theorem dX0_init_17 : decode cX0_init 17 = .ok (.putfield 15, 3) := by decide +kernel
theorem dX0_init_20 : decode cX0_init 20 = .ok (.aload_n 0, 1) := by decide +kernel
theorem dX0_init_21 : decode cX0_init 21 = .ok (.getfield 11, 3) := by decide +kernel
theorem dX0_init_24 : decode cX0_init 24 = .ok (.iconst 0, 1) := by decide +kernel
theorem dX0_init_25 : decode cX0_init 25 = .ok (.iconst 1, 1) := by decide +kernel
theorem dX0_init_26 : decode cX0_init 26 = .ok (.iastore, 1) := by decide +kernel
theorem dX0_init_27 : decode cX0_init 27 = .ok (.aload_n 0, 1) := by decide +kernel
theorem dX0_init_28 : decode cX0_init 28 = .ok (.getfield 11, 3) := by decide +kernel
theorem dX0_init_31 : decode cX0_init 31 = .ok (.iconst 1, 1) := by decide +kernel
theorem dX0_init_32 : decode cX0_init 32 = .ok (.iconst 2, 1) := by decide +kernel
theorem dX0_init_33 : decode cX0_init 33 = .ok (.iastore, 1) := by decide +kernel
theorem dX0_init_34 : decode cX0_init 34 = .ok (.aload_n 0, 1) := by decide +kernel
theorem dX0_init_35 : decode cX0_init 35 = .ok (.getfield 11, 3) := by decide +kernel
theorem dX0_init_38 : decode cX0_init 38 = .ok (.iconst 2, 1) := by decide +kernel
theorem dX0_init_39 : decode cX0_init 39 = .ok (.bipush 10, 2) := by decide +kernel
theorem dX0_init_41 : decode cX0_init 41 = .ok (.iastore, 1) := by decide +kernel
theorem dX0_init_42 : decode cX0_init 42 = .ok (.return_, 1) := by decide +kernel
theorem dX0_copyFrom_0 : decode cX0_copyFrom 0 = .ok (.aload_n 1, 1) := by decide +kernel
theorem dX0_copyFrom_1 : decode cX0_copyFrom 1 = .ok (.getfield 11, 3) := by decide +kernel
theorem dX0_copyFrom_4 : decode cX0_copyFrom 4 = .ok (.iconst 0, 1) := by decide +kernel
theorem dX0_copyFrom_5 : decode cX0_copyFrom 5 = .ok (.aload_n 0, 1) := by decide +kernel
theorem dX0_copyFrom_6 : decode cX0_copyFrom 6 = .ok (.getfield 11, 3) := by decide +kernel
theorem dX0_copyFrom_9 : decode cX0_copyFrom 9 = .ok (.iconst 0, 1) := by decide +kernel
theorem dX0_copyFrom_10 : decode cX0_copyFrom 10 = .ok (.bipush 125, 2) := by decide +kernel
theorem dX0_copyFrom_12 : decode cX0_copyFrom 12 = .ok (.invokestatic 18, 3) := by decide +kernel
theorem dX0_copyFrom_15 : decode cX0_copyFrom 15 = .ok (.return_, 1) := by decide +kernel
theorem dX0_readFrom_0 : decode cX0_readFrom 0 = .ok (.aload_n 1, 1) := by decide +kernel
theorem dX0_readFrom_1 : decode cX0_readFrom 1 = .ok (.arraylength, 1) := by decide +kernel
theorem dX0_readFrom_2 : decode cX0_readFrom 2 = .ok (.bipush 125, 2) := by decide +kernel
theorem dX0_readFrom_4 : decode cX0_readFrom 4 = .ok (.if_icmp .lt 15, 3) := by decide +kernel
theorem dX0_readFrom_7 : decode cX0_readFrom 7 = .ok (.aload_n 1, 1) := by decide +kernel
theorem dX0_readFrom_8 : decode cX0_readFrom 8 = .ok (.iconst 0, 1) := by decide +kernel
theorem dX0_readFrom_9 : decode cX0_readFrom 9 = .ok (.aload_n 0, 1) := by decide +kernel
theorem dX0_readFrom_10 : decode cX0_readFrom 10 = .ok (.getfield 11, 3) := by decide +kernel
theorem dX0_readFrom_13 : decode cX0_readFrom 13 = .ok (.iconst 0, 1) := by decide +kernel
theorem dX0_readFrom_14 : decode cX0_readFrom 14 = .ok (.bipush 125, 2) := by decide +kernel
theorem dX0_readFrom_16 : decode cX0_readFrom 16 = .ok (.invokestatic 18, 3) := by decide +kernel
theorem dX0_readFrom_19 : decode cX0_readFrom 19 = .ok (.return_, 1) := by decide +kernel
theorem dX0_writeTo_0 : decode cX0_writeTo 0 = .ok (.aload_n 1, 1) := by decide +kernel
theorem dX0_writeTo_1 : decode cX0_writeTo 1 = .ok (.arraylength, 1) := by decide +kernel
theorem dX0_writeTo_2 : decode cX0_writeTo 2 = .ok (.bipush 125, 2) := by decide +kernel
theorem dX0_writeTo_4 : decode cX0_writeTo 4 = .ok (.if_icmp .lt 15, 3) := by decide +kernel
theorem dX0_writeTo_7 : decode cX0_writeTo 7 = .ok (.aload_n 0, 1) := by decide +kernel
theorem dX0_writeTo_8 : decode cX0_writeTo 8 = .ok (.getfield 11, 3) := by decide +kernel
theorem dX0_writeTo_11 : decode cX0_writeTo 11 = .ok (.iconst 0, 1) := by decide +kernel
theorem dX0_writeTo_12 : decode cX0_writeTo 12 = .ok (.aload_n 1, 1) := by decide +kernel
theorem dX0_writeTo_13 : decode cX0_writeTo 13 = .ok (.iconst 0, 1) := by decide +kernel
theorem dX0_writeTo_14 : decode cX0_writeTo 14 = .ok (.bipush 125, 2) := by decide +kernel
theorem dX0_writeTo_16 : decode cX0_writeTo 16 = .ok (.invokestatic 18, 3) := by decide +kernel
theorem dX0_writeTo_19 : decode cX0_writeTo 19 = .ok (.return_, 1) := by decide +kernel
theorem dX0_boards_0 : decode cX0_boards 0 = .ok (.aload_n 0, 1) := by decide +kernel
theorem dX0_boards_1 : decode cX0_boards 1 = .ok (.getfield 11, 3) := by decide +kernel
theorem dX0_boards_4 : decode cX0_boards 4 = .ok (.iconst 4, 1) := by decide +kernel
theorem dX0_boards_5 : decode cX0_boards 5 = .ok (.iaload, 1) := by decide +kernel
theorem dX0_boards_6 : decode cX0_boards 6 = .ok (.ireturn, 1) := by decide +kernel
theorem dX0_isBoard_0 : decode cX0_isBoard 0 = .ok (.iload_n 1, 1) := by decide +kernel
theorem dX0_isBoard_1 : decode cX0_isBoard 1 = .ok (.ifCond .lt 17, 3) := by decide +kernel
theorem dX0_isBoard_4 : decode cX0_isBoard 4 = .ok (.iload_n 1, 1) := by decide +kernel
theorem dX0_isBoard_5 : decode cX0_isBoard 5 = .ok (.aload_n 0, 1) := by decide +kernel
theorem dX0_isBoard_6 : decode cX0_isBoard 6 = .ok (.getfield 11, 3) := by decide +kernel
theorem dX0_isBoard_9 : decode cX0_isBoard 9 = .ok (.iconst 4, 1) := by decide +kernel
theorem dX0_isBoard_10 : decode cX0_isBoard 10 = .ok (.iaload, 1) := by decide +kernel
theorem dX0_isBoard_11 : decode cX0_isBoard 11 = .ok (.if_icmp .ge 7, 3) := by decide +kernel
theorem dX0_isBoard_14 : decode cX0_isBoard 14 = .ok (.iconst 1, 1) := by decide +kernel
theorem dX0_isBoard_15 : decode cX0_isBoard 15 = .ok (.goto 4, 3) := by decide +kernel
theorem dX0_isBoard_18 : decode cX0_isBoard 18 = .ok (.iconst 0, 1) := by decide +kernel
theorem dX0_isBoard_19 : decode cX0_isBoard 19 = .ok (.ireturn, 1) := by decide +kernel
theorem dX0_isLoad_0 : decode cX0_isLoad 0 = .ok (.iload_n 1, 1) := by decide +kernel
theorem dX0_isLoad_1 : decode cX0_isLoad 1 = .ok (.ifCond .lt 17, 3) := by decide +kernel
theorem dX0_isLoad_4 : decode cX0_isLoad 4 = .ok (.iload_n 1, 1) := by decide +kernel
theorem dX0_isLoad_5 : decode cX0_isLoad 5 = .ok (.aload_n 0, 1) := by decide +kernel
theorem dX0_isLoad_6 : decode cX0_isLoad 6 = .ok (.getfield 11, 3) := by decide +kernel
theorem dX0_isLoad_9 : decode cX0_isLoad 9 = .ok (.iconst 5, 1) := by decide +kernel
theorem dX0_isLoad_10 : decode cX0_isLoad 10 = .ok (.iaload, 1) := by decide +kernel
theorem dX0_isLoad_11 : decode cX0_isLoad 11 = .ok (.if_icmp .ge 7, 3) := by decide +kernel
theorem dX0_isLoad_14 : decode cX0_isLoad 14 = .ok (.iconst 1, 1) := by decide +kernel
theorem dX0_isLoad_15 : decode cX0_isLoad 15 = .ok (.goto 4, 3) := by decide +kernel
theorem dX0_isLoad_18 : decode cX0_isLoad 18 = .ok (.iconst 0, 1) := by decide +kernel
theorem dX0_isLoad_19 : decode cX0_isLoad 19 = .ok (.ireturn, 1) := by decide +kernel
theorem dX0_rating_0 : decode cX0_rating 0 = .ok (.aload_n 0, 1) := by decide +kernel
theorem dX0_rating_1 : decode cX0_rating 1 = .ok (.iload_n 1, 1) := by decide +kernel
theorem dX0_rating_2 : decode cX0_rating 2 = .ok (.invokevirtual 24, 3) := by decide +kernel
theorem dX0_rating_5 : decode cX0_rating 5 = .ok (.ifCond .eq 15, 3) := by decide +kernel
theorem dX0_rating_8 : decode cX0_rating 8 = .ok (.aload_n 0, 1) := by decide +kernel
theorem dX0_rating_9 : decode cX0_rating 9 = .ok (.getfield 11, 3) := by decide +kernel
theorem dX0_rating_12 : decode cX0_rating 12 = .ok (.bipush 27, 2) := by decide +kernel
theorem dX0_rating_14 : decode cX0_rating 14 = .ok (.iload_n 1, 1) := by decide +kernel
theorem dX0_rating_15 : decode cX0_rating 15 = .ok (.iadd, 1) := by decide +kernel
theorem dX0_rating_16 : decode cX0_rating 16 = .ok (.iaload, 1) := by decide +kernel
theorem dX0_rating_17 : decode cX0_rating 17 = .ok (.goto 4, 3) := by decide +kernel
theorem dX0_rating_20 : decode cX0_rating 20 = .ok (.iconst 0, 1) := by decide +kernel
theorem dX0_rating_21 : decode cX0_rating 21 = .ok (.ireturn, 1) := by decide +kernel
theorem dX0_changeSetting_0 : decode cX0_changeSetting 0 = .ok (.iload_n 1, 1) := by decide +kernel
theorem dX0_changeSetting_1 : decode cX0_changeSetting 1 = .ok (.ifCond .lt 8, 3) := by decide +kernel
theorem dX0_changeSetting_4 : decode cX0_changeSetting 4 = .ok (.iload_n 1, 1) := by decide +kernel
theorem dX0_changeSetting_5 : decode cX0_changeSetting 5 = .ok (.iconst 2, 1) := by decide +kernel
theorem dX0_changeSetting_6 : decode cX0_changeSetting 6 = .ok (.if_icmp .le 6, 3) := by decide +kernel
theorem dX0_changeSetting_9 : decode cX0_changeSetting 9 = .ok (.bipush (-2), 2) := by decide +kernel
theorem dX0_changeSetting_11 : decode cX0_changeSetting 11 = .ok (.ireturn, 1) := by decide +kernel
theorem dX0_changeSetting_12 : decode cX0_changeSetting 12 = .ok (.iload_n 2, 1) := by decide +kernel
theorem dX0_changeSetting_13 : decode cX0_changeSetting 13 = .ok (.getstatic 28, 3) := by decide +kernel
theorem dX0_changeSetting_16 : decode cX0_changeSetting 16 = .ok (.iload_n 1, 1) := by decide +kernel
theorem dX0_changeSetting_17 : decode cX0_changeSetting 17 = .ok (.iaload, 1) := by decide +kernel
theorem dX0_changeSetting_18 : decode cX0_changeSetting 18 = .ok (.if_icmp .lt 12, 3) := by decide +kernel
theorem dX0_changeSetting_21 : decode cX0_changeSetting 21 = .ok (.iload_n 2, 1) := by decide +kernel
theorem dX0_changeSetting_22 : decode cX0_changeSetting 22 = .ok (.getstatic 31, 3) := by decide +kernel
theorem dX0_changeSetting_25 : decode cX0_changeSetting 25 = .ok (.iload_n 1, 1) := by decide +kernel
theorem dX0_changeSetting_26 : decode cX0_changeSetting 26 = .ok (.iaload, 1) := by decide +kernel
theorem dX0_changeSetting_27 : decode cX0_changeSetting 27 = .ok (.if_icmp .le 6, 3) := by decide +kernel
theorem dX0_changeSetting_30 : decode cX0_changeSetting 30 = .ok (.bipush (-2), 2) := by decide +kernel
theorem dX0_changeSetting_32 : decode cX0_changeSetting 32 = .ok (.ireturn, 1) := by decide +kernel
theorem dX0_changeSetting_33 : decode cX0_changeSetting 33 = .ok (.aload_n 0, 1) := by decide +kernel
theorem dX0_changeSetting_34 : decode cX0_changeSetting 34 = .ok (.getfield 11, 3) := by decide +kernel
theorem dX0_changeSetting_37 : decode cX0_changeSetting 37 = .ok (.iload_n 1, 1) := by decide +kernel
theorem dX0_changeSetting_38 : decode cX0_changeSetting 38 = .ok (.iaload, 1) := by decide +kernel
theorem dX0_changeSetting_39 : decode cX0_changeSetting 39 = .ok (.istore_n 3, 1) := by decide +kernel
theorem dX0_changeSetting_40 : decode cX0_changeSetting 40 = .ok (.aload_n 0, 1) := by decide +kernel
theorem dX0_changeSetting_41 : decode cX0_changeSetting 41 = .ok (.getfield 11, 3) := by decide +kernel
theorem dX0_changeSetting_44 : decode cX0_changeSetting 44 = .ok (.iload_n 1, 1) := by decide +kernel
theorem dX0_changeSetting_45 : decode cX0_changeSetting 45 = .ok (.iload_n 2, 1) := by decide +kernel
theorem dX0_changeSetting_46 : decode cX0_changeSetting 46 = .ok (.iastore, 1) := by decide +kernel
theorem dX0_changeSetting_47 : decode cX0_changeSetting 47 = .ok (.iload_n 3, 1) := by decide +kernel
theorem dX0_changeSetting_48 : decode cX0_changeSetting 48 = .ok (.ireturn, 1) := by decide +kernel
theorem dX0_addBoard_0 : decode cX0_addBoard 0 = .ok (.aload_n 0, 1) := by decide +kernel
theorem dX0_addBoard_1 : decode cX0_addBoard 1 = .ok (.getfield 11, 3) := by decide +kernel
theorem dX0_addBoard_4 : decode cX0_addBoard 4 = .ok (.iconst 4, 1) := by decide +kernel
theorem dX0_addBoard_5 : decode cX0_addBoard 5 = .ok (.iaload, 1) := by decide +kernel
theorem dX0_addBoard_6 : decode cX0_addBoard 6 = .ok (.istore 4, 2) := by decide +kernel
theorem dX0_addBoard_8 : decode cX0_addBoard 8 = .ok (.iload 4, 2) := by decide +kernel
theorem dX0_addBoard_10 : decode cX0_addBoard 10 = .ok (.ifCond .le 13, 3) := by decide +kernel
theorem dX0_addBoard_13 : decode cX0_addBoard 13 = .ok (.aload_n 0, 1) := by decide +kernel
theorem dX0_addBoard_14 : decode cX0_addBoard 14 = .ok (.iload_n 1, 1) := by decide +kernel
theorem dX0_addBoard_15 : decode cX0_addBoard 15 = .ok (.invokevirtual 24, 3) := by decide +kernel
theorem dX0_addBoard_18 : decode cX0_addBoard 18 = .ok (.ifCond .ne 5, 3) := by decide +kernel
theorem dX0_addBoard_21 : decode cX0_addBoard 21 = .ok (.iconst (-1), 1) := by decide +kernel
theorem dX0_addBoard_22 : decode cX0_addBoard 22 = .ok (.ireturn, 1) := by decide +kernel
theorem dX0_addBoard_23 : decode cX0_addBoard 23 = .ok (.iload_n 2, 1) := by decide +kernel
theorem dX0_addBoard_24 : decode cX0_addBoard 24 = .ok (.iload_n 3, 1) := by decide +kernel
theorem dX0_addBoard_25 : decode cX0_addBoard 25 = .ok (.invokestatic 34, 3) := by decide +kernel
theorem dX0_addBoard_28 : decode cX0_addBoard 28 = .ok (.ifCond .ne 6, 3) := by decide +kernel
theorem dX0_addBoard_31 : decode cX0_addBoard 31 = .ok (.bipush (-2), 2) := by decide +kernel
theorem dX0_addBoard_33 : decode cX0_addBoard 33 = .ok (.ireturn, 1) := by decide +kernel
theorem dX0_addBoard_34 : decode cX0_addBoard 34 = .ok (.iload 4, 2) := by decide +kernel
theorem dX0_addBoard_36 : decode cX0_addBoard 36 = .ok (.bipush 10, 2) := by decide +kernel
theorem dX0_addBoard_38 : decode cX0_addBoard 38 = .ok (.if_icmp .lt 6, 3) := by decide +kernel
theorem dX0_addBoard_41 : decode cX0_addBoard 41 = .ok (.bipush (-4), 2) := by decide +kernel
theorem dX0_addBoard_43 : decode cX0_addBoard 43 = .ok (.ireturn, 1) := by decide +kernel
theorem dX0_addBoard_44 : decode cX0_addBoard 44 = .ok (.aload_n 0, 1) := by decide +kernel
theorem dX0_addBoard_45 : decode cX0_addBoard 45 = .ok (.getfield 11, 3) := by decide +kernel
theorem dX0_addBoard_48 : decode cX0_addBoard 48 = .ok (.bipush 17, 2) := by decide +kernel
theorem dX0_addBoard_50 : decode cX0_addBoard 50 = .ok (.iload 4, 2) := by decide +kernel
theorem dX0_addBoard_52 : decode cX0_addBoard 52 = .ok (.iadd, 1) := by decide +kernel
theorem dX0_addBoard_53 : decode cX0_addBoard 53 = .ok (.iload 4, 2) := by decide +kernel
theorem dX0_addBoard_55 : decode cX0_addBoard 55 = .ok (.ifCond .ne 7, 3) := by decide +kernel
theorem dX0_addBoard_58 : decode cX0_addBoard 58 = .ok (.iconst 0, 1) := by decide +kernel
theorem dX0_addBoard_59 : decode cX0_addBoard 59 = .ok (.goto 4, 3) := by decide +kernel
theorem dX0_addBoard_62 : decode cX0_addBoard 62 = .ok (.iload_n 1, 1) := by decide +kernel
theorem dX0_addBoard_63 : decode cX0_addBoard 63 = .ok (.iastore, 1) := by decide +kernel
theorem dX0_addBoard_64 : decode cX0_addBoard 64 = .ok (.aload_n 0, 1) := by decide +kernel
theorem dX0_addBoard_65 : decode cX0_addBoard 65 = .ok (.iload 4, 2) := by decide +kernel
theorem dX0_addBoard_67 : decode cX0_addBoard 67 = .ok (.iload_n 2, 1) := by decide +kernel
theorem dX0_addBoard_68 : decode cX0_addBoard 68 = .ok (.iload_n 3, 1) := by decide +kernel
theorem dX0_addBoard_69 : decode cX0_addBoard 69 = .ok (.invokevirtual 38, 3) := by decide +kernel
theorem dX0_addBoard_72 : decode cX0_addBoard 72 = .ok (.aload_n 0, 1) := by decide +kernel
theorem dX0_addBoard_73 : decode cX0_addBoard 73 = .ok (.getfield 11, 3) := by decide +kernel
theorem dX0_addBoard_76 : decode cX0_addBoard 76 = .ok (.iconst 4, 1) := by decide +kernel
theorem dX0_addBoard_77 : decode cX0_addBoard 77 = .ok (.iload 4, 2) := by decide +kernel
theorem dX0_addBoard_79 : decode cX0_addBoard 79 = .ok (.iconst 1, 1) := by decide +kernel
theorem dX0_addBoard_80 : decode cX0_addBoard 80 = .ok (.iadd, 1) := by decide +kernel
theorem dX0_addBoard_81 : decode cX0_addBoard 81 = .ok (.iastore, 1) := by decide +kernel
theorem dX0_addBoard_82 : decode cX0_addBoard 82 = .ok (.iload 4, 2) := by decide +kernel
theorem dX0_addBoard_84 : decode cX0_addBoard 84 = .ok (.ireturn, 1) := by decide +kernel
theorem dX0_addLoad_0 : decode cX0_addLoad 0 = .ok (.aload_n 0, 1) := by decide +kernel
theorem dX0_addLoad_1 : decode cX0_addLoad 1 = .ok (.getfield 11, 3) := by decide +kernel
theorem dX0_addLoad_4 : decode cX0_addLoad 4 = .ok (.iconst 5, 1) := by decide +kernel
theorem dX0_addLoad_5 : decode cX0_addLoad 5 = .ok (.iaload, 1) := by decide +kernel
theorem dX0_addLoad_6 : decode cX0_addLoad 6 = .ok (.istore_n 3, 1) := by decide +kernel
theorem dX0_addLoad_7 : decode cX0_addLoad 7 = .ok (.aload_n 0, 1) := by decide +kernel
theorem dX0_addLoad_8 : decode cX0_addLoad 8 = .ok (.iload_n 1, 1) := by decide +kernel
theorem dX0_addLoad_9 : decode cX0_addLoad 9 = .ok (.invokevirtual 24, 3) := by decide +kernel
theorem dX0_addLoad_12 : decode cX0_addLoad 12 = .ok (.ifCond .ne 5, 3) := by decide +kernel
theorem dX0_addLoad_15 : decode cX0_addLoad 15 = .ok (.iconst (-1), 1) := by decide +kernel
theorem dX0_addLoad_16 : decode cX0_addLoad 16 = .ok (.ireturn, 1) := by decide +kernel
theorem dX0_addLoad_17 : decode cX0_addLoad 17 = .ok (.iload_n 2, 1) := by decide +kernel
theorem dX0_addLoad_18 : decode cX0_addLoad 18 = .ok (.iconst 1, 1) := by decide +kernel
theorem dX0_addLoad_19 : decode cX0_addLoad 19 = .ok (.if_icmp .lt 10, 3) := by decide +kernel
theorem dX0_addLoad_22 : decode cX0_addLoad 22 = .ok (.iload_n 2, 1) := by decide +kernel
theorem dX0_addLoad_23 : decode cX0_addLoad 23 = .ok (.sipush 200, 3) := by decide +kernel
theorem dX0_addLoad_26 : decode cX0_addLoad 26 = .ok (.if_icmp .le 6, 3) := by decide +kernel
theorem dX0_addLoad_29 : decode cX0_addLoad 29 = .ok (.bipush (-2), 2) := by decide +kernel
theorem dX0_addLoad_31 : decode cX0_addLoad 31 = .ok (.ireturn, 1) := by decide +kernel
theorem dX0_addLoad_32 : decode cX0_addLoad 32 = .ok (.iload_n 3, 1) := by decide +kernel
theorem dX0_addLoad_33 : decode cX0_addLoad 33 = .ok (.bipush 14, 2) := by decide +kernel
theorem dX0_addLoad_35 : decode cX0_addLoad 35 = .ok (.if_icmp .lt 6, 3) := by decide +kernel
theorem dX0_addLoad_38 : decode cX0_addLoad 38 = .ok (.bipush (-4), 2) := by decide +kernel
theorem dX0_addLoad_40 : decode cX0_addLoad 40 = .ok (.ireturn, 1) := by decide +kernel
theorem dX0_addLoad_41 : decode cX0_addLoad 41 = .ok (.aload_n 0, 1) := by decide +kernel
theorem dX0_addLoad_42 : decode cX0_addLoad 42 = .ok (.getfield 11, 3) := by decide +kernel
theorem dX0_addLoad_45 : decode cX0_addLoad 45 = .ok (.bipush 97, 2) := by decide +kernel
theorem dX0_addLoad_47 : decode cX0_addLoad 47 = .ok (.iload_n 3, 1) := by decide +kernel
theorem dX0_addLoad_48 : decode cX0_addLoad 48 = .ok (.iadd, 1) := by decide +kernel
theorem dX0_addLoad_49 : decode cX0_addLoad 49 = .ok (.iload_n 1, 1) := by decide +kernel
theorem dX0_addLoad_50 : decode cX0_addLoad 50 = .ok (.iastore, 1) := by decide +kernel
theorem dX0_addLoad_51 : decode cX0_addLoad 51 = .ok (.aload_n 0, 1) := by decide +kernel
theorem dX0_addLoad_52 : decode cX0_addLoad 52 = .ok (.getfield 11, 3) := by decide +kernel
theorem dX0_addLoad_55 : decode cX0_addLoad 55 = .ok (.bipush 111, 2) := by decide +kernel
theorem dX0_addLoad_57 : decode cX0_addLoad 57 = .ok (.iload_n 3, 1) := by decide +kernel
theorem dX0_addLoad_58 : decode cX0_addLoad 58 = .ok (.iadd, 1) := by decide +kernel
theorem dX0_addLoad_59 : decode cX0_addLoad 59 = .ok (.iload_n 2, 1) := by decide +kernel
theorem dX0_addLoad_60 : decode cX0_addLoad 60 = .ok (.iastore, 1) := by decide +kernel
theorem dX0_addLoad_61 : decode cX0_addLoad 61 = .ok (.aload_n 0, 1) := by decide +kernel
theorem dX0_addLoad_62 : decode cX0_addLoad 62 = .ok (.getfield 11, 3) := by decide +kernel
theorem dX0_addLoad_65 : decode cX0_addLoad 65 = .ok (.iconst 5, 1) := by decide +kernel
theorem dX0_addLoad_66 : decode cX0_addLoad 66 = .ok (.iload_n 3, 1) := by decide +kernel
theorem dX0_addLoad_67 : decode cX0_addLoad 67 = .ok (.iconst 1, 1) := by decide +kernel
theorem dX0_addLoad_68 : decode cX0_addLoad 68 = .ok (.iadd, 1) := by decide +kernel
theorem dX0_addLoad_69 : decode cX0_addLoad 69 = .ok (.iastore, 1) := by decide +kernel
theorem dX0_addLoad_70 : decode cX0_addLoad 70 = .ok (.iload_n 3, 1) := by decide +kernel
theorem dX0_addLoad_71 : decode cX0_addLoad 71 = .ok (.ireturn, 1) := by decide +kernel
theorem dX0_switchLoad_0 : decode cX0_switchLoad 0 = .ok (.aload_n 0, 1) := by decide +kernel
theorem dX0_switchLoad_1 : decode cX0_switchLoad 1 = .ok (.iload_n 1, 1) := by decide +kernel
theorem dX0_switchLoad_2 : decode cX0_switchLoad 2 = .ok (.invokevirtual 42, 3) := by decide +kernel
theorem dX0_switchLoad_5 : decode cX0_switchLoad 5 = .ok (.ifCond .ne 5, 3) := by decide +kernel
theorem dX0_switchLoad_8 : decode cX0_switchLoad 8 = .ok (.iconst (-1), 1) := by decide +kernel
theorem dX0_switchLoad_9 : decode cX0_switchLoad 9 = .ok (.ireturn, 1) := by decide +kernel
theorem dX0_switchLoad_10 : decode cX0_switchLoad 10 = .ok (.aload_n 0, 1) := by decide +kernel
theorem dX0_switchLoad_11 : decode cX0_switchLoad 11 = .ok (.getfield 11, 3) := by decide +kernel
theorem dX0_switchLoad_14 : decode cX0_switchLoad 14 = .ok (.bipush 6, 2) := by decide +kernel
theorem dX0_switchLoad_16 : decode cX0_switchLoad 16 = .ok (.dup2, 1) := by decide +kernel
theorem dX0_switchLoad_17 : decode cX0_switchLoad 17 = .ok (.iaload, 1) := by decide +kernel
theorem dX0_switchLoad_18 : decode cX0_switchLoad 18 = .ok (.iconst 1, 1) := by decide +kernel
theorem dX0_switchLoad_19 : decode cX0_switchLoad 19 = .ok (.iload_n 1, 1) := by decide +kernel
theorem dX0_switchLoad_20 : decode cX0_switchLoad 20 = .ok (.ishl, 1) := by decide +kernel
theorem dX0_switchLoad_21 : decode cX0_switchLoad 21 = .ok (.ixor, 1) := by decide +kernel
theorem dX0_switchLoad_22 : decode cX0_switchLoad 22 = .ok (.iastore, 1) := by decide +kernel
theorem dX0_switchLoad_23 : decode cX0_switchLoad 23 = .ok (.aload_n 0, 1) := by decide +kernel
theorem dX0_switchLoad_24 : decode cX0_switchLoad 24 = .ok (.getfield 11, 3) := by decide +kernel
theorem dX0_switchLoad_27 : decode cX0_switchLoad 27 = .ok (.bipush 6, 2) := by decide +kernel
theorem dX0_switchLoad_29 : decode cX0_switchLoad 29 = .ok (.iaload, 1) := by decide +kernel
theorem dX0_switchLoad_30 : decode cX0_switchLoad 30 = .ok (.iload_n 1, 1) := by decide +kernel
theorem dX0_switchLoad_31 : decode cX0_switchLoad 31 = .ok (.ishr, 1) := by decide +kernel
theorem dX0_switchLoad_32 : decode cX0_switchLoad 32 = .ok (.iconst 1, 1) := by decide +kernel
theorem dX0_switchLoad_33 : decode cX0_switchLoad 33 = .ok (.iand, 1) := by decide +kernel
theorem dX0_switchLoad_34 : decode cX0_switchLoad 34 = .ok (.ireturn, 1) := by decide +kernel
theorem dX0_changeFuse_0 : decode cX0_changeFuse 0 = .ok (.aload_n 0, 1) := by decide +kernel
theorem dX0_changeFuse_1 : decode cX0_changeFuse 1 = .ok (.iload_n 1, 1) := by decide +kernel
theorem dX0_changeFuse_2 : decode cX0_changeFuse 2 = .ok (.invokevirtual 24, 3) := by decide +kernel
theorem dX0_changeFuse_5 : decode cX0_changeFuse 5 = .ok (.ifCond .ne 5, 3) := by decide +kernel
theorem dX0_changeFuse_8 : decode cX0_changeFuse 8 = .ok (.iconst (-1), 1) := by decide +kernel
theorem dX0_changeFuse_9 : decode cX0_changeFuse 9 = .ok (.ireturn, 1) := by decide +kernel
theorem dX0_changeFuse_10 : decode cX0_changeFuse 10 = .ok (.iload_n 2, 1) := by decide +kernel
theorem dX0_changeFuse_11 : decode cX0_changeFuse 11 = .ok (.iload_n 3, 1) := by decide +kernel
theorem dX0_changeFuse_12 : decode cX0_changeFuse 12 = .ok (.invokestatic 34, 3) := by decide +kernel
theorem dX0_changeFuse_15 : decode cX0_changeFuse 15 = .ok (.ifCond .ne 6, 3) := by decide +kernel
theorem dX0_changeFuse_18 : decode cX0_changeFuse 18 = .ok (.bipush (-2), 2) := by decide +kernel
theorem dX0_changeFuse_20 : decode cX0_changeFuse 20 = .ok (.ireturn, 1) := by decide +kernel
theorem dX0_changeFuse_21 : decode cX0_changeFuse 21 = .ok (.aload_n 0, 1) := by decide +kernel
theorem dX0_changeFuse_22 : decode cX0_changeFuse 22 = .ok (.getfield 11, 3) := by decide +kernel
theorem dX0_changeFuse_25 : decode cX0_changeFuse 25 = .ok (.bipush 47, 2) := by decide +kernel
theorem dX0_changeFuse_27 : decode cX0_changeFuse 27 = .ok (.iload_n 1, 1) := by decide +kernel
theorem dX0_changeFuse_28 : decode cX0_changeFuse 28 = .ok (.iadd, 1) := by decide +kernel
theorem dX0_changeFuse_29 : decode cX0_changeFuse 29 = .ok (.iaload, 1) := by decide +kernel
theorem dX0_changeFuse_30 : decode cX0_changeFuse 30 = .ok (.ifCond .le 6, 3) := by decide +kernel
theorem dX0_changeFuse_33 : decode cX0_changeFuse 33 = .ok (.bipush (-5), 2) := by decide +kernel
theorem dX0_changeFuse_35 : decode cX0_changeFuse 35 = .ok (.ireturn, 1) := by decide +kernel
theorem dX0_changeFuse_36 : decode cX0_changeFuse 36 = .ok (.aload_n 0, 1) := by decide +kernel
theorem dX0_changeFuse_37 : decode cX0_changeFuse 37 = .ok (.getfield 11, 3) := by decide +kernel
theorem dX0_changeFuse_40 : decode cX0_changeFuse 40 = .ok (.bipush 27, 2) := by decide +kernel
theorem dX0_changeFuse_42 : decode cX0_changeFuse 42 = .ok (.iload_n 1, 1) := by decide +kernel
theorem dX0_changeFuse_43 : decode cX0_changeFuse 43 = .ok (.iadd, 1) := by decide +kernel
theorem dX0_changeFuse_44 : decode cX0_changeFuse 44 = .ok (.iaload, 1) := by decide +kernel
theorem dX0_changeFuse_45 : decode cX0_changeFuse 45 = .ok (.istore 4, 2) := by decide +kernel
theorem dX0_changeFuse_47 : decode cX0_changeFuse 47 = .ok (.aload_n 0, 1) := by decide +kernel
theorem dX0_changeFuse_48 : decode cX0_changeFuse 48 = .ok (.iload_n 1, 1) := by decide +kernel
theorem dX0_changeFuse_49 : decode cX0_changeFuse 49 = .ok (.iload_n 2, 1) := by decide +kernel
theorem dX0_changeFuse_50 : decode cX0_changeFuse 50 = .ok (.iload_n 3, 1) := by decide +kernel
theorem dX0_changeFuse_51 : decode cX0_changeFuse 51 = .ok (.invokevirtual 38, 3) := by decide +kernel
theorem dX0_changeFuse_54 : decode cX0_changeFuse 54 = .ok (.iload 4, 2) := by decide +kernel
theorem dX0_changeFuse_56 : decode cX0_changeFuse 56 = .ok (.ireturn, 1) := by decide +kernel
theorem dX0_letPass_0 : decode cX0_letPass 0 = .ok (.iload_n 1, 1) := by decide +kernel
theorem dX0_letPass_1 : decode cX0_letPass 1 = .ok (.iconst 1, 1) := by decide +kernel
theorem dX0_letPass_2 : decode cX0_letPass 2 = .ok (.if_icmp .lt 9, 3) := by decide +kernel
theorem dX0_letPass_5 : decode cX0_letPass 5 = .ok (.iload_n 1, 1) := by decide +kernel
theorem dX0_letPass_6 : decode cX0_letPass 6 = .ok (.bipush 99, 2) := by decide +kernel
theorem dX0_letPass_8 : decode cX0_letPass 8 = .ok (.if_icmp .le 6, 3) := by decide +kernel
theorem dX0_letPass_11 : decode cX0_letPass 11 = .ok (.bipush (-2), 2) := by decide +kernel
theorem dX0_letPass_13 : decode cX0_letPass 13 = .ok (.ireturn, 1) := by decide +kernel
theorem dX0_letPass_14 : decode cX0_letPass 14 = .ok (.aload_n 0, 1) := by decide +kernel
theorem dX0_letPass_15 : decode cX0_letPass 15 = .ok (.getfield 11, 3) := by decide +kernel
theorem dX0_letPass_18 : decode cX0_letPass 18 = .ok (.iconst 3, 1) := by decide +kernel
theorem dX0_letPass_19 : decode cX0_letPass 19 = .ok (.iaload, 1) := by decide +kernel
theorem dX0_letPass_20 : decode cX0_letPass 20 = .ok (.iload_n 1, 1) := by decide +kernel
theorem dX0_letPass_21 : decode cX0_letPass 21 = .ok (.iadd, 1) := by decide +kernel
theorem dX0_letPass_22 : decode cX0_letPass 22 = .ok (.sipush 9999, 3) := by decide +kernel
theorem dX0_letPass_25 : decode cX0_letPass 25 = .ok (.if_icmp .le 6, 3) := by decide +kernel
theorem dX0_letPass_28 : decode cX0_letPass 28 = .ok (.bipush (-5), 2) := by decide +kernel
theorem dX0_letPass_30 : decode cX0_letPass 30 = .ok (.ireturn, 1) := by decide +kernel
theorem dX0_letPass_31 : decode cX0_letPass 31 = .ok (.iconst 0, 1) := by decide +kernel
theorem dX0_letPass_32 : decode cX0_letPass 32 = .ok (.istore_n 2, 1) := by decide +kernel
theorem dX0_letPass_33 : decode cX0_letPass 33 = .ok (.iconst 0, 1) := by decide +kernel
theorem dX0_letPass_34 : decode cX0_letPass 34 = .ok (.istore_n 3, 1) := by decide +kernel
theorem dX0_letPass_35 : decode cX0_letPass 35 = .ok (.iload_n 3, 1) := by decide +kernel
theorem dX0_letPass_36 : decode cX0_letPass 36 = .ok (.iload_n 1, 1) := by decide +kernel
theorem dX0_letPass_37 : decode cX0_letPass 37 = .ok (.if_icmp .ge 19, 3) := by decide +kernel
theorem dX0_letPass_40 : decode cX0_letPass 40 = .ok (.iload_n 2, 1) := by decide +kernel
theorem dX0_letPass_41 : decode cX0_letPass 41 = .ok (.aload_n 0, 1) := by decide +kernel
theorem dX0_letPass_42 : decode cX0_letPass 42 = .ok (.invokevirtual 45, 3) := by decide +kernel
theorem dX0_letPass_45 : decode cX0_letPass 45 = .ok (.invokestatic 49, 3) := by decide +kernel
theorem dX0_letPass_48 : decode cX0_letPass 48 = .ok (.iadd, 1) := by decide +kernel
theorem dX0_letPass_49 : decode cX0_letPass 49 = .ok (.istore_n 2, 1) := by decide +kernel
theorem dX0_letPass_50 : decode cX0_letPass 50 = .ok (.iinc 3 1, 3) := by decide +kernel
theorem dX0_letPass_53 : decode cX0_letPass 53 = .ok (.goto (-18), 3) := by decide +kernel
theorem dX0_letPass_56 : decode cX0_letPass 56 = .ok (.iload_n 2, 1) := by decide +kernel
theorem dX0_letPass_57 : decode cX0_letPass 57 = .ok (.ireturn, 1) := by decide +kernel
theorem dX0_leaveOnlyFault_0 : decode cX0_leaveOnlyFault 0 = .ok (.aload_n 0, 1) := by decide +kernel
theorem dX0_leaveOnlyFault_1 : decode cX0_leaveOnlyFault 1 = .ok (.getfield 11, 3) := by decide +kernel
theorem dX0_leaveOnlyFault_4 : decode cX0_leaveOnlyFault 4 = .ok (.bipush 57, 2) := by decide +kernel
theorem dX0_leaveOnlyFault_6 : decode cX0_leaveOnlyFault 6 = .ok (.bipush 67, 2) := by decide +kernel
theorem dX0_leaveOnlyFault_8 : decode cX0_leaveOnlyFault 8 = .ok (.iconst 0, 1) := by decide +kernel
theorem dX0_leaveOnlyFault_9 : decode cX0_leaveOnlyFault 9 = .ok (.invokestatic 55, 3) := by decide +kernel
theorem dX0_leaveOnlyFault_12 : decode cX0_leaveOnlyFault 12 = .ok (.aload_n 0, 1) := by decide +kernel
theorem dX0_leaveOnlyFault_13 : decode cX0_leaveOnlyFault 13 = .ok (.getfield 11, 3) := by decide +kernel
theorem dX0_leaveOnlyFault_16 : decode cX0_leaveOnlyFault 16 = .ok (.bipush 97, 2) := by decide +kernel
theorem dX0_leaveOnlyFault_18 : decode cX0_leaveOnlyFault 18 = .ok (.iload_n 1, 1) := by decide +kernel
theorem dX0_leaveOnlyFault_19 : decode cX0_leaveOnlyFault 19 = .ok (.iastore, 1) := by decide +kernel
theorem dX0_leaveOnlyFault_20 : decode cX0_leaveOnlyFault 20 = .ok (.aload_n 0, 1) := by decide +kernel
theorem dX0_leaveOnlyFault_21 : decode cX0_leaveOnlyFault 21 = .ok (.getfield 11, 3) := by decide +kernel
theorem dX0_leaveOnlyFault_24 : decode cX0_leaveOnlyFault 24 = .ok (.bipush 111, 2) := by decide +kernel
theorem dX0_leaveOnlyFault_26 : decode cX0_leaveOnlyFault 26 = .ok (.iload_n 2, 1) := by decide +kernel
theorem dX0_leaveOnlyFault_27 : decode cX0_leaveOnlyFault 27 = .ok (.iastore, 1) := by decide +kernel
theorem dX0_leaveOnlyFault_28 : decode cX0_leaveOnlyFault 28 = .ok (.aload_n 0, 1) := by decide +kernel
theorem dX0_leaveOnlyFault_29 : decode cX0_leaveOnlyFault 29 = .ok (.getfield 11, 3) := by decide +kernel
theorem dX0_leaveOnlyFault_32 : decode cX0_leaveOnlyFault 32 = .ok (.iconst 5, 1) := by decide +kernel
theorem dX0_leaveOnlyFault_33 : decode cX0_leaveOnlyFault 33 = .ok (.iconst 1, 1) := by decide +kernel
theorem dX0_leaveOnlyFault_34 : decode cX0_leaveOnlyFault 34 = .ok (.iastore, 1) := by decide +kernel
theorem dX0_leaveOnlyFault_35 : decode cX0_leaveOnlyFault 35 = .ok (.aload_n 0, 1) := by decide +kernel
theorem dX0_leaveOnlyFault_36 : decode cX0_leaveOnlyFault 36 = .ok (.getfield 11, 3) := by decide +kernel
theorem dX0_leaveOnlyFault_39 : decode cX0_leaveOnlyFault 39 = .ok (.bipush 6, 2) := by decide +kernel
theorem dX0_leaveOnlyFault_41 : decode cX0_leaveOnlyFault 41 = .ok (.iconst 1, 1) := by decide +kernel
theorem dX0_leaveOnlyFault_42 : decode cX0_leaveOnlyFault 42 = .ok (.iastore, 1) := by decide +kernel
theorem dX0_leaveOnlyFault_43 : decode cX0_leaveOnlyFault 43 = .ok (.return_, 1) := by decide +kernel
theorem dX0_isFuse_0 : decode cX0_isFuse 0 = .ok (.iload_n 0, 1) := by decide +kernel
theorem dX0_isFuse_1 : decode cX0_isFuse 1 = .ok (.iconst 1, 1) := by decide +kernel
theorem dX0_isFuse_2 : decode cX0_isFuse 2 = .ok (.if_icmp .lt 22, 3) := by decide +kernel
theorem dX0_isFuse_5 : decode cX0_isFuse 5 = .ok (.iload_n 0, 1) := by decide +kernel
theorem dX0_isFuse_6 : decode cX0_isFuse 6 = .ok (.bipush 100, 2) := by decide +kernel
theorem dX0_isFuse_8 : decode cX0_isFuse 8 = .ok (.if_icmp .gt 16, 3) := by decide +kernel
theorem dX0_isFuse_11 : decode cX0_isFuse 11 = .ok (.iload_n 1, 1) := by decide +kernel
theorem dX0_isFuse_12 : decode cX0_isFuse 12 = .ok (.ifCond .lt 12, 3) := by decide +kernel
theorem dX0_isFuse_15 : decode cX0_isFuse 15 = .ok (.iload_n 1, 1) := by decide +kernel
theorem dX0_isFuse_16 : decode cX0_isFuse 16 = .ok (.iconst 2, 1) := by decide +kernel
theorem dX0_isFuse_17 : decode cX0_isFuse 17 = .ok (.if_icmp .gt 7, 3) := by decide +kernel
theorem dX0_isFuse_20 : decode cX0_isFuse 20 = .ok (.iconst 1, 1) := by decide +kernel
theorem dX0_isFuse_21 : decode cX0_isFuse 21 = .ok (.goto 4, 3) := by decide +kernel
theorem dX0_isFuse_24 : decode cX0_isFuse 24 = .ok (.iconst 0, 1) := by decide +kernel
theorem dX0_isFuse_25 : decode cX0_isFuse 25 = .ok (.ireturn, 1) := by decide +kernel
theorem dX0_putNewFuse_0 : decode cX0_putNewFuse 0 = .ok (.aload_n 0, 1) := by decide +kernel
theorem dX0_putNewFuse_1 : decode cX0_putNewFuse 1 = .ok (.getfield 11, 3) := by decide +kernel
theorem dX0_putNewFuse_4 : decode cX0_putNewFuse 4 = .ok (.bipush 27, 2) := by decide +kernel
theorem dX0_putNewFuse_6 : decode cX0_putNewFuse 6 = .ok (.iload_n 1, 1) := by decide +kernel
theorem dX0_putNewFuse_7 : decode cX0_putNewFuse 7 = .ok (.iadd, 1) := by decide +kernel
theorem dX0_putNewFuse_8 : decode cX0_putNewFuse 8 = .ok (.iload_n 2, 1) := by decide +kernel
theorem dX0_putNewFuse_9 : decode cX0_putNewFuse 9 = .ok (.iastore, 1) := by decide +kernel
theorem dX0_putNewFuse_10 : decode cX0_putNewFuse 10 = .ok (.aload_n 0, 1) := by decide +kernel
theorem dX0_putNewFuse_11 : decode cX0_putNewFuse 11 = .ok (.getfield 11, 3) := by decide +kernel
theorem dX0_putNewFuse_14 : decode cX0_putNewFuse 14 = .ok (.bipush 37, 2) := by decide +kernel
theorem dX0_putNewFuse_16 : decode cX0_putNewFuse 16 = .ok (.iload_n 1, 1) := by decide +kernel
theorem dX0_putNewFuse_17 : decode cX0_putNewFuse 17 = .ok (.iadd, 1) := by decide +kernel
theorem dX0_putNewFuse_18 : decode cX0_putNewFuse 18 = .ok (.iload_n 3, 1) := by decide +kernel
theorem dX0_putNewFuse_19 : decode cX0_putNewFuse 19 = .ok (.iastore, 1) := by decide +kernel
theorem dX0_putNewFuse_20 : decode cX0_putNewFuse 20 = .ok (.aload_n 0, 1) := by decide +kernel
theorem dX0_putNewFuse_21 : decode cX0_putNewFuse 21 = .ok (.getfield 11, 3) := by decide +kernel
theorem dX0_putNewFuse_24 : decode cX0_putNewFuse 24 = .ok (.bipush 47, 2) := by decide +kernel
theorem dX0_putNewFuse_26 : decode cX0_putNewFuse 26 = .ok (.iload_n 1, 1) := by decide +kernel
theorem dX0_putNewFuse_27 : decode cX0_putNewFuse 27 = .ok (.iadd, 1) := by decide +kernel
theorem dX0_putNewFuse_28 : decode cX0_putNewFuse 28 = .ok (.iconst 0, 1) := by decide +kernel
theorem dX0_putNewFuse_29 : decode cX0_putNewFuse 29 = .ok (.iastore, 1) := by decide +kernel
theorem dX0_putNewFuse_30 : decode cX0_putNewFuse 30 = .ok (.aload_n 0, 1) := by decide +kernel
theorem dX0_putNewFuse_31 : decode cX0_putNewFuse 31 = .ok (.getfield 11, 3) := by decide +kernel
theorem dX0_putNewFuse_34 : decode cX0_putNewFuse 34 = .ok (.bipush 57, 2) := by decide +kernel
theorem dX0_putNewFuse_36 : decode cX0_putNewFuse 36 = .ok (.iload_n 1, 1) := by decide +kernel
theorem dX0_putNewFuse_37 : decode cX0_putNewFuse 37 = .ok (.iadd, 1) := by decide +kernel
theorem dX0_putNewFuse_38 : decode cX0_putNewFuse 38 = .ok (.iconst 0, 1) := by decide +kernel
theorem dX0_putNewFuse_39 : decode cX0_putNewFuse 39 = .ok (.iastore, 1) := by decide +kernel
theorem dX0_putNewFuse_40 : decode cX0_putNewFuse 40 = .ok (.aload_n 0, 1) := by decide +kernel
theorem dX0_putNewFuse_41 : decode cX0_putNewFuse 41 = .ok (.getfield 11, 3) := by decide +kernel
theorem dX0_putNewFuse_44 : decode cX0_putNewFuse 44 = .ok (.bipush 67, 2) := by decide +kernel
theorem dX0_putNewFuse_46 : decode cX0_putNewFuse 46 = .ok (.iload_n 1, 1) := by decide +kernel
theorem dX0_putNewFuse_47 : decode cX0_putNewFuse 47 = .ok (.iadd, 1) := by decide +kernel
theorem dX0_putNewFuse_48 : decode cX0_putNewFuse 48 = .ok (.iconst 0, 1) := by decide +kernel
theorem dX0_putNewFuse_49 : decode cX0_putNewFuse 49 = .ok (.iastore, 1) := by decide +kernel
theorem dX0_putNewFuse_50 : decode cX0_putNewFuse 50 = .ok (.aload_n 0, 1) := by decide +kernel
theorem dX0_putNewFuse_51 : decode cX0_putNewFuse 51 = .ok (.getfield 11, 3) := by decide +kernel
theorem dX0_putNewFuse_54 : decode cX0_putNewFuse 54 = .ok (.bipush 77, 2) := by decide +kernel
theorem dX0_putNewFuse_56 : decode cX0_putNewFuse 56 = .ok (.iload_n 1, 1) := by decide +kernel
theorem dX0_putNewFuse_57 : decode cX0_putNewFuse 57 = .ok (.iadd, 1) := by decide +kernel
theorem dX0_putNewFuse_58 : decode cX0_putNewFuse 58 = .ok (.iconst 0, 1) := by decide +kernel
theorem dX0_putNewFuse_59 : decode cX0_putNewFuse 59 = .ok (.iastore, 1) := by decide +kernel
theorem dX0_putNewFuse_60 : decode cX0_putNewFuse 60 = .ok (.aload_n 0, 1) := by decide +kernel
theorem dX0_putNewFuse_61 : decode cX0_putNewFuse 61 = .ok (.getfield 11, 3) := by decide +kernel
theorem dX0_putNewFuse_64 : decode cX0_putNewFuse 64 = .ok (.bipush 7, 2) := by decide +kernel
theorem dX0_putNewFuse_66 : decode cX0_putNewFuse 66 = .ok (.dup2, 1) := by decide +kernel
theorem dX0_putNewFuse_67 : decode cX0_putNewFuse 67 = .ok (.iaload, 1) := by decide +kernel
theorem dX0_putNewFuse_68 : decode cX0_putNewFuse 68 = .ok (.iconst 1, 1) := by decide +kernel
theorem dX0_putNewFuse_69 : decode cX0_putNewFuse 69 = .ok (.iload_n 1, 1) := by decide +kernel
theorem dX0_putNewFuse_70 : decode cX0_putNewFuse 70 = .ok (.ishl, 1) := by decide +kernel
theorem dX0_putNewFuse_71 : decode cX0_putNewFuse 71 = .ok (.iconst (-1), 1) := by decide +kernel
theorem dX0_putNewFuse_72 : decode cX0_putNewFuse 72 = .ok (.ixor, 1) := by decide +kernel
theorem dX0_putNewFuse_73 : decode cX0_putNewFuse 73 = .ok (.iand, 1) := by decide +kernel
theorem dX0_putNewFuse_74 : decode cX0_putNewFuse 74 = .ok (.iastore, 1) := by decide +kernel
theorem dX0_putNewFuse_75 : decode cX0_putNewFuse 75 = .ok (.return_, 1) := by decide +kernel
theorem dX0_tick_0 : decode cX0_tick 0 = .ok (.aload_n 0, 1) := by decide +kernel
theorem dX0_tick_1 : decode cX0_tick 1 = .ok (.invokevirtual 61, 3) := by decide +kernel
theorem dX0_tick_4 : decode cX0_tick 4 = .ok (.aload_n 0, 1) := by decide +kernel
theorem dX0_tick_5 : decode cX0_tick 5 = .ok (.invokevirtual 64, 3) := by decide +kernel
theorem dX0_tick_8 : decode cX0_tick 8 = .ok (.iconst 0, 1) := by decide +kernel
theorem dX0_tick_9 : decode cX0_tick 9 = .ok (.istore_n 1, 1) := by decide +kernel
theorem dX0_tick_10 : decode cX0_tick 10 = .ok (.iload_n 1, 1) := by decide +kernel
theorem dX0_tick_11 : decode cX0_tick 11 = .ok (.aload_n 0, 1) := by decide +kernel
theorem dX0_tick_12 : decode cX0_tick 12 = .ok (.getfield 11, 3) := by decide +kernel
theorem dX0_tick_15 : decode cX0_tick 15 = .ok (.iconst 4, 1) := by decide +kernel
theorem dX0_tick_16 : decode cX0_tick 16 = .ok (.iaload, 1) := by decide +kernel
theorem dX0_tick_17 : decode cX0_tick 17 = .ok (.if_icmp .ge 28, 3) := by decide +kernel
theorem dX0_tick_20 : decode cX0_tick 20 = .ok (.aload_n 0, 1) := by decide +kernel
theorem dX0_tick_21 : decode cX0_tick 21 = .ok (.iload_n 1, 1) := by decide +kernel
theorem dX0_tick_22 : decode cX0_tick 22 = .ok (.invokevirtual 67, 3) := by decide +kernel
theorem dX0_tick_25 : decode cX0_tick 25 = .ok (.ifCond .ne 14, 3) := by decide +kernel
theorem dX0_tick_28 : decode cX0_tick 28 = .ok (.aload_n 0, 1) := by decide +kernel
theorem dX0_tick_29 : decode cX0_tick 29 = .ok (.iload_n 1, 1) := by decide +kernel
theorem dX0_tick_30 : decode cX0_tick 30 = .ok (.aload_n 0, 1) := by decide +kernel
theorem dX0_tick_31 : decode cX0_tick 31 = .ok (.getfield 15, 3) := by decide +kernel
theorem dX0_tick_34 : decode cX0_tick 34 = .ok (.iload_n 1, 1) := by decide +kernel
theorem dX0_tick_35 : decode cX0_tick 35 = .ok (.iaload, 1) := by decide +kernel
theorem dX0_tick_36 : decode cX0_tick 36 = .ok (.invokevirtual 70, 3) := by decide +kernel
theorem dX0_tick_39 : decode cX0_tick 39 = .ok (.iinc 1 1, 3) := by decide +kernel
theorem dX0_tick_42 : decode cX0_tick 42 = .ok (.goto (-32), 3) := by decide +kernel
theorem dX0_tick_45 : decode cX0_tick 45 = .ok (.aload_n 0, 1) := by decide +kernel
theorem dX0_tick_46 : decode cX0_tick 46 = .ok (.aload_n 0, 1) := by decide +kernel
theorem dX0_tick_47 : decode cX0_tick 47 = .ok (.invokevirtual 74, 3) := by decide +kernel
theorem dX0_tick_50 : decode cX0_tick 50 = .ok (.invokevirtual 77, 3) := by decide +kernel
theorem dX0_tick_53 : decode cX0_tick 53 = .ok (.istore_n 1, 1) := by decide +kernel
theorem dX0_tick_54 : decode cX0_tick 54 = .ok (.iconst 0, 1) := by decide +kernel
theorem dX0_tick_55 : decode cX0_tick 55 = .ok (.istore_n 2, 1) := by decide +kernel
theorem dX0_tick_56 : decode cX0_tick 56 = .ok (.iload_n 2, 1) := by decide +kernel
theorem dX0_tick_57 : decode cX0_tick 57 = .ok (.aload_n 0, 1) := by decide +kernel
theorem dX0_tick_58 : decode cX0_tick 58 = .ok (.getfield 11, 3) := by decide +kernel
theorem dX0_tick_61 : decode cX0_tick 61 = .ok (.iconst 4, 1) := by decide +kernel
theorem dX0_tick_62 : decode cX0_tick 62 = .ok (.iaload, 1) := by decide +kernel
theorem dX0_tick_63 : decode cX0_tick 63 = .ok (.if_icmp .ge 22, 3) := by decide +kernel
theorem dX0_tick_66 : decode cX0_tick 66 = .ok (.iload_n 1, 1) := by decide +kernel
theorem dX0_tick_67 : decode cX0_tick 67 = .ok (.iload_n 2, 1) := by decide +kernel
theorem dX0_tick_68 : decode cX0_tick 68 = .ok (.ishr, 1) := by decide +kernel
theorem dX0_tick_69 : decode cX0_tick 69 = .ok (.iconst 1, 1) := by decide +kernel
theorem dX0_tick_70 : decode cX0_tick 70 = .ok (.iand, 1) := by decide +kernel
theorem dX0_tick_71 : decode cX0_tick 71 = .ok (.ifCond .eq 8, 3) := by decide +kernel
theorem dX0_tick_74 : decode cX0_tick 74 = .ok (.aload_n 0, 1) := by decide +kernel
theorem dX0_tick_75 : decode cX0_tick 75 = .ok (.iload_n 2, 1) := by decide +kernel
theorem dX0_tick_76 : decode cX0_tick 76 = .ok (.invokevirtual 80, 3) := by decide +kernel
theorem dX0_tick_79 : decode cX0_tick 79 = .ok (.iinc 2 1, 3) := by decide +kernel
theorem dX0_tick_82 : decode cX0_tick 82 = .ok (.goto (-26), 3) := by decide +kernel
theorem dX0_tick_85 : decode cX0_tick 85 = .ok (.aload_n 0, 1) := by decide +kernel
theorem dX0_tick_86 : decode cX0_tick 86 = .ok (.getfield 11, 3) := by decide +kernel
theorem dX0_tick_89 : decode cX0_tick 89 = .ok (.iconst 3, 1) := by decide +kernel
theorem dX0_tick_90 : decode cX0_tick 90 = .ok (.dup2, 1) := by decide +kernel
theorem dX0_tick_91 : decode cX0_tick 91 = .ok (.iaload, 1) := by decide +kernel
theorem dX0_tick_92 : decode cX0_tick 92 = .ok (.iconst 1, 1) := by decide +kernel
theorem dX0_tick_93 : decode cX0_tick 93 = .ok (.iadd, 1) := by decide +kernel
theorem dX0_tick_94 : decode cX0_tick 94 = .ok (.iastore, 1) := by decide +kernel
theorem dX0_tick_95 : decode cX0_tick 95 = .ok (.iload_n 1, 1) := by decide +kernel
theorem dX0_tick_96 : decode cX0_tick 96 = .ok (.ireturn, 1) := by decide +kernel
theorem dX0_addUpCurrents_0 : decode cX0_addUpCurrents 0 = .ok (.aload_n 0, 1) := by decide +kernel
theorem dX0_addUpCurrents_1 : decode cX0_addUpCurrents 1 = .ok (.getfield 15, 3) := by decide +kernel
theorem dX0_addUpCurrents_4 : decode cX0_addUpCurrents 4 = .ok (.iconst 0, 1) := by decide +kernel
theorem dX0_addUpCurrents_5 : decode cX0_addUpCurrents 5 = .ok (.invokestatic 84, 3) := by decide +kernel
theorem dX0_addUpCurrents_8 : decode cX0_addUpCurrents 8 = .ok (.aload_n 0, 1) := by decide +kernel
theorem dX0_addUpCurrents_9 : decode cX0_addUpCurrents 9 = .ok (.invokevirtual 87, 3) := by decide +kernel
theorem dX0_addUpCurrents_12 : decode cX0_addUpCurrents 12 = .ok (.istore_n 1, 1) := by decide +kernel
theorem dX0_addUpCurrents_13 : decode cX0_addUpCurrents 13 = .ok (.iconst 0, 1) := by decide +kernel
theorem dX0_addUpCurrents_14 : decode cX0_addUpCurrents 14 = .ok (.istore_n 2, 1) := by decide +kernel
theorem dX0_addUpCurrents_15 : decode cX0_addUpCurrents 15 = .ok (.iload_n 2, 1) := by decide +kernel
theorem dX0_addUpCurrents_16 : decode cX0_addUpCurrents 16 = .ok (.aload_n 0, 1) := by decide +kernel
theorem dX0_addUpCurrents_17 : decode cX0_addUpCurrents 17 = .ok (.getfield 11, 3) := by decide +kernel
theorem dX0_addUpCurrents_20 : decode cX0_addUpCurrents 20 = .ok (.iconst 5, 1) := by decide +kernel
theorem dX0_addUpCurrents_21 : decode cX0_addUpCurrents 21 = .ok (.iaload, 1) := by decide +kernel
theorem dX0_addUpCurrents_22 : decode cX0_addUpCurrents 22 = .ok (.if_icmp .ge 71, 3) := by decide +kernel
theorem dX0_addUpCurrents_25 : decode cX0_addUpCurrents 25 = .ok (.aload_n 0, 1) := by decide +kernel
theorem dX0_addUpCurrents_26 : decode cX0_addUpCurrents 26 = .ok (.getfield 11, 3) := by decide +kernel
theorem dX0_addUpCurrents_29 : decode cX0_addUpCurrents 29 = .ok (.bipush 6, 2) := by decide +kernel
theorem dX0_addUpCurrents_31 : decode cX0_addUpCurrents 31 = .ok (.iaload, 1) := by decide +kernel
theorem dX0_addUpCurrents_32 : decode cX0_addUpCurrents 32 = .ok (.iload_n 2, 1) := by decide +kernel
theorem dX0_addUpCurrents_33 : decode cX0_addUpCurrents 33 = .ok (.ishr, 1) := by decide +kernel
theorem dX0_addUpCurrents_34 : decode cX0_addUpCurrents 34 = .ok (.iconst 1, 1) := by decide +kernel
theorem dX0_addUpCurrents_35 : decode cX0_addUpCurrents 35 = .ok (.iand, 1) := by decide +kernel
theorem dX0_addUpCurrents_36 : decode cX0_addUpCurrents 36 = .ok (.ifCond .eq 23, 3) := by decide +kernel
theorem dX0_addUpCurrents_39 : decode cX0_addUpCurrents 39 = .ok (.iload_n 1, 1) := by decide +kernel
theorem dX0_addUpCurrents_40 : decode cX0_addUpCurrents 40 = .ok (.aload_n 0, 1) := by decide +kernel
theorem dX0_addUpCurrents_41 : decode cX0_addUpCurrents 41 = .ok (.getfield 11, 3) := by decide +kernel
theorem dX0_addUpCurrents_44 : decode cX0_addUpCurrents 44 = .ok (.bipush 97, 2) := by decide +kernel
theorem dX0_addUpCurrents_46 : decode cX0_addUpCurrents 46 = .ok (.iload_n 2, 1) := by decide +kernel
theorem dX0_addUpCurrents_47 : decode cX0_addUpCurrents 47 = .ok (.iadd, 1) := by decide +kernel
theorem dX0_addUpCurrents_48 : decode cX0_addUpCurrents 48 = .ok (.iaload, 1) := by decide +kernel
theorem dX0_addUpCurrents_49 : decode cX0_addUpCurrents 49 = .ok (.ishr, 1) := by decide +kernel
theorem dX0_addUpCurrents_50 : decode cX0_addUpCurrents 50 = .ok (.iconst 1, 1) := by decide +kernel
theorem dX0_addUpCurrents_51 : decode cX0_addUpCurrents 51 = .ok (.iand, 1) := by decide +kernel
theorem dX0_addUpCurrents_52 : decode cX0_addUpCurrents 52 = .ok (.ifCond .ne 7, 3) := by decide +kernel
theorem dX0_addUpCurrents_55 : decode cX0_addUpCurrents 55 = .ok (.iconst 1, 1) := by decide +kernel
theorem dX0_addUpCurrents_56 : decode cX0_addUpCurrents 56 = .ok (.goto 4, 3) := by decide +kernel
theorem dX0_addUpCurrents_59 : decode cX0_addUpCurrents 59 = .ok (.iconst 0, 1) := by decide +kernel
theorem dX0_addUpCurrents_60 : decode cX0_addUpCurrents 60 = .ok (.istore_n 3, 1) := by decide +kernel
theorem dX0_addUpCurrents_61 : decode cX0_addUpCurrents 61 = .ok (.iload_n 3, 1) := by decide +kernel
theorem dX0_addUpCurrents_62 : decode cX0_addUpCurrents 62 = .ok (.ifCond .eq 25, 3) := by decide +kernel
theorem dX0_addUpCurrents_65 : decode cX0_addUpCurrents 65 = .ok (.aload_n 0, 1) := by decide +kernel
theorem dX0_addUpCurrents_66 : decode cX0_addUpCurrents 66 = .ok (.aload_n 0, 1) := by decide +kernel
theorem dX0_addUpCurrents_67 : decode cX0_addUpCurrents 67 = .ok (.getfield 11, 3) := by decide +kernel
theorem dX0_addUpCurrents_70 : decode cX0_addUpCurrents 70 = .ok (.bipush 97, 2) := by decide +kernel
theorem dX0_addUpCurrents_72 : decode cX0_addUpCurrents 72 = .ok (.iload_n 2, 1) := by decide +kernel
theorem dX0_addUpCurrents_73 : decode cX0_addUpCurrents 73 = .ok (.iadd, 1) := by decide +kernel
theorem dX0_addUpCurrents_74 : decode cX0_addUpCurrents 74 = .ok (.iaload, 1) := by decide +kernel
theorem dX0_addUpCurrents_75 : decode cX0_addUpCurrents 75 = .ok (.aload_n 0, 1) := by decide +kernel
theorem dX0_addUpCurrents_76 : decode cX0_addUpCurrents 76 = .ok (.getfield 11, 3) := by decide +kernel
theorem dX0_addUpCurrents_79 : decode cX0_addUpCurrents 79 = .ok (.bipush 111, 2) := by decide +kernel
theorem dX0_addUpCurrents_81 : decode cX0_addUpCurrents 81 = .ok (.iload_n 2, 1) := by decide +kernel
theorem dX0_addUpCurrents_82 : decode cX0_addUpCurrents 82 = .ok (.iadd, 1) := by decide +kernel
theorem dX0_addUpCurrents_83 : decode cX0_addUpCurrents 83 = .ok (.iaload, 1) := by decide +kernel
theorem dX0_addUpCurrents_84 : decode cX0_addUpCurrents 84 = .ok (.invokevirtual 90, 3) := by decide +kernel
theorem dX0_addUpCurrents_87 : decode cX0_addUpCurrents 87 = .ok (.iinc 2 1, 3) := by decide +kernel
theorem dX0_addUpCurrents_90 : decode cX0_addUpCurrents 90 = .ok (.goto (-75), 3) := by decide +kernel
theorem dX0_addUpCurrents_93 : decode cX0_addUpCurrents 93 = .ok (.aload_n 0, 1) := by decide +kernel
theorem dX0_addUpCurrents_94 : decode cX0_addUpCurrents 94 = .ok (.getfield 11, 3) := by decide +kernel
theorem dX0_addUpCurrents_97 : decode cX0_addUpCurrents 97 = .ok (.iconst 4, 1) := by decide +kernel
theorem dX0_addUpCurrents_98 : decode cX0_addUpCurrents 98 = .ok (.iaload, 1) := by decide +kernel
theorem dX0_addUpCurrents_99 : decode cX0_addUpCurrents 99 = .ok (.iconst 1, 1) := by decide +kernel
theorem dX0_addUpCurrents_100 : decode cX0_addUpCurrents 100 = .ok (.isub, 1) := by decide +kernel
theorem dX0_addUpCurrents_101 : decode cX0_addUpCurrents 101 = .ok (.istore_n 2, 1) := by decide +kernel
theorem dX0_addUpCurrents_102 : decode cX0_addUpCurrents 102 = .ok (.iload_n 2, 1) := by decide +kernel
theorem dX0_addUpCurrents_103 : decode cX0_addUpCurrents 103 = .ok (.ifCond .le 28, 3) := by decide +kernel
theorem dX0_addUpCurrents_106 : decode cX0_addUpCurrents 106 = .ok (.aload_n 0, 1) := by decide +kernel
theorem dX0_addUpCurrents_107 : decode cX0_addUpCurrents 107 = .ok (.aload_n 0, 1) := by decide +kernel
theorem dX0_addUpCurrents_108 : decode cX0_addUpCurrents 108 = .ok (.getfield 11, 3) := by decide +kernel
theorem dX0_addUpCurrents_111 : decode cX0_addUpCurrents 111 = .ok (.bipush 17, 2) := by decide +kernel
theorem dX0_addUpCurrents_113 : decode cX0_addUpCurrents 113 = .ok (.iload_n 2, 1) := by decide +kernel
theorem dX0_addUpCurrents_114 : decode cX0_addUpCurrents 114 = .ok (.iadd, 1) := by decide +kernel
theorem dX0_addUpCurrents_115 : decode cX0_addUpCurrents 115 = .ok (.iaload, 1) := by decide +kernel
theorem dX0_addUpCurrents_116 : decode cX0_addUpCurrents 116 = .ok (.aload_n 0, 1) := by decide +kernel
theorem dX0_addUpCurrents_117 : decode cX0_addUpCurrents 117 = .ok (.getfield 15, 3) := by decide +kernel
theorem dX0_addUpCurrents_120 : decode cX0_addUpCurrents 120 = .ok (.iload_n 2, 1) := by decide +kernel
theorem dX0_addUpCurrents_121 : decode cX0_addUpCurrents 121 = .ok (.iaload, 1) := by decide +kernel
theorem dX0_addUpCurrents_122 : decode cX0_addUpCurrents 122 = .ok (.invokevirtual 90, 3) := by decide +kernel
theorem dX0_addUpCurrents_125 : decode cX0_addUpCurrents 125 = .ok (.iinc 2 (-1), 3) := by decide +kernel
theorem dX0_addUpCurrents_128 : decode cX0_addUpCurrents 128 = .ok (.goto (-26), 3) := by decide +kernel
theorem dX0_addUpCurrents_131 : decode cX0_addUpCurrents 131 = .ok (.return_, 1) := by decide +kernel
theorem dX0_addFlow_0 : decode cX0_addFlow 0 = .ok (.iload_n 1, 1) := by decide +kernel
theorem dX0_addFlow_1 : decode cX0_addFlow 1 = .ok (.ifCond .lt 19, 3) := by decide +kernel
theorem dX0_addFlow_4 : decode cX0_addFlow 4 = .ok (.iload_n 1, 1) := by decide +kernel
theorem dX0_addFlow_5 : decode cX0_addFlow 5 = .ok (.bipush 10, 2) := by decide +kernel
theorem dX0_addFlow_7 : decode cX0_addFlow 7 = .ok (.if_icmp .ge 13, 3) := by decide +kernel
theorem dX0_addFlow_10 : decode cX0_addFlow 10 = .ok (.aload_n 0, 1) := by decide +kernel
theorem dX0_addFlow_11 : decode cX0_addFlow 11 = .ok (.getfield 15, 3) := by decide +kernel
theorem dX0_addFlow_14 : decode cX0_addFlow 14 = .ok (.iload_n 1, 1) := by decide +kernel
theorem dX0_addFlow_15 : decode cX0_addFlow 15 = .ok (.dup2, 1) := by decide +kernel
theorem dX0_addFlow_16 : decode cX0_addFlow 16 = .ok (.iaload, 1) := by decide +kernel
theorem dX0_addFlow_17 : decode cX0_addFlow 17 = .ok (.iload_n 2, 1) := by decide +kernel
theorem dX0_addFlow_18 : decode cX0_addFlow 18 = .ok (.iadd, 1) := by decide +kernel
theorem dX0_addFlow_19 : decode cX0_addFlow 19 = .ok (.iastore, 1) := by decide +kernel
theorem dX0_addFlow_20 : decode cX0_addFlow 20 = .ok (.return_, 1) := by decide +kernel
theorem dX0_burnArcs_0 : decode cX0_burnArcs 0 = .ok (.iconst 0, 1) := by decide +kernel
theorem dX0_burnArcs_1 : decode cX0_burnArcs 1 = .ok (.istore_n 1, 1) := by decide +kernel
theorem dX0_burnArcs_2 : decode cX0_burnArcs 2 = .ok (.iload_n 1, 1) := by decide +kernel
theorem dX0_burnArcs_3 : decode cX0_burnArcs 3 = .ok (.aload_n 0, 1) := by decide +kernel
theorem dX0_burnArcs_4 : decode cX0_burnArcs 4 = .ok (.getfield 11, 3) := by decide +kernel
theorem dX0_burnArcs_7 : decode cX0_burnArcs 7 = .ok (.iconst 4, 1) := by decide +kernel
theorem dX0_burnArcs_8 : decode cX0_burnArcs 8 = .ok (.iaload, 1) := by decide +kernel
theorem dX0_burnArcs_9 : decode cX0_burnArcs 9 = .ok (.if_icmp .ge 62, 3) := by decide +kernel
theorem dX0_burnArcs_12 : decode cX0_burnArcs 12 = .ok (.aload_n 0, 1) := by decide +kernel
theorem dX0_burnArcs_13 : decode cX0_burnArcs 13 = .ok (.getfield 11, 3) := by decide +kernel
theorem dX0_burnArcs_16 : decode cX0_burnArcs 16 = .ok (.bipush 47, 2) := by decide +kernel
theorem dX0_burnArcs_18 : decode cX0_burnArcs 18 = .ok (.iload_n 1, 1) := by decide +kernel
theorem dX0_burnArcs_19 : decode cX0_burnArcs 19 = .ok (.iadd, 1) := by decide +kernel
theorem dX0_burnArcs_20 : decode cX0_burnArcs 20 = .ok (.iaload, 1) := by decide +kernel
theorem dX0_burnArcs_21 : decode cX0_burnArcs 21 = .ok (.ifCond .ne 6, 3) := by decide +kernel
theorem dX0_burnArcs_24 : decode cX0_burnArcs 24 = .ok (.goto 41, 3) := by decide +kernel
theorem dX0_burnArcs_27 : decode cX0_burnArcs 27 = .ok (.aload_n 0, 1) := by decide +kernel
theorem dX0_burnArcs_28 : decode cX0_burnArcs 28 = .ok (.getfield 11, 3) := by decide +kernel
theorem dX0_burnArcs_31 : decode cX0_burnArcs 31 = .ok (.bipush 47, 2) := by decide +kernel
theorem dX0_burnArcs_33 : decode cX0_burnArcs 33 = .ok (.iload_n 1, 1) := by decide +kernel
theorem dX0_burnArcs_34 : decode cX0_burnArcs 34 = .ok (.iadd, 1) := by decide +kernel
theorem dX0_burnArcs_35 : decode cX0_burnArcs 35 = .ok (.dup2, 1) := by decide +kernel
theorem dX0_burnArcs_36 : decode cX0_burnArcs 36 = .ok (.iaload, 1) := by decide +kernel
theorem dX0_burnArcs_37 : decode cX0_burnArcs 37 = .ok (.iconst 1, 1) := by decide +kernel
theorem dX0_burnArcs_38 : decode cX0_burnArcs 38 = .ok (.isub, 1) := by decide +kernel
theorem dX0_burnArcs_39 : decode cX0_burnArcs 39 = .ok (.iastore, 1) := by decide +kernel
theorem dX0_burnArcs_40 : decode cX0_burnArcs 40 = .ok (.aload_n 0, 1) := by decide +kernel
theorem dX0_burnArcs_41 : decode cX0_burnArcs 41 = .ok (.getfield 11, 3) := by decide +kernel
theorem dX0_burnArcs_44 : decode cX0_burnArcs 44 = .ok (.bipush 47, 2) := by decide +kernel
theorem dX0_burnArcs_46 : decode cX0_burnArcs 46 = .ok (.iload_n 1, 1) := by decide +kernel
theorem dX0_burnArcs_47 : decode cX0_burnArcs 47 = .ok (.iadd, 1) := by decide +kernel
theorem dX0_burnArcs_48 : decode cX0_burnArcs 48 = .ok (.iaload, 1) := by decide +kernel
theorem dX0_burnArcs_49 : decode cX0_burnArcs 49 = .ok (.ifCond .ne 16, 3) := by decide +kernel
theorem dX0_burnArcs_52 : decode cX0_burnArcs 52 = .ok (.aload_n 0, 1) := by decide +kernel
theorem dX0_burnArcs_53 : decode cX0_burnArcs 53 = .ok (.getfield 11, 3) := by decide +kernel
theorem dX0_burnArcs_56 : decode cX0_burnArcs 56 = .ok (.bipush 7, 2) := by decide +kernel
theorem dX0_burnArcs_58 : decode cX0_burnArcs 58 = .ok (.dup2, 1) := by decide +kernel
theorem dX0_burnArcs_59 : decode cX0_burnArcs 59 = .ok (.iaload, 1) := by decide +kernel
theorem dX0_burnArcs_60 : decode cX0_burnArcs 60 = .ok (.iconst 1, 1) := by decide +kernel
theorem dX0_burnArcs_61 : decode cX0_burnArcs 61 = .ok (.iload_n 1, 1) := by decide +kernel
theorem dX0_burnArcs_62 : decode cX0_burnArcs 62 = .ok (.ishl, 1) := by decide +kernel
theorem dX0_burnArcs_63 : decode cX0_burnArcs 63 = .ok (.ior, 1) := by decide +kernel
theorem dX0_burnArcs_64 : decode cX0_burnArcs 64 = .ok (.iastore, 1) := by decide +kernel
theorem dX0_burnArcs_65 : decode cX0_burnArcs 65 = .ok (.iinc 1 1, 3) := by decide +kernel
theorem dX0_burnArcs_68 : decode cX0_burnArcs 68 = .ok (.goto (-66), 3) := by decide +kernel
theorem dX0_burnArcs_71 : decode cX0_burnArcs 71 = .ok (.return_, 1) := by decide +kernel
theorem dX0_warm_0 : decode cX0_warm 0 = .ok (.aload_n 0, 1) := by decide +kernel
theorem dX0_warm_1 : decode cX0_warm 1 = .ok (.getfield 11, 3) := by decide +kernel
theorem dX0_warm_4 : decode cX0_warm 4 = .ok (.bipush 27, 2) := by decide +kernel
theorem dX0_warm_6 : decode cX0_warm 6 = .ok (.iload_n 1, 1) := by decide +kernel
theorem dX0_warm_7 : decode cX0_warm 7 = .ok (.iadd, 1) := by decide +kernel
theorem dX0_warm_8 : decode cX0_warm 8 = .ok (.iaload, 1) := by decide +kernel
theorem dX0_warm_9 : decode cX0_warm 9 = .ok (.istore_n 3, 1) := by decide +kernel
theorem dX0_warm_10 : decode cX0_warm 10 = .ok (.aload_n 0, 1) := by decide +kernel
theorem dX0_warm_11 : decode cX0_warm 11 = .ok (.getfield 11, 3) := by decide +kernel
theorem dX0_warm_14 : decode cX0_warm 14 = .ok (.bipush 57, 2) := by decide +kernel
theorem dX0_warm_16 : decode cX0_warm 16 = .ok (.iload_n 1, 1) := by decide +kernel
theorem dX0_warm_17 : decode cX0_warm 17 = .ok (.iadd, 1) := by decide +kernel
theorem dX0_warm_18 : decode cX0_warm 18 = .ok (.iaload, 1) := by decide +kernel
theorem dX0_warm_19 : decode cX0_warm 19 = .ok (.istore 4, 2) := by decide +kernel
theorem dX0_warm_21 : decode cX0_warm 21 = .ok (.iload_n 2, 1) := by decide +kernel
theorem dX0_warm_22 : decode cX0_warm 22 = .ok (.iload_n 2, 1) := by decide +kernel
theorem dX0_warm_23 : decode cX0_warm 23 = .ok (.imul, 1) := by decide +kernel
theorem dX0_warm_24 : decode cX0_warm 24 = .ok (.iload_n 3, 1) := by decide +kernel
theorem dX0_warm_25 : decode cX0_warm 25 = .ok (.iload_n 3, 1) := by decide +kernel
theorem dX0_warm_26 : decode cX0_warm 26 = .ok (.imul, 1) := by decide +kernel
theorem dX0_warm_27 : decode cX0_warm 27 = .ok (.isub, 1) := by decide +kernel
theorem dX0_warm_28 : decode cX0_warm 28 = .ok (.istore 5, 2) := by decide +kernel
theorem dX0_warm_30 : decode cX0_warm 30 = .ok (.iload_n 3, 1) := by decide +kernel
theorem dX0_warm_31 : decode cX0_warm 31 = .ok (.iload_n 3, 1) := by decide +kernel
theorem dX0_warm_32 : decode cX0_warm 32 = .ok (.imul, 1) := by decide +kernel
theorem dX0_warm_33 : decode cX0_warm 33 = .ok (.iload_n 2, 1) := by decide +kernel
theorem dX0_warm_34 : decode cX0_warm 34 = .ok (.iload_n 2, 1) := by decide +kernel
theorem dX0_warm_35 : decode cX0_warm 35 = .ok (.imul, 1) := by decide +kernel
theorem dX0_warm_36 : decode cX0_warm 36 = .ok (.isub, 1) := by decide +kernel
theorem dX0_warm_37 : decode cX0_warm 37 = .ok (.istore 6, 2) := by decide +kernel
theorem dX0_warm_39 : decode cX0_warm 39 = .ok (.iload_n 2, 1) := by decide +kernel
theorem dX0_warm_40 : decode cX0_warm 40 = .ok (.iload_n 3, 1) := by decide +kernel
theorem dX0_warm_41 : decode cX0_warm 41 = .ok (.if_icmp .le 25, 3) := by decide +kernel
theorem dX0_warm_44 : decode cX0_warm 44 = .ok (.aload_n 0, 1) := by decide +kernel
theorem dX0_warm_45 : decode cX0_warm 45 = .ok (.getfield 11, 3) := by decide +kernel
theorem dX0_warm_48 : decode cX0_warm 48 = .ok (.bipush 57, 2) := by decide +kernel
theorem dX0_warm_50 : decode cX0_warm 50 = .ok (.iload_n 1, 1) := by decide +kernel
theorem dX0_warm_51 : decode cX0_warm 51 = .ok (.iadd, 1) := by decide +kernel
theorem dX0_warm_52 : decode cX0_warm 52 = .ok (.ldc 93, 2) := by decide +kernel
theorem dX0_warm_54 : decode cX0_warm 54 = .ok (.iload 4, 2) := by decide +kernel
theorem dX0_warm_56 : decode cX0_warm 56 = .ok (.iload 5, 2) := by decide +kernel
theorem dX0_warm_58 : decode cX0_warm 58 = .ok (.iadd, 1) := by decide +kernel
theorem dX0_warm_59 : decode cX0_warm 59 = .ok (.invokestatic 94, 3) := by decide +kernel
theorem dX0_warm_62 : decode cX0_warm 62 = .ok (.iastore, 1) := by decide +kernel
theorem dX0_warm_63 : decode cX0_warm 63 = .ok (.goto 32, 3) := by decide +kernel
theorem dX0_warm_66 : decode cX0_warm 66 = .ok (.aload_n 0, 1) := by decide +kernel
theorem dX0_warm_67 : decode cX0_warm 67 = .ok (.getfield 11, 3) := by decide +kernel
theorem dX0_warm_70 : decode cX0_warm 70 = .ok (.bipush 57, 2) := by decide +kernel
theorem dX0_warm_72 : decode cX0_warm 72 = .ok (.iload_n 1, 1) := by decide +kernel
theorem dX0_warm_73 : decode cX0_warm 73 = .ok (.iadd, 1) := by decide +kernel
theorem dX0_warm_74 : decode cX0_warm 74 = .ok (.iconst 0, 1) := by decide +kernel
theorem dX0_warm_75 : decode cX0_warm 75 = .ok (.iload 4, 2) := by decide +kernel
theorem dX0_warm_77 : decode cX0_warm 77 = .ok (.iload 6, 2) := by decide +kernel
theorem dX0_warm_79 : decode cX0_warm 79 = .ok (.iconst 1, 1) := by decide +kernel
theorem dX0_warm_80 : decode cX0_warm 80 = .ok (.aload_n 0, 1) := by decide +kernel
theorem dX0_warm_81 : decode cX0_warm 81 = .ok (.getfield 11, 3) := by decide +kernel
theorem dX0_warm_84 : decode cX0_warm 84 = .ok (.iconst 1, 1) := by decide +kernel
theorem dX0_warm_85 : decode cX0_warm 85 = .ok (.iaload, 1) := by decide +kernel
theorem dX0_warm_86 : decode cX0_warm 86 = .ok (.invokestatic 100, 3) := by decide +kernel
theorem dX0_warm_89 : decode cX0_warm 89 = .ok (.idiv, 1) := by decide +kernel
theorem dX0_warm_90 : decode cX0_warm 90 = .ok (.isub, 1) := by decide +kernel
theorem dX0_warm_91 : decode cX0_warm 91 = .ok (.invokestatic 100, 3) := by decide +kernel
theorem dX0_warm_94 : decode cX0_warm 94 = .ok (.iastore, 1) := by decide +kernel
theorem dX0_warm_95 : decode cX0_warm 95 = .ok (.aload_n 0, 1) := by decide +kernel
theorem dX0_warm_96 : decode cX0_warm 96 = .ok (.getfield 11, 3) := by decide +kernel
theorem dX0_warm_99 : decode cX0_warm 99 = .ok (.bipush 37, 2) := by decide +kernel
theorem dX0_warm_101 : decode cX0_warm 101 = .ok (.iload_n 1, 1) := by decide +kernel
theorem dX0_warm_102 : decode cX0_warm 102 = .ok (.iadd, 1) := by decide +kernel
theorem dX0_warm_103 : decode cX0_warm 103 = .ok (.iaload, 1) := by decide +kernel
theorem dX0_warm_104 : decode cX0_warm 104 = .ok (.iconst 2, 1) := by decide +kernel
theorem dX0_warm_105 : decode cX0_warm 105 = .ok (.if_icmp .ne 15, 3) := by decide +kernel
theorem dX0_warm_108 : decode cX0_warm 108 = .ok (.iconst 2, 1) := by decide +kernel
theorem dX0_warm_109 : decode cX0_warm 109 = .ok (.iload_n 2, 1) := by decide +kernel
theorem dX0_warm_110 : decode cX0_warm 110 = .ok (.imul, 1) := by decide +kernel
theorem dX0_warm_111 : decode cX0_warm 111 = .ok (.iload_n 3, 1) := by decide +kernel
theorem dX0_warm_112 : decode cX0_warm 112 = .ok (.if_icmp .le 8, 3) := by decide +kernel
theorem dX0_warm_115 : decode cX0_warm 115 = .ok (.aload_n 0, 1) := by decide +kernel
theorem dX0_warm_116 : decode cX0_warm 116 = .ok (.iload_n 1, 1) := by decide +kernel
theorem dX0_warm_117 : decode cX0_warm 117 = .ok (.invokevirtual 103, 3) := by decide +kernel
theorem dX0_warm_120 : decode cX0_warm 120 = .ok (.return_, 1) := by decide +kernel
theorem dX0_creep_0 : decode cX0_creep 0 = .ok (.aload_n 0, 1) := by decide +kernel
theorem dX0_creep_1 : decode cX0_creep 1 = .ok (.getfield 11, 3) := by decide +kernel
theorem dX0_creep_4 : decode cX0_creep 4 = .ok (.bipush 77, 2) := by decide +kernel
theorem dX0_creep_6 : decode cX0_creep 6 = .ok (.iload_n 1, 1) := by decide +kernel
theorem dX0_creep_7 : decode cX0_creep 7 = .ok (.iadd, 1) := by decide +kernel
theorem dX0_creep_8 : decode cX0_creep 8 = .ok (.dup2, 1) := by decide +kernel
theorem dX0_creep_9 : decode cX0_creep 9 = .ok (.iaload, 1) := by decide +kernel
theorem dX0_creep_10 : decode cX0_creep 10 = .ok (.iconst 1, 1) := by decide +kernel
theorem dX0_creep_11 : decode cX0_creep 11 = .ok (.iadd, 1) := by decide +kernel
theorem dX0_creep_12 : decode cX0_creep 12 = .ok (.iastore, 1) := by decide +kernel
theorem dX0_creep_13 : decode cX0_creep 13 = .ok (.aload_n 0, 1) := by decide +kernel
theorem dX0_creep_14 : decode cX0_creep 14 = .ok (.getfield 11, 3) := by decide +kernel
theorem dX0_creep_17 : decode cX0_creep 17 = .ok (.bipush 77, 2) := by decide +kernel
theorem dX0_creep_19 : decode cX0_creep 19 = .ok (.iload_n 1, 1) := by decide +kernel
theorem dX0_creep_20 : decode cX0_creep 20 = .ok (.iadd, 1) := by decide +kernel
theorem dX0_creep_21 : decode cX0_creep 21 = .ok (.iaload, 1) := by decide +kernel
theorem dX0_creep_22 : decode cX0_creep 22 = .ok (.aload_n 0, 1) := by decide +kernel
theorem dX0_creep_23 : decode cX0_creep 23 = .ok (.getfield 11, 3) := by decide +kernel
theorem dX0_creep_26 : decode cX0_creep 26 = .ok (.iconst 2, 1) := by decide +kernel
theorem dX0_creep_27 : decode cX0_creep 27 = .ok (.iaload, 1) := by decide +kernel
theorem dX0_creep_28 : decode cX0_creep 28 = .ok (.if_icmp .ge 4, 3) := by decide +kernel
theorem dX0_creep_31 : decode cX0_creep 31 = .ok (.return_, 1) := by decide +kernel
theorem dX0_creep_32 : decode cX0_creep 32 = .ok (.aload_n 0, 1) := by decide +kernel
theorem dX0_creep_33 : decode cX0_creep 33 = .ok (.getfield 11, 3) := by decide +kernel
theorem dX0_creep_36 : decode cX0_creep 36 = .ok (.bipush 77, 2) := by decide +kernel
theorem dX0_creep_38 : decode cX0_creep 38 = .ok (.iload_n 1, 1) := by decide +kernel
theorem dX0_creep_39 : decode cX0_creep 39 = .ok (.iadd, 1) := by decide +kernel
theorem dX0_creep_40 : decode cX0_creep 40 = .ok (.iconst 0, 1) := by decide +kernel
theorem dX0_creep_41 : decode cX0_creep 41 = .ok (.iastore, 1) := by decide +kernel
theorem dX0_creep_42 : decode cX0_creep 42 = .ok (.aload_n 0, 1) := by decide +kernel
theorem dX0_creep_43 : decode cX0_creep 43 = .ok (.getfield 11, 3) := by decide +kernel
theorem dX0_creep_46 : decode cX0_creep 46 = .ok (.bipush 67, 2) := by decide +kernel
theorem dX0_creep_48 : decode cX0_creep 48 = .ok (.iload_n 1, 1) := by decide +kernel
theorem dX0_creep_49 : decode cX0_creep 49 = .ok (.iadd, 1) := by decide +kernel
theorem dX0_creep_50 : decode cX0_creep 50 = .ok (.dup2, 1) := by decide +kernel
theorem dX0_creep_51 : decode cX0_creep 51 = .ok (.iaload, 1) := by decide +kernel
theorem dX0_creep_52 : decode cX0_creep 52 = .ok (.iconst 1, 1) := by decide +kernel
theorem dX0_creep_53 : decode cX0_creep 53 = .ok (.iadd, 1) := by decide +kernel
theorem dX0_creep_54 : decode cX0_creep 54 = .ok (.iastore, 1) := by decide +kernel
theorem dX0_creep_55 : decode cX0_creep 55 = .ok (.return_, 1) := by decide +kernel
theorem dX0_molten_0 : decode cX0_molten 0 = .ok (.iconst 0, 1) := by decide +kernel
theorem dX0_molten_1 : decode cX0_molten 1 = .ok (.istore_n 1, 1) := by decide +kernel
theorem dX0_molten_2 : decode cX0_molten 2 = .ok (.iconst 0, 1) := by decide +kernel
theorem dX0_molten_3 : decode cX0_molten 3 = .ok (.istore_n 2, 1) := by decide +kernel
theorem dX0_molten_4 : decode cX0_molten 4 = .ok (.iload_n 2, 1) := by decide +kernel
theorem dX0_molten_5 : decode cX0_molten 5 = .ok (.aload_n 0, 1) := by decide +kernel
theorem dX0_molten_6 : decode cX0_molten 6 = .ok (.getfield 11, 3) := by decide +kernel
theorem dX0_molten_9 : decode cX0_molten 9 = .ok (.iconst 4, 1) := by decide +kernel
theorem dX0_molten_10 : decode cX0_molten 10 = .ok (.iaload, 1) := by decide +kernel
theorem dX0_molten_11 : decode cX0_molten 11 = .ok (.if_icmp .ge 40, 3) := by decide +kernel
theorem dX0_molten_14 : decode cX0_molten 14 = .ok (.aload_n 0, 1) := by decide +kernel
theorem dX0_molten_15 : decode cX0_molten 15 = .ok (.iload_n 2, 1) := by decide +kernel
theorem dX0_molten_16 : decode cX0_molten 16 = .ok (.invokevirtual 67, 3) := by decide +kernel
theorem dX0_molten_19 : decode cX0_molten 19 = .ok (.ifCond .ne 26, 3) := by decide +kernel
theorem dX0_molten_22 : decode cX0_molten 22 = .ok (.aload_n 0, 1) := by decide +kernel
theorem dX0_molten_23 : decode cX0_molten 23 = .ok (.getfield 11, 3) := by decide +kernel
theorem dX0_molten_26 : decode cX0_molten 26 = .ok (.bipush 57, 2) := by decide +kernel
theorem dX0_molten_28 : decode cX0_molten 28 = .ok (.iload_n 2, 1) := by decide +kernel
theorem dX0_molten_29 : decode cX0_molten 29 = .ok (.iadd, 1) := by decide +kernel
theorem dX0_molten_30 : decode cX0_molten 30 = .ok (.iaload, 1) := by decide +kernel
theorem dX0_molten_31 : decode cX0_molten 31 = .ok (.aload_n 0, 1) := by decide +kernel
theorem dX0_molten_32 : decode cX0_molten 32 = .ok (.iload_n 2, 1) := by decide +kernel
theorem dX0_molten_33 : decode cX0_molten 33 = .ok (.invokevirtual 106, 3) := by decide +kernel
theorem dX0_molten_36 : decode cX0_molten 36 = .ok (.if_icmp .lt 9, 3) := by decide +kernel
theorem dX0_molten_39 : decode cX0_molten 39 = .ok (.iload_n 1, 1) := by decide +kernel
theorem dX0_molten_40 : decode cX0_molten 40 = .ok (.iconst 1, 1) := by decide +kernel
theorem dX0_molten_41 : decode cX0_molten 41 = .ok (.iload_n 2, 1) := by decide +kernel
theorem dX0_molten_42 : decode cX0_molten 42 = .ok (.ishl, 1) := by decide +kernel
theorem dX0_molten_43 : decode cX0_molten 43 = .ok (.ior, 1) := by decide +kernel
theorem dX0_molten_44 : decode cX0_molten 44 = .ok (.istore_n 1, 1) := by decide +kernel
theorem dX0_molten_45 : decode cX0_molten 45 = .ok (.iinc 2 1, 3) := by decide +kernel
theorem dX0_molten_48 : decode cX0_molten 48 = .ok (.goto (-44), 3) := by decide +kernel
theorem dX0_molten_51 : decode cX0_molten 51 = .ok (.iload_n 1, 1) := by decide +kernel
theorem dX0_molten_52 : decode cX0_molten 52 = .ok (.ireturn, 1) := by decide +kernel
theorem dX0_nearestOf_0 : decode cX0_nearestOf 0 = .ok (.iconst 0, 1) := by decide +kernel
theorem dX0_nearestOf_1 : decode cX0_nearestOf 1 = .ok (.istore_n 2, 1) := by decide +kernel
theorem dX0_nearestOf_2 : decode cX0_nearestOf 2 = .ok (.iconst 0, 1) := by decide +kernel
theorem dX0_nearestOf_3 : decode cX0_nearestOf 3 = .ok (.istore_n 3, 1) := by decide +kernel
theorem dX0_nearestOf_4 : decode cX0_nearestOf 4 = .ok (.iload_n 3, 1) := by decide +kernel
theorem dX0_nearestOf_5 : decode cX0_nearestOf 5 = .ok (.aload_n 0, 1) := by decide +kernel
theorem dX0_nearestOf_6 : decode cX0_nearestOf 6 = .ok (.getfield 11, 3) := by decide +kernel
theorem dX0_nearestOf_9 : decode cX0_nearestOf 9 = .ok (.iconst 4, 1) := by decide +kernel
theorem dX0_nearestOf_10 : decode cX0_nearestOf 10 = .ok (.iaload, 1) := by decide +kernel
theorem dX0_nearestOf_11 : decode cX0_nearestOf 11 = .ok (.if_icmp .ge 28, 3) := by decide +kernel
theorem dX0_nearestOf_14 : decode cX0_nearestOf 14 = .ok (.aload_n 0, 1) := by decide +kernel
theorem dX0_nearestOf_15 : decode cX0_nearestOf 15 = .ok (.iload_n 3, 1) := by decide +kernel
theorem dX0_nearestOf_16 : decode cX0_nearestOf 16 = .ok (.invokevirtual 109, 3) := by decide +kernel
theorem dX0_nearestOf_19 : decode cX0_nearestOf 19 = .ok (.iload_n 1, 1) := by decide +kernel
theorem dX0_nearestOf_20 : decode cX0_nearestOf 20 = .ok (.iand, 1) := by decide +kernel
theorem dX0_nearestOf_21 : decode cX0_nearestOf 21 = .ok (.iconst 1, 1) := by decide +kernel
theorem dX0_nearestOf_22 : decode cX0_nearestOf 22 = .ok (.iload_n 3, 1) := by decide +kernel
theorem dX0_nearestOf_23 : decode cX0_nearestOf 23 = .ok (.ishl, 1) := by decide +kernel
theorem dX0_nearestOf_24 : decode cX0_nearestOf 24 = .ok (.if_icmp .ne 9, 3) := by decide +kernel
theorem dX0_nearestOf_27 : decode cX0_nearestOf 27 = .ok (.iload_n 2, 1) := by decide +kernel
theorem dX0_nearestOf_28 : decode cX0_nearestOf 28 = .ok (.iconst 1, 1) := by decide +kernel
theorem dX0_nearestOf_29 : decode cX0_nearestOf 29 = .ok (.iload_n 3, 1) := by decide +kernel
theorem dX0_nearestOf_30 : decode cX0_nearestOf 30 = .ok (.ishl, 1) := by decide +kernel
theorem dX0_nearestOf_31 : decode cX0_nearestOf 31 = .ok (.ior, 1) := by decide +kernel
theorem dX0_nearestOf_32 : decode cX0_nearestOf 32 = .ok (.istore_n 2, 1) := by decide +kernel
theorem dX0_nearestOf_33 : decode cX0_nearestOf 33 = .ok (.iinc 3 1, 3) := by decide +kernel
theorem dX0_nearestOf_36 : decode cX0_nearestOf 36 = .ok (.goto (-32), 3) := by decide +kernel
theorem dX0_nearestOf_39 : decode cX0_nearestOf 39 = .ok (.iload_n 2, 1) := by decide +kernel
theorem dX0_nearestOf_40 : decode cX0_nearestOf 40 = .ok (.ireturn, 1) := by decide +kernel
theorem dX0_blow_0 : decode cX0_blow 0 = .ok (.aload_n 0, 1) := by decide +kernel
theorem dX0_blow_1 : decode cX0_blow 1 = .ok (.getfield 11, 3) := by decide +kernel
theorem dX0_blow_4 : decode cX0_blow 4 = .ok (.bipush 47, 2) := by decide +kernel
theorem dX0_blow_6 : decode cX0_blow 6 = .ok (.iload_n 1, 1) := by decide +kernel
theorem dX0_blow_7 : decode cX0_blow 7 = .ok (.iadd, 1) := by decide +kernel
theorem dX0_blow_8 : decode cX0_blow 8 = .ok (.aload_n 0, 1) := by decide +kernel
theorem dX0_blow_9 : decode cX0_blow 9 = .ok (.getfield 11, 3) := by decide +kernel
theorem dX0_blow_12 : decode cX0_blow 12 = .ok (.iconst 0, 1) := by decide +kernel
theorem dX0_blow_13 : decode cX0_blow 13 = .ok (.iaload, 1) := by decide +kernel
theorem dX0_blow_14 : decode cX0_blow 14 = .ok (.iastore, 1) := by decide +kernel
theorem dX0_blow_15 : decode cX0_blow 15 = .ok (.aload_n 0, 1) := by decide +kernel
theorem dX0_blow_16 : decode cX0_blow 16 = .ok (.getfield 11, 3) := by decide +kernel
theorem dX0_blow_19 : decode cX0_blow 19 = .ok (.iconst 0, 1) := by decide +kernel
theorem dX0_blow_20 : decode cX0_blow 20 = .ok (.iaload, 1) := by decide +kernel
theorem dX0_blow_21 : decode cX0_blow 21 = .ok (.ifCond .ne 16, 3) := by decide +kernel
theorem dX0_blow_24 : decode cX0_blow 24 = .ok (.aload_n 0, 1) := by decide +kernel
theorem dX0_blow_25 : decode cX0_blow 25 = .ok (.getfield 11, 3) := by decide +kernel
theorem dX0_blow_28 : decode cX0_blow 28 = .ok (.bipush 7, 2) := by decide +kernel
theorem dX0_blow_30 : decode cX0_blow 30 = .ok (.dup2, 1) := by decide +kernel
theorem dX0_blow_31 : decode cX0_blow 31 = .ok (.iaload, 1) := by decide +kernel
theorem dX0_blow_32 : decode cX0_blow 32 = .ok (.iconst 1, 1) := by decide +kernel
theorem dX0_blow_33 : decode cX0_blow 33 = .ok (.iload_n 1, 1) := by decide +kernel
theorem dX0_blow_34 : decode cX0_blow 34 = .ok (.ishl, 1) := by decide +kernel
theorem dX0_blow_35 : decode cX0_blow 35 = .ok (.ior, 1) := by decide +kernel
theorem dX0_blow_36 : decode cX0_blow 36 = .ok (.iastore, 1) := by decide +kernel
theorem dX0_blow_37 : decode cX0_blow 37 = .ok (.aload_n 0, 1) := by decide +kernel
theorem dX0_blow_38 : decode cX0_blow 38 = .ok (.getfield 11, 3) := by decide +kernel
theorem dX0_blow_41 : decode cX0_blow 41 = .ok (.bipush 8, 2) := by decide +kernel
theorem dX0_blow_43 : decode cX0_blow 43 = .ok (.dup2, 1) := by decide +kernel
theorem dX0_blow_44 : decode cX0_blow 44 = .ok (.iaload, 1) := by decide +kernel
theorem dX0_blow_45 : decode cX0_blow 45 = .ok (.iconst 1, 1) := by decide +kernel
theorem dX0_blow_46 : decode cX0_blow 46 = .ok (.iadd, 1) := by decide +kernel
theorem dX0_blow_47 : decode cX0_blow 47 = .ok (.iastore, 1) := by decide +kernel
theorem dX0_blow_48 : decode cX0_blow 48 = .ok (.aload_n 0, 1) := by decide +kernel
theorem dX0_blow_49 : decode cX0_blow 49 = .ok (.getfield 11, 3) := by decide +kernel
theorem dX0_blow_52 : decode cX0_blow 52 = .ok (.bipush 87, 2) := by decide +kernel
theorem dX0_blow_54 : decode cX0_blow 54 = .ok (.iload_n 1, 1) := by decide +kernel
theorem dX0_blow_55 : decode cX0_blow 55 = .ok (.iadd, 1) := by decide +kernel
theorem dX0_blow_56 : decode cX0_blow 56 = .ok (.dup2, 1) := by decide +kernel
theorem dX0_blow_57 : decode cX0_blow 57 = .ok (.iaload, 1) := by decide +kernel
theorem dX0_blow_58 : decode cX0_blow 58 = .ok (.iconst 1, 1) := by decide +kernel
theorem dX0_blow_59 : decode cX0_blow 59 = .ok (.iadd, 1) := by decide +kernel
theorem dX0_blow_60 : decode cX0_blow 60 = .ok (.iastore, 1) := by decide +kernel
theorem dX0_blow_61 : decode cX0_blow 61 = .ok (.aload_n 0, 1) := by decide +kernel
theorem dX0_blow_62 : decode cX0_blow 62 = .ok (.getfield 11, 3) := by decide +kernel
theorem dX0_blow_65 : decode cX0_blow 65 = .ok (.bipush 9, 2) := by decide +kernel
theorem dX0_blow_67 : decode cX0_blow 67 = .ok (.aload_n 0, 1) := by decide +kernel
theorem dX0_blow_68 : decode cX0_blow 68 = .ok (.getfield 11, 3) := by decide +kernel
theorem dX0_blow_71 : decode cX0_blow 71 = .ok (.bipush 10, 2) := by decide +kernel
theorem dX0_blow_73 : decode cX0_blow 73 = .ok (.bipush 7, 2) := by decide +kernel
theorem dX0_blow_75 : decode cX0_blow 75 = .ok (.invokestatic 18, 3) := by decide +kernel
theorem dX0_blow_78 : decode cX0_blow 78 = .ok (.aload_n 0, 1) := by decide +kernel
theorem dX0_blow_79 : decode cX0_blow 79 = .ok (.getfield 11, 3) := by decide +kernel
theorem dX0_blow_82 : decode cX0_blow 82 = .ok (.bipush 9, 2) := by decide +kernel
theorem dX0_blow_84 : decode cX0_blow 84 = .ok (.iload_n 1, 1) := by decide +kernel
theorem dX0_blow_85 : decode cX0_blow 85 = .ok (.iastore, 1) := by decide +kernel
theorem dX0_blow_86 : decode cX0_blow 86 = .ok (.return_, 1) := by decide +kernel
theorem dX0_aboutBoard_0 : decode cX0_aboutBoard 0 = .ok (.aload_n 0, 1) := by decide +kernel
theorem dX0_aboutBoard_1 : decode cX0_aboutBoard 1 = .ok (.iload_n 1, 1) := by decide +kernel
theorem dX0_aboutBoard_2 : decode cX0_aboutBoard 2 = .ok (.invokevirtual 24, 3) := by decide +kernel
theorem dX0_aboutBoard_5 : decode cX0_aboutBoard 5 = .ok (.ifCond .ne 5, 3) := by decide +kernel
theorem dX0_aboutBoard_8 : decode cX0_aboutBoard 8 = .ok (.iconst (-1), 1) := by decide +kernel
theorem dX0_aboutBoard_9 : decode cX0_aboutBoard 9 = .ok (.ireturn, 1) := by decide +kernel
theorem dX0_aboutBoard_10 : decode cX0_aboutBoard 10 = .ok (.iload_n 2, 1) := by decide +kernel
theorem dX0_aboutBoard_11 : decode cX0_aboutBoard 11 = .ok (.tableswitch 173 0 11 #[61, 80, 90, 100, 106, 112, 122, 128, 138, 147, 153, 163], 61) := by decide +kernel
theorem dX0_aboutBoard_72 : decode cX0_aboutBoard 72 = .ok (.iload_n 1, 1) := by decide +kernel
theorem dX0_aboutBoard_73 : decode cX0_aboutBoard 73 = .ok (.ifCond .ne 8, 3) := by decide +kernel
theorem dX0_aboutBoard_76 : decode cX0_aboutBoard 76 = .ok (.bipush (-6), 2) := by decide +kernel
theorem dX0_aboutBoard_78 : decode cX0_aboutBoard 78 = .ok (.goto 12, 3) := by decide +kernel
theorem dX0_aboutBoard_81 : decode cX0_aboutBoard 81 = .ok (.aload_n 0, 1) := by decide +kernel
theorem dX0_aboutBoard_82 : decode cX0_aboutBoard 82 = .ok (.getfield 11, 3) := by decide +kernel
theorem dX0_aboutBoard_85 : decode cX0_aboutBoard 85 = .ok (.bipush 17, 2) := by decide +kernel
theorem dX0_aboutBoard_87 : decode cX0_aboutBoard 87 = .ok (.iload_n 1, 1) := by decide +kernel
theorem dX0_aboutBoard_88 : decode cX0_aboutBoard 88 = .ok (.iadd, 1) := by decide +kernel
theorem dX0_aboutBoard_89 : decode cX0_aboutBoard 89 = .ok (.iaload, 1) := by decide +kernel
theorem dX0_aboutBoard_90 : decode cX0_aboutBoard 90 = .ok (.ireturn, 1) := by decide +kernel
theorem dX0_aboutBoard_91 : decode cX0_aboutBoard 91 = .ok (.aload_n 0, 1) := by decide +kernel
theorem dX0_aboutBoard_92 : decode cX0_aboutBoard 92 = .ok (.getfield 11, 3) := by decide +kernel
theorem dX0_aboutBoard_95 : decode cX0_aboutBoard 95 = .ok (.bipush 27, 2) := by decide +kernel
theorem dX0_aboutBoard_97 : decode cX0_aboutBoard 97 = .ok (.iload_n 1, 1) := by decide +kernel
theorem dX0_aboutBoard_98 : decode cX0_aboutBoard 98 = .ok (.iadd, 1) := by decide +kernel
theorem dX0_aboutBoard_99 : decode cX0_aboutBoard 99 = .ok (.iaload, 1) := by decide +kernel
theorem dX0_aboutBoard_100 : decode cX0_aboutBoard 100 = .ok (.ireturn, 1) := by decide +kernel
theorem dX0_aboutBoard_101 : decode cX0_aboutBoard 101 = .ok (.aload_n 0, 1) := by decide +kernel
theorem dX0_aboutBoard_102 : decode cX0_aboutBoard 102 = .ok (.getfield 11, 3) := by decide +kernel
theorem dX0_aboutBoard_105 : decode cX0_aboutBoard 105 = .ok (.bipush 37, 2) := by decide +kernel
theorem dX0_aboutBoard_107 : decode cX0_aboutBoard 107 = .ok (.iload_n 1, 1) := by decide +kernel
theorem dX0_aboutBoard_108 : decode cX0_aboutBoard 108 = .ok (.iadd, 1) := by decide +kernel
theorem dX0_aboutBoard_109 : decode cX0_aboutBoard 109 = .ok (.iaload, 1) := by decide +kernel
theorem dX0_aboutBoard_110 : decode cX0_aboutBoard 110 = .ok (.ireturn, 1) := by decide +kernel
theorem dX0_aboutBoard_111 : decode cX0_aboutBoard 111 = .ok (.aload_n 0, 1) := by decide +kernel
theorem dX0_aboutBoard_112 : decode cX0_aboutBoard 112 = .ok (.iload_n 1, 1) := by decide +kernel
theorem dX0_aboutBoard_113 : decode cX0_aboutBoard 113 = .ok (.invokevirtual 67, 3) := by decide +kernel
theorem dX0_aboutBoard_116 : decode cX0_aboutBoard 116 = .ok (.ireturn, 1) := by decide +kernel
theorem dX0_aboutBoard_117 : decode cX0_aboutBoard 117 = .ok (.aload_n 0, 1) := by decide +kernel
theorem dX0_aboutBoard_118 : decode cX0_aboutBoard 118 = .ok (.iload_n 1, 1) := by decide +kernel
theorem dX0_aboutBoard_119 : decode cX0_aboutBoard 119 = .ok (.invokevirtual 112, 3) := by decide +kernel
theorem dX0_aboutBoard_122 : decode cX0_aboutBoard 122 = .ok (.ireturn, 1) := by decide +kernel
theorem dX0_aboutBoard_123 : decode cX0_aboutBoard 123 = .ok (.aload_n 0, 1) := by decide +kernel
theorem dX0_aboutBoard_124 : decode cX0_aboutBoard 124 = .ok (.getfield 11, 3) := by decide +kernel
theorem dX0_aboutBoard_127 : decode cX0_aboutBoard 127 = .ok (.bipush 57, 2) := by decide +kernel
theorem dX0_aboutBoard_129 : decode cX0_aboutBoard 129 = .ok (.iload_n 1, 1) := by decide +kernel
theorem dX0_aboutBoard_130 : decode cX0_aboutBoard 130 = .ok (.iadd, 1) := by decide +kernel
theorem dX0_aboutBoard_131 : decode cX0_aboutBoard 131 = .ok (.iaload, 1) := by decide +kernel
theorem dX0_aboutBoard_132 : decode cX0_aboutBoard 132 = .ok (.ireturn, 1) := by decide +kernel
theorem dX0_aboutBoard_133 : decode cX0_aboutBoard 133 = .ok (.aload_n 0, 1) := by decide +kernel
theorem dX0_aboutBoard_134 : decode cX0_aboutBoard 134 = .ok (.iload_n 1, 1) := by decide +kernel
theorem dX0_aboutBoard_135 : decode cX0_aboutBoard 135 = .ok (.invokevirtual 106, 3) := by decide +kernel
theorem dX0_aboutBoard_138 : decode cX0_aboutBoard 138 = .ok (.ireturn, 1) := by decide +kernel
theorem dX0_aboutBoard_139 : decode cX0_aboutBoard 139 = .ok (.aload_n 0, 1) := by decide +kernel
theorem dX0_aboutBoard_140 : decode cX0_aboutBoard 140 = .ok (.getfield 11, 3) := by decide +kernel
theorem dX0_aboutBoard_143 : decode cX0_aboutBoard 143 = .ok (.bipush 67, 2) := by decide +kernel
theorem dX0_aboutBoard_145 : decode cX0_aboutBoard 145 = .ok (.iload_n 1, 1) := by decide +kernel
theorem dX0_aboutBoard_146 : decode cX0_aboutBoard 146 = .ok (.iadd, 1) := by decide +kernel
theorem dX0_aboutBoard_147 : decode cX0_aboutBoard 147 = .ok (.iaload, 1) := by decide +kernel
theorem dX0_aboutBoard_148 : decode cX0_aboutBoard 148 = .ok (.ireturn, 1) := by decide +kernel
theorem dX0_aboutBoard_149 : decode cX0_aboutBoard 149 = .ok (.aload_n 0, 1) := by decide +kernel
theorem dX0_aboutBoard_150 : decode cX0_aboutBoard 150 = .ok (.invokevirtual 87, 3) := by decide +kernel
theorem dX0_aboutBoard_153 : decode cX0_aboutBoard 153 = .ok (.iload_n 1, 1) := by decide +kernel
theorem dX0_aboutBoard_154 : decode cX0_aboutBoard 154 = .ok (.ishr, 1) := by decide +kernel
theorem dX0_aboutBoard_155 : decode cX0_aboutBoard 155 = .ok (.iconst 1, 1) := by decide +kernel
theorem dX0_aboutBoard_156 : decode cX0_aboutBoard 156 = .ok (.iand, 1) := by decide +kernel
theorem dX0_aboutBoard_157 : decode cX0_aboutBoard 157 = .ok (.ireturn, 1) := by decide +kernel
theorem dX0_aboutBoard_158 : decode cX0_aboutBoard 158 = .ok (.aload_n 0, 1) := by decide +kernel
theorem dX0_aboutBoard_159 : decode cX0_aboutBoard 159 = .ok (.iload_n 1, 1) := by decide +kernel
theorem dX0_aboutBoard_160 : decode cX0_aboutBoard 160 = .ok (.invokevirtual 115, 3) := by decide +kernel
theorem dX0_aboutBoard_163 : decode cX0_aboutBoard 163 = .ok (.ireturn, 1) := by decide +kernel
theorem dX0_aboutBoard_164 : decode cX0_aboutBoard 164 = .ok (.aload_n 0, 1) := by decide +kernel
theorem dX0_aboutBoard_165 : decode cX0_aboutBoard 165 = .ok (.getfield 11, 3) := by decide +kernel
theorem dX0_aboutBoard_168 : decode cX0_aboutBoard 168 = .ok (.bipush 47, 2) := by decide +kernel
theorem dX0_aboutBoard_170 : decode cX0_aboutBoard 170 = .ok (.iload_n 1, 1) := by decide +kernel
theorem dX0_aboutBoard_171 : decode cX0_aboutBoard 171 = .ok (.iadd, 1) := by decide +kernel
theorem dX0_aboutBoard_172 : decode cX0_aboutBoard 172 = .ok (.iaload, 1) := by decide +kernel
theorem dX0_aboutBoard_173 : decode cX0_aboutBoard 173 = .ok (.ireturn, 1) := by decide +kernel
theorem dX0_aboutBoard_174 : decode cX0_aboutBoard 174 = .ok (.aload_n 0, 1) := by decide +kernel
theorem dX0_aboutBoard_175 : decode cX0_aboutBoard 175 = .ok (.getfield 11, 3) := by decide +kernel
theorem dX0_aboutBoard_178 : decode cX0_aboutBoard 178 = .ok (.bipush 87, 2) := by decide +kernel
theorem dX0_aboutBoard_180 : decode cX0_aboutBoard 180 = .ok (.iload_n 1, 1) := by decide +kernel
theorem dX0_aboutBoard_181 : decode cX0_aboutBoard 181 = .ok (.iadd, 1) := by decide +kernel
theorem dX0_aboutBoard_182 : decode cX0_aboutBoard 182 = .ok (.iaload, 1) := by decide +kernel
theorem dX0_aboutBoard_183 : decode cX0_aboutBoard 183 = .ok (.ireturn, 1) := by decide +kernel
theorem dX0_aboutBoard_184 : decode cX0_aboutBoard 184 = .ok (.bipush (-2), 2) := by decide +kernel
theorem dX0_aboutBoard_186 : decode cX0_aboutBoard 186 = .ok (.ireturn, 1) := by decide +kernel
theorem dX0_aboutLoad_0 : decode cX0_aboutLoad 0 = .ok (.aload_n 0, 1) := by decide +kernel
theorem dX0_aboutLoad_1 : decode cX0_aboutLoad 1 = .ok (.iload_n 1, 1) := by decide +kernel
theorem dX0_aboutLoad_2 : decode cX0_aboutLoad 2 = .ok (.invokevirtual 42, 3) := by decide +kernel
theorem dX0_aboutLoad_5 : decode cX0_aboutLoad 5 = .ok (.ifCond .ne 5, 3) := by decide +kernel
theorem dX0_aboutLoad_8 : decode cX0_aboutLoad 8 = .ok (.iconst (-1), 1) := by decide +kernel
theorem dX0_aboutLoad_9 : decode cX0_aboutLoad 9 = .ok (.ireturn, 1) := by decide +kernel
theorem dX0_aboutLoad_10 : decode cX0_aboutLoad 10 = .ok (.iload_n 2, 1) := by decide +kernel
theorem dX0_aboutLoad_11 : decode cX0_aboutLoad 11 = .ok (.tableswitch 74 0 3 #[29, 39, 49, 61], 29) := by decide +kernel
theorem dX0_aboutLoad_40 : decode cX0_aboutLoad 40 = .ok (.aload_n 0, 1) := by decide +kernel
theorem dX0_aboutLoad_41 : decode cX0_aboutLoad 41 = .ok (.getfield 11, 3) := by decide +kernel
theorem dX0_aboutLoad_44 : decode cX0_aboutLoad 44 = .ok (.bipush 97, 2) := by decide +kernel
theorem dX0_aboutLoad_46 : decode cX0_aboutLoad 46 = .ok (.iload_n 1, 1) := by decide +kernel
theorem dX0_aboutLoad_47 : decode cX0_aboutLoad 47 = .ok (.iadd, 1) := by decide +kernel
theorem dX0_aboutLoad_48 : decode cX0_aboutLoad 48 = .ok (.iaload, 1) := by decide +kernel
theorem dX0_aboutLoad_49 : decode cX0_aboutLoad 49 = .ok (.ireturn, 1) := by decide +kernel
theorem dX0_aboutLoad_50 : decode cX0_aboutLoad 50 = .ok (.aload_n 0, 1) := by decide +kernel
theorem dX0_aboutLoad_51 : decode cX0_aboutLoad 51 = .ok (.getfield 11, 3) := by decide +kernel
theorem dX0_aboutLoad_54 : decode cX0_aboutLoad 54 = .ok (.bipush 111, 2) := by decide +kernel
theorem dX0_aboutLoad_56 : decode cX0_aboutLoad 56 = .ok (.iload_n 1, 1) := by decide +kernel
theorem dX0_aboutLoad_57 : decode cX0_aboutLoad 57 = .ok (.iadd, 1) := by decide +kernel
theorem dX0_aboutLoad_58 : decode cX0_aboutLoad 58 = .ok (.iaload, 1) := by decide +kernel
theorem dX0_aboutLoad_59 : decode cX0_aboutLoad 59 = .ok (.ireturn, 1) := by decide +kernel
theorem dX0_aboutLoad_60 : decode cX0_aboutLoad 60 = .ok (.aload_n 0, 1) := by decide +kernel
theorem dX0_aboutLoad_61 : decode cX0_aboutLoad 61 = .ok (.getfield 11, 3) := by decide +kernel
theorem dX0_aboutLoad_64 : decode cX0_aboutLoad 64 = .ok (.bipush 6, 2) := by decide +kernel
theorem dX0_aboutLoad_66 : decode cX0_aboutLoad 66 = .ok (.iaload, 1) := by decide +kernel
theorem dX0_aboutLoad_67 : decode cX0_aboutLoad 67 = .ok (.iload_n 1, 1) := by decide +kernel
theorem dX0_aboutLoad_68 : decode cX0_aboutLoad 68 = .ok (.ishr, 1) := by decide +kernel
theorem dX0_aboutLoad_69 : decode cX0_aboutLoad 69 = .ok (.iconst 1, 1) := by decide +kernel
theorem dX0_aboutLoad_70 : decode cX0_aboutLoad 70 = .ok (.iand, 1) := by decide +kernel
theorem dX0_aboutLoad_71 : decode cX0_aboutLoad 71 = .ok (.ireturn, 1) := by decide +kernel
theorem dX0_aboutLoad_72 : decode cX0_aboutLoad 72 = .ok (.aload_n 0, 1) := by decide +kernel
theorem dX0_aboutLoad_73 : decode cX0_aboutLoad 73 = .ok (.aload_n 0, 1) := by decide +kernel
theorem dX0_aboutLoad_74 : decode cX0_aboutLoad 74 = .ok (.invokevirtual 118, 3) := by decide +kernel
theorem dX0_aboutLoad_77 : decode cX0_aboutLoad 77 = .ok (.invokevirtual 121, 3) := by decide +kernel
theorem dX0_aboutLoad_80 : decode cX0_aboutLoad 80 = .ok (.iload_n 1, 1) := by decide +kernel
theorem dX0_aboutLoad_81 : decode cX0_aboutLoad 81 = .ok (.ishr, 1) := by decide +kernel
theorem dX0_aboutLoad_82 : decode cX0_aboutLoad 82 = .ok (.iconst 1, 1) := by decide +kernel
theorem dX0_aboutLoad_83 : decode cX0_aboutLoad 83 = .ok (.iand, 1) := by decide +kernel
theorem dX0_aboutLoad_84 : decode cX0_aboutLoad 84 = .ok (.ireturn, 1) := by decide +kernel
theorem dX0_aboutLoad_85 : decode cX0_aboutLoad 85 = .ok (.bipush (-2), 2) := by decide +kernel
theorem dX0_aboutLoad_87 : decode cX0_aboutLoad 87 = .ok (.ireturn, 1) := by decide +kernel
theorem dX0_aboutHouse_0 : decode cX0_aboutHouse 0 = .ok (.iload_n 1, 1) := by decide +kernel
theorem dX0_aboutHouse_1 : decode cX0_aboutHouse 1 = .ok (.tableswitch 146 0 11 #[63, 70, 77, 84, 89, 98, 106, 111, 119, 125, 132, 139], 63) := by decide +kernel
theorem dX0_aboutHouse_64 : decode cX0_aboutHouse 64 = .ok (.aload_n 0, 1) := by decide +kernel
theorem dX0_aboutHouse_65 : decode cX0_aboutHouse 65 = .ok (.getfield 11, 3) := by decide +kernel
theorem dX0_aboutHouse_68 : decode cX0_aboutHouse 68 = .ok (.iconst 3, 1) := by decide +kernel
theorem dX0_aboutHouse_69 : decode cX0_aboutHouse 69 = .ok (.iaload, 1) := by decide +kernel
theorem dX0_aboutHouse_70 : decode cX0_aboutHouse 70 = .ok (.ireturn, 1) := by decide +kernel
theorem dX0_aboutHouse_71 : decode cX0_aboutHouse 71 = .ok (.aload_n 0, 1) := by decide +kernel
theorem dX0_aboutHouse_72 : decode cX0_aboutHouse 72 = .ok (.getfield 11, 3) := by decide +kernel
theorem dX0_aboutHouse_75 : decode cX0_aboutHouse 75 = .ok (.iconst 4, 1) := by decide +kernel
theorem dX0_aboutHouse_76 : decode cX0_aboutHouse 76 = .ok (.iaload, 1) := by decide +kernel
theorem dX0_aboutHouse_77 : decode cX0_aboutHouse 77 = .ok (.ireturn, 1) := by decide +kernel
theorem dX0_aboutHouse_78 : decode cX0_aboutHouse 78 = .ok (.aload_n 0, 1) := by decide +kernel
theorem dX0_aboutHouse_79 : decode cX0_aboutHouse 79 = .ok (.getfield 11, 3) := by decide +kernel
theorem dX0_aboutHouse_82 : decode cX0_aboutHouse 82 = .ok (.iconst 5, 1) := by decide +kernel
theorem dX0_aboutHouse_83 : decode cX0_aboutHouse 83 = .ok (.iaload, 1) := by decide +kernel
theorem dX0_aboutHouse_84 : decode cX0_aboutHouse 84 = .ok (.ireturn, 1) := by decide +kernel
theorem dX0_aboutHouse_85 : decode cX0_aboutHouse 85 = .ok (.aload_n 0, 1) := by decide +kernel
theorem dX0_aboutHouse_86 : decode cX0_aboutHouse 86 = .ok (.invokevirtual 87, 3) := by decide +kernel
theorem dX0_aboutHouse_89 : decode cX0_aboutHouse 89 = .ok (.ireturn, 1) := by decide +kernel
theorem dX0_aboutHouse_90 : decode cX0_aboutHouse 90 = .ok (.aload_n 0, 1) := by decide +kernel
theorem dX0_aboutHouse_91 : decode cX0_aboutHouse 91 = .ok (.aload_n 0, 1) := by decide +kernel
theorem dX0_aboutHouse_92 : decode cX0_aboutHouse 92 = .ok (.invokevirtual 118, 3) := by decide +kernel
theorem dX0_aboutHouse_95 : decode cX0_aboutHouse 95 = .ok (.invokevirtual 121, 3) := by decide +kernel
theorem dX0_aboutHouse_98 : decode cX0_aboutHouse 98 = .ok (.ireturn, 1) := by decide +kernel
theorem dX0_aboutHouse_99 : decode cX0_aboutHouse 99 = .ok (.aload_n 0, 1) := by decide +kernel
theorem dX0_aboutHouse_100 : decode cX0_aboutHouse 100 = .ok (.getfield 11, 3) := by decide +kernel
theorem dX0_aboutHouse_103 : decode cX0_aboutHouse 103 = .ok (.bipush 7, 2) := by decide +kernel
theorem dX0_aboutHouse_105 : decode cX0_aboutHouse 105 = .ok (.iaload, 1) := by decide +kernel
theorem dX0_aboutHouse_106 : decode cX0_aboutHouse 106 = .ok (.ireturn, 1) := by decide +kernel
theorem dX0_aboutHouse_107 : decode cX0_aboutHouse 107 = .ok (.aload_n 0, 1) := by decide +kernel
theorem dX0_aboutHouse_108 : decode cX0_aboutHouse 108 = .ok (.invokevirtual 124, 3) := by decide +kernel
theorem dX0_aboutHouse_111 : decode cX0_aboutHouse 111 = .ok (.ireturn, 1) := by decide +kernel
theorem dX0_aboutHouse_112 : decode cX0_aboutHouse 112 = .ok (.aload_n 0, 1) := by decide +kernel
theorem dX0_aboutHouse_113 : decode cX0_aboutHouse 113 = .ok (.getfield 11, 3) := by decide +kernel
theorem dX0_aboutHouse_116 : decode cX0_aboutHouse 116 = .ok (.bipush 8, 2) := by decide +kernel
theorem dX0_aboutHouse_118 : decode cX0_aboutHouse 118 = .ok (.iaload, 1) := by decide +kernel
theorem dX0_aboutHouse_119 : decode cX0_aboutHouse 119 = .ok (.ireturn, 1) := by decide +kernel
theorem dX0_aboutHouse_120 : decode cX0_aboutHouse 120 = .ok (.aload_n 0, 1) := by decide +kernel
theorem dX0_aboutHouse_121 : decode cX0_aboutHouse 121 = .ok (.iconst 0, 1) := by decide +kernel
theorem dX0_aboutHouse_122 : decode cX0_aboutHouse 122 = .ok (.invokevirtual 112, 3) := by decide +kernel
theorem dX0_aboutHouse_125 : decode cX0_aboutHouse 125 = .ok (.ireturn, 1) := by decide +kernel
theorem dX0_aboutHouse_126 : decode cX0_aboutHouse 126 = .ok (.aload_n 0, 1) := by decide +kernel
theorem dX0_aboutHouse_127 : decode cX0_aboutHouse 127 = .ok (.getfield 11, 3) := by decide +kernel
theorem dX0_aboutHouse_130 : decode cX0_aboutHouse 130 = .ok (.iconst 0, 1) := by decide +kernel
theorem dX0_aboutHouse_131 : decode cX0_aboutHouse 131 = .ok (.iaload, 1) := by decide +kernel
theorem dX0_aboutHouse_132 : decode cX0_aboutHouse 132 = .ok (.ireturn, 1) := by decide +kernel
theorem dX0_aboutHouse_133 : decode cX0_aboutHouse 133 = .ok (.aload_n 0, 1) := by decide +kernel
theorem dX0_aboutHouse_134 : decode cX0_aboutHouse 134 = .ok (.getfield 11, 3) := by decide +kernel
theorem dX0_aboutHouse_137 : decode cX0_aboutHouse 137 = .ok (.iconst 1, 1) := by decide +kernel
theorem dX0_aboutHouse_138 : decode cX0_aboutHouse 138 = .ok (.iaload, 1) := by decide +kernel
theorem dX0_aboutHouse_139 : decode cX0_aboutHouse 139 = .ok (.ireturn, 1) := by decide +kernel
theorem dX0_aboutHouse_140 : decode cX0_aboutHouse 140 = .ok (.aload_n 0, 1) := by decide +kernel
theorem dX0_aboutHouse_141 : decode cX0_aboutHouse 141 = .ok (.getfield 11, 3) := by decide +kernel
theorem dX0_aboutHouse_144 : decode cX0_aboutHouse 144 = .ok (.iconst 2, 1) := by decide +kernel
theorem dX0_aboutHouse_145 : decode cX0_aboutHouse 145 = .ok (.iaload, 1) := by decide +kernel
theorem dX0_aboutHouse_146 : decode cX0_aboutHouse 146 = .ok (.ireturn, 1) := by decide +kernel
theorem dX0_aboutHouse_147 : decode cX0_aboutHouse 147 = .ok (.bipush (-2), 2) := by decide +kernel
theorem dX0_aboutHouse_149 : decode cX0_aboutHouse 149 = .ok (.ireturn, 1) := by decide +kernel
theorem dX0_latestBlown_0 : decode cX0_latestBlown 0 = .ok (.iload_n 1, 1) := by decide +kernel
theorem dX0_latestBlown_1 : decode cX0_latestBlown 1 = .ok (.ifCond .lt 20, 3) := by decide +kernel
theorem dX0_latestBlown_4 : decode cX0_latestBlown 4 = .ok (.iload_n 1, 1) := by decide +kernel
theorem dX0_latestBlown_5 : decode cX0_latestBlown 5 = .ok (.bipush 8, 2) := by decide +kernel
theorem dX0_latestBlown_7 : decode cX0_latestBlown 7 = .ok (.if_icmp .ge 14, 3) := by decide +kernel
theorem dX0_latestBlown_10 : decode cX0_latestBlown 10 = .ok (.iload_n 1, 1) := by decide +kernel
theorem dX0_latestBlown_11 : decode cX0_latestBlown 11 = .ok (.aload_n 0, 1) := by decide +kernel
theorem dX0_latestBlown_12 : decode cX0_latestBlown 12 = .ok (.getfield 11, 3) := by decide +kernel
theorem dX0_latestBlown_15 : decode cX0_latestBlown 15 = .ok (.bipush 8, 2) := by decide +kernel
theorem dX0_latestBlown_17 : decode cX0_latestBlown 17 = .ok (.iaload, 1) := by decide +kernel
theorem dX0_latestBlown_18 : decode cX0_latestBlown 18 = .ok (.if_icmp .lt 5, 3) := by decide +kernel
theorem dX0_latestBlown_21 : decode cX0_latestBlown 21 = .ok (.iconst (-1), 1) := by decide +kernel
theorem dX0_latestBlown_22 : decode cX0_latestBlown 22 = .ok (.ireturn, 1) := by decide +kernel
theorem dX0_latestBlown_23 : decode cX0_latestBlown 23 = .ok (.aload_n 0, 1) := by decide +kernel
theorem dX0_latestBlown_24 : decode cX0_latestBlown 24 = .ok (.getfield 11, 3) := by decide +kernel
theorem dX0_latestBlown_27 : decode cX0_latestBlown 27 = .ok (.bipush 9, 2) := by decide +kernel
theorem dX0_latestBlown_29 : decode cX0_latestBlown 29 = .ok (.iload_n 1, 1) := by decide +kernel
theorem dX0_latestBlown_30 : decode cX0_latestBlown 30 = .ok (.iadd, 1) := by decide +kernel
theorem dX0_latestBlown_31 : decode cX0_latestBlown 31 = .ok (.iaload, 1) := by decide +kernel
theorem dX0_latestBlown_32 : decode cX0_latestBlown 32 = .ok (.ireturn, 1) := by decide +kernel
theorem dX0_fedThrough_0 : decode cX0_fedThrough 0 = .ok (.aload_n 0, 1) := by decide +kernel
theorem dX0_fedThrough_1 : decode cX0_fedThrough 1 = .ok (.iload_n 1, 1) := by decide +kernel
theorem dX0_fedThrough_2 : decode cX0_fedThrough 2 = .ok (.invokevirtual 24, 3) := by decide +kernel
theorem dX0_fedThrough_5 : decode cX0_fedThrough 5 = .ok (.ifCond .ne 5, 3) := by decide +kernel
theorem dX0_fedThrough_8 : decode cX0_fedThrough 8 = .ok (.iconst 0, 1) := by decide +kernel
theorem dX0_fedThrough_9 : decode cX0_fedThrough 9 = .ok (.ireturn, 1) := by decide +kernel
theorem dX0_fedThrough_10 : decode cX0_fedThrough 10 = .ok (.iconst 1, 1) := by decide +kernel
theorem dX0_fedThrough_11 : decode cX0_fedThrough 11 = .ok (.iload_n 1, 1) := by decide +kernel
theorem dX0_fedThrough_12 : decode cX0_fedThrough 12 = .ok (.ishl, 1) := by decide +kernel
theorem dX0_fedThrough_13 : decode cX0_fedThrough 13 = .ok (.istore_n 2, 1) := by decide +kernel
theorem dX0_fedThrough_14 : decode cX0_fedThrough 14 = .ok (.iload_n 1, 1) := by decide +kernel
theorem dX0_fedThrough_15 : decode cX0_fedThrough 15 = .ok (.iconst 1, 1) := by decide +kernel
theorem dX0_fedThrough_16 : decode cX0_fedThrough 16 = .ok (.iadd, 1) := by decide +kernel
theorem dX0_fedThrough_17 : decode cX0_fedThrough 17 = .ok (.istore_n 3, 1) := by decide +kernel
theorem dX0_fedThrough_18 : decode cX0_fedThrough 18 = .ok (.iload_n 3, 1) := by decide +kernel
theorem dX0_fedThrough_19 : decode cX0_fedThrough 19 = .ok (.aload_n 0, 1) := by decide +kernel
theorem dX0_fedThrough_20 : decode cX0_fedThrough 20 = .ok (.getfield 11, 3) := by decide +kernel
theorem dX0_fedThrough_23 : decode cX0_fedThrough 23 = .ok (.iconst 4, 1) := by decide +kernel
theorem dX0_fedThrough_24 : decode cX0_fedThrough 24 = .ok (.iaload, 1) := by decide +kernel
theorem dX0_fedThrough_25 : decode cX0_fedThrough 25 = .ok (.if_icmp .ge 31, 3) := by decide +kernel
theorem dX0_fedThrough_28 : decode cX0_fedThrough 28 = .ok (.iload_n 2, 1) := by decide +kernel
theorem dX0_fedThrough_29 : decode cX0_fedThrough 29 = .ok (.aload_n 0, 1) := by decide +kernel
theorem dX0_fedThrough_30 : decode cX0_fedThrough 30 = .ok (.getfield 11, 3) := by decide +kernel
theorem dX0_fedThrough_33 : decode cX0_fedThrough 33 = .ok (.bipush 17, 2) := by decide +kernel
theorem dX0_fedThrough_35 : decode cX0_fedThrough 35 = .ok (.iload_n 3, 1) := by decide +kernel
theorem dX0_fedThrough_36 : decode cX0_fedThrough 36 = .ok (.iadd, 1) := by decide +kernel
theorem dX0_fedThrough_37 : decode cX0_fedThrough 37 = .ok (.iaload, 1) := by decide +kernel
theorem dX0_fedThrough_38 : decode cX0_fedThrough 38 = .ok (.ishr, 1) := by decide +kernel
theorem dX0_fedThrough_39 : decode cX0_fedThrough 39 = .ok (.iconst 1, 1) := by decide +kernel
theorem dX0_fedThrough_40 : decode cX0_fedThrough 40 = .ok (.iand, 1) := by decide +kernel
theorem dX0_fedThrough_41 : decode cX0_fedThrough 41 = .ok (.ifCond .eq 9, 3) := by decide +kernel
theorem dX0_fedThrough_44 : decode cX0_fedThrough 44 = .ok (.iload_n 2, 1) := by decide +kernel
theorem dX0_fedThrough_45 : decode cX0_fedThrough 45 = .ok (.iconst 1, 1) := by decide +kernel
theorem dX0_fedThrough_46 : decode cX0_fedThrough 46 = .ok (.iload_n 3, 1) := by decide +kernel
theorem dX0_fedThrough_47 : decode cX0_fedThrough 47 = .ok (.ishl, 1) := by decide +kernel
theorem dX0_fedThrough_48 : decode cX0_fedThrough 48 = .ok (.ior, 1) := by decide +kernel
theorem dX0_fedThrough_49 : decode cX0_fedThrough 49 = .ok (.istore_n 2, 1) := by decide +kernel
theorem dX0_fedThrough_50 : decode cX0_fedThrough 50 = .ok (.iinc 3 1, 3) := by decide +kernel
theorem dX0_fedThrough_53 : decode cX0_fedThrough 53 = .ok (.goto (-35), 3) := by decide +kernel
theorem dX0_fedThrough_56 : decode cX0_fedThrough 56 = .ok (.iload_n 2, 1) := by decide +kernel
theorem dX0_fedThrough_57 : decode cX0_fedThrough 57 = .ok (.ireturn, 1) := by decide +kernel
theorem dX0_workingLoadsAt_0 : decode cX0_workingLoadsAt 0 = .ok (.iload_n 1, 1) := by decide +kernel
theorem dX0_workingLoadsAt_1 : decode cX0_workingLoadsAt 1 = .ok (.aload_n 0, 1) := by decide +kernel
theorem dX0_workingLoadsAt_2 : decode cX0_workingLoadsAt 2 = .ok (.invokevirtual 87, 3) := by decide +kernel
theorem dX0_workingLoadsAt_5 : decode cX0_workingLoadsAt 5 = .ok (.iconst (-1), 1) := by decide +kernel
theorem dX0_workingLoadsAt_6 : decode cX0_workingLoadsAt 6 = .ok (.ixor, 1) := by decide +kernel
theorem dX0_workingLoadsAt_7 : decode cX0_workingLoadsAt 7 = .ok (.iand, 1) := by decide +kernel
theorem dX0_workingLoadsAt_8 : decode cX0_workingLoadsAt 8 = .ok (.istore_n 2, 1) := by decide +kernel
theorem dX0_workingLoadsAt_9 : decode cX0_workingLoadsAt 9 = .ok (.iconst 0, 1) := by decide +kernel
theorem dX0_workingLoadsAt_10 : decode cX0_workingLoadsAt 10 = .ok (.istore_n 3, 1) := by decide +kernel
theorem dX0_workingLoadsAt_11 : decode cX0_workingLoadsAt 11 = .ok (.iconst 0, 1) := by decide +kernel
theorem dX0_workingLoadsAt_12 : decode cX0_workingLoadsAt 12 = .ok (.istore 4, 2) := by decide +kernel
theorem dX0_workingLoadsAt_14 : decode cX0_workingLoadsAt 14 = .ok (.iload 4, 2) := by decide +kernel
theorem dX0_workingLoadsAt_16 : decode cX0_workingLoadsAt 16 = .ok (.aload_n 0, 1) := by decide +kernel
theorem dX0_workingLoadsAt_17 : decode cX0_workingLoadsAt 17 = .ok (.getfield 11, 3) := by decide +kernel
theorem dX0_workingLoadsAt_20 : decode cX0_workingLoadsAt 20 = .ok (.iconst 5, 1) := by decide +kernel
theorem dX0_workingLoadsAt_21 : decode cX0_workingLoadsAt 21 = .ok (.iaload, 1) := by decide +kernel
theorem dX0_workingLoadsAt_22 : decode cX0_workingLoadsAt 22 = .ok (.if_icmp .ge 33, 3) := by decide +kernel
theorem dX0_workingLoadsAt_25 : decode cX0_workingLoadsAt 25 = .ok (.iload_n 2, 1) := by decide +kernel
theorem dX0_workingLoadsAt_26 : decode cX0_workingLoadsAt 26 = .ok (.aload_n 0, 1) := by decide +kernel
theorem dX0_workingLoadsAt_27 : decode cX0_workingLoadsAt 27 = .ok (.getfield 11, 3) := by decide +kernel
theorem dX0_workingLoadsAt_30 : decode cX0_workingLoadsAt 30 = .ok (.bipush 97, 2) := by decide +kernel
theorem dX0_workingLoadsAt_32 : decode cX0_workingLoadsAt 32 = .ok (.iload 4, 2) := by decide +kernel
theorem dX0_workingLoadsAt_34 : decode cX0_workingLoadsAt 34 = .ok (.iadd, 1) := by decide +kernel
theorem dX0_workingLoadsAt_35 : decode cX0_workingLoadsAt 35 = .ok (.iaload, 1) := by decide +kernel
theorem dX0_workingLoadsAt_36 : decode cX0_workingLoadsAt 36 = .ok (.ishr, 1) := by decide +kernel
theorem dX0_workingLoadsAt_37 : decode cX0_workingLoadsAt 37 = .ok (.iconst 1, 1) := by decide +kernel
theorem dX0_workingLoadsAt_38 : decode cX0_workingLoadsAt 38 = .ok (.iand, 1) := by decide +kernel
theorem dX0_workingLoadsAt_39 : decode cX0_workingLoadsAt 39 = .ok (.ifCond .eq 10, 3) := by decide +kernel
theorem dX0_workingLoadsAt_42 : decode cX0_workingLoadsAt 42 = .ok (.iload_n 3, 1) := by decide +kernel
theorem dX0_workingLoadsAt_43 : decode cX0_workingLoadsAt 43 = .ok (.iconst 1, 1) := by decide +kernel
theorem dX0_workingLoadsAt_44 : decode cX0_workingLoadsAt 44 = .ok (.iload 4, 2) := by decide +kernel
theorem dX0_workingLoadsAt_46 : decode cX0_workingLoadsAt 46 = .ok (.ishl, 1) := by decide +kernel
theorem dX0_workingLoadsAt_47 : decode cX0_workingLoadsAt 47 = .ok (.ior, 1) := by decide +kernel
theorem dX0_workingLoadsAt_48 : decode cX0_workingLoadsAt 48 = .ok (.istore_n 3, 1) := by decide +kernel
theorem dX0_workingLoadsAt_49 : decode cX0_workingLoadsAt 49 = .ok (.iinc 4 1, 3) := by decide +kernel
theorem dX0_workingLoadsAt_52 : decode cX0_workingLoadsAt 52 = .ok (.goto (-38), 3) := by decide +kernel
theorem dX0_workingLoadsAt_55 : decode cX0_workingLoadsAt 55 = .ok (.iload_n 3, 1) := by decide +kernel
theorem dX0_workingLoadsAt_56 : decode cX0_workingLoadsAt 56 = .ok (.aload_n 0, 1) := by decide +kernel
theorem dX0_workingLoadsAt_57 : decode cX0_workingLoadsAt 57 = .ok (.getfield 11, 3) := by decide +kernel
theorem dX0_workingLoadsAt_60 : decode cX0_workingLoadsAt 60 = .ok (.bipush 6, 2) := by decide +kernel
theorem dX0_workingLoadsAt_62 : decode cX0_workingLoadsAt 62 = .ok (.iaload, 1) := by decide +kernel
theorem dX0_workingLoadsAt_63 : decode cX0_workingLoadsAt 63 = .ok (.iand, 1) := by decide +kernel
theorem dX0_workingLoadsAt_64 : decode cX0_workingLoadsAt 64 = .ok (.ireturn, 1) := by decide +kernel
theorem dX0_allBoards_0 : decode cX0_allBoards 0 = .ok (.iconst 1, 1) := by decide +kernel
theorem dX0_allBoards_1 : decode cX0_allBoards 1 = .ok (.aload_n 0, 1) := by decide +kernel
theorem dX0_allBoards_2 : decode cX0_allBoards 2 = .ok (.getfield 11, 3) := by decide +kernel
theorem dX0_allBoards_5 : decode cX0_allBoards 5 = .ok (.iconst 4, 1) := by decide +kernel
theorem dX0_allBoards_6 : decode cX0_allBoards 6 = .ok (.iaload, 1) := by decide +kernel
theorem dX0_allBoards_7 : decode cX0_allBoards 7 = .ok (.ishl, 1) := by decide +kernel
theorem dX0_allBoards_8 : decode cX0_allBoards 8 = .ok (.iconst 1, 1) := by decide +kernel
theorem dX0_allBoards_9 : decode cX0_allBoards 9 = .ok (.isub, 1) := by decide +kernel
theorem dX0_allBoards_10 : decode cX0_allBoards 10 = .ok (.ireturn, 1) := by decide +kernel
theorem dX0_deadBoards_0 : decode cX0_deadBoards 0 = .ok (.aload_n 0, 1) := by decide +kernel
theorem dX0_deadBoards_1 : decode cX0_deadBoards 1 = .ok (.getfield 11, 3) := by decide +kernel
theorem dX0_deadBoards_4 : decode cX0_deadBoards 4 = .ok (.bipush 7, 2) := by decide +kernel
theorem dX0_deadBoards_6 : decode cX0_deadBoards 6 = .ok (.iaload, 1) := by decide +kernel
theorem dX0_deadBoards_7 : decode cX0_deadBoards 7 = .ok (.istore_n 1, 1) := by decide +kernel
theorem dX0_deadBoards_8 : decode cX0_deadBoards 8 = .ok (.iconst 1, 1) := by decide +kernel
theorem dX0_deadBoards_9 : decode cX0_deadBoards 9 = .ok (.istore_n 2, 1) := by decide +kernel
theorem dX0_deadBoards_10 : decode cX0_deadBoards 10 = .ok (.iload_n 2, 1) := by decide +kernel
theorem dX0_deadBoards_11 : decode cX0_deadBoards 11 = .ok (.aload_n 0, 1) := by decide +kernel
theorem dX0_deadBoards_12 : decode cX0_deadBoards 12 = .ok (.getfield 11, 3) := by decide +kernel
theorem dX0_deadBoards_15 : decode cX0_deadBoards 15 = .ok (.iconst 4, 1) := by decide +kernel
theorem dX0_deadBoards_16 : decode cX0_deadBoards 16 = .ok (.iaload, 1) := by decide +kernel
theorem dX0_deadBoards_17 : decode cX0_deadBoards 17 = .ok (.if_icmp .ge 31, 3) := by decide +kernel
theorem dX0_deadBoards_20 : decode cX0_deadBoards 20 = .ok (.iload_n 1, 1) := by decide +kernel
theorem dX0_deadBoards_21 : decode cX0_deadBoards 21 = .ok (.aload_n 0, 1) := by decide +kernel
theorem dX0_deadBoards_22 : decode cX0_deadBoards 22 = .ok (.getfield 11, 3) := by decide +kernel
theorem dX0_deadBoards_25 : decode cX0_deadBoards 25 = .ok (.bipush 17, 2) := by decide +kernel
theorem dX0_deadBoards_27 : decode cX0_deadBoards 27 = .ok (.iload_n 2, 1) := by decide +kernel
theorem dX0_deadBoards_28 : decode cX0_deadBoards 28 = .ok (.iadd, 1) := by decide +kernel
theorem dX0_deadBoards_29 : decode cX0_deadBoards 29 = .ok (.iaload, 1) := by decide +kernel
theorem dX0_deadBoards_30 : decode cX0_deadBoards 30 = .ok (.ishr, 1) := by decide +kernel
theorem dX0_deadBoards_31 : decode cX0_deadBoards 31 = .ok (.iconst 1, 1) := by decide +kernel
theorem dX0_deadBoards_32 : decode cX0_deadBoards 32 = .ok (.iand, 1) := by decide +kernel
theorem dX0_deadBoards_33 : decode cX0_deadBoards 33 = .ok (.ifCond .eq 9, 3) := by decide +kernel
theorem dX0_deadBoards_36 : decode cX0_deadBoards 36 = .ok (.iload_n 1, 1) := by decide +kernel
theorem dX0_deadBoards_37 : decode cX0_deadBoards 37 = .ok (.iconst 1, 1) := by decide +kernel
theorem dX0_deadBoards_38 : decode cX0_deadBoards 38 = .ok (.iload_n 2, 1) := by decide +kernel
theorem dX0_deadBoards_39 : decode cX0_deadBoards 39 = .ok (.ishl, 1) := by decide +kernel
theorem dX0_deadBoards_40 : decode cX0_deadBoards 40 = .ok (.ior, 1) := by decide +kernel
theorem dX0_deadBoards_41 : decode cX0_deadBoards 41 = .ok (.istore_n 1, 1) := by decide +kernel
theorem dX0_deadBoards_42 : decode cX0_deadBoards 42 = .ok (.iinc 2 1, 3) := by decide +kernel
theorem dX0_deadBoards_45 : decode cX0_deadBoards 45 = .ok (.goto (-35), 3) := by decide +kernel
theorem dX0_deadBoards_48 : decode cX0_deadBoards 48 = .ok (.iload_n 1, 1) := by decide +kernel
theorem dX0_deadBoards_49 : decode cX0_deadBoards 49 = .ok (.ireturn, 1) := by decide +kernel
theorem dX0_burningBoards_0 : decode cX0_burningBoards 0 = .ok (.iconst 0, 1) := by decide +kernel
theorem dX0_burningBoards_1 : decode cX0_burningBoards 1 = .ok (.istore_n 1, 1) := by decide +kernel
theorem dX0_burningBoards_2 : decode cX0_burningBoards 2 = .ok (.iconst 0, 1) := by decide +kernel
theorem dX0_burningBoards_3 : decode cX0_burningBoards 3 = .ok (.istore_n 2, 1) := by decide +kernel
theorem dX0_burningBoards_4 : decode cX0_burningBoards 4 = .ok (.iload_n 2, 1) := by decide +kernel
theorem dX0_burningBoards_5 : decode cX0_burningBoards 5 = .ok (.aload_n 0, 1) := by decide +kernel
theorem dX0_burningBoards_6 : decode cX0_burningBoards 6 = .ok (.getfield 11, 3) := by decide +kernel
theorem dX0_burningBoards_9 : decode cX0_burningBoards 9 = .ok (.iconst 4, 1) := by decide +kernel
theorem dX0_burningBoards_10 : decode cX0_burningBoards 10 = .ok (.iaload, 1) := by decide +kernel
theorem dX0_burningBoards_11 : decode cX0_burningBoards 11 = .ok (.if_icmp .ge 27, 3) := by decide +kernel
theorem dX0_burningBoards_14 : decode cX0_burningBoards 14 = .ok (.aload_n 0, 1) := by decide +kernel
theorem dX0_burningBoards_15 : decode cX0_burningBoards 15 = .ok (.getfield 11, 3) := by decide +kernel
theorem dX0_burningBoards_18 : decode cX0_burningBoards 18 = .ok (.bipush 47, 2) := by decide +kernel
theorem dX0_burningBoards_20 : decode cX0_burningBoards 20 = .ok (.iload_n 2, 1) := by decide +kernel
theorem dX0_burningBoards_21 : decode cX0_burningBoards 21 = .ok (.iadd, 1) := by decide +kernel
theorem dX0_burningBoards_22 : decode cX0_burningBoards 22 = .ok (.iaload, 1) := by decide +kernel
theorem dX0_burningBoards_23 : decode cX0_burningBoards 23 = .ok (.ifCond .le 9, 3) := by decide +kernel
theorem dX0_burningBoards_26 : decode cX0_burningBoards 26 = .ok (.iload_n 1, 1) := by decide +kernel
theorem dX0_burningBoards_27 : decode cX0_burningBoards 27 = .ok (.iconst 1, 1) := by decide +kernel
theorem dX0_burningBoards_28 : decode cX0_burningBoards 28 = .ok (.iload_n 2, 1) := by decide +kernel
theorem dX0_burningBoards_29 : decode cX0_burningBoards 29 = .ok (.ishl, 1) := by decide +kernel
theorem dX0_burningBoards_30 : decode cX0_burningBoards 30 = .ok (.ior, 1) := by decide +kernel
theorem dX0_burningBoards_31 : decode cX0_burningBoards 31 = .ok (.istore_n 1, 1) := by decide +kernel
theorem dX0_burningBoards_32 : decode cX0_burningBoards 32 = .ok (.iinc 2 1, 3) := by decide +kernel
theorem dX0_burningBoards_35 : decode cX0_burningBoards 35 = .ok (.goto (-31), 3) := by decide +kernel
theorem dX0_burningBoards_38 : decode cX0_burningBoards 38 = .ok (.iload_n 1, 1) := by decide +kernel
theorem dX0_burningBoards_39 : decode cX0_burningBoards 39 = .ok (.ireturn, 1) := by decide +kernel
theorem dX0_state_0 : decode cX0_state 0 = .ok (.aload_n 0, 1) := by decide +kernel
theorem dX0_state_1 : decode cX0_state 1 = .ok (.getfield 11, 3) := by decide +kernel
theorem dX0_state_4 : decode cX0_state 4 = .ok (.bipush 7, 2) := by decide +kernel
theorem dX0_state_6 : decode cX0_state 6 = .ok (.iaload, 1) := by decide +kernel
theorem dX0_state_7 : decode cX0_state 7 = .ok (.iload_n 1, 1) := by decide +kernel
theorem dX0_state_8 : decode cX0_state 8 = .ok (.ishr, 1) := by decide +kernel
theorem dX0_state_9 : decode cX0_state 9 = .ok (.iconst 1, 1) := by decide +kernel
theorem dX0_state_10 : decode cX0_state 10 = .ok (.iand, 1) := by decide +kernel
theorem dX0_state_11 : decode cX0_state 11 = .ok (.ifCond .eq 5, 3) := by decide +kernel
theorem dX0_state_14 : decode cX0_state 14 = .ok (.iconst 2, 1) := by decide +kernel
theorem dX0_state_15 : decode cX0_state 15 = .ok (.ireturn, 1) := by decide +kernel
theorem dX0_state_16 : decode cX0_state 16 = .ok (.aload_n 0, 1) := by decide +kernel
theorem dX0_state_17 : decode cX0_state 17 = .ok (.getfield 11, 3) := by decide +kernel
theorem dX0_state_20 : decode cX0_state 20 = .ok (.bipush 47, 2) := by decide +kernel
theorem dX0_state_22 : decode cX0_state 22 = .ok (.iload_n 1, 1) := by decide +kernel
theorem dX0_state_23 : decode cX0_state 23 = .ok (.iadd, 1) := by decide +kernel
theorem dX0_state_24 : decode cX0_state 24 = .ok (.iaload, 1) := by decide +kernel
theorem dX0_state_25 : decode cX0_state 25 = .ok (.ifCond .le 7, 3) := by decide +kernel
theorem dX0_state_28 : decode cX0_state 28 = .ok (.iconst 1, 1) := by decide +kernel
theorem dX0_state_29 : decode cX0_state 29 = .ok (.goto 4, 3) := by decide +kernel
theorem dX0_state_32 : decode cX0_state 32 = .ok (.iconst 0, 1) := by decide +kernel
theorem dX0_state_33 : decode cX0_state 33 = .ok (.ireturn, 1) := by decide +kernel
theorem dX0_current_0 : decode cX0_current 0 = .ok (.aload_n 0, 1) := by decide +kernel
theorem dX0_current_1 : decode cX0_current 1 = .ok (.invokevirtual 61, 3) := by decide +kernel
theorem dX0_current_4 : decode cX0_current 4 = .ok (.aload_n 0, 1) := by decide +kernel
theorem dX0_current_5 : decode cX0_current 5 = .ok (.getfield 15, 3) := by decide +kernel
theorem dX0_current_8 : decode cX0_current 8 = .ok (.iload_n 1, 1) := by decide +kernel
theorem dX0_current_9 : decode cX0_current 9 = .ok (.iaload, 1) := by decide +kernel
theorem dX0_current_10 : decode cX0_current 10 = .ok (.ireturn, 1) := by decide +kernel
theorem dX0_meltingHeat_0 : decode cX0_meltingHeat 0 = .ok (.aload_n 0, 1) := by decide +kernel
theorem dX0_meltingHeat_1 : decode cX0_meltingHeat 1 = .ok (.getfield 11, 3) := by decide +kernel
theorem dX0_meltingHeat_4 : decode cX0_meltingHeat 4 = .ok (.bipush 27, 2) := by decide +kernel
theorem dX0_meltingHeat_6 : decode cX0_meltingHeat 6 = .ok (.iload_n 1, 1) := by decide +kernel
theorem dX0_meltingHeat_7 : decode cX0_meltingHeat 7 = .ok (.iadd, 1) := by decide +kernel
theorem dX0_meltingHeat_8 : decode cX0_meltingHeat 8 = .ok (.iaload, 1) := by decide +kernel
theorem dX0_meltingHeat_9 : decode cX0_meltingHeat 9 = .ok (.istore_n 2, 1) := by decide +kernel
theorem dX0_meltingHeat_10 : decode cX0_meltingHeat 10 = .ok (.iload_n 2, 1) := by decide +kernel
theorem dX0_meltingHeat_11 : decode cX0_meltingHeat 11 = .ok (.iload_n 2, 1) := by decide +kernel
theorem dX0_meltingHeat_12 : decode cX0_meltingHeat 12 = .ok (.imul, 1) := by decide +kernel
theorem dX0_meltingHeat_13 : decode cX0_meltingHeat 13 = .ok (.aload_n 0, 1) := by decide +kernel
theorem dX0_meltingHeat_14 : decode cX0_meltingHeat 14 = .ok (.getfield 11, 3) := by decide +kernel
theorem dX0_meltingHeat_17 : decode cX0_meltingHeat 17 = .ok (.bipush 37, 2) := by decide +kernel
theorem dX0_meltingHeat_19 : decode cX0_meltingHeat 19 = .ok (.iload_n 1, 1) := by decide +kernel
theorem dX0_meltingHeat_20 : decode cX0_meltingHeat 20 = .ok (.iadd, 1) := by decide +kernel
theorem dX0_meltingHeat_21 : decode cX0_meltingHeat 21 = .ok (.iaload, 1) := by decide +kernel
theorem dX0_meltingHeat_22 : decode cX0_meltingHeat 22 = .ok (.invokestatic 127, 3) := by decide +kernel
theorem dX0_meltingHeat_25 : decode cX0_meltingHeat 25 = .ok (.imul, 1) := by decide +kernel
theorem dX0_meltingHeat_26 : decode cX0_meltingHeat 26 = .ok (.istore_n 3, 1) := by decide +kernel
theorem dX0_meltingHeat_27 : decode cX0_meltingHeat 27 = .ok (.iconst 1, 1) := by decide +kernel
theorem dX0_meltingHeat_28 : decode cX0_meltingHeat 28 = .ok (.iload_n 3, 1) := by decide +kernel
theorem dX0_meltingHeat_29 : decode cX0_meltingHeat 29 = .ok (.bipush 20, 2) := by decide +kernel
theorem dX0_meltingHeat_31 : decode cX0_meltingHeat 31 = .ok (.iload_n 2, 1) := by decide +kernel
theorem dX0_meltingHeat_32 : decode cX0_meltingHeat 32 = .ok (.imul, 1) := by decide +kernel
theorem dX0_meltingHeat_33 : decode cX0_meltingHeat 33 = .ok (.aload_n 0, 1) := by decide +kernel
theorem dX0_meltingHeat_34 : decode cX0_meltingHeat 34 = .ok (.getfield 11, 3) := by decide +kernel
theorem dX0_meltingHeat_37 : decode cX0_meltingHeat 37 = .ok (.bipush 67, 2) := by decide +kernel
theorem dX0_meltingHeat_39 : decode cX0_meltingHeat 39 = .ok (.iload_n 1, 1) := by decide +kernel
theorem dX0_meltingHeat_40 : decode cX0_meltingHeat 40 = .ok (.iadd, 1) := by decide +kernel
theorem dX0_meltingHeat_41 : decode cX0_meltingHeat 41 = .ok (.iaload, 1) := by decide +kernel
theorem dX0_meltingHeat_42 : decode cX0_meltingHeat 42 = .ok (.imul, 1) := by decide +kernel
theorem dX0_meltingHeat_43 : decode cX0_meltingHeat 43 = .ok (.isub, 1) := by decide +kernel
theorem dX0_meltingHeat_44 : decode cX0_meltingHeat 44 = .ok (.invokestatic 100, 3) := by decide +kernel
theorem dX0_meltingHeat_47 : decode cX0_meltingHeat 47 = .ok (.ireturn, 1) := by decide +kernel
theorem dX0_heatFactor_0 : decode cX0_heatFactor 0 = .ok (.iload_n 0, 1) := by decide +kernel
theorem dX0_heatFactor_1 : decode cX0_heatFactor 1 = .ok (.lookupswitch 33 #[(0, 27), (1, 30)], 27) := by decide +kernel
theorem dX0_heatFactor_28 : decode cX0_heatFactor 28 = .ok (.bipush 8, 2) := by decide +kernel
theorem dX0_heatFactor_30 : decode cX0_heatFactor 30 = .ok (.ireturn, 1) := by decide +kernel
theorem dX0_heatFactor_31 : decode cX0_heatFactor 31 = .ok (.bipush 40, 2) := by decide +kernel
theorem dX0_heatFactor_33 : decode cX0_heatFactor 33 = .ok (.ireturn, 1) := by decide +kernel
theorem dX0_heatFactor_34 : decode cX0_heatFactor 34 = .ok (.bipush 20, 2) := by decide +kernel
theorem dX0_heatFactor_36 : decode cX0_heatFactor 36 = .ok (.ireturn, 1) := by decide +kernel
theorem dX0_boardsAhead_0 : decode cX0_boardsAhead 0 = .ok (.iconst 0, 1) := by decide +kernel
theorem dX0_boardsAhead_1 : decode cX0_boardsAhead 1 = .ok (.istore_n 2, 1) := by decide +kernel
theorem dX0_boardsAhead_2 : decode cX0_boardsAhead 2 = .ok (.iload_n 1, 1) := by decide +kernel
theorem dX0_boardsAhead_3 : decode cX0_boardsAhead 3 = .ok (.istore_n 3, 1) := by decide +kernel
theorem dX0_boardsAhead_4 : decode cX0_boardsAhead 4 = .ok (.iload_n 1, 1) := by decide +kernel
theorem dX0_boardsAhead_5 : decode cX0_boardsAhead 5 = .ok (.istore 4, 2) := by decide +kernel
theorem dX0_boardsAhead_7 : decode cX0_boardsAhead 7 = .ok (.iload 4, 2) := by decide +kernel
theorem dX0_boardsAhead_9 : decode cX0_boardsAhead 9 = .ok (.ifCond .le 32, 3) := by decide +kernel
theorem dX0_boardsAhead_12 : decode cX0_boardsAhead 12 = .ok (.iload 4, 2) := by decide +kernel
theorem dX0_boardsAhead_14 : decode cX0_boardsAhead 14 = .ok (.iload_n 3, 1) := by decide +kernel
theorem dX0_boardsAhead_15 : decode cX0_boardsAhead 15 = .ok (.if_icmp .eq 6, 3) := by decide +kernel
theorem dX0_boardsAhead_18 : decode cX0_boardsAhead 18 = .ok (.goto 17, 3) := by decide +kernel
theorem dX0_boardsAhead_21 : decode cX0_boardsAhead 21 = .ok (.aload_n 0, 1) := by decide +kernel
theorem dX0_boardsAhead_22 : decode cX0_boardsAhead 22 = .ok (.getfield 11, 3) := by decide +kernel
theorem dX0_boardsAhead_25 : decode cX0_boardsAhead 25 = .ok (.bipush 17, 2) := by decide +kernel
theorem dX0_boardsAhead_27 : decode cX0_boardsAhead 27 = .ok (.iload 4, 2) := by decide +kernel
theorem dX0_boardsAhead_29 : decode cX0_boardsAhead 29 = .ok (.iadd, 1) := by decide +kernel
theorem dX0_boardsAhead_30 : decode cX0_boardsAhead 30 = .ok (.iaload, 1) := by decide +kernel
theorem dX0_boardsAhead_31 : decode cX0_boardsAhead 31 = .ok (.istore_n 3, 1) := by decide +kernel
theorem dX0_boardsAhead_32 : decode cX0_boardsAhead 32 = .ok (.iinc 2 1, 3) := by decide +kernel
theorem dX0_boardsAhead_35 : decode cX0_boardsAhead 35 = .ok (.iinc 4 (-1), 3) := by decide +kernel
theorem dX0_boardsAhead_38 : decode cX0_boardsAhead 38 = .ok (.goto (-31), 3) := by decide +kernel
theorem dX0_boardsAhead_41 : decode cX0_boardsAhead 41 = .ok (.iload_n 2, 1) := by decide +kernel
theorem dX0_boardsAhead_42 : decode cX0_boardsAhead 42 = .ok (.ireturn, 1) := by decide +kernel
end
section
theorem dX1_init_0 : decode cX1_init 0 = .ok (.aload_n 0, 1) := by decide +kernel
theorem dX1_init_1 : decode cX1_init 1 = .ok (.invokespecial 3, 3) := by decide +kernel
theorem dX1_init_4 : decode cX1_init 4 = .ok (.aload_n 0, 1) := by decide +kernel
theorem dX1_init_5 : decode cX1_init 5 = .ok (.bipush 80, 2) := by decide +kernel
theorem dX1_init_7 : decode cX1_init 7 = .ok (.newarray .int, 2) := by decide +kernel
theorem dX1_init_9 : decode cX1_init 9 = .ok (.putfield 11, 3) := by decide +kernel
theorem dX1_init_12 : decode cX1_init 12 = .ok (.aload_n 0, 1) := by decide +kernel
theorem dX1_init_13 : decode cX1_init 13 = .ok (.iconst 0, 1) := by decide +kernel
theorem dX1_init_14 : decode cX1_init 14 = .ok (.putfield 15, 3) := by decide +kernel
theorem dX1_init_17 : decode cX1_init 17 = .ok (.aload_n 0, 1) := by decide +kernel
theorem dX1_init_18 : decode cX1_init 18 = .ok (.iconst 0, 1) := by decide +kernel
theorem dX1_init_19 : decode cX1_init 19 = .ok (.putfield 19, 3) := by decide +kernel
theorem dX1_init_22 : decode cX1_init 22 = .ok (.aload_n 0, 1) := by decide +kernel
theorem dX1_init_23 : decode cX1_init 23 = .ok (.iconst 0, 1) := by decide +kernel
theorem dX1_init_24 : decode cX1_init 24 = .ok (.putfield 22, 3) := by decide +kernel
theorem dX1_init_27 : decode cX1_init 27 = .ok (.aload_n 0, 1) := by decide +kernel
theorem dX1_init_28 : decode cX1_init 28 = .ok (.iconst 0, 1) := by decide +kernel
theorem dX1_init_29 : decode cX1_init 29 = .ok (.putfield 25, 3) := by decide +kernel
theorem dX1_init_32 : decode cX1_init 32 = .ok (.aload_n 0, 1) := by decide +kernel
theorem dX1_init_33 : decode cX1_init 33 = .ok (.iconst 0, 1) := by decide +kernel
theorem dX1_init_34 : decode cX1_init 34 = .ok (.putfield 28, 3) := by decide +kernel
theorem dX1_init_37 : decode cX1_init 37 = .ok (.aload_n 0, 1) := by decide +kernel
theorem dX1_init_38 : decode cX1_init 38 = .ok (.iconst 0, 1) := by decide +kernel
theorem dX1_init_39 : decode cX1_init 39 = .ok (.putfield 31, 3) := by decide +kernel
theorem dX1_init_42 : decode cX1_init 42 = .ok (.return_, 1) := by decide +kernel
theorem dX1_length_0 : decode cX1_length 0 = .ok (.aload_n 0, 1) := by decide +kernel
theorem dX1_length_1 : decode cX1_length 1 = .ok (.getfield 15, 3) := by decide +kernel
theorem dX1_length_4 : decode cX1_length 4 = .ok (.ireturn, 1) := by decide +kernel
theorem dX2_init_0 : decode cX2_init 0 = .ok (.aload_n 0, 1) := by decide +kernel
theorem dX2_init_1 : decode cX2_init 1 = .ok (.invokespecial 3, 3) := by decide +kernel
theorem dX2_init_4 : decode cX2_init 4 = .ok (.aload_n 0, 1) := by decide +kernel
theorem dX2_init_5 : decode cX2_init 5 = .ok (.new 9, 3) := by decide +kernel
theorem dX2_init_8 : decode cX2_init 8 = .ok (.dup, 1) := by decide +kernel
theorem dX2_init_9 : decode cX2_init 9 = .ok (.invokespecial 11, 3) := by decide +kernel
theorem dX2_init_12 : decode cX2_init 12 = .ok (.putfield 12, 3) := by decide +kernel
theorem dX2_init_15 : decode cX2_init 15 = .ok (.aload_n 0, 1) := by decide +kernel
theorem dX2_init_16 : decode cX2_init 16 = .ok (.new 9, 3) := by decide +kernel
theorem dX2_init_19 : decode cX2_init 19 = .ok (.dup, 1) := by decide +kernel
theorem dX2_init_20 : decode cX2_init 20 = .ok (.invokespecial 11, 3) := by decide +kernel
theorem dX2_init_23 : decode cX2_init 23 = .ok (.putfield 16, 3) := by decide +kernel
theorem dX2_init_26 : decode cX2_init 26 = .ok (.aload_n 0, 1) := by decide +kernel
theorem dX2_init_27 : decode cX2_init 27 = .ok (.new 19, 3) := by decide +kernel
theorem dX2_init_30 : decode cX2_init 30 = .ok (.dup, 1) := by decide +kernel
theorem dX2_init_31 : decode cX2_init 31 = .ok (.invokespecial 21, 3) := by decide +kernel
theorem dX2_init_34 : decode cX2_init 34 = .ok (.putfield 22, 3) := by decide +kernel
theorem dX2_init_37 : decode cX2_init 37 = .ok (.aload_n 0, 1) := by decide +kernel
theorem dX2_init_38 : decode cX2_init 38 = .ok (.bipush 7, 2) := by decide +kernel
theorem dX2_init_40 : decode cX2_init 40 = .ok (.bipush 125, 2) := by decide +kernel
theorem dX2_init_42 : decode cX2_init 42 = .ok (.multianewarray 26 2, 4) := by decide +kernel
theorem dX2_init_46 : decode cX2_init 46 = .ok (.putfield 28, 3) := by decide +kernel
theorem dX2_init_49 : decode cX2_init 49 = .ok (.aload_n 0, 1) := by decide +kernel
theorem dX2_init_50 : decode cX2_init 50 = .ok (.iconst 2, 1) := by decide +kernel
theorem dX2_init_51 : decode cX2_init 51 = .ok (.bipush 125, 2) := by decide +kernel
theorem dX2_init_53 : decode cX2_init 53 = .ok (.multianewarray 26 2, 4) := by decide +kernel
theorem dX2_init_57 : decode cX2_init 57 = .ok (.putfield 31, 3) := by decide +kernel
theorem dX2_init_60 : decode cX2_init 60 = .ok (.aload_n 0, 1) := by decide +kernel
theorem dX2_init_61 : decode cX2_init 61 = .ok (.iconst 2, 1) := by decide +kernel
theorem dX2_init_62 : decode cX2_init 62 = .ok (.newarray .boolean, 2) := by decide +kernel
theorem dX2_init_64 : decode cX2_init 64 = .ok (.putfield 34, 3) := by decide +kernel
theorem dX2_init_67 : decode cX2_init 67 = .ok (.aload_n 0, 1) := by decide +kernel
theorem dX2_init_68 : decode cX2_init 68 = .ok (.iconst 0, 1) := by decide +kernel
theorem dX2_init_69 : decode cX2_init 69 = .ok (.putfield 38, 3) := by decide +kernel
theorem dX2_init_72 : decode cX2_init 72 = .ok (.aload_n 0, 1) := by decide +kernel
theorem dX2_init_73 : decode cX2_init 73 = .ok (.iconst 0, 1) := by decide +kernel
theorem dX2_init_74 : decode cX2_init 74 = .ok (.putfield 42, 3) := by decide +kernel
theorem dX2_init_77 : decode cX2_init 77 = .ok (.return_, 1) := by decide +kernel
theorem dX2_set_0 : decode cX2_set 0 = .ok (.aload_n 0, 1) := by decide +kernel
theorem dX2_set_1 : decode cX2_set 1 = .ok (.invokevirtual 45, 3) := by decide +kernel
theorem dX2_set_4 : decode cX2_set 4 = .ok (.aload_n 0, 1) := by decide +kernel
theorem dX2_set_5 : decode cX2_set 5 = .ok (.aload_n 0, 1) := by decide +kernel
theorem dX2_set_6 : decode cX2_set 6 = .ok (.getfield 12, 3) := by decide +kernel
theorem dX2_set_9 : decode cX2_set 9 = .ok (.iload_n 1, 1) := by decide +kernel
theorem dX2_set_10 : decode cX2_set 10 = .ok (.iload_n 2, 1) := by decide +kernel
theorem dX2_set_11 : decode cX2_set 11 = .ok (.invokevirtual 48, 3) := by decide +kernel
theorem dX2_set_14 : decode cX2_set 14 = .ok (.invokevirtual 52, 3) := by decide +kernel
theorem dX2_set_17 : decode cX2_set 17 = .ok (.ireturn, 1) := by decide +kernel
theorem dX2_board_0 : decode cX2_board 0 = .ok (.aload_n 0, 1) := by decide +kernel
theorem dX2_board_1 : decode cX2_board 1 = .ok (.invokevirtual 45, 3) := by decide +kernel
theorem dX2_board_4 : decode cX2_board 4 = .ok (.aload_n 0, 1) := by decide +kernel
theorem dX2_board_5 : decode cX2_board 5 = .ok (.aload_n 0, 1) := by decide +kernel
theorem dX2_board_6 : decode cX2_board 6 = .ok (.getfield 12, 3) := by decide +kernel
theorem dX2_board_9 : decode cX2_board 9 = .ok (.iload_n 1, 1) := by decide +kernel
theorem dX2_board_10 : decode cX2_board 10 = .ok (.iload_n 2, 1) := by decide +kernel
theorem dX2_board_11 : decode cX2_board 11 = .ok (.iload_n 3, 1) := by decide +kernel
theorem dX2_board_12 : decode cX2_board 12 = .ok (.invokevirtual 56, 3) := by decide +kernel
theorem dX2_board_15 : decode cX2_board 15 = .ok (.invokevirtual 52, 3) := by decide +kernel
theorem dX2_board_18 : decode cX2_board 18 = .ok (.ireturn, 1) := by decide +kernel
theorem dX2_load_0 : decode cX2_load 0 = .ok (.aload_n 0, 1) := by decide +kernel
theorem dX2_load_1 : decode cX2_load 1 = .ok (.invokevirtual 45, 3) := by decide +kernel
theorem dX2_load_4 : decode cX2_load 4 = .ok (.aload_n 0, 1) := by decide +kernel
theorem dX2_load_5 : decode cX2_load 5 = .ok (.aload_n 0, 1) := by decide +kernel
theorem dX2_load_6 : decode cX2_load 6 = .ok (.getfield 12, 3) := by decide +kernel
theorem dX2_load_9 : decode cX2_load 9 = .ok (.iload_n 1, 1) := by decide +kernel
theorem dX2_load_10 : decode cX2_load 10 = .ok (.iload_n 2, 1) := by decide +kernel
theorem dX2_load_11 : decode cX2_load 11 = .ok (.invokevirtual 60, 3) := by decide +kernel
theorem dX2_load_14 : decode cX2_load 14 = .ok (.invokevirtual 52, 3) := by decide +kernel
theorem dX2_load_17 : decode cX2_load 17 = .ok (.ireturn, 1) := by decide +kernel
theorem dX2_turn_0 : decode cX2_turn 0 = .ok (.aload_n 0, 1) := by decide +kernel
theorem dX2_turn_1 : decode cX2_turn 1 = .ok (.invokevirtual 45, 3) := by decide +kernel
theorem dX2_turn_4 : decode cX2_turn 4 = .ok (.aload_n 0, 1) := by decide +kernel
theorem dX2_turn_5 : decode cX2_turn 5 = .ok (.aload_n 0, 1) := by decide +kernel
theorem dX2_turn_6 : decode cX2_turn 6 = .ok (.getfield 12, 3) := by decide +kernel
theorem dX2_turn_9 : decode cX2_turn 9 = .ok (.iload_n 1, 1) := by decide +kernel
theorem dX2_turn_10 : decode cX2_turn 10 = .ok (.invokevirtual 63, 3) := by decide +kernel
theorem dX2_turn_13 : decode cX2_turn 13 = .ok (.invokevirtual 52, 3) := by decide +kernel
theorem dX2_turn_16 : decode cX2_turn 16 = .ok (.ireturn, 1) := by decide +kernel
theorem dX2_fuse_0 : decode cX2_fuse 0 = .ok (.aload_n 0, 1) := by decide +kernel
theorem dX2_fuse_1 : decode cX2_fuse 1 = .ok (.invokevirtual 45, 3) := by decide +kernel
theorem dX2_fuse_4 : decode cX2_fuse 4 = .ok (.aload_n 0, 1) := by decide +kernel
theorem dX2_fuse_5 : decode cX2_fuse 5 = .ok (.aload_n 0, 1) := by decide +kernel
theorem dX2_fuse_6 : decode cX2_fuse 6 = .ok (.getfield 12, 3) := by decide +kernel
theorem dX2_fuse_9 : decode cX2_fuse 9 = .ok (.iload_n 1, 1) := by decide +kernel
theorem dX2_fuse_10 : decode cX2_fuse 10 = .ok (.iload_n 2, 1) := by decide +kernel
theorem dX2_fuse_11 : decode cX2_fuse 11 = .ok (.iload_n 3, 1) := by decide +kernel
theorem dX2_fuse_12 : decode cX2_fuse 12 = .ok (.invokevirtual 66, 3) := by decide +kernel
theorem dX2_fuse_15 : decode cX2_fuse 15 = .ok (.invokevirtual 52, 3) := by decide +kernel
theorem dX2_fuse_18 : decode cX2_fuse 18 = .ok (.ireturn, 1) := by decide +kernel
theorem dX2_pass_0 : decode cX2_pass 0 = .ok (.aload_n 0, 1) := by decide +kernel
theorem dX2_pass_1 : decode cX2_pass 1 = .ok (.invokevirtual 45, 3) := by decide +kernel
theorem dX2_pass_4 : decode cX2_pass 4 = .ok (.aload_n 0, 1) := by decide +kernel
theorem dX2_pass_5 : decode cX2_pass 5 = .ok (.aload_n 0, 1) := by decide +kernel
theorem dX2_pass_6 : decode cX2_pass 6 = .ok (.getfield 12, 3) := by decide +kernel
theorem dX2_pass_9 : decode cX2_pass 9 = .ok (.iload_n 1, 1) := by decide +kernel
theorem dX2_pass_10 : decode cX2_pass 10 = .ok (.invokevirtual 69, 3) := by decide +kernel
theorem dX2_pass_13 : decode cX2_pass 13 = .ok (.invokevirtual 52, 3) := by decide +kernel
theorem dX2_pass_16 : decode cX2_pass 16 = .ok (.ireturn, 1) := by decide +kernel
theorem dX2_of_0 : decode cX2_of 0 = .ok (.aload_n 0, 1) := by decide +kernel
theorem dX2_of_1 : decode cX2_of 1 = .ok (.getfield 12, 3) := by decide +kernel
theorem dX2_of_4 : decode cX2_of 4 = .ok (.iload_n 1, 1) := by decide +kernel
theorem dX2_of_5 : decode cX2_of 5 = .ok (.invokevirtual 72, 3) := by decide +kernel
theorem dX2_of_8 : decode cX2_of 8 = .ok (.ifCond .ne 5, 3) := by decide +kernel
theorem dX2_of_11 : decode cX2_of 11 = .ok (.iconst (-1), 1) := by decide +kernel
theorem dX2_of_12 : decode cX2_of 12 = .ok (.ireturn, 1) := by decide +kernel
theorem dX2_of_13 : decode cX2_of 13 = .ok (.aload_n 0, 1) := by decide +kernel
theorem dX2_of_14 : decode cX2_of 14 = .ok (.getfield 12, 3) := by decide +kernel
theorem dX2_of_17 : decode cX2_of 17 = .ok (.iload_n 1, 1) := by decide +kernel
theorem dX2_of_18 : decode cX2_of 18 = .ok (.iload_n 2, 1) := by decide +kernel
theorem dX2_of_19 : decode cX2_of 19 = .ok (.invokevirtual 76, 3) := by decide +kernel
theorem dX2_of_22 : decode cX2_of 22 = .ok (.ireturn, 1) := by decide +kernel
theorem dX2_ofLoad_0 : decode cX2_ofLoad 0 = .ok (.aload_n 0, 1) := by decide +kernel
theorem dX2_ofLoad_1 : decode cX2_ofLoad 1 = .ok (.getfield 12, 3) := by decide +kernel
theorem dX2_ofLoad_4 : decode cX2_ofLoad 4 = .ok (.iload_n 1, 1) := by decide +kernel
theorem dX2_ofLoad_5 : decode cX2_ofLoad 5 = .ok (.invokevirtual 79, 3) := by decide +kernel
theorem dX2_ofLoad_8 : decode cX2_ofLoad 8 = .ok (.ifCond .ne 5, 3) := by decide +kernel
theorem dX2_ofLoad_11 : decode cX2_ofLoad 11 = .ok (.iconst (-1), 1) := by decide +kernel
theorem dX2_ofLoad_12 : decode cX2_ofLoad 12 = .ok (.ireturn, 1) := by decide +kernel
theorem dX2_ofLoad_13 : decode cX2_ofLoad 13 = .ok (.aload_n 0, 1) := by decide +kernel
theorem dX2_ofLoad_14 : decode cX2_ofLoad 14 = .ok (.getfield 12, 3) := by decide +kernel
theorem dX2_ofLoad_17 : decode cX2_ofLoad 17 = .ok (.iload_n 1, 1) := by decide +kernel
theorem dX2_ofLoad_18 : decode cX2_ofLoad 18 = .ok (.iload_n 2, 1) := by decide +kernel
theorem dX2_ofLoad_19 : decode cX2_ofLoad 19 = .ok (.invokevirtual 82, 3) := by decide +kernel
theorem dX2_ofLoad_22 : decode cX2_ofLoad 22 = .ok (.ireturn, 1) := by decide +kernel
theorem dX2_fed_0 : decode cX2_fed 0 = .ok (.aload_n 0, 1) := by decide +kernel
theorem dX2_fed_1 : decode cX2_fed 1 = .ok (.getfield 12, 3) := by decide +kernel
theorem dX2_fed_4 : decode cX2_fed 4 = .ok (.iload_n 1, 1) := by decide +kernel
theorem dX2_fed_5 : decode cX2_fed 5 = .ok (.invokevirtual 72, 3) := by decide +kernel
theorem dX2_fed_8 : decode cX2_fed 8 = .ok (.ifCond .ne 5, 3) := by decide +kernel
theorem dX2_fed_11 : decode cX2_fed 11 = .ok (.iconst (-1), 1) := by decide +kernel
theorem dX2_fed_12 : decode cX2_fed 12 = .ok (.ireturn, 1) := by decide +kernel
theorem dX2_fed_13 : decode cX2_fed 13 = .ok (.aload_n 0, 1) := by decide +kernel
theorem dX2_fed_14 : decode cX2_fed 14 = .ok (.getfield 12, 3) := by decide +kernel
theorem dX2_fed_17 : decode cX2_fed 17 = .ok (.iload_n 1, 1) := by decide +kernel
theorem dX2_fed_18 : decode cX2_fed 18 = .ok (.invokevirtual 85, 3) := by decide +kernel
theorem dX2_fed_21 : decode cX2_fed 21 = .ok (.ireturn, 1) := by decide +kernel
theorem dX2_blown_0 : decode cX2_blown 0 = .ok (.aload_n 0, 1) := by decide +kernel
theorem dX2_blown_1 : decode cX2_blown 1 = .ok (.getfield 12, 3) := by decide +kernel
theorem dX2_blown_4 : decode cX2_blown 4 = .ok (.iload_n 1, 1) := by decide +kernel
theorem dX2_blown_5 : decode cX2_blown 5 = .ok (.invokevirtual 88, 3) := by decide +kernel
theorem dX2_blown_8 : decode cX2_blown 8 = .ok (.ireturn, 1) := by decide +kernel
theorem dX2_count_0 : decode cX2_count 0 = .ok (.iload_n 1, 1) := by decide +kernel
theorem dX2_count_1 : decode cX2_count 1 = .ok (.bipush 12, 2) := by decide +kernel
theorem dX2_count_3 : decode cX2_count 3 = .ok (.if_icmp .ne 11, 3) := by decide +kernel
theorem dX2_count_6 : decode cX2_count 6 = .ok (.aload_n 0, 1) := by decide +kernel
theorem dX2_count_7 : decode cX2_count 7 = .ok (.getfield 22, 3) := by decide +kernel
theorem dX2_count_10 : decode cX2_count 10 = .ok (.invokevirtual 91, 3) := by decide +kernel
theorem dX2_count_13 : decode cX2_count 13 = .ok (.ireturn, 1) := by decide +kernel
theorem dX2_count_14 : decode cX2_count 14 = .ok (.iload_n 1, 1) := by decide +kernel
theorem dX2_count_15 : decode cX2_count 15 = .ok (.bipush 13, 2) := by decide +kernel
theorem dX2_count_17 : decode cX2_count 17 = .ok (.if_icmp .ne 8, 3) := by decide +kernel
theorem dX2_count_20 : decode cX2_count 20 = .ok (.aload_n 0, 1) := by decide +kernel
theorem dX2_count_21 : decode cX2_count 21 = .ok (.getfield 42, 3) := by decide +kernel
theorem dX2_count_24 : decode cX2_count 24 = .ok (.ireturn, 1) := by decide +kernel
theorem dX2_count_25 : decode cX2_count 25 = .ok (.aload_n 0, 1) := by decide +kernel
theorem dX2_count_26 : decode cX2_count 26 = .ok (.getfield 12, 3) := by decide +kernel
theorem dX2_count_29 : decode cX2_count 29 = .ok (.iload_n 1, 1) := by decide +kernel
theorem dX2_count_30 : decode cX2_count 30 = .ok (.invokevirtual 95, 3) := by decide +kernel
theorem dX2_count_33 : decode cX2_count 33 = .ok (.ireturn, 1) := by decide +kernel
theorem dX2_next_0 : decode cX2_next 0 = .ok (.iload_n 1, 1) := by decide +kernel
theorem dX2_next_1 : decode cX2_next 1 = .ok (.invokestatic 98, 3) := by decide +kernel
theorem dX2_next_4 : decode cX2_next 4 = .ok (.ifCond .ne 6, 3) := by decide +kernel
theorem dX2_next_7 : decode cX2_next 7 = .ok (.bipush (-2), 2) := by decide +kernel
theorem dX2_next_9 : decode cX2_next 9 = .ok (.ireturn, 1) := by decide +kernel
theorem dX2_next_10 : decode cX2_next 10 = .ok (.aload_n 0, 1) := by decide +kernel
theorem dX2_next_11 : decode cX2_next 11 = .ok (.getfield 16, 3) := by decide +kernel
theorem dX2_next_14 : decode cX2_next 14 = .ok (.aload_n 0, 1) := by decide +kernel
theorem dX2_next_15 : decode cX2_next 15 = .ok (.getfield 12, 3) := by decide +kernel
theorem dX2_next_18 : decode cX2_next 18 = .ok (.invokevirtual 101, 3) := by decide +kernel
theorem dX2_next_21 : decode cX2_next 21 = .ok (.aload_n 0, 1) := by decide +kernel
theorem dX2_next_22 : decode cX2_next 22 = .ok (.iload_n 1, 1) := by decide +kernel
theorem dX2_next_23 : decode cX2_next 23 = .ok (.invokevirtual 105, 3) := by decide +kernel
theorem dX2_next_26 : decode cX2_next 26 = .ok (.ireturn, 1) := by decide +kernel
theorem dX2_test_0 : decode cX2_test 0 = .ok (.aload_n 0, 1) := by decide +kernel
theorem dX2_test_1 : decode cX2_test 1 = .ok (.getfield 12, 3) := by decide +kernel
theorem dX2_test_4 : decode cX2_test 4 = .ok (.iload_n 1, 1) := by decide +kernel
theorem dX2_test_5 : decode cX2_test 5 = .ok (.invokevirtual 72, 3) := by decide +kernel
theorem dX2_test_8 : decode cX2_test 8 = .ok (.ifCond .ne 5, 3) := by decide +kernel
theorem dX2_test_11 : decode cX2_test 11 = .ok (.iconst (-1), 1) := by decide +kernel
theorem dX2_test_12 : decode cX2_test 12 = .ok (.ireturn, 1) := by decide +kernel
theorem dX2_test_13 : decode cX2_test 13 = .ok (.iload_n 2, 1) := by decide +kernel
theorem dX2_test_14 : decode cX2_test 14 = .ok (.iconst 1, 1) := by decide +kernel
theorem dX2_test_15 : decode cX2_test 15 = .ok (.if_icmp .lt 17, 3) := by decide +kernel
theorem dX2_test_18 : decode cX2_test 18 = .ok (.iload_n 2, 1) := by decide +kernel
theorem dX2_test_19 : decode cX2_test 19 = .ok (.sipush 9999, 3) := by decide +kernel
theorem dX2_test_22 : decode cX2_test 22 = .ok (.if_icmp .gt 10, 3) := by decide +kernel
theorem dX2_test_25 : decode cX2_test 25 = .ok (.iload_n 3, 1) := by decide +kernel
theorem dX2_test_26 : decode cX2_test 26 = .ok (.invokestatic 98, 3) := by decide +kernel
theorem dX2_test_29 : decode cX2_test 29 = .ok (.ifCond .ne 6, 3) := by decide +kernel
theorem dX2_test_32 : decode cX2_test 32 = .ok (.bipush (-2), 2) := by decide +kernel
theorem dX2_test_34 : decode cX2_test 34 = .ok (.ireturn, 1) := by decide +kernel
theorem dX2_test_35 : decode cX2_test 35 = .ok (.aload_n 0, 1) := by decide +kernel
theorem dX2_test_36 : decode cX2_test 36 = .ok (.iload_n 1, 1) := by decide +kernel
theorem dX2_test_37 : decode cX2_test 37 = .ok (.iload_n 2, 1) := by decide +kernel
theorem dX2_test_38 : decode cX2_test 38 = .ok (.iload_n 3, 1) := by decide +kernel
theorem dX2_test_39 : decode cX2_test 39 = .ok (.invokevirtual 108, 3) := by decide +kernel
theorem dX2_test_42 : decode cX2_test 42 = .ok (.ireturn, 1) := by decide +kernel
theorem dX2_unfair_0 : decode cX2_unfair 0 = .ok (.iload_n 1, 1) := by decide +kernel
theorem dX2_unfair_1 : decode cX2_unfair 1 = .ok (.iconst 2, 1) := by decide +kernel
theorem dX2_unfair_2 : decode cX2_unfair 2 = .ok (.if_icmp .lt 9, 3) := by decide +kernel
theorem dX2_unfair_5 : decode cX2_unfair 5 = .ok (.iload_n 1, 1) := by decide +kernel
theorem dX2_unfair_6 : decode cX2_unfair 6 = .ok (.bipush 20, 2) := by decide +kernel
theorem dX2_unfair_8 : decode cX2_unfair 8 = .ok (.if_icmp .le 6, 3) := by decide +kernel
theorem dX2_unfair_11 : decode cX2_unfair 11 = .ok (.bipush (-2), 2) := by decide +kernel
theorem dX2_unfair_13 : decode cX2_unfair 13 = .ok (.ireturn, 1) := by decide +kernel
theorem dX2_unfair_14 : decode cX2_unfair 14 = .ok (.iconst 0, 1) := by decide +kernel
theorem dX2_unfair_15 : decode cX2_unfair 15 = .ok (.istore_n 2, 1) := by decide +kernel
theorem dX2_unfair_16 : decode cX2_unfair 16 = .ok (.iconst 0, 1) := by decide +kernel
theorem dX2_unfair_17 : decode cX2_unfair 17 = .ok (.istore_n 3, 1) := by decide +kernel
theorem dX2_unfair_18 : decode cX2_unfair 18 = .ok (.iload_n 3, 1) := by decide +kernel
theorem dX2_unfair_19 : decode cX2_unfair 19 = .ok (.aload_n 0, 1) := by decide +kernel
theorem dX2_unfair_20 : decode cX2_unfair 20 = .ok (.getfield 12, 3) := by decide +kernel
theorem dX2_unfair_23 : decode cX2_unfair 23 = .ok (.invokevirtual 111, 3) := by decide +kernel
theorem dX2_unfair_26 : decode cX2_unfair 26 = .ok (.if_icmp .ge 46, 3) := by decide +kernel
theorem dX2_unfair_29 : decode cX2_unfair 29 = .ok (.aload_n 0, 1) := by decide +kernel
theorem dX2_unfair_30 : decode cX2_unfair 30 = .ok (.iload_n 3, 1) := by decide +kernel
theorem dX2_unfair_31 : decode cX2_unfair 31 = .ok (.iload_n 1, 1) := by decide +kernel
theorem dX2_unfair_32 : decode cX2_unfair 32 = .ok (.aload_n 0, 1) := by decide +kernel
theorem dX2_unfair_33 : decode cX2_unfair 33 = .ok (.getfield 12, 3) := by decide +kernel
theorem dX2_unfair_36 : decode cX2_unfair 36 = .ok (.iload_n 3, 1) := by decide +kernel
theorem dX2_unfair_37 : decode cX2_unfair 37 = .ok (.invokevirtual 114, 3) := by decide +kernel
theorem dX2_unfair_40 : decode cX2_unfair 40 = .ok (.imul, 1) := by decide +kernel
theorem dX2_unfair_41 : decode cX2_unfair 41 = .ok (.iconst 1, 1) := by decide +kernel
theorem dX2_unfair_42 : decode cX2_unfair 42 = .ok (.invokevirtual 108, 3) := by decide +kernel
theorem dX2_unfair_45 : decode cX2_unfair 45 = .ok (.istore 4, 2) := by decide +kernel
theorem dX2_unfair_47 : decode cX2_unfair 47 = .ok (.iload 4, 2) := by decide +kernel
theorem dX2_unfair_49 : decode cX2_unfair 49 = .ok (.bipush (-6), 2) := by decide +kernel
theorem dX2_unfair_51 : decode cX2_unfair 51 = .ok (.if_icmp .eq 15, 3) := by decide +kernel
theorem dX2_unfair_54 : decode cX2_unfair 54 = .ok (.iload 4, 2) := by decide +kernel
theorem dX2_unfair_56 : decode cX2_unfair 56 = .ok (.iload_n 3, 1) := by decide +kernel
theorem dX2_unfair_57 : decode cX2_unfair 57 = .ok (.if_icmp .eq 9, 3) := by decide +kernel
theorem dX2_unfair_60 : decode cX2_unfair 60 = .ok (.iload_n 2, 1) := by decide +kernel
theorem dX2_unfair_61 : decode cX2_unfair 61 = .ok (.iconst 1, 1) := by decide +kernel
theorem dX2_unfair_62 : decode cX2_unfair 62 = .ok (.iload_n 3, 1) := by decide +kernel
theorem dX2_unfair_63 : decode cX2_unfair 63 = .ok (.ishl, 1) := by decide +kernel
theorem dX2_unfair_64 : decode cX2_unfair 64 = .ok (.ior, 1) := by decide +kernel
theorem dX2_unfair_65 : decode cX2_unfair 65 = .ok (.istore_n 2, 1) := by decide +kernel
theorem dX2_unfair_66 : decode cX2_unfair 66 = .ok (.iinc 3 1, 3) := by decide +kernel
theorem dX2_unfair_69 : decode cX2_unfair 69 = .ok (.goto (-51), 3) := by decide +kernel
theorem dX2_unfair_72 : decode cX2_unfair 72 = .ok (.iload_n 2, 1) := by decide +kernel
theorem dX2_unfair_73 : decode cX2_unfair 73 = .ok (.ireturn, 1) := by decide +kernel
theorem dX2_ifOpen_0 : decode cX2_ifOpen 0 = .ok (.aload_n 0, 1) := by decide +kernel
theorem dX2_ifOpen_1 : decode cX2_ifOpen 1 = .ok (.getfield 12, 3) := by decide +kernel
theorem dX2_ifOpen_4 : decode cX2_ifOpen 4 = .ok (.iload_n 1, 1) := by decide +kernel
theorem dX2_ifOpen_5 : decode cX2_ifOpen 5 = .ok (.invokevirtual 72, 3) := by decide +kernel
theorem dX2_ifOpen_8 : decode cX2_ifOpen 8 = .ok (.ifCond .ne 5, 3) := by decide +kernel
theorem dX2_ifOpen_11 : decode cX2_ifOpen 11 = .ok (.iconst (-1), 1) := by decide +kernel
theorem dX2_ifOpen_12 : decode cX2_ifOpen 12 = .ok (.ireturn, 1) := by decide +kernel
theorem dX2_ifOpen_13 : decode cX2_ifOpen 13 = .ok (.aload_n 0, 1) := by decide +kernel
theorem dX2_ifOpen_14 : decode cX2_ifOpen 14 = .ok (.getfield 12, 3) := by decide +kernel
theorem dX2_ifOpen_17 : decode cX2_ifOpen 17 = .ok (.aload_n 0, 1) := by decide +kernel
theorem dX2_ifOpen_18 : decode cX2_ifOpen 18 = .ok (.getfield 12, 3) := by decide +kernel
theorem dX2_ifOpen_21 : decode cX2_ifOpen 21 = .ok (.iload_n 1, 1) := by decide +kernel
theorem dX2_ifOpen_22 : decode cX2_ifOpen 22 = .ok (.invokevirtual 85, 3) := by decide +kernel
theorem dX2_ifOpen_25 : decode cX2_ifOpen 25 = .ok (.invokevirtual 117, 3) := by decide +kernel
theorem dX2_ifOpen_28 : decode cX2_ifOpen 28 = .ok (.ireturn, 1) := by decide +kernel
theorem dX2_undo_0 : decode cX2_undo 0 = .ok (.aload_n 0, 1) := by decide +kernel
theorem dX2_undo_1 : decode cX2_undo 1 = .ok (.getfield 42, 3) := by decide +kernel
theorem dX2_undo_4 : decode cX2_undo 4 = .ok (.ifCond .ne 6, 3) := by decide +kernel
theorem dX2_undo_7 : decode cX2_undo 7 = .ok (.bipush (-5), 2) := by decide +kernel
theorem dX2_undo_9 : decode cX2_undo 9 = .ok (.ireturn, 1) := by decide +kernel
theorem dX2_undo_10 : decode cX2_undo 10 = .ok (.aload_n 0, 1) := by decide +kernel
theorem dX2_undo_11 : decode cX2_undo 11 = .ok (.dup, 1) := by decide +kernel
theorem dX2_undo_12 : decode cX2_undo 12 = .ok (.getfield 42, 3) := by decide +kernel
theorem dX2_undo_15 : decode cX2_undo 15 = .ok (.iconst 1, 1) := by decide +kernel
theorem dX2_undo_16 : decode cX2_undo 16 = .ok (.isub, 1) := by decide +kernel
theorem dX2_undo_17 : decode cX2_undo 17 = .ok (.putfield 42, 3) := by decide +kernel
theorem dX2_undo_20 : decode cX2_undo 20 = .ok (.aload_n 0, 1) := by decide +kernel
theorem dX2_undo_21 : decode cX2_undo 21 = .ok (.aload_n 0, 1) := by decide +kernel
theorem dX2_undo_22 : decode cX2_undo 22 = .ok (.getfield 38, 3) := by decide +kernel
theorem dX2_undo_25 : decode cX2_undo 25 = .ok (.bipush 7, 2) := by decide +kernel
theorem dX2_undo_27 : decode cX2_undo 27 = .ok (.iadd, 1) := by decide +kernel
theorem dX2_undo_28 : decode cX2_undo 28 = .ok (.iconst 1, 1) := by decide +kernel
theorem dX2_undo_29 : decode cX2_undo 29 = .ok (.isub, 1) := by decide +kernel
theorem dX2_undo_30 : decode cX2_undo 30 = .ok (.bipush 7, 2) := by decide +kernel
theorem dX2_undo_32 : decode cX2_undo 32 = .ok (.irem, 1) := by decide +kernel
theorem dX2_undo_33 : decode cX2_undo 33 = .ok (.putfield 38, 3) := by decide +kernel
theorem dX2_undo_36 : decode cX2_undo 36 = .ok (.aload_n 0, 1) := by decide +kernel
theorem dX2_undo_37 : decode cX2_undo 37 = .ok (.getfield 12, 3) := by decide +kernel
theorem dX2_undo_40 : decode cX2_undo 40 = .ok (.aload_n 0, 1) := by decide +kernel
theorem dX2_undo_41 : decode cX2_undo 41 = .ok (.getfield 28, 3) := by decide +kernel
theorem dX2_undo_44 : decode cX2_undo 44 = .ok (.aload_n 0, 1) := by decide +kernel
theorem dX2_undo_45 : decode cX2_undo 45 = .ok (.getfield 38, 3) := by decide +kernel
theorem dX2_undo_48 : decode cX2_undo 48 = .ok (.aaload, 1) := by decide +kernel
theorem dX2_undo_49 : decode cX2_undo 49 = .ok (.invokevirtual 140, 3) := by decide +kernel
theorem dX2_undo_52 : decode cX2_undo 52 = .ok (.aload_n 0, 1) := by decide +kernel
theorem dX2_undo_53 : decode cX2_undo 53 = .ok (.getfield 42, 3) := by decide +kernel
theorem dX2_undo_56 : decode cX2_undo 56 = .ok (.ireturn, 1) := by decide +kernel
theorem dX2_save_0 : decode cX2_save 0 = .ok (.iload_n 1, 1) := by decide +kernel
theorem dX2_save_1 : decode cX2_save 1 = .ok (.invokestatic 144, 3) := by decide +kernel
theorem dX2_save_4 : decode cX2_save 4 = .ok (.ifCond .ne 6, 3) := by decide +kernel
theorem dX2_save_7 : decode cX2_save 7 = .ok (.bipush (-2), 2) := by decide +kernel
theorem dX2_save_9 : decode cX2_save 9 = .ok (.ireturn, 1) := by decide +kernel
theorem dX2_save_10 : decode cX2_save 10 = .ok (.aload_n 0, 1) := by decide +kernel
theorem dX2_save_11 : decode cX2_save 11 = .ok (.getfield 12, 3) := by decide +kernel
theorem dX2_save_14 : decode cX2_save 14 = .ok (.aload_n 0, 1) := by decide +kernel
theorem dX2_save_15 : decode cX2_save 15 = .ok (.getfield 31, 3) := by decide +kernel
theorem dX2_save_18 : decode cX2_save 18 = .ok (.iload_n 1, 1) := by decide +kernel
theorem dX2_save_19 : decode cX2_save 19 = .ok (.aaload, 1) := by decide +kernel
theorem dX2_save_20 : decode cX2_save 20 = .ok (.invokevirtual 147, 3) := by decide +kernel
theorem dX2_save_23 : decode cX2_save 23 = .ok (.aload_n 0, 1) := by decide +kernel
theorem dX2_save_24 : decode cX2_save 24 = .ok (.getfield 34, 3) := by decide +kernel
theorem dX2_save_27 : decode cX2_save 27 = .ok (.iload_n 1, 1) := by decide +kernel
theorem dX2_save_28 : decode cX2_save 28 = .ok (.iconst 1, 1) := by decide +kernel
theorem dX2_save_29 : decode cX2_save 29 = .ok (.bastore, 1) := by decide +kernel
theorem dX2_save_30 : decode cX2_save 30 = .ok (.aload_n 0, 1) := by decide +kernel
theorem dX2_save_31 : decode cX2_save 31 = .ok (.getfield 12, 3) := by decide +kernel
theorem dX2_save_34 : decode cX2_save 34 = .ok (.invokevirtual 111, 3) := by decide +kernel
theorem dX2_save_37 : decode cX2_save 37 = .ok (.ireturn, 1) := by decide +kernel
theorem dX2_restore_0 : decode cX2_restore 0 = .ok (.iload_n 1, 1) := by decide +kernel
theorem dX2_restore_1 : decode cX2_restore 1 = .ok (.invokestatic 144, 3) := by decide +kernel
theorem dX2_restore_4 : decode cX2_restore 4 = .ok (.ifCond .ne 6, 3) := by decide +kernel
theorem dX2_restore_7 : decode cX2_restore 7 = .ok (.bipush (-2), 2) := by decide +kernel
theorem dX2_restore_9 : decode cX2_restore 9 = .ok (.ireturn, 1) := by decide +kernel
theorem dX2_restore_10 : decode cX2_restore 10 = .ok (.aload_n 0, 1) := by decide +kernel
theorem dX2_restore_11 : decode cX2_restore 11 = .ok (.getfield 34, 3) := by decide +kernel
theorem dX2_restore_14 : decode cX2_restore 14 = .ok (.iload_n 1, 1) := by decide +kernel
theorem dX2_restore_15 : decode cX2_restore 15 = .ok (.baload, 1) := by decide +kernel
theorem dX2_restore_16 : decode cX2_restore 16 = .ok (.ifCond .ne 6, 3) := by decide +kernel
theorem dX2_restore_19 : decode cX2_restore 19 = .ok (.bipush (-5), 2) := by decide +kernel
theorem dX2_restore_21 : decode cX2_restore 21 = .ok (.ireturn, 1) := by decide +kernel
theorem dX2_restore_22 : decode cX2_restore 22 = .ok (.aload_n 0, 1) := by decide +kernel
theorem dX2_restore_23 : decode cX2_restore 23 = .ok (.invokevirtual 45, 3) := by decide +kernel
theorem dX2_restore_26 : decode cX2_restore 26 = .ok (.aload_n 0, 1) := by decide +kernel
theorem dX2_restore_27 : decode cX2_restore 27 = .ok (.getfield 12, 3) := by decide +kernel
theorem dX2_restore_30 : decode cX2_restore 30 = .ok (.aload_n 0, 1) := by decide +kernel
theorem dX2_restore_31 : decode cX2_restore 31 = .ok (.getfield 31, 3) := by decide +kernel
theorem dX2_restore_34 : decode cX2_restore 34 = .ok (.iload_n 1, 1) := by decide +kernel
theorem dX2_restore_35 : decode cX2_restore 35 = .ok (.aaload, 1) := by decide +kernel
theorem dX2_restore_36 : decode cX2_restore 36 = .ok (.invokevirtual 140, 3) := by decide +kernel
theorem dX2_restore_39 : decode cX2_restore 39 = .ok (.aload_n 0, 1) := by decide +kernel
theorem dX2_restore_40 : decode cX2_restore 40 = .ok (.aload_n 0, 1) := by decide +kernel
theorem dX2_restore_41 : decode cX2_restore 41 = .ok (.getfield 12, 3) := by decide +kernel
theorem dX2_restore_44 : decode cX2_restore 44 = .ok (.invokevirtual 111, 3) := by decide +kernel
theorem dX2_restore_47 : decode cX2_restore 47 = .ok (.invokevirtual 52, 3) := by decide +kernel
theorem dX2_restore_50 : decode cX2_restore 50 = .ok (.ireturn, 1) := by decide +kernel
theorem dX2_isSlot_0 : decode cX2_isSlot 0 = .ok (.iload_n 0, 1) := by decide +kernel
theorem dX2_isSlot_1 : decode cX2_isSlot 1 = .ok (.ifCond .lt 12, 3) := by decide +kernel
theorem dX2_isSlot_4 : decode cX2_isSlot 4 = .ok (.iload_n 0, 1) := by decide +kernel
theorem dX2_isSlot_5 : decode cX2_isSlot 5 = .ok (.iconst 2, 1) := by decide +kernel
theorem dX2_isSlot_6 : decode cX2_isSlot 6 = .ok (.if_icmp .ge 7, 3) := by decide +kernel
theorem dX2_isSlot_9 : decode cX2_isSlot 9 = .ok (.iconst 1, 1) := by decide +kernel
theorem dX2_isSlot_10 : decode cX2_isSlot 10 = .ok (.goto 4, 3) := by decide +kernel
theorem dX2_isSlot_13 : decode cX2_isSlot 13 = .ok (.iconst 0, 1) := by decide +kernel
theorem dX2_isSlot_14 : decode cX2_isSlot 14 = .ok (.ireturn, 1) := by decide +kernel
theorem dX2_noteState_0 : decode cX2_noteState 0 = .ok (.aload_n 0, 1) := by decide +kernel
theorem dX2_noteState_1 : decode cX2_noteState 1 = .ok (.getfield 12, 3) := by decide +kernel
theorem dX2_noteState_4 : decode cX2_noteState 4 = .ok (.aload_n 0, 1) := by decide +kernel
theorem dX2_noteState_5 : decode cX2_noteState 5 = .ok (.getfield 28, 3) := by decide +kernel
theorem dX2_noteState_8 : decode cX2_noteState 8 = .ok (.aload_n 0, 1) := by decide +kernel
theorem dX2_noteState_9 : decode cX2_noteState 9 = .ok (.getfield 38, 3) := by decide +kernel
theorem dX2_noteState_12 : decode cX2_noteState 12 = .ok (.aaload, 1) := by decide +kernel
theorem dX2_noteState_13 : decode cX2_noteState 13 = .ok (.invokevirtual 147, 3) := by decide +kernel
theorem dX2_noteState_16 : decode cX2_noteState 16 = .ok (.return_, 1) := by decide +kernel
theorem dX2_keepUnlessError_0 : decode cX2_keepUnlessError 0 = .ok (.iload_n 1, 1) := by decide +kernel
theorem dX2_keepUnlessError_1 : decode cX2_keepUnlessError 1 = .ok (.ifCond .ge 5, 3) := by decide +kernel
theorem dX2_keepUnlessError_4 : decode cX2_keepUnlessError 4 = .ok (.iload_n 1, 1) := by decide +kernel
theorem dX2_keepUnlessError_5 : decode cX2_keepUnlessError 5 = .ok (.ireturn, 1) := by decide +kernel
theorem dX2_keepUnlessError_6 : decode cX2_keepUnlessError 6 = .ok (.aload_n 0, 1) := by decide +kernel
theorem dX2_keepUnlessError_7 : decode cX2_keepUnlessError 7 = .ok (.aload_n 0, 1) := by decide +kernel
theorem dX2_keepUnlessError_8 : decode cX2_keepUnlessError 8 = .ok (.getfield 38, 3) := by decide +kernel
theorem dX2_keepUnlessError_11 : decode cX2_keepUnlessError 11 = .ok (.iconst 1, 1) := by decide +kernel
theorem dX2_keepUnlessError_12 : decode cX2_keepUnlessError 12 = .ok (.iadd, 1) := by decide +kernel
theorem dX2_keepUnlessError_13 : decode cX2_keepUnlessError 13 = .ok (.bipush 7, 2) := by decide +kernel
theorem dX2_keepUnlessError_15 : decode cX2_keepUnlessError 15 = .ok (.irem, 1) := by decide +kernel
theorem dX2_keepUnlessError_16 : decode cX2_keepUnlessError 16 = .ok (.putfield 38, 3) := by decide +kernel
theorem dX2_keepUnlessError_19 : decode cX2_keepUnlessError 19 = .ok (.aload_n 0, 1) := by decide +kernel
theorem dX2_keepUnlessError_20 : decode cX2_keepUnlessError 20 = .ok (.bipush 6, 2) := by decide +kernel
theorem dX2_keepUnlessError_22 : decode cX2_keepUnlessError 22 = .ok (.aload_n 0, 1) := by decide +kernel
theorem dX2_keepUnlessError_23 : decode cX2_keepUnlessError 23 = .ok (.getfield 42, 3) := by decide +kernel
theorem dX2_keepUnlessError_26 : decode cX2_keepUnlessError 26 = .ok (.iconst 1, 1) := by decide +kernel
theorem dX2_keepUnlessError_27 : decode cX2_keepUnlessError 27 = .ok (.iadd, 1) := by decide +kernel
theorem dX2_keepUnlessError_28 : decode cX2_keepUnlessError 28 = .ok (.invokestatic 150, 3) := by decide +kernel
theorem dX2_keepUnlessError_31 : decode cX2_keepUnlessError 31 = .ok (.putfield 42, 3) := by decide +kernel
theorem dX2_keepUnlessError_34 : decode cX2_keepUnlessError 34 = .ok (.iload_n 1, 1) := by decide +kernel
theorem dX2_keepUnlessError_35 : decode cX2_keepUnlessError 35 = .ok (.ireturn, 1) := by decide +kernel
theorem dX2_isTrialQuestion_0 : decode cX2_isTrialQuestion 0 = .ok (.iload_n 0, 1) := by decide +kernel
theorem dX2_isTrialQuestion_1 : decode cX2_isTrialQuestion 1 = .ok (.ifCond .eq 8, 3) := by decide +kernel
theorem dX2_isTrialQuestion_4 : decode cX2_isTrialQuestion 4 = .ok (.iload_n 0, 1) := by decide +kernel
theorem dX2_isTrialQuestion_5 : decode cX2_isTrialQuestion 5 = .ok (.iconst 1, 1) := by decide +kernel
theorem dX2_isTrialQuestion_6 : decode cX2_isTrialQuestion 6 = .ok (.if_icmp .ne 7, 3) := by decide +kernel
theorem dX2_isTrialQuestion_9 : decode cX2_isTrialQuestion 9 = .ok (.iconst 1, 1) := by decide +kernel
theorem dX2_isTrialQuestion_10 : decode cX2_isTrialQuestion 10 = .ok (.goto 4, 3) := by decide +kernel
theorem dX2_isTrialQuestion_13 : decode cX2_isTrialQuestion 13 = .ok (.iconst 0, 1) := by decide +kernel
theorem dX2_isTrialQuestion_14 : decode cX2_isTrialQuestion 14 = .ok (.ireturn, 1) := by decide +kernel
theorem dX2_tryFault_0 : decode cX2_tryFault 0 = .ok (.aload_n 0, 1) := by decide +kernel
theorem dX2_tryFault_1 : decode cX2_tryFault 1 = .ok (.getfield 16, 3) := by decide +kernel
theorem dX2_tryFault_4 : decode cX2_tryFault 4 = .ok (.aload_n 0, 1) := by decide +kernel
theorem dX2_tryFault_5 : decode cX2_tryFault 5 = .ok (.getfield 12, 3) := by decide +kernel
theorem dX2_tryFault_8 : decode cX2_tryFault 8 = .ok (.invokevirtual 101, 3) := by decide +kernel
theorem dX2_tryFault_11 : decode cX2_tryFault 11 = .ok (.aload_n 0, 1) := by decide +kernel
theorem dX2_tryFault_12 : decode cX2_tryFault 12 = .ok (.getfield 16, 3) := by decide +kernel
theorem dX2_tryFault_15 : decode cX2_tryFault 15 = .ok (.iload_n 1, 1) := by decide +kernel
theorem dX2_tryFault_16 : decode cX2_tryFault 16 = .ok (.iload_n 2, 1) := by decide +kernel
theorem dX2_tryFault_17 : decode cX2_tryFault 17 = .ok (.invokevirtual 155, 3) := by decide +kernel
theorem dX2_tryFault_20 : decode cX2_tryFault 20 = .ok (.aload_n 0, 1) := by decide +kernel
theorem dX2_tryFault_21 : decode cX2_tryFault 21 = .ok (.iload_n 3, 1) := by decide +kernel
theorem dX2_tryFault_22 : decode cX2_tryFault 22 = .ok (.invokevirtual 105, 3) := by decide +kernel
theorem dX2_tryFault_25 : decode cX2_tryFault 25 = .ok (.ireturn, 1) := by decide +kernel
theorem dX2_firstBlow_0 : decode cX2_firstBlow 0 = .ok (.iconst 1, 1) := by decide +kernel
theorem dX2_firstBlow_1 : decode cX2_firstBlow 1 = .ok (.istore_n 2, 1) := by decide +kernel
theorem dX2_firstBlow_2 : decode cX2_firstBlow 2 = .ok (.iload_n 2, 1) := by decide +kernel
theorem dX2_firstBlow_3 : decode cX2_firstBlow 3 = .ok (.sipush 200, 3) := by decide +kernel
theorem dX2_firstBlow_6 : decode cX2_firstBlow 6 = .ok (.if_icmp .gt 34, 3) := by decide +kernel
theorem dX2_firstBlow_9 : decode cX2_firstBlow 9 = .ok (.aload_n 0, 1) := by decide +kernel
theorem dX2_firstBlow_10 : decode cX2_firstBlow 10 = .ok (.getfield 16, 3) := by decide +kernel
theorem dX2_firstBlow_13 : decode cX2_firstBlow 13 = .ok (.invokevirtual 159, 3) := by decide +kernel
theorem dX2_firstBlow_16 : decode cX2_firstBlow 16 = .ok (.istore_n 3, 1) := by decide +kernel
theorem dX2_firstBlow_17 : decode cX2_firstBlow 17 = .ok (.iload_n 3, 1) := by decide +kernel
theorem dX2_firstBlow_18 : decode cX2_firstBlow 18 = .ok (.ifCond .eq 16, 3) := by decide +kernel
theorem dX2_firstBlow_21 : decode cX2_firstBlow 21 = .ok (.iload_n 1, 1) := by decide +kernel
theorem dX2_firstBlow_22 : decode cX2_firstBlow 22 = .ok (.ifCond .ne 7, 3) := by decide +kernel
theorem dX2_firstBlow_25 : decode cX2_firstBlow 25 = .ok (.iload_n 2, 1) := by decide +kernel
theorem dX2_firstBlow_26 : decode cX2_firstBlow 26 = .ok (.goto 7, 3) := by decide +kernel
theorem dX2_firstBlow_29 : decode cX2_firstBlow 29 = .ok (.iload_n 3, 1) := by decide +kernel
theorem dX2_firstBlow_30 : decode cX2_firstBlow 30 = .ok (.invokestatic 162, 3) := by decide +kernel
theorem dX2_firstBlow_33 : decode cX2_firstBlow 33 = .ok (.ireturn, 1) := by decide +kernel
theorem dX2_firstBlow_34 : decode cX2_firstBlow 34 = .ok (.iinc 2 1, 3) := by decide +kernel
theorem dX2_firstBlow_37 : decode cX2_firstBlow 37 = .ok (.goto (-35), 3) := by decide +kernel
theorem dX2_firstBlow_40 : decode cX2_firstBlow 40 = .ok (.bipush (-6), 2) := by decide +kernel
theorem dX2_firstBlow_42 : decode cX2_firstBlow 42 = .ok (.ireturn, 1) := by decide +kernel
theorem dX2_lowest_0 : decode cX2_lowest 0 = .ok (.iconst 0, 1) := by decide +kernel
theorem dX2_lowest_1 : decode cX2_lowest 1 = .ok (.istore_n 1, 1) := by decide +kernel
theorem dX2_lowest_2 : decode cX2_lowest 2 = .ok (.iload_n 1, 1) := by decide +kernel
theorem dX2_lowest_3 : decode cX2_lowest 3 = .ok (.bipush 9, 2) := by decide +kernel
theorem dX2_lowest_5 : decode cX2_lowest 5 = .ok (.if_icmp .ge 17, 3) := by decide +kernel
theorem dX2_lowest_8 : decode cX2_lowest 8 = .ok (.iload_n 0, 1) := by decide +kernel
theorem dX2_lowest_9 : decode cX2_lowest 9 = .ok (.iload_n 1, 1) := by decide +kernel
theorem dX2_lowest_10 : decode cX2_lowest 10 = .ok (.ishr, 1) := by decide +kernel
theorem dX2_lowest_11 : decode cX2_lowest 11 = .ok (.iconst 1, 1) := by decide +kernel
theorem dX2_lowest_12 : decode cX2_lowest 12 = .ok (.iand, 1) := by decide +kernel
theorem dX2_lowest_13 : decode cX2_lowest 13 = .ok (.ifCond .ne 9, 3) := by decide +kernel
theorem dX2_lowest_16 : decode cX2_lowest 16 = .ok (.iinc 1 1, 3) := by decide +kernel
theorem dX2_lowest_19 : decode cX2_lowest 19 = .ok (.goto (-17), 3) := by decide +kernel
theorem dX2_lowest_22 : decode cX2_lowest 22 = .ok (.iload_n 1, 1) := by decide +kernel
theorem dX2_lowest_23 : decode cX2_lowest 23 = .ok (.ireturn, 1) := by decide +kernel
end
section
theorem dJ6_bitCount_0f7a4_0 : decode cJ6_bitCount_0f7a4 0 = .ok (.iload_n 0, 1) := by decide +kernel
theorem dJ6_bitCount_0f7a4_1 : decode cJ6_bitCount_0f7a4 1 = .ok (.iload_n 0, 1) := by decide +kernel
theorem dJ6_bitCount_0f7a4_2 : decode cJ6_bitCount_0f7a4 2 = .ok (.iconst 1, 1) := by decide +kernel
theorem dJ6_bitCount_0f7a4_3 : decode cJ6_bitCount_0f7a4 3 = .ok (.iushr, 1) := by decide +kernel
theorem dJ6_bitCount_0f7a4_4 : decode cJ6_bitCount_0f7a4 4 = .ok (.ldc_w 265, 3) := by decide +kernel
theorem dJ6_bitCount_0f7a4_7 : decode cJ6_bitCount_0f7a4 7 = .ok (.iand, 1) := by decide +kernel
theorem dJ6_bitCount_0f7a4_8 : decode cJ6_bitCount_0f7a4 8 = .ok (.isub, 1) := by decide +kernel
theorem dJ6_bitCount_0f7a4_9 : decode cJ6_bitCount_0f7a4 9 = .ok (.istore_n 0, 1) := by decide +kernel
theorem dJ6_bitCount_0f7a4_10 : decode cJ6_bitCount_0f7a4 10 = .ok (.iload_n 0, 1) := by decide +kernel
theorem dJ6_bitCount_0f7a4_11 : decode cJ6_bitCount_0f7a4 11 = .ok (.ldc_w 266, 3) := by decide +kernel
theorem dJ6_bitCount_0f7a4_14 : decode cJ6_bitCount_0f7a4 14 = .ok (.iand, 1) := by decide +kernel
theorem dJ6_bitCount_0f7a4_15 : decode cJ6_bitCount_0f7a4 15 = .ok (.iload_n 0, 1) := by decide +kernel
theorem dJ6_bitCount_0f7a4_16 : decode cJ6_bitCount_0f7a4 16 = .ok (.iconst 2, 1) := by decide +kernel
theorem dJ6_bitCount_0f7a4_17 : decode cJ6_bitCount_0f7a4 17 = .ok (.iushr, 1) := by decide +kernel
theorem dJ6_bitCount_0f7a4_18 : decode cJ6_bitCount_0f7a4 18 = .ok (.ldc_w 266, 3) := by decide +kernel
theorem dJ6_bitCount_0f7a4_21 : decode cJ6_bitCount_0f7a4 21 = .ok (.iand, 1) := by decide +kernel
theorem dJ6_bitCount_0f7a4_22 : decode cJ6_bitCount_0f7a4 22 = .ok (.iadd, 1) := by decide +kernel
theorem dJ6_bitCount_0f7a4_23 : decode cJ6_bitCount_0f7a4 23 = .ok (.istore_n 0, 1) := by decide +kernel
theorem dJ6_bitCount_0f7a4_24 : decode cJ6_bitCount_0f7a4 24 = .ok (.iload_n 0, 1) := by decide +kernel
theorem dJ6_bitCount_0f7a4_25 : decode cJ6_bitCount_0f7a4 25 = .ok (.iload_n 0, 1) := by decide +kernel
theorem dJ6_bitCount_0f7a4_26 : decode cJ6_bitCount_0f7a4 26 = .ok (.iconst 4, 1) := by decide +kernel
theorem dJ6_bitCount_0f7a4_27 : decode cJ6_bitCount_0f7a4 27 = .ok (.iushr, 1) := by decide +kernel
theorem dJ6_bitCount_0f7a4_28 : decode cJ6_bitCount_0f7a4 28 = .ok (.iadd, 1) := by decide +kernel
theorem dJ6_bitCount_0f7a4_29 : decode cJ6_bitCount_0f7a4 29 = .ok (.ldc_w 267, 3) := by decide +kernel
theorem dJ6_bitCount_0f7a4_32 : decode cJ6_bitCount_0f7a4 32 = .ok (.iand, 1) := by decide +kernel
theorem dJ6_bitCount_0f7a4_33 : decode cJ6_bitCount_0f7a4 33 = .ok (.istore_n 0, 1) := by decide +kernel
theorem dJ6_bitCount_0f7a4_34 : decode cJ6_bitCount_0f7a4 34 = .ok (.iload_n 0, 1) := by decide +kernel
theorem dJ6_bitCount_0f7a4_35 : decode cJ6_bitCount_0f7a4 35 = .ok (.iload_n 0, 1) := by decide +kernel
theorem dJ6_bitCount_0f7a4_36 : decode cJ6_bitCount_0f7a4 36 = .ok (.bipush 8, 2) := by decide +kernel
theorem dJ6_bitCount_0f7a4_38 : decode cJ6_bitCount_0f7a4 38 = .ok (.iushr, 1) := by decide +kernel
theorem dJ6_bitCount_0f7a4_39 : decode cJ6_bitCount_0f7a4 39 = .ok (.iadd, 1) := by decide +kernel
theorem dJ6_bitCount_0f7a4_40 : decode cJ6_bitCount_0f7a4 40 = .ok (.istore_n 0, 1) := by decide +kernel
theorem dJ6_bitCount_0f7a4_41 : decode cJ6_bitCount_0f7a4 41 = .ok (.iload_n 0, 1) := by decide +kernel
theorem dJ6_bitCount_0f7a4_42 : decode cJ6_bitCount_0f7a4 42 = .ok (.iload_n 0, 1) := by decide +kernel
theorem dJ6_bitCount_0f7a4_43 : decode cJ6_bitCount_0f7a4 43 = .ok (.bipush 16, 2) := by decide +kernel
theorem dJ6_bitCount_0f7a4_45 : decode cJ6_bitCount_0f7a4 45 = .ok (.iushr, 1) := by decide +kernel
theorem dJ6_bitCount_0f7a4_46 : decode cJ6_bitCount_0f7a4 46 = .ok (.iadd, 1) := by decide +kernel
theorem dJ6_bitCount_0f7a4_47 : decode cJ6_bitCount_0f7a4 47 = .ok (.istore_n 0, 1) := by decide +kernel
theorem dJ6_bitCount_0f7a4_48 : decode cJ6_bitCount_0f7a4 48 = .ok (.iload_n 0, 1) := by decide +kernel
theorem dJ6_bitCount_0f7a4_49 : decode cJ6_bitCount_0f7a4 49 = .ok (.bipush 63, 2) := by decide +kernel
theorem dJ6_bitCount_0f7a4_51 : decode cJ6_bitCount_0f7a4 51 = .ok (.iand, 1) := by decide +kernel
theorem dJ6_bitCount_0f7a4_52 : decode cJ6_bitCount_0f7a4 52 = .ok (.ireturn, 1) := by decide +kernel
theorem dJ9_max_7cf53_0 : decode cJ9_max_7cf53 0 = .ok (.iload_n 0, 1) := by decide +kernel
theorem dJ9_max_7cf53_1 : decode cJ9_max_7cf53 1 = .ok (.iload_n 1, 1) := by decide +kernel
theorem dJ9_max_7cf53_2 : decode cJ9_max_7cf53 2 = .ok (.if_icmp .lt 7, 3) := by decide +kernel
theorem dJ9_max_7cf53_5 : decode cJ9_max_7cf53 5 = .ok (.iload_n 0, 1) := by decide +kernel
theorem dJ9_max_7cf53_6 : decode cJ9_max_7cf53 6 = .ok (.goto 4, 3) := by decide +kernel
theorem dJ9_max_7cf53_9 : decode cJ9_max_7cf53 9 = .ok (.iload_n 1, 1) := by decide +kernel
theorem dJ9_max_7cf53_10 : decode cJ9_max_7cf53 10 = .ok (.ireturn, 1) := by decide +kernel
theorem dJ9_min_7cf53_0 : decode cJ9_min_7cf53 0 = .ok (.iload_n 0, 1) := by decide +kernel
theorem dJ9_min_7cf53_1 : decode cJ9_min_7cf53 1 = .ok (.iload_n 1, 1) := by decide +kernel
theorem dJ9_min_7cf53_2 : decode cJ9_min_7cf53 2 = .ok (.if_icmp .gt 7, 3) := by decide +kernel
theorem dJ9_min_7cf53_5 : decode cJ9_min_7cf53 5 = .ok (.iload_n 0, 1) := by decide +kernel
theorem dJ9_min_7cf53_6 : decode cJ9_min_7cf53 6 = .ok (.goto 4, 3) := by decide +kernel
theorem dJ9_min_7cf53_9 : decode cJ9_min_7cf53 9 = .ok (.iload_n 1, 1) := by decide +kernel
theorem dJ9_min_7cf53_10 : decode cJ9_min_7cf53 10 = .ok (.ireturn, 1) := by decide +kernel
theorem dJ7_rangeCheck_23922_0 : decode cJ7_rangeCheck_23922 0 = .ok (.iload_n 1, 1) := by decide +kernel
theorem dJ7_rangeCheck_23922_1 : decode cJ7_rangeCheck_23922 1 = .ok (.iload_n 2, 1) := by decide +kernel
theorem dJ7_rangeCheck_23922_2 : decode cJ7_rangeCheck_23922 2 = .ok (.if_icmp .le 44, 3) := by decide +kernel
theorem dJ7_rangeCheck_23922_5 : decode cJ7_rangeCheck_23922 5 = .ok (.new 43, 3) := by decide +kernel
theorem dJ7_rangeCheck_23922_8 : decode cJ7_rangeCheck_23922 8 = .ok (.dup, 1) := by decide +kernel
theorem dJ7_rangeCheck_23922_9 : decode cJ7_rangeCheck_23922 9 = .ok (.new 45, 3) := by decide +kernel
theorem dJ7_rangeCheck_23922_12 : decode cJ7_rangeCheck_23922 12 = .ok (.dup, 1) := by decide +kernel
theorem dJ7_rangeCheck_23922_13 : decode cJ7_rangeCheck_23922 13 = .ok (.invokespecial 47, 3) := by decide +kernel
theorem dJ7_rangeCheck_23922_16 : decode cJ7_rangeCheck_23922 16 = .ok (.ldc 48, 2) := by decide +kernel
theorem dJ7_rangeCheck_23922_18 : decode cJ7_rangeCheck_23922 18 = .ok (.invokevirtual 50, 3) := by decide +kernel
theorem dJ7_rangeCheck_23922_21 : decode cJ7_rangeCheck_23922 21 = .ok (.iload_n 1, 1) := by decide +kernel
theorem dJ7_rangeCheck_23922_22 : decode cJ7_rangeCheck_23922 22 = .ok (.invokevirtual 54, 3) := by decide +kernel
theorem dJ7_rangeCheck_23922_25 : decode cJ7_rangeCheck_23922 25 = .ok (.ldc 57, 2) := by decide +kernel
theorem dJ7_rangeCheck_23922_27 : decode cJ7_rangeCheck_23922 27 = .ok (.invokevirtual 50, 3) := by decide +kernel
theorem dJ7_rangeCheck_23922_30 : decode cJ7_rangeCheck_23922 30 = .ok (.iload_n 2, 1) := by decide +kernel
theorem dJ7_rangeCheck_23922_31 : decode cJ7_rangeCheck_23922 31 = .ok (.invokevirtual 54, 3) := by decide +kernel
theorem dJ7_rangeCheck_23922_34 : decode cJ7_rangeCheck_23922 34 = .ok (.ldc 59, 2) := by decide +kernel
theorem dJ7_rangeCheck_23922_36 : decode cJ7_rangeCheck_23922 36 = .ok (.invokevirtual 50, 3) := by decide +kernel
theorem dJ7_rangeCheck_23922_39 : decode cJ7_rangeCheck_23922 39 = .ok (.invokevirtual 61, 3) := by decide +kernel
theorem dJ7_rangeCheck_23922_42 : decode cJ7_rangeCheck_23922 42 = .ok (.invokespecial 65, 3) := by decide +kernel
theorem dJ7_rangeCheck_23922_45 : decode cJ7_rangeCheck_23922 45 = .ok (.athrow, 1) := by decide +kernel
theorem dJ7_rangeCheck_23922_46 : decode cJ7_rangeCheck_23922 46 = .ok (.iload_n 1, 1) := by decide +kernel
theorem dJ7_rangeCheck_23922_47 : decode cJ7_rangeCheck_23922 47 = .ok (.ifCond .ge 12, 3) := by decide +kernel
theorem dJ7_rangeCheck_23922_50 : decode cJ7_rangeCheck_23922 50 = .ok (.new 68, 3) := by decide +kernel
theorem dJ7_rangeCheck_23922_53 : decode cJ7_rangeCheck_23922 53 = .ok (.dup, 1) := by decide +kernel
theorem dJ7_rangeCheck_23922_54 : decode cJ7_rangeCheck_23922 54 = .ok (.iload_n 1, 1) := by decide +kernel
theorem dJ7_rangeCheck_23922_55 : decode cJ7_rangeCheck_23922 55 = .ok (.invokespecial 70, 3) := by decide +kernel
theorem dJ7_rangeCheck_23922_58 : decode cJ7_rangeCheck_23922 58 = .ok (.athrow, 1) := by decide +kernel
theorem dJ7_rangeCheck_23922_59 : decode cJ7_rangeCheck_23922 59 = .ok (.iload_n 2, 1) := by decide +kernel
theorem dJ7_rangeCheck_23922_60 : decode cJ7_rangeCheck_23922 60 = .ok (.iload_n 0, 1) := by decide +kernel
theorem dJ7_rangeCheck_23922_61 : decode cJ7_rangeCheck_23922 61 = .ok (.if_icmp .le 12, 3) := by decide +kernel
theorem dJ7_rangeCheck_23922_64 : decode cJ7_rangeCheck_23922 64 = .ok (.new 68, 3) := by decide +kernel
theorem dJ7_rangeCheck_23922_67 : decode cJ7_rangeCheck_23922 67 = .ok (.dup, 1) := by decide +kernel
theorem dJ7_rangeCheck_23922_68 : decode cJ7_rangeCheck_23922 68 = .ok (.iload_n 2, 1) := by decide +kernel
theorem dJ7_rangeCheck_23922_69 : decode cJ7_rangeCheck_23922 69 = .ok (.invokespecial 70, 3) := by decide +kernel
theorem dJ7_rangeCheck_23922_72 : decode cJ7_rangeCheck_23922 72 = .ok (.athrow, 1) := by decide +kernel
theorem dJ7_rangeCheck_23922_73 : decode cJ7_rangeCheck_23922 73 = .ok (.return_, 1) := by decide +kernel
theorem dJ7_fill_53178_0 : decode cJ7_fill_53178 0 = .ok (.iconst 0, 1) := by decide +kernel
theorem dJ7_fill_53178_1 : decode cJ7_fill_53178 1 = .ok (.istore_n 2, 1) := by decide +kernel
theorem dJ7_fill_53178_2 : decode cJ7_fill_53178 2 = .ok (.aload_n 0, 1) := by decide +kernel
theorem dJ7_fill_53178_3 : decode cJ7_fill_53178 3 = .ok (.arraylength, 1) := by decide +kernel
theorem dJ7_fill_53178_4 : decode cJ7_fill_53178 4 = .ok (.istore_n 3, 1) := by decide +kernel
theorem dJ7_fill_53178_5 : decode cJ7_fill_53178 5 = .ok (.iload_n 2, 1) := by decide +kernel
theorem dJ7_fill_53178_6 : decode cJ7_fill_53178 6 = .ok (.iload_n 3, 1) := by decide +kernel
theorem dJ7_fill_53178_7 : decode cJ7_fill_53178 7 = .ok (.if_icmp .ge 13, 3) := by decide +kernel
theorem dJ7_fill_53178_10 : decode cJ7_fill_53178 10 = .ok (.aload_n 0, 1) := by decide +kernel
theorem dJ7_fill_53178_11 : decode cJ7_fill_53178 11 = .ok (.iload_n 2, 1) := by decide +kernel
theorem dJ7_fill_53178_12 : decode cJ7_fill_53178 12 = .ok (.iload_n 1, 1) := by decide +kernel
theorem dJ7_fill_53178_13 : decode cJ7_fill_53178 13 = .ok (.iastore, 1) := by decide +kernel
theorem dJ7_fill_53178_14 : decode cJ7_fill_53178 14 = .ok (.iinc 2 1, 3) := by decide +kernel
theorem dJ7_fill_53178_17 : decode cJ7_fill_53178 17 = .ok (.goto (-12), 3) := by decide +kernel
theorem dJ7_fill_53178_20 : decode cJ7_fill_53178 20 = .ok (.return_, 1) := by decide +kernel
theorem dJ7_fill_fda19_0 : decode cJ7_fill_fda19 0 = .ok (.aload_n 0, 1) := by decide +kernel
theorem dJ7_fill_fda19_1 : decode cJ7_fill_fda19 1 = .ok (.arraylength, 1) := by decide +kernel
theorem dJ7_fill_fda19_2 : decode cJ7_fill_fda19 2 = .ok (.iload_n 1, 1) := by decide +kernel
theorem dJ7_fill_fda19_3 : decode cJ7_fill_fda19 3 = .ok (.iload_n 2, 1) := by decide +kernel
theorem dJ7_fill_fda19_4 : decode cJ7_fill_fda19 4 = .ok (.invokestatic 13, 3) := by decide +kernel
theorem dJ7_fill_fda19_7 : decode cJ7_fill_fda19 7 = .ok (.iload_n 1, 1) := by decide +kernel
theorem dJ7_fill_fda19_8 : decode cJ7_fill_fda19 8 = .ok (.istore 4, 2) := by decide +kernel
theorem dJ7_fill_fda19_10 : decode cJ7_fill_fda19 10 = .ok (.iload 4, 2) := by decide +kernel
theorem dJ7_fill_fda19_12 : decode cJ7_fill_fda19 12 = .ok (.iload_n 2, 1) := by decide +kernel
theorem dJ7_fill_fda19_13 : decode cJ7_fill_fda19 13 = .ok (.if_icmp .ge 14, 3) := by decide +kernel
theorem dJ7_fill_fda19_16 : decode cJ7_fill_fda19 16 = .ok (.aload_n 0, 1) := by decide +kernel
theorem dJ7_fill_fda19_17 : decode cJ7_fill_fda19 17 = .ok (.iload 4, 2) := by decide +kernel
theorem dJ7_fill_fda19_19 : decode cJ7_fill_fda19 19 = .ok (.iload_n 3, 1) := by decide +kernel
theorem dJ7_fill_fda19_20 : decode cJ7_fill_fda19 20 = .ok (.iastore, 1) := by decide +kernel
theorem dJ7_fill_fda19_21 : decode cJ7_fill_fda19 21 = .ok (.iinc 4 1, 3) := by decide +kernel
theorem dJ7_fill_fda19_24 : decode cJ7_fill_fda19 24 = .ok (.goto (-14), 3) := by decide +kernel
theorem dJ7_fill_fda19_27 : decode cJ7_fill_fda19 27 = .ok (.return_, 1) := by decide +kernel
theorem dL_cell_0 : decode cL_cell 0 = .ok (.iload_n 1, 1) := by decide +kernel
theorem dL_cell_1 : decode cL_cell 1 = .ok (.aload_n 0, 1) := by decide +kernel
theorem dL_cell_2 : decode cL_cell 2 = .ok (.arraylength, 1) := by decide +kernel
theorem dL_cell_3 : decode cL_cell 3 = .ok (.if_icmp .ge 9, 3) := by decide +kernel
theorem dL_cell_6 : decode cL_cell 6 = .ok (.aload_n 0, 1) := by decide +kernel
theorem dL_cell_7 : decode cL_cell 7 = .ok (.iload_n 1, 1) := by decide +kernel
theorem dL_cell_8 : decode cL_cell 8 = .ok (.iaload, 1) := by decide +kernel
theorem dL_cell_9 : decode cL_cell 9 = .ok (.goto 12, 3) := by decide +kernel
theorem dL_cell_12 : decode cL_cell 12 = .ok (.ldc 7, 2) := by decide +kernel
theorem dL_cell_14 : decode cL_cell 14 = .ok (.iload_n 1, 1) := by decide +kernel
theorem dL_cell_15 : decode cL_cell 15 = .ok (.iconst 1, 1) := by decide +kernel
theorem dL_cell_16 : decode cL_cell 16 = .ok (.iadd, 1) := by decide +kernel
theorem dL_cell_17 : decode cL_cell 17 = .ok (.imul, 1) := by decide +kernel
theorem dL_cell_18 : decode cL_cell 18 = .ok (.ldc 8, 2) := by decide +kernel
theorem dL_cell_20 : decode cL_cell 20 = .ok (.iadd, 1) := by decide +kernel
theorem dL_cell_21 : decode cL_cell 21 = .ok (.ireturn, 1) := by decide +kernel
theorem dL_low_0 : decode cL_low 0 = .ok (.iload_n 0, 1) := by decide +kernel
theorem dL_low_1 : decode cL_low 1 = .ok (.ldc 9, 2) := by decide +kernel
theorem dL_low_3 : decode cL_low 3 = .ok (.iand, 1) := by decide +kernel
theorem dL_low_4 : decode cL_low 4 = .ok (.iload_n 1, 1) := by decide +kernel
theorem dL_low_5 : decode cL_low 5 = .ok (.irem, 1) := by decide +kernel
theorem dL_low_6 : decode cL_low 6 = .ok (.ireturn, 1) := by decide +kernel
theorem dL_act_0 : decode cL_act 0 = .ok (.iload_n 1, 1) := by decide +kernel
theorem dL_act_1 : decode cL_act 1 = .ok (.iconst 4, 1) := by decide +kernel
theorem dL_act_2 : decode cL_act 2 = .ok (.ishr, 1) := by decide +kernel
theorem dL_act_3 : decode cL_act 3 = .ok (.iconst 5, 1) := by decide +kernel
theorem dL_act_4 : decode cL_act 4 = .ok (.invokestatic 10, 3) := by decide +kernel
theorem dL_act_7 : decode cL_act 7 = .ok (.istore_n 3, 1) := by decide +kernel
theorem dL_act_8 : decode cL_act 8 = .ok (.iload_n 1, 1) := by decide +kernel
theorem dL_act_9 : decode cL_act 9 = .ok (.bipush 13, 2) := by decide +kernel
theorem dL_act_11 : decode cL_act 11 = .ok (.invokestatic 10, 3) := by decide +kernel
theorem dL_act_14 : decode cL_act 14 = .ok (.tableswitch 191 0 9 #[54, 54, 91, 91, 122, 143, 178, 178, 178, 178], 54) := by decide +kernel
theorem dL_act_68 : decode cL_act 68 = .ok (.aload_n 0, 1) := by decide +kernel
theorem dL_act_69 : decode cL_act 69 = .ok (.iload_n 3, 1) := by decide +kernel
theorem dL_act_70 : decode cL_act 70 = .ok (.iconst 1, 1) := by decide +kernel
theorem dL_act_71 : decode cL_act 71 = .ok (.iload_n 2, 1) := by decide +kernel
theorem dL_act_72 : decode cL_act 72 = .ok (.iload_n 2, 1) := by decide +kernel
theorem dL_act_73 : decode cL_act 73 = .ok (.bipush 8, 2) := by decide +kernel
theorem dL_act_75 : decode cL_act 75 = .ok (.ishr, 1) := by decide +kernel
theorem dL_act_76 : decode cL_act 76 = .ok (.iconst 5, 1) := by decide +kernel
theorem dL_act_77 : decode cL_act 77 = .ok (.invokestatic 10, 3) := by decide +kernel
theorem dL_act_80 : decode cL_act 80 = .ok (.ifCond .ne 8, 3) := by decide +kernel
theorem dL_act_83 : decode cL_act 83 = .ok (.bipush 100, 2) := by decide +kernel
theorem dL_act_85 : decode cL_act 85 = .ok (.goto 5, 3) := by decide +kernel
theorem dL_act_88 : decode cL_act 88 = .ok (.bipush 9, 2) := by decide +kernel
theorem dL_act_90 : decode cL_act 90 = .ok (.invokestatic 10, 3) := by decide +kernel
theorem dL_act_93 : decode cL_act 93 = .ok (.iadd, 1) := by decide +kernel
theorem dL_act_94 : decode cL_act 94 = .ok (.iload_n 2, 1) := by decide +kernel
theorem dL_act_95 : decode cL_act 95 = .ok (.iconst 4, 1) := by decide +kernel
theorem dL_act_96 : decode cL_act 96 = .ok (.ishr, 1) := by decide +kernel
theorem dL_act_97 : decode cL_act 97 = .ok (.iconst 3, 1) := by decide +kernel
theorem dL_act_98 : decode cL_act 98 = .ok (.invokestatic 10, 3) := by decide +kernel
theorem dL_act_101 : decode cL_act 101 = .ok (.invokevirtual 16, 3) := by decide +kernel
theorem dL_act_104 : decode cL_act 104 = .ok (.ireturn, 1) := by decide +kernel
theorem dL_act_105 : decode cL_act 105 = .ok (.aload_n 0, 1) := by decide +kernel
theorem dL_act_106 : decode cL_act 106 = .ok (.iload_n 3, 1) := by decide +kernel
theorem dL_act_107 : decode cL_act 107 = .ok (.iconst 1, 1) := by decide +kernel
theorem dL_act_108 : decode cL_act 108 = .ok (.iload_n 2, 1) := by decide +kernel
theorem dL_act_109 : decode cL_act 109 = .ok (.iload_n 2, 1) := by decide +kernel
theorem dL_act_110 : decode cL_act 110 = .ok (.bipush 8, 2) := by decide +kernel
theorem dL_act_112 : decode cL_act 112 = .ok (.ishr, 1) := by decide +kernel
theorem dL_act_113 : decode cL_act 113 = .ok (.iconst 5, 1) := by decide +kernel
theorem dL_act_114 : decode cL_act 114 = .ok (.invokestatic 10, 3) := by decide +kernel
theorem dL_act_117 : decode cL_act 117 = .ok (.ifCond .ne 9, 3) := by decide +kernel
theorem dL_act_120 : decode cL_act 120 = .ok (.sipush 200, 3) := by decide +kernel
theorem dL_act_123 : decode cL_act 123 = .ok (.goto 5, 3) := by decide +kernel
theorem dL_act_126 : decode cL_act 126 = .ok (.bipush 12, 2) := by decide +kernel
theorem dL_act_128 : decode cL_act 128 = .ok (.invokestatic 10, 3) := by decide +kernel
theorem dL_act_131 : decode cL_act 131 = .ok (.iadd, 1) := by decide +kernel
theorem dL_act_132 : decode cL_act 132 = .ok (.invokevirtual 22, 3) := by decide +kernel
theorem dL_act_135 : decode cL_act 135 = .ok (.ireturn, 1) := by decide +kernel
theorem dL_act_136 : decode cL_act 136 = .ok (.aload_n 0, 1) := by decide +kernel
theorem dL_act_137 : decode cL_act 137 = .ok (.iload_n 3, 1) := by decide +kernel
theorem dL_act_138 : decode cL_act 138 = .ok (.iconst 1, 1) := by decide +kernel
theorem dL_act_139 : decode cL_act 139 = .ok (.iload_n 2, 1) := by decide +kernel
theorem dL_act_140 : decode cL_act 140 = .ok (.bipush 9, 2) := by decide +kernel
theorem dL_act_142 : decode cL_act 142 = .ok (.invokestatic 10, 3) := by decide +kernel
theorem dL_act_145 : decode cL_act 145 = .ok (.iadd, 1) := by decide +kernel
theorem dL_act_146 : decode cL_act 146 = .ok (.iload_n 2, 1) := by decide +kernel
theorem dL_act_147 : decode cL_act 147 = .ok (.iconst 4, 1) := by decide +kernel
theorem dL_act_148 : decode cL_act 148 = .ok (.ishr, 1) := by decide +kernel
theorem dL_act_149 : decode cL_act 149 = .ok (.iconst 3, 1) := by decide +kernel
theorem dL_act_150 : decode cL_act 150 = .ok (.invokestatic 10, 3) := by decide +kernel
theorem dL_act_153 : decode cL_act 153 = .ok (.invokevirtual 25, 3) := by decide +kernel
theorem dL_act_156 : decode cL_act 156 = .ok (.ireturn, 1) := by decide +kernel
theorem dL_act_157 : decode cL_act 157 = .ok (.iload_n 2, 1) := by decide +kernel
theorem dL_act_158 : decode cL_act 158 = .ok (.iconst 3, 1) := by decide +kernel
theorem dL_act_159 : decode cL_act 159 = .ok (.invokestatic 10, 3) := by decide +kernel
theorem dL_act_162 : decode cL_act 162 = .ok (.istore 4, 2) := by decide +kernel
theorem dL_act_164 : decode cL_act 164 = .ok (.aload_n 0, 1) := by decide +kernel
theorem dL_act_165 : decode cL_act 165 = .ok (.iload 4, 2) := by decide +kernel
theorem dL_act_167 : decode cL_act 167 = .ok (.iconst 1, 1) := by decide +kernel
theorem dL_act_168 : decode cL_act 168 = .ok (.iload_n 2, 1) := by decide +kernel
theorem dL_act_169 : decode cL_act 169 = .ok (.iconst 2, 1) := by decide +kernel
theorem dL_act_170 : decode cL_act 170 = .ok (.ishr, 1) := by decide +kernel
theorem dL_act_171 : decode cL_act 171 = .ok (.iload 4, 2) := by decide +kernel
theorem dL_act_173 : decode cL_act 173 = .ok (.iconst 2, 1) := by decide +kernel
theorem dL_act_174 : decode cL_act 174 = .ok (.if_icmp .ne 8, 3) := by decide +kernel
theorem dL_act_177 : decode cL_act 177 = .ok (.bipush 6, 2) := by decide +kernel
theorem dL_act_179 : decode cL_act 179 = .ok (.goto 5, 3) := by decide +kernel
theorem dL_act_182 : decode cL_act 182 = .ok (.bipush 9, 2) := by decide +kernel
theorem dL_act_184 : decode cL_act 184 = .ok (.invokestatic 10, 3) := by decide +kernel
theorem dL_act_187 : decode cL_act 187 = .ok (.iadd, 1) := by decide +kernel
theorem dL_act_188 : decode cL_act 188 = .ok (.invokevirtual 28, 3) := by decide +kernel
theorem dL_act_191 : decode cL_act 191 = .ok (.ireturn, 1) := by decide +kernel
theorem dL_act_192 : decode cL_act 192 = .ok (.aload_n 0, 1) := by decide +kernel
theorem dL_act_193 : decode cL_act 193 = .ok (.iload_n 1, 1) := by decide +kernel
theorem dL_act_194 : decode cL_act 194 = .ok (.iconst 4, 1) := by decide +kernel
theorem dL_act_195 : decode cL_act 195 = .ok (.ishr, 1) := by decide +kernel
theorem dL_act_196 : decode cL_act 196 = .ok (.bipush 6, 2) := by decide +kernel
theorem dL_act_198 : decode cL_act 198 = .ok (.invokestatic 10, 3) := by decide +kernel
theorem dL_act_201 : decode cL_act 201 = .ok (.invokevirtual 31, 3) := by decide +kernel
theorem dL_act_204 : decode cL_act 204 = .ok (.ireturn, 1) := by decide +kernel
theorem dL_act_205 : decode cL_act 205 = .ok (.aload_n 0, 1) := by decide +kernel
theorem dL_act_206 : decode cL_act 206 = .ok (.iconst 1, 1) := by decide +kernel
theorem dL_act_207 : decode cL_act 207 = .ok (.iload_n 2, 1) := by decide +kernel
theorem dL_act_208 : decode cL_act 208 = .ok (.bipush 7, 2) := by decide +kernel
theorem dL_act_210 : decode cL_act 210 = .ok (.invokestatic 10, 3) := by decide +kernel
theorem dL_act_213 : decode cL_act 213 = .ok (.iadd, 1) := by decide +kernel
theorem dL_act_214 : decode cL_act 214 = .ok (.invokevirtual 35, 3) := by decide +kernel
theorem dL_act_217 : decode cL_act 217 = .ok (.ireturn, 1) := by decide +kernel
theorem dL_boards_0 : decode cL_boards 0 = .ok (.iconst 0, 1) := by decide +kernel
theorem dL_boards_1 : decode cL_boards 1 = .ok (.istore_n 1, 1) := by decide +kernel
theorem dL_boards_2 : decode cL_boards 2 = .ok (.iconst 0, 1) := by decide +kernel
theorem dL_boards_3 : decode cL_boards 3 = .ok (.istore_n 2, 1) := by decide +kernel
theorem dL_boards_4 : decode cL_boards 4 = .ok (.iconst 0, 1) := by decide +kernel
theorem dL_boards_5 : decode cL_boards 5 = .ok (.istore_n 3, 1) := by decide +kernel
theorem dL_boards_6 : decode cL_boards 6 = .ok (.iconst 0, 1) := by decide +kernel
theorem dL_boards_7 : decode cL_boards 7 = .ok (.istore 4, 2) := by decide +kernel
theorem dL_boards_9 : decode cL_boards 9 = .ok (.iconst 0, 1) := by decide +kernel
theorem dL_boards_10 : decode cL_boards 10 = .ok (.istore 5, 2) := by decide +kernel
theorem dL_boards_12 : decode cL_boards 12 = .ok (.iload 5, 2) := by decide +kernel
theorem dL_boards_14 : decode cL_boards 14 = .ok (.aload_n 0, 1) := by decide +kernel
theorem dL_boards_15 : decode cL_boards 15 = .ok (.iconst 1, 1) := by decide +kernel
theorem dL_boards_16 : decode cL_boards 16 = .ok (.invokevirtual 38, 3) := by decide +kernel
theorem dL_boards_19 : decode cL_boards 19 = .ok (.if_icmp .ge 498, 3) := by decide +kernel
theorem dL_boards_22 : decode cL_boards 22 = .ok (.aload_n 0, 1) := by decide +kernel
theorem dL_boards_23 : decode cL_boards 23 = .ok (.iload 5, 2) := by decide +kernel
theorem dL_boards_25 : decode cL_boards 25 = .ok (.iconst 0, 1) := by decide +kernel
theorem dL_boards_26 : decode cL_boards 26 = .ok (.invokevirtual 41, 3) := by decide +kernel
theorem dL_boards_29 : decode cL_boards 29 = .ok (.istore 6, 2) := by decide +kernel
theorem dL_boards_31 : decode cL_boards 31 = .ok (.aload_n 0, 1) := by decide +kernel
theorem dL_boards_32 : decode cL_boards 32 = .ok (.iload 5, 2) := by decide +kernel
theorem dL_boards_34 : decode cL_boards 34 = .ok (.iconst 3, 1) := by decide +kernel
theorem dL_boards_35 : decode cL_boards 35 = .ok (.invokevirtual 41, 3) := by decide +kernel
theorem dL_boards_38 : decode cL_boards 38 = .ok (.iconst 2, 1) := by decide +kernel
theorem dL_boards_39 : decode cL_boards 39 = .ok (.if_icmp .eq 20, 3) := by decide +kernel
theorem dL_boards_42 : decode cL_boards 42 = .ok (.iload 6, 2) := by decide +kernel
theorem dL_boards_44 : decode cL_boards 44 = .ok (.ifCond .lt 19, 3) := by decide +kernel
theorem dL_boards_47 : decode cL_boards 47 = .ok (.aload_n 0, 1) := by decide +kernel
theorem dL_boards_48 : decode cL_boards 48 = .ok (.iload 6, 2) := by decide +kernel
theorem dL_boards_50 : decode cL_boards 50 = .ok (.bipush 8, 2) := by decide +kernel
theorem dL_boards_52 : decode cL_boards 52 = .ok (.invokevirtual 41, 3) := by decide +kernel
theorem dL_boards_55 : decode cL_boards 55 = .ok (.iconst 1, 1) := by decide +kernel
theorem dL_boards_56 : decode cL_boards 56 = .ok (.if_icmp .ne 7, 3) := by decide +kernel
theorem dL_boards_59 : decode cL_boards 59 = .ok (.iconst 1, 1) := by decide +kernel
theorem dL_boards_60 : decode cL_boards 60 = .ok (.goto 4, 3) := by decide +kernel
theorem dL_boards_63 : decode cL_boards 63 = .ok (.iconst 0, 1) := by decide +kernel
theorem dL_boards_64 : decode cL_boards 64 = .ok (.istore 7, 2) := by decide +kernel
theorem dL_boards_66 : decode cL_boards 66 = .ok (.iload_n 1, 1) := by decide +kernel
theorem dL_boards_67 : decode cL_boards 67 = .ok (.iload 7, 2) := by decide +kernel
theorem dL_boards_69 : decode cL_boards 69 = .ok (.ifCond .eq 10, 3) := by decide +kernel
theorem dL_boards_72 : decode cL_boards 72 = .ok (.iconst 1, 1) := by decide +kernel
theorem dL_boards_73 : decode cL_boards 73 = .ok (.iload 5, 2) := by decide +kernel
theorem dL_boards_75 : decode cL_boards 75 = .ok (.ishl, 1) := by decide +kernel
theorem dL_boards_76 : decode cL_boards 76 = .ok (.goto 4, 3) := by decide +kernel
theorem dL_boards_79 : decode cL_boards 79 = .ok (.iconst 0, 1) := by decide +kernel
theorem dL_boards_80 : decode cL_boards 80 = .ok (.ior, 1) := by decide +kernel
theorem dL_boards_81 : decode cL_boards 81 = .ok (.istore_n 1, 1) := by decide +kernel
theorem dL_boards_82 : decode cL_boards 82 = .ok (.iload_n 2, 1) := by decide +kernel
theorem dL_boards_83 : decode cL_boards 83 = .ok (.aload_n 0, 1) := by decide +kernel
theorem dL_boards_84 : decode cL_boards 84 = .ok (.iload 5, 2) := by decide +kernel
theorem dL_boards_86 : decode cL_boards 86 = .ok (.iconst 3, 1) := by decide +kernel
theorem dL_boards_87 : decode cL_boards 87 = .ok (.invokevirtual 41, 3) := by decide +kernel
theorem dL_boards_90 : decode cL_boards 90 = .ok (.iconst 2, 1) := by decide +kernel
theorem dL_boards_91 : decode cL_boards 91 = .ok (.if_icmp .ne 10, 3) := by decide +kernel
theorem dL_boards_94 : decode cL_boards 94 = .ok (.iconst 1, 1) := by decide +kernel
theorem dL_boards_95 : decode cL_boards 95 = .ok (.iload 5, 2) := by decide +kernel
theorem dL_boards_97 : decode cL_boards 97 = .ok (.ishl, 1) := by decide +kernel
theorem dL_boards_98 : decode cL_boards 98 = .ok (.goto 4, 3) := by decide +kernel
theorem dL_boards_101 : decode cL_boards 101 = .ok (.iconst 0, 1) := by decide +kernel
theorem dL_boards_102 : decode cL_boards 102 = .ok (.ior, 1) := by decide +kernel
theorem dL_boards_103 : decode cL_boards 103 = .ok (.istore_n 2, 1) := by decide +kernel
theorem dL_boards_104 : decode cL_boards 104 = .ok (.iload_n 3, 1) := by decide +kernel
theorem dL_boards_105 : decode cL_boards 105 = .ok (.aload_n 0, 1) := by decide +kernel
theorem dL_boards_106 : decode cL_boards 106 = .ok (.iload 5, 2) := by decide +kernel
theorem dL_boards_108 : decode cL_boards 108 = .ok (.iconst 3, 1) := by decide +kernel
theorem dL_boards_109 : decode cL_boards 109 = .ok (.invokevirtual 41, 3) := by decide +kernel
theorem dL_boards_112 : decode cL_boards 112 = .ok (.iconst 1, 1) := by decide +kernel
theorem dL_boards_113 : decode cL_boards 113 = .ok (.if_icmp .ne 10, 3) := by decide +kernel
theorem dL_boards_116 : decode cL_boards 116 = .ok (.iconst 1, 1) := by decide +kernel
theorem dL_boards_117 : decode cL_boards 117 = .ok (.iload 5, 2) := by decide +kernel
theorem dL_boards_119 : decode cL_boards 119 = .ok (.ishl, 1) := by decide +kernel
theorem dL_boards_120 : decode cL_boards 120 = .ok (.goto 4, 3) := by decide +kernel
theorem dL_boards_123 : decode cL_boards 123 = .ok (.iconst 0, 1) := by decide +kernel
theorem dL_boards_124 : decode cL_boards 124 = .ok (.ior, 1) := by decide +kernel
theorem dL_boards_125 : decode cL_boards 125 = .ok (.istore_n 3, 1) := by decide +kernel
theorem dL_boards_126 : decode cL_boards 126 = .ok (.iload 4, 2) := by decide +kernel
theorem dL_boards_128 : decode cL_boards 128 = .ok (.aload_n 0, 1) := by decide +kernel
theorem dL_boards_129 : decode cL_boards 129 = .ok (.iload 5, 2) := by decide +kernel
theorem dL_boards_131 : decode cL_boards 131 = .ok (.bipush 11, 2) := by decide +kernel
theorem dL_boards_133 : decode cL_boards 133 = .ok (.invokevirtual 41, 3) := by decide +kernel
theorem dL_boards_136 : decode cL_boards 136 = .ok (.iadd, 1) := by decide +kernel
theorem dL_boards_137 : decode cL_boards 137 = .ok (.istore 4, 2) := by decide +kernel
theorem dL_boards_139 : decode cL_boards 139 = .ok (.iconst 0, 1) := by decide +kernel
theorem dL_boards_140 : decode cL_boards 140 = .ok (.istore 8, 2) := by decide +kernel
theorem dL_boards_142 : decode cL_boards 142 = .ok (.iconst 1, 1) := by decide +kernel
theorem dL_boards_143 : decode cL_boards 143 = .ok (.iload 5, 2) := by decide +kernel
theorem dL_boards_145 : decode cL_boards 145 = .ok (.ishl, 1) := by decide +kernel
theorem dL_boards_146 : decode cL_boards 146 = .ok (.istore 9, 2) := by decide +kernel
theorem dL_boards_148 : decode cL_boards 148 = .ok (.iload 5, 2) := by decide +kernel
theorem dL_boards_150 : decode cL_boards 150 = .ok (.iconst 1, 1) := by decide +kernel
theorem dL_boards_151 : decode cL_boards 151 = .ok (.iadd, 1) := by decide +kernel
theorem dL_boards_152 : decode cL_boards 152 = .ok (.istore 10, 2) := by decide +kernel
theorem dL_boards_154 : decode cL_boards 154 = .ok (.iload 10, 2) := by decide +kernel
theorem dL_boards_156 : decode cL_boards 156 = .ok (.aload_n 0, 1) := by decide +kernel
theorem dL_boards_157 : decode cL_boards 157 = .ok (.iconst 1, 1) := by decide +kernel
theorem dL_boards_158 : decode cL_boards 158 = .ok (.invokevirtual 38, 3) := by decide +kernel
theorem dL_boards_161 : decode cL_boards 161 = .ok (.if_icmp .ge 64, 3) := by decide +kernel
theorem dL_boards_164 : decode cL_boards 164 = .ok (.iload 8, 2) := by decide +kernel
theorem dL_boards_166 : decode cL_boards 166 = .ok (.aload_n 0, 1) := by decide +kernel
theorem dL_boards_167 : decode cL_boards 167 = .ok (.iload 10, 2) := by decide +kernel
theorem dL_boards_169 : decode cL_boards 169 = .ok (.iconst 0, 1) := by decide +kernel
theorem dL_boards_170 : decode cL_boards 170 = .ok (.invokevirtual 41, 3) := by decide +kernel
theorem dL_boards_173 : decode cL_boards 173 = .ok (.iload 5, 2) := by decide +kernel
theorem dL_boards_175 : decode cL_boards 175 = .ok (.if_icmp .ne 13, 3) := by decide +kernel
theorem dL_boards_178 : decode cL_boards 178 = .ok (.aload_n 0, 1) := by decide +kernel
theorem dL_boards_179 : decode cL_boards 179 = .ok (.iload 10, 2) := by decide +kernel
theorem dL_boards_181 : decode cL_boards 181 = .ok (.iconst 4, 1) := by decide +kernel
theorem dL_boards_182 : decode cL_boards 182 = .ok (.invokevirtual 41, 3) := by decide +kernel
theorem dL_boards_185 : decode cL_boards 185 = .ok (.goto 4, 3) := by decide +kernel
theorem dL_boards_188 : decode cL_boards 188 = .ok (.iconst 0, 1) := by decide +kernel
theorem dL_boards_189 : decode cL_boards 189 = .ok (.iadd, 1) := by decide +kernel
theorem dL_boards_190 : decode cL_boards 190 = .ok (.istore 8, 2) := by decide +kernel
theorem dL_boards_192 : decode cL_boards 192 = .ok (.iload 9, 2) := by decide +kernel
theorem dL_boards_194 : decode cL_boards 194 = .ok (.aload_n 0, 1) := by decide +kernel
theorem dL_boards_195 : decode cL_boards 195 = .ok (.iload 10, 2) := by decide +kernel
theorem dL_boards_197 : decode cL_boards 197 = .ok (.iconst 0, 1) := by decide +kernel
theorem dL_boards_198 : decode cL_boards 198 = .ok (.invokevirtual 41, 3) := by decide +kernel
theorem dL_boards_201 : decode cL_boards 201 = .ok (.iload 5, 2) := by decide +kernel
theorem dL_boards_203 : decode cL_boards 203 = .ok (.if_icmp .ne 12, 3) := by decide +kernel
theorem dL_boards_206 : decode cL_boards 206 = .ok (.aload_n 0, 1) := by decide +kernel
theorem dL_boards_207 : decode cL_boards 207 = .ok (.iload 10, 2) := by decide +kernel
theorem dL_boards_209 : decode cL_boards 209 = .ok (.invokevirtual 44, 3) := by decide +kernel
theorem dL_boards_212 : decode cL_boards 212 = .ok (.goto 4, 3) := by decide +kernel
theorem dL_boards_215 : decode cL_boards 215 = .ok (.iconst 0, 1) := by decide +kernel
theorem dL_boards_216 : decode cL_boards 216 = .ok (.ior, 1) := by decide +kernel
theorem dL_boards_217 : decode cL_boards 217 = .ok (.istore 9, 2) := by decide +kernel
theorem dL_boards_219 : decode cL_boards 219 = .ok (.iinc 10 1, 3) := by decide +kernel
theorem dL_boards_222 : decode cL_boards 222 = .ok (.goto (-68), 3) := by decide +kernel
theorem dL_boards_225 : decode cL_boards 225 = .ok (.iconst 0, 1) := by decide +kernel
theorem dL_boards_226 : decode cL_boards 226 = .ok (.istore 10, 2) := by decide +kernel
theorem dL_boards_228 : decode cL_boards 228 = .ok (.iload 10, 2) := by decide +kernel
theorem dL_boards_230 : decode cL_boards 230 = .ok (.aload_n 0, 1) := by decide +kernel
theorem dL_boards_231 : decode cL_boards 231 = .ok (.iconst 2, 1) := by decide +kernel
theorem dL_boards_232 : decode cL_boards 232 = .ok (.invokevirtual 38, 3) := by decide +kernel
theorem dL_boards_235 : decode cL_boards 235 = .ok (.if_icmp .ge 45, 3) := by decide +kernel
theorem dL_boards_238 : decode cL_boards 238 = .ok (.iload 8, 2) := by decide +kernel
theorem dL_boards_240 : decode cL_boards 240 = .ok (.aload_n 0, 1) := by decide +kernel
theorem dL_boards_241 : decode cL_boards 241 = .ok (.iload 10, 2) := by decide +kernel
theorem dL_boards_243 : decode cL_boards 243 = .ok (.iconst 0, 1) := by decide +kernel
theorem dL_boards_244 : decode cL_boards 244 = .ok (.invokevirtual 47, 3) := by decide +kernel
theorem dL_boards_247 : decode cL_boards 247 = .ok (.iload 5, 2) := by decide +kernel
theorem dL_boards_249 : decode cL_boards 249 = .ok (.if_icmp .ne 21, 3) := by decide +kernel
theorem dL_boards_252 : decode cL_boards 252 = .ok (.aload_n 0, 1) := by decide +kernel
theorem dL_boards_253 : decode cL_boards 253 = .ok (.iload 10, 2) := by decide +kernel
theorem dL_boards_255 : decode cL_boards 255 = .ok (.iconst 1, 1) := by decide +kernel
theorem dL_boards_256 : decode cL_boards 256 = .ok (.invokevirtual 47, 3) := by decide +kernel
theorem dL_boards_259 : decode cL_boards 259 = .ok (.aload_n 0, 1) := by decide +kernel
theorem dL_boards_260 : decode cL_boards 260 = .ok (.iload 10, 2) := by decide +kernel
theorem dL_boards_262 : decode cL_boards 262 = .ok (.iconst 3, 1) := by decide +kernel
theorem dL_boards_263 : decode cL_boards 263 = .ok (.invokevirtual 47, 3) := by decide +kernel
theorem dL_boards_266 : decode cL_boards 266 = .ok (.imul, 1) := by decide +kernel
theorem dL_boards_267 : decode cL_boards 267 = .ok (.goto 4, 3) := by decide +kernel
theorem dL_boards_270 : decode cL_boards 270 = .ok (.iconst 0, 1) := by decide +kernel
theorem dL_boards_271 : decode cL_boards 271 = .ok (.iadd, 1) := by decide +kernel
theorem dL_boards_272 : decode cL_boards 272 = .ok (.istore 8, 2) := by decide +kernel
theorem dL_boards_274 : decode cL_boards 274 = .ok (.iinc 10 1, 3) := by decide +kernel
theorem dL_boards_277 : decode cL_boards 277 = .ok (.goto (-49), 3) := by decide +kernel
theorem dL_boards_280 : decode cL_boards 280 = .ok (.iload 5, 2) := by decide +kernel
theorem dL_boards_282 : decode cL_boards 282 = .ok (.ifCond .ne 7, 3) := by decide +kernel
theorem dL_boards_285 : decode cL_boards 285 = .ok (.iconst 1, 1) := by decide +kernel
theorem dL_boards_286 : decode cL_boards 286 = .ok (.goto 4, 3) := by decide +kernel
theorem dL_boards_289 : decode cL_boards 289 = .ok (.iconst 0, 1) := by decide +kernel
theorem dL_boards_290 : decode cL_boards 290 = .ok (.iload 6, 2) := by decide +kernel
theorem dL_boards_292 : decode cL_boards 292 = .ok (.bipush (-6), 2) := by decide +kernel
theorem dL_boards_294 : decode cL_boards 294 = .ok (.if_icmp .ne 7, 3) := by decide +kernel
theorem dL_boards_297 : decode cL_boards 297 = .ok (.iconst 1, 1) := by decide +kernel
theorem dL_boards_298 : decode cL_boards 298 = .ok (.goto 4, 3) := by decide +kernel
theorem dL_boards_301 : decode cL_boards 301 = .ok (.iconst 0, 1) := by decide +kernel
theorem dL_boards_302 : decode cL_boards 302 = .ok (.if_icmp .ne 207, 3) := by decide +kernel
theorem dL_boards_305 : decode cL_boards 305 = .ok (.iload 5, 2) := by decide +kernel
theorem dL_boards_307 : decode cL_boards 307 = .ok (.ifCond .le 36, 3) := by decide +kernel
theorem dL_boards_310 : decode cL_boards 310 = .ok (.iload 6, 2) := by decide +kernel
theorem dL_boards_312 : decode cL_boards 312 = .ok (.ifCond .lt 197, 3) := by decide +kernel
theorem dL_boards_315 : decode cL_boards 315 = .ok (.iload 6, 2) := by decide +kernel
theorem dL_boards_317 : decode cL_boards 317 = .ok (.iload 5, 2) := by decide +kernel
theorem dL_boards_319 : decode cL_boards 319 = .ok (.if_icmp .ge 190, 3) := by decide +kernel
theorem dL_boards_322 : decode cL_boards 322 = .ok (.aload_n 0, 1) := by decide +kernel
theorem dL_boards_323 : decode cL_boards 323 = .ok (.iload 5, 2) := by decide +kernel
theorem dL_boards_325 : decode cL_boards 325 = .ok (.bipush 9, 2) := by decide +kernel
theorem dL_boards_327 : decode cL_boards 327 = .ok (.invokevirtual 41, 3) := by decide +kernel
theorem dL_boards_330 : decode cL_boards 330 = .ok (.aload_n 0, 1) := by decide +kernel
theorem dL_boards_331 : decode cL_boards 331 = .ok (.iload 6, 2) := by decide +kernel
theorem dL_boards_333 : decode cL_boards 333 = .ok (.bipush 9, 2) := by decide +kernel
theorem dL_boards_335 : decode cL_boards 335 = .ok (.invokevirtual 41, 3) := by decide +kernel
theorem dL_boards_338 : decode cL_boards 338 = .ok (.iconst 1, 1) := by decide +kernel
theorem dL_boards_339 : decode cL_boards 339 = .ok (.iadd, 1) := by decide +kernel
theorem dL_boards_340 : decode cL_boards 340 = .ok (.if_icmp .ne 169, 3) := by decide +kernel
theorem dL_boards_343 : decode cL_boards 343 = .ok (.aload_n 0, 1) := by decide +kernel
theorem dL_boards_344 : decode cL_boards 344 = .ok (.iload 5, 2) := by decide +kernel
theorem dL_boards_346 : decode cL_boards 346 = .ok (.bipush 8, 2) := by decide +kernel
theorem dL_boards_348 : decode cL_boards 348 = .ok (.invokevirtual 41, 3) := by decide +kernel
theorem dL_boards_351 : decode cL_boards 351 = .ok (.iload 7, 2) := by decide +kernel
theorem dL_boards_353 : decode cL_boards 353 = .ok (.ifCond .eq 7, 3) := by decide +kernel
theorem dL_boards_356 : decode cL_boards 356 = .ok (.iconst 1, 1) := by decide +kernel
theorem dL_boards_357 : decode cL_boards 357 = .ok (.goto 4, 3) := by decide +kernel
theorem dL_boards_360 : decode cL_boards 360 = .ok (.iconst 0, 1) := by decide +kernel
theorem dL_boards_361 : decode cL_boards 361 = .ok (.if_icmp .ne 148, 3) := by decide +kernel
theorem dL_boards_364 : decode cL_boards 364 = .ok (.aload_n 0, 1) := by decide +kernel
theorem dL_boards_365 : decode cL_boards 365 = .ok (.iload 5, 2) := by decide +kernel
theorem dL_boards_367 : decode cL_boards 367 = .ok (.iconst 4, 1) := by decide +kernel
theorem dL_boards_368 : decode cL_boards 368 = .ok (.invokevirtual 41, 3) := by decide +kernel
theorem dL_boards_371 : decode cL_boards 371 = .ok (.iload 8, 2) := by decide +kernel
theorem dL_boards_373 : decode cL_boards 373 = .ok (.if_icmp .ne 136, 3) := by decide +kernel
theorem dL_boards_376 : decode cL_boards 376 = .ok (.iload 7, 2) := by decide +kernel
theorem dL_boards_378 : decode cL_boards 378 = .ok (.ifCond .eq 8, 3) := by decide +kernel
theorem dL_boards_381 : decode cL_boards 381 = .ok (.iload 8, 2) := by decide +kernel
theorem dL_boards_383 : decode cL_boards 383 = .ok (.ifCond .ne 126, 3) := by decide +kernel
theorem dL_boards_386 : decode cL_boards 386 = .ok (.aload_n 0, 1) := by decide +kernel
theorem dL_boards_387 : decode cL_boards 387 = .ok (.iload 5, 2) := by decide +kernel
theorem dL_boards_389 : decode cL_boards 389 = .ok (.invokevirtual 44, 3) := by decide +kernel
theorem dL_boards_392 : decode cL_boards 392 = .ok (.iload 9, 2) := by decide +kernel
theorem dL_boards_394 : decode cL_boards 394 = .ok (.if_icmp .ne 115, 3) := by decide +kernel
theorem dL_boards_397 : decode cL_boards 397 = .ok (.aload_n 0, 1) := by decide +kernel
theorem dL_boards_398 : decode cL_boards 398 = .ok (.iload 5, 2) := by decide +kernel
theorem dL_boards_400 : decode cL_boards 400 = .ok (.iconst 5, 1) := by decide +kernel
theorem dL_boards_401 : decode cL_boards 401 = .ok (.invokevirtual 41, 3) := by decide +kernel
theorem dL_boards_404 : decode cL_boards 404 = .ok (.ifCond .lt 105, 3) := by decide +kernel
theorem dL_boards_407 : decode cL_boards 407 = .ok (.aload_n 0, 1) := by decide +kernel
theorem dL_boards_408 : decode cL_boards 408 = .ok (.iload 5, 2) := by decide +kernel
theorem dL_boards_410 : decode cL_boards 410 = .ok (.iconst 5, 1) := by decide +kernel
theorem dL_boards_411 : decode cL_boards 411 = .ok (.invokevirtual 41, 3) := by decide +kernel
theorem dL_boards_414 : decode cL_boards 414 = .ok (.ldc 50, 2) := by decide +kernel
theorem dL_boards_416 : decode cL_boards 416 = .ok (.if_icmp .gt 93, 3) := by decide +kernel
theorem dL_boards_419 : decode cL_boards 419 = .ok (.aload_n 0, 1) := by decide +kernel
theorem dL_boards_420 : decode cL_boards 420 = .ok (.iload 5, 2) := by decide +kernel
theorem dL_boards_422 : decode cL_boards 422 = .ok (.bipush 6, 2) := by decide +kernel
theorem dL_boards_424 : decode cL_boards 424 = .ok (.invokevirtual 41, 3) := by decide +kernel
theorem dL_boards_427 : decode cL_boards 427 = .ok (.iconst 1, 1) := by decide +kernel
theorem dL_boards_428 : decode cL_boards 428 = .ok (.if_icmp .lt 81, 3) := by decide +kernel
theorem dL_boards_431 : decode cL_boards 431 = .ok (.aload_n 0, 1) := by decide +kernel
theorem dL_boards_432 : decode cL_boards 432 = .ok (.iload 5, 2) := by decide +kernel
theorem dL_boards_434 : decode cL_boards 434 = .ok (.iconst 3, 1) := by decide +kernel
theorem dL_boards_435 : decode cL_boards 435 = .ok (.invokevirtual 41, 3) := by decide +kernel
theorem dL_boards_438 : decode cL_boards 438 = .ok (.iconst 1, 1) := by decide +kernel
theorem dL_boards_439 : decode cL_boards 439 = .ok (.if_icmp .ne 7, 3) := by decide +kernel
theorem dL_boards_442 : decode cL_boards 442 = .ok (.iconst 1, 1) := by decide +kernel
theorem dL_boards_443 : decode cL_boards 443 = .ok (.goto 4, 3) := by decide +kernel
theorem dL_boards_446 : decode cL_boards 446 = .ok (.iconst 0, 1) := by decide +kernel
theorem dL_boards_447 : decode cL_boards 447 = .ok (.aload_n 0, 1) := by decide +kernel
theorem dL_boards_448 : decode cL_boards 448 = .ok (.iload 5, 2) := by decide +kernel
theorem dL_boards_450 : decode cL_boards 450 = .ok (.bipush 10, 2) := by decide +kernel
theorem dL_boards_452 : decode cL_boards 452 = .ok (.invokevirtual 41, 3) := by decide +kernel
theorem dL_boards_455 : decode cL_boards 455 = .ok (.ifCond .le 7, 3) := by decide +kernel
theorem dL_boards_458 : decode cL_boards 458 = .ok (.iconst 1, 1) := by decide +kernel
theorem dL_boards_459 : decode cL_boards 459 = .ok (.goto 4, 3) := by decide +kernel
theorem dL_boards_462 : decode cL_boards 462 = .ok (.iconst 0, 1) := by decide +kernel
theorem dL_boards_463 : decode cL_boards 463 = .ok (.if_icmp .ne 46, 3) := by decide +kernel
theorem dL_boards_466 : decode cL_boards 466 = .ok (.aload_n 0, 1) := by decide +kernel
theorem dL_boards_467 : decode cL_boards 467 = .ok (.iload 5, 2) := by decide +kernel
theorem dL_boards_469 : decode cL_boards 469 = .ok (.iconst 3, 1) := by decide +kernel
theorem dL_boards_470 : decode cL_boards 470 = .ok (.invokevirtual 41, 3) := by decide +kernel
theorem dL_boards_473 : decode cL_boards 473 = .ok (.ifCond .eq 14, 3) := by decide +kernel
theorem dL_boards_476 : decode cL_boards 476 = .ok (.aload_n 0, 1) := by decide +kernel
theorem dL_boards_477 : decode cL_boards 477 = .ok (.iload 5, 2) := by decide +kernel
theorem dL_boards_479 : decode cL_boards 479 = .ok (.bipush 11, 2) := by decide +kernel
theorem dL_boards_481 : decode cL_boards 481 = .ok (.invokevirtual 41, 3) := by decide +kernel
theorem dL_boards_484 : decode cL_boards 484 = .ok (.ifCond .eq 25, 3) := by decide +kernel
theorem dL_boards_487 : decode cL_boards 487 = .ok (.aload_n 0, 1) := by decide +kernel
theorem dL_boards_488 : decode cL_boards 488 = .ok (.iload 5, 2) := by decide +kernel
theorem dL_boards_490 : decode cL_boards 490 = .ok (.iconst 2, 1) := by decide +kernel
theorem dL_boards_491 : decode cL_boards 491 = .ok (.invokevirtual 41, 3) := by decide +kernel
theorem dL_boards_494 : decode cL_boards 494 = .ok (.iconst 2, 1) := by decide +kernel
theorem dL_boards_495 : decode cL_boards 495 = .ok (.if_icmp .eq 16, 3) := by decide +kernel
theorem dL_boards_498 : decode cL_boards 498 = .ok (.aload_n 0, 1) := by decide +kernel
theorem dL_boards_499 : decode cL_boards 499 = .ok (.iload 5, 2) := by decide +kernel
theorem dL_boards_501 : decode cL_boards 501 = .ok (.bipush 7, 2) := by decide +kernel
theorem dL_boards_503 : decode cL_boards 503 = .ok (.invokevirtual 41, 3) := by decide +kernel
theorem dL_boards_506 : decode cL_boards 506 = .ok (.ifCond .eq 5, 3) := by decide +kernel
theorem dL_boards_509 : decode cL_boards 509 = .ok (.iconst 0, 1) := by decide +kernel
theorem dL_boards_510 : decode cL_boards 510 = .ok (.ireturn, 1) := by decide +kernel
theorem dL_boards_511 : decode cL_boards 511 = .ok (.iinc 5 1, 3) := by decide +kernel
theorem dL_boards_514 : decode cL_boards 514 = .ok (.goto (-502), 3) := by decide +kernel
theorem dL_boards_517 : decode cL_boards 517 = .ok (.aload_n 0, 1) := by decide +kernel
theorem dL_boards_518 : decode cL_boards 518 = .ok (.iconst 3, 1) := by decide +kernel
theorem dL_boards_519 : decode cL_boards 519 = .ok (.invokevirtual 38, 3) := by decide +kernel
theorem dL_boards_522 : decode cL_boards 522 = .ok (.iload_n 1, 1) := by decide +kernel
theorem dL_boards_523 : decode cL_boards 523 = .ok (.if_icmp .ne 64, 3) := by decide +kernel
theorem dL_boards_526 : decode cL_boards 526 = .ok (.aload_n 0, 1) := by decide +kernel
theorem dL_boards_527 : decode cL_boards 527 = .ok (.iconst 5, 1) := by decide +kernel
theorem dL_boards_528 : decode cL_boards 528 = .ok (.invokevirtual 38, 3) := by decide +kernel
theorem dL_boards_531 : decode cL_boards 531 = .ok (.iload_n 2, 1) := by decide +kernel
theorem dL_boards_532 : decode cL_boards 532 = .ok (.if_icmp .ne 55, 3) := by decide +kernel
theorem dL_boards_535 : decode cL_boards 535 = .ok (.aload_n 0, 1) := by decide +kernel
theorem dL_boards_536 : decode cL_boards 536 = .ok (.bipush 6, 2) := by decide +kernel
theorem dL_boards_538 : decode cL_boards 538 = .ok (.invokevirtual 38, 3) := by decide +kernel
theorem dL_boards_541 : decode cL_boards 541 = .ok (.iload_n 3, 1) := by decide +kernel
theorem dL_boards_542 : decode cL_boards 542 = .ok (.if_icmp .ne 45, 3) := by decide +kernel
theorem dL_boards_545 : decode cL_boards 545 = .ok (.aload_n 0, 1) := by decide +kernel
theorem dL_boards_546 : decode cL_boards 546 = .ok (.bipush 7, 2) := by decide +kernel
theorem dL_boards_548 : decode cL_boards 548 = .ok (.invokevirtual 38, 3) := by decide +kernel
theorem dL_boards_551 : decode cL_boards 551 = .ok (.iload 4, 2) := by decide +kernel
theorem dL_boards_553 : decode cL_boards 553 = .ok (.if_icmp .ne 34, 3) := by decide +kernel
theorem dL_boards_556 : decode cL_boards 556 = .ok (.aload_n 0, 1) := by decide +kernel
theorem dL_boards_557 : decode cL_boards 557 = .ok (.bipush 8, 2) := by decide +kernel
theorem dL_boards_559 : decode cL_boards 559 = .ok (.invokevirtual 38, 3) := by decide +kernel
theorem dL_boards_562 : decode cL_boards 562 = .ok (.aload_n 0, 1) := by decide +kernel
theorem dL_boards_563 : decode cL_boards 563 = .ok (.iconst 1, 1) := by decide +kernel
theorem dL_boards_564 : decode cL_boards 564 = .ok (.invokevirtual 38, 3) := by decide +kernel
theorem dL_boards_567 : decode cL_boards 567 = .ok (.ifCond .ne 7, 3) := by decide +kernel
theorem dL_boards_570 : decode cL_boards 570 = .ok (.iconst 0, 1) := by decide +kernel
theorem dL_boards_571 : decode cL_boards 571 = .ok (.goto 9, 3) := by decide +kernel
theorem dL_boards_574 : decode cL_boards 574 = .ok (.aload_n 0, 1) := by decide +kernel
theorem dL_boards_575 : decode cL_boards 575 = .ok (.iconst 0, 1) := by decide +kernel
theorem dL_boards_576 : decode cL_boards 576 = .ok (.iconst 4, 1) := by decide +kernel
theorem dL_boards_577 : decode cL_boards 577 = .ok (.invokevirtual 41, 3) := by decide +kernel
theorem dL_boards_580 : decode cL_boards 580 = .ok (.if_icmp .ne 7, 3) := by decide +kernel
theorem dL_boards_583 : decode cL_boards 583 = .ok (.iconst 1, 1) := by decide +kernel
theorem dL_boards_584 : decode cL_boards 584 = .ok (.goto 4, 3) := by decide +kernel
theorem dL_boards_587 : decode cL_boards 587 = .ok (.iconst 0, 1) := by decide +kernel
theorem dL_boards_588 : decode cL_boards 588 = .ok (.ireturn, 1) := by decide +kernel
theorem dL_hangs_0 : decode cL_hangs 0 = .ok (.iconst 0, 1) := by decide +kernel
theorem dL_hangs_1 : decode cL_hangs 1 = .ok (.istore_n 1, 1) := by decide +kernel
theorem dL_hangs_2 : decode cL_hangs 2 = .ok (.iconst 0, 1) := by decide +kernel
theorem dL_hangs_3 : decode cL_hangs 3 = .ok (.istore_n 2, 1) := by decide +kernel
theorem dL_hangs_4 : decode cL_hangs 4 = .ok (.iload_n 2, 1) := by decide +kernel
theorem dL_hangs_5 : decode cL_hangs 5 = .ok (.aload_n 0, 1) := by decide +kernel
theorem dL_hangs_6 : decode cL_hangs 6 = .ok (.iconst 2, 1) := by decide +kernel
theorem dL_hangs_7 : decode cL_hangs 7 = .ok (.invokevirtual 38, 3) := by decide +kernel
theorem dL_hangs_10 : decode cL_hangs 10 = .ok (.if_icmp .ge 58, 3) := by decide +kernel
theorem dL_hangs_13 : decode cL_hangs 13 = .ok (.aload_n 0, 1) := by decide +kernel
theorem dL_hangs_14 : decode cL_hangs 14 = .ok (.iload_n 2, 1) := by decide +kernel
theorem dL_hangs_15 : decode cL_hangs 15 = .ok (.iconst 2, 1) := by decide +kernel
theorem dL_hangs_16 : decode cL_hangs 16 = .ok (.invokevirtual 47, 3) := by decide +kernel
theorem dL_hangs_19 : decode cL_hangs 19 = .ok (.iconst 1, 1) := by decide +kernel
theorem dL_hangs_20 : decode cL_hangs 20 = .ok (.if_icmp .ne 22, 3) := by decide +kernel
theorem dL_hangs_23 : decode cL_hangs 23 = .ok (.aload_n 0, 1) := by decide +kernel
theorem dL_hangs_24 : decode cL_hangs 24 = .ok (.aload_n 0, 1) := by decide +kernel
theorem dL_hangs_25 : decode cL_hangs 25 = .ok (.iload_n 2, 1) := by decide +kernel
theorem dL_hangs_26 : decode cL_hangs 26 = .ok (.iconst 0, 1) := by decide +kernel
theorem dL_hangs_27 : decode cL_hangs 27 = .ok (.invokevirtual 47, 3) := by decide +kernel
theorem dL_hangs_30 : decode cL_hangs 30 = .ok (.bipush 8, 2) := by decide +kernel
theorem dL_hangs_32 : decode cL_hangs 32 = .ok (.invokevirtual 41, 3) := by decide +kernel
theorem dL_hangs_35 : decode cL_hangs 35 = .ok (.ifCond .ne 7, 3) := by decide +kernel
theorem dL_hangs_38 : decode cL_hangs 38 = .ok (.iconst 1, 1) := by decide +kernel
theorem dL_hangs_39 : decode cL_hangs 39 = .ok (.goto 4, 3) := by decide +kernel
theorem dL_hangs_42 : decode cL_hangs 42 = .ok (.iconst 0, 1) := by decide +kernel
theorem dL_hangs_43 : decode cL_hangs 43 = .ok (.istore_n 3, 1) := by decide +kernel
theorem dL_hangs_44 : decode cL_hangs 44 = .ok (.iload_n 1, 1) := by decide +kernel
theorem dL_hangs_45 : decode cL_hangs 45 = .ok (.iload_n 3, 1) := by decide +kernel
theorem dL_hangs_46 : decode cL_hangs 46 = .ok (.iload_n 2, 1) := by decide +kernel
theorem dL_hangs_47 : decode cL_hangs 47 = .ok (.ishl, 1) := by decide +kernel
theorem dL_hangs_48 : decode cL_hangs 48 = .ok (.ior, 1) := by decide +kernel
theorem dL_hangs_49 : decode cL_hangs 49 = .ok (.istore_n 1, 1) := by decide +kernel
theorem dL_hangs_50 : decode cL_hangs 50 = .ok (.aload_n 0, 1) := by decide +kernel
theorem dL_hangs_51 : decode cL_hangs 51 = .ok (.iload_n 2, 1) := by decide +kernel
theorem dL_hangs_52 : decode cL_hangs 52 = .ok (.iconst 3, 1) := by decide +kernel
theorem dL_hangs_53 : decode cL_hangs 53 = .ok (.invokevirtual 47, 3) := by decide +kernel
theorem dL_hangs_56 : decode cL_hangs 56 = .ok (.iload_n 3, 1) := by decide +kernel
theorem dL_hangs_57 : decode cL_hangs 57 = .ok (.if_icmp .eq 5, 3) := by decide +kernel
theorem dL_hangs_60 : decode cL_hangs 60 = .ok (.iconst 0, 1) := by decide +kernel
theorem dL_hangs_61 : decode cL_hangs 61 = .ok (.ireturn, 1) := by decide +kernel
theorem dL_hangs_62 : decode cL_hangs 62 = .ok (.iinc 2 1, 3) := by decide +kernel
theorem dL_hangs_65 : decode cL_hangs 65 = .ok (.goto (-61), 3) := by decide +kernel
theorem dL_hangs_68 : decode cL_hangs 68 = .ok (.iconst 0, 1) := by decide +kernel
theorem dL_hangs_69 : decode cL_hangs 69 = .ok (.istore_n 2, 1) := by decide +kernel
theorem dL_hangs_70 : decode cL_hangs 70 = .ok (.iload_n 2, 1) := by decide +kernel
theorem dL_hangs_71 : decode cL_hangs 71 = .ok (.aload_n 0, 1) := by decide +kernel
theorem dL_hangs_72 : decode cL_hangs 72 = .ok (.iconst 1, 1) := by decide +kernel
theorem dL_hangs_73 : decode cL_hangs 73 = .ok (.invokevirtual 38, 3) := by decide +kernel
theorem dL_hangs_76 : decode cL_hangs 76 = .ok (.if_icmp .ge 49, 3) := by decide +kernel
theorem dL_hangs_79 : decode cL_hangs 79 = .ok (.aload_n 0, 1) := by decide +kernel
theorem dL_hangs_80 : decode cL_hangs 80 = .ok (.iload_n 2, 1) := by decide +kernel
theorem dL_hangs_81 : decode cL_hangs 81 = .ok (.invokevirtual 51, 3) := by decide +kernel
theorem dL_hangs_84 : decode cL_hangs 84 = .ok (.istore_n 3, 1) := by decide +kernel
theorem dL_hangs_85 : decode cL_hangs 85 = .ok (.iload_n 3, 1) := by decide +kernel
theorem dL_hangs_86 : decode cL_hangs 86 = .ok (.iload_n 1, 1) := by decide +kernel
theorem dL_hangs_87 : decode cL_hangs 87 = .ok (.iconst (-1), 1) := by decide +kernel
theorem dL_hangs_88 : decode cL_hangs 88 = .ok (.ixor, 1) := by decide +kernel
theorem dL_hangs_89 : decode cL_hangs 89 = .ok (.iand, 1) := by decide +kernel
theorem dL_hangs_90 : decode cL_hangs 90 = .ok (.ifCond .ne 27, 3) := by decide +kernel
theorem dL_hangs_93 : decode cL_hangs 93 = .ok (.aload_n 0, 1) := by decide +kernel
theorem dL_hangs_94 : decode cL_hangs 94 = .ok (.iload_n 2, 1) := by decide +kernel
theorem dL_hangs_95 : decode cL_hangs 95 = .ok (.bipush 8, 2) := by decide +kernel
theorem dL_hangs_97 : decode cL_hangs 97 = .ok (.invokevirtual 41, 3) := by decide +kernel
theorem dL_hangs_100 : decode cL_hangs 100 = .ok (.iconst 1, 1) := by decide +kernel
theorem dL_hangs_101 : decode cL_hangs 101 = .ok (.if_icmp .ne 7, 3) := by decide +kernel
theorem dL_hangs_104 : decode cL_hangs 104 = .ok (.iload_n 3, 1) := by decide +kernel
theorem dL_hangs_105 : decode cL_hangs 105 = .ok (.ifCond .ne 12, 3) := by decide +kernel
theorem dL_hangs_108 : decode cL_hangs 108 = .ok (.iload_n 2, 1) := by decide +kernel
theorem dL_hangs_109 : decode cL_hangs 109 = .ok (.ifCond .ne 10, 3) := by decide +kernel
theorem dL_hangs_112 : decode cL_hangs 112 = .ok (.iload_n 3, 1) := by decide +kernel
theorem dL_hangs_113 : decode cL_hangs 113 = .ok (.iload_n 1, 1) := by decide +kernel
theorem dL_hangs_114 : decode cL_hangs 114 = .ok (.if_icmp .eq 5, 3) := by decide +kernel
theorem dL_hangs_117 : decode cL_hangs 117 = .ok (.iconst 0, 1) := by decide +kernel
theorem dL_hangs_118 : decode cL_hangs 118 = .ok (.ireturn, 1) := by decide +kernel
theorem dL_hangs_119 : decode cL_hangs 119 = .ok (.iinc 2 1, 3) := by decide +kernel
theorem dL_hangs_122 : decode cL_hangs 122 = .ok (.goto (-52), 3) := by decide +kernel
theorem dL_hangs_125 : decode cL_hangs 125 = .ok (.aload_n 0, 1) := by decide +kernel
theorem dL_hangs_126 : decode cL_hangs 126 = .ok (.bipush 7, 2) := by decide +kernel
theorem dL_hangs_128 : decode cL_hangs 128 = .ok (.invokevirtual 38, 3) := by decide +kernel
theorem dL_hangs_131 : decode cL_hangs 131 = .ok (.bipush 8, 2) := by decide +kernel
theorem dL_hangs_133 : decode cL_hangs 133 = .ok (.if_icmp .ge 12, 3) := by decide +kernel
theorem dL_hangs_136 : decode cL_hangs 136 = .ok (.aload_n 0, 1) := by decide +kernel
theorem dL_hangs_137 : decode cL_hangs 137 = .ok (.bipush 7, 2) := by decide +kernel
theorem dL_hangs_139 : decode cL_hangs 139 = .ok (.invokevirtual 38, 3) := by decide +kernel
theorem dL_hangs_142 : decode cL_hangs 142 = .ok (.goto 5, 3) := by decide +kernel
theorem dL_hangs_145 : decode cL_hangs 145 = .ok (.bipush 8, 2) := by decide +kernel
theorem dL_hangs_147 : decode cL_hangs 147 = .ok (.istore_n 2, 1) := by decide +kernel
theorem dL_hangs_148 : decode cL_hangs 148 = .ok (.iconst 0, 1) := by decide +kernel
theorem dL_hangs_149 : decode cL_hangs 149 = .ok (.istore_n 3, 1) := by decide +kernel
theorem dL_hangs_150 : decode cL_hangs 150 = .ok (.iload_n 3, 1) := by decide +kernel
theorem dL_hangs_151 : decode cL_hangs 151 = .ok (.bipush 8, 2) := by decide +kernel
theorem dL_hangs_153 : decode cL_hangs 153 = .ok (.if_icmp .ge 58, 3) := by decide +kernel
theorem dL_hangs_156 : decode cL_hangs 156 = .ok (.aload_n 0, 1) := by decide +kernel
theorem dL_hangs_157 : decode cL_hangs 157 = .ok (.iload_n 3, 1) := by decide +kernel
theorem dL_hangs_158 : decode cL_hangs 158 = .ok (.invokevirtual 54, 3) := by decide +kernel
theorem dL_hangs_161 : decode cL_hangs 161 = .ok (.istore 4, 2) := by decide +kernel
theorem dL_hangs_163 : decode cL_hangs 163 = .ok (.iload_n 3, 1) := by decide +kernel
theorem dL_hangs_164 : decode cL_hangs 164 = .ok (.iload_n 2, 1) := by decide +kernel
theorem dL_hangs_165 : decode cL_hangs 165 = .ok (.if_icmp .ge 32, 3) := by decide +kernel
theorem dL_hangs_168 : decode cL_hangs 168 = .ok (.iload 4, 2) := by decide +kernel
theorem dL_hangs_170 : decode cL_hangs 170 = .ok (.ifCond .lt 33, 3) := by decide +kernel
theorem dL_hangs_173 : decode cL_hangs 173 = .ok (.iload 4, 2) := by decide +kernel
theorem dL_hangs_175 : decode cL_hangs 175 = .ok (.aload_n 0, 1) := by decide +kernel
theorem dL_hangs_176 : decode cL_hangs 176 = .ok (.iconst 1, 1) := by decide +kernel
theorem dL_hangs_177 : decode cL_hangs 177 = .ok (.invokevirtual 38, 3) := by decide +kernel
theorem dL_hangs_180 : decode cL_hangs 180 = .ok (.if_icmp .ge 23, 3) := by decide +kernel
theorem dL_hangs_183 : decode cL_hangs 183 = .ok (.aload_n 0, 1) := by decide +kernel
theorem dL_hangs_184 : decode cL_hangs 184 = .ok (.iload 4, 2) := by decide +kernel
theorem dL_hangs_186 : decode cL_hangs 186 = .ok (.bipush 11, 2) := by decide +kernel
theorem dL_hangs_188 : decode cL_hangs 188 = .ok (.invokevirtual 41, 3) := by decide +kernel
theorem dL_hangs_191 : decode cL_hangs 191 = .ok (.ifCond .ne 14, 3) := by decide +kernel
theorem dL_hangs_194 : decode cL_hangs 194 = .ok (.goto 9, 3) := by decide +kernel
theorem dL_hangs_197 : decode cL_hangs 197 = .ok (.iload 4, 2) := by decide +kernel
theorem dL_hangs_199 : decode cL_hangs 199 = .ok (.iconst (-1), 1) := by decide +kernel
theorem dL_hangs_200 : decode cL_hangs 200 = .ok (.if_icmp .eq 5, 3) := by decide +kernel
theorem dL_hangs_203 : decode cL_hangs 203 = .ok (.iconst 0, 1) := by decide +kernel
theorem dL_hangs_204 : decode cL_hangs 204 = .ok (.ireturn, 1) := by decide +kernel
theorem dL_hangs_205 : decode cL_hangs 205 = .ok (.iinc 3 1, 3) := by decide +kernel
theorem dL_hangs_208 : decode cL_hangs 208 = .ok (.goto (-58), 3) := by decide +kernel
theorem dL_hangs_211 : decode cL_hangs 211 = .ok (.aload_n 0, 1) := by decide +kernel
theorem dL_hangs_212 : decode cL_hangs 212 = .ok (.iconst 4, 1) := by decide +kernel
theorem dL_hangs_213 : decode cL_hangs 213 = .ok (.invokevirtual 38, 3) := by decide +kernel
theorem dL_hangs_216 : decode cL_hangs 216 = .ok (.iload_n 1, 1) := by decide +kernel
theorem dL_hangs_217 : decode cL_hangs 217 = .ok (.if_icmp .ne 14, 3) := by decide +kernel
theorem dL_hangs_220 : decode cL_hangs 220 = .ok (.aload_n 0, 1) := by decide +kernel
theorem dL_hangs_221 : decode cL_hangs 221 = .ok (.invokestatic 57, 3) := by decide +kernel
theorem dL_hangs_224 : decode cL_hangs 224 = .ok (.ifCond .eq 7, 3) := by decide +kernel
theorem dL_hangs_227 : decode cL_hangs 227 = .ok (.iconst 1, 1) := by decide +kernel
theorem dL_hangs_228 : decode cL_hangs 228 = .ok (.goto 4, 3) := by decide +kernel
theorem dL_hangs_231 : decode cL_hangs 231 = .ok (.iconst 0, 1) := by decide +kernel
theorem dL_hangs_232 : decode cL_hangs 232 = .ok (.ireturn, 1) := by decide +kernel
theorem dL_print_0 : decode cL_print 0 = .ok (.ldc2_w 61, 3) := by decide +kernel
theorem dL_print_3 : decode cL_print 3 = .ok (.lstore_n 1, 1) := by decide +kernel
theorem dL_print_4 : decode cL_print 4 = .ok (.iconst 0, 1) := by decide +kernel
theorem dL_print_5 : decode cL_print 5 = .ok (.istore_n 3, 1) := by decide +kernel
theorem dL_print_6 : decode cL_print 6 = .ok (.iload_n 3, 1) := by decide +kernel
theorem dL_print_7 : decode cL_print 7 = .ok (.bipush 12, 2) := by decide +kernel
theorem dL_print_9 : decode cL_print 9 = .ok (.if_icmp .ge 22, 3) := by decide +kernel
theorem dL_print_12 : decode cL_print 12 = .ok (.ldc2_w 63, 3) := by decide +kernel
theorem dL_print_15 : decode cL_print 15 = .ok (.lload_n 1, 1) := by decide +kernel
theorem dL_print_16 : decode cL_print 16 = .ok (.lmul, 1) := by decide +kernel
theorem dL_print_17 : decode cL_print 17 = .ok (.aload_n 0, 1) := by decide +kernel
theorem dL_print_18 : decode cL_print 18 = .ok (.iload_n 3, 1) := by decide +kernel
theorem dL_print_19 : decode cL_print 19 = .ok (.invokevirtual 38, 3) := by decide +kernel
theorem dL_print_22 : decode cL_print 22 = .ok (.i2l, 1) := by decide +kernel
theorem dL_print_23 : decode cL_print 23 = .ok (.ladd, 1) := by decide +kernel
theorem dL_print_24 : decode cL_print 24 = .ok (.lstore_n 1, 1) := by decide +kernel
theorem dL_print_25 : decode cL_print 25 = .ok (.iinc 3 1, 3) := by decide +kernel
theorem dL_print_28 : decode cL_print 28 = .ok (.goto (-22), 3) := by decide +kernel
theorem dL_print_31 : decode cL_print 31 = .ok (.iconst 0, 1) := by decide +kernel
theorem dL_print_32 : decode cL_print 32 = .ok (.istore_n 3, 1) := by decide +kernel
theorem dL_print_33 : decode cL_print 33 = .ok (.iload_n 3, 1) := by decide +kernel
theorem dL_print_34 : decode cL_print 34 = .ok (.bipush 12, 2) := by decide +kernel
theorem dL_print_36 : decode cL_print 36 = .ok (.aload_n 0, 1) := by decide +kernel
theorem dL_print_37 : decode cL_print 37 = .ok (.iconst 1, 1) := by decide +kernel
theorem dL_print_38 : decode cL_print 38 = .ok (.invokevirtual 38, 3) := by decide +kernel
theorem dL_print_41 : decode cL_print 41 = .ok (.imul, 1) := by decide +kernel
theorem dL_print_42 : decode cL_print 42 = .ok (.if_icmp .ge 29, 3) := by decide +kernel
theorem dL_print_45 : decode cL_print 45 = .ok (.ldc2_w 63, 3) := by decide +kernel
theorem dL_print_48 : decode cL_print 48 = .ok (.lload_n 1, 1) := by decide +kernel
theorem dL_print_49 : decode cL_print 49 = .ok (.lmul, 1) := by decide +kernel
theorem dL_print_50 : decode cL_print 50 = .ok (.aload_n 0, 1) := by decide +kernel
theorem dL_print_51 : decode cL_print 51 = .ok (.iload_n 3, 1) := by decide +kernel
theorem dL_print_52 : decode cL_print 52 = .ok (.bipush 12, 2) := by decide +kernel
theorem dL_print_54 : decode cL_print 54 = .ok (.idiv, 1) := by decide +kernel
theorem dL_print_55 : decode cL_print 55 = .ok (.iload_n 3, 1) := by decide +kernel
theorem dL_print_56 : decode cL_print 56 = .ok (.bipush 12, 2) := by decide +kernel
theorem dL_print_58 : decode cL_print 58 = .ok (.irem, 1) := by decide +kernel
theorem dL_print_59 : decode cL_print 59 = .ok (.invokevirtual 41, 3) := by decide +kernel
theorem dL_print_62 : decode cL_print 62 = .ok (.i2l, 1) := by decide +kernel
theorem dL_print_63 : decode cL_print 63 = .ok (.ladd, 1) := by decide +kernel
theorem dL_print_64 : decode cL_print 64 = .ok (.lstore_n 1, 1) := by decide +kernel
theorem dL_print_65 : decode cL_print 65 = .ok (.iinc 3 1, 3) := by decide +kernel
theorem dL_print_68 : decode cL_print 68 = .ok (.goto (-35), 3) := by decide +kernel
theorem dL_print_71 : decode cL_print 71 = .ok (.iconst 0, 1) := by decide +kernel
theorem dL_print_72 : decode cL_print 72 = .ok (.istore_n 3, 1) := by decide +kernel
theorem dL_print_73 : decode cL_print 73 = .ok (.iload_n 3, 1) := by decide +kernel
theorem dL_print_74 : decode cL_print 74 = .ok (.iconst 3, 1) := by decide +kernel
theorem dL_print_75 : decode cL_print 75 = .ok (.aload_n 0, 1) := by decide +kernel
theorem dL_print_76 : decode cL_print 76 = .ok (.iconst 2, 1) := by decide +kernel
theorem dL_print_77 : decode cL_print 77 = .ok (.invokevirtual 38, 3) := by decide +kernel
theorem dL_print_80 : decode cL_print 80 = .ok (.imul, 1) := by decide +kernel
theorem dL_print_81 : decode cL_print 81 = .ok (.if_icmp .ge 27, 3) := by decide +kernel
theorem dL_print_84 : decode cL_print 84 = .ok (.ldc2_w 63, 3) := by decide +kernel
theorem dL_print_87 : decode cL_print 87 = .ok (.lload_n 1, 1) := by decide +kernel
theorem dL_print_88 : decode cL_print 88 = .ok (.lmul, 1) := by decide +kernel
theorem dL_print_89 : decode cL_print 89 = .ok (.aload_n 0, 1) := by decide +kernel
theorem dL_print_90 : decode cL_print 90 = .ok (.iload_n 3, 1) := by decide +kernel
theorem dL_print_91 : decode cL_print 91 = .ok (.iconst 3, 1) := by decide +kernel
theorem dL_print_92 : decode cL_print 92 = .ok (.idiv, 1) := by decide +kernel
theorem dL_print_93 : decode cL_print 93 = .ok (.iload_n 3, 1) := by decide +kernel
theorem dL_print_94 : decode cL_print 94 = .ok (.iconst 3, 1) := by decide +kernel
theorem dL_print_95 : decode cL_print 95 = .ok (.irem, 1) := by decide +kernel
theorem dL_print_96 : decode cL_print 96 = .ok (.invokevirtual 47, 3) := by decide +kernel
theorem dL_print_99 : decode cL_print 99 = .ok (.i2l, 1) := by decide +kernel
theorem dL_print_100 : decode cL_print 100 = .ok (.ladd, 1) := by decide +kernel
theorem dL_print_101 : decode cL_print 101 = .ok (.lstore_n 1, 1) := by decide +kernel
theorem dL_print_102 : decode cL_print 102 = .ok (.iinc 3 1, 3) := by decide +kernel
theorem dL_print_105 : decode cL_print 105 = .ok (.goto (-32), 3) := by decide +kernel
theorem dL_print_108 : decode cL_print 108 = .ok (.iconst 0, 1) := by decide +kernel
theorem dL_print_109 : decode cL_print 109 = .ok (.istore_n 3, 1) := by decide +kernel
theorem dL_print_110 : decode cL_print 110 = .ok (.iload_n 3, 1) := by decide +kernel
theorem dL_print_111 : decode cL_print 111 = .ok (.bipush 8, 2) := by decide +kernel
theorem dL_print_113 : decode cL_print 113 = .ok (.if_icmp .ge 22, 3) := by decide +kernel
theorem dL_print_116 : decode cL_print 116 = .ok (.ldc2_w 63, 3) := by decide +kernel
theorem dL_print_119 : decode cL_print 119 = .ok (.lload_n 1, 1) := by decide +kernel
theorem dL_print_120 : decode cL_print 120 = .ok (.lmul, 1) := by decide +kernel
theorem dL_print_121 : decode cL_print 121 = .ok (.aload_n 0, 1) := by decide +kernel
theorem dL_print_122 : decode cL_print 122 = .ok (.iload_n 3, 1) := by decide +kernel
theorem dL_print_123 : decode cL_print 123 = .ok (.invokevirtual 54, 3) := by decide +kernel
theorem dL_print_126 : decode cL_print 126 = .ok (.i2l, 1) := by decide +kernel
theorem dL_print_127 : decode cL_print 127 = .ok (.ladd, 1) := by decide +kernel
theorem dL_print_128 : decode cL_print 128 = .ok (.lstore_n 1, 1) := by decide +kernel
theorem dL_print_129 : decode cL_print 129 = .ok (.iinc 3 1, 3) := by decide +kernel
theorem dL_print_132 : decode cL_print 132 = .ok (.goto (-22), 3) := by decide +kernel
theorem dL_print_135 : decode cL_print 135 = .ok (.lload_n 1, 1) := by decide +kernel
theorem dL_print_136 : decode cL_print 136 = .ok (.lreturn, 1) := by decide +kernel
theorem dL_goes_0 : decode cL_goes 0 = .ok (.aload_n 0, 1) := by decide +kernel
theorem dL_goes_1 : decode cL_goes 1 = .ok (.iconst 0, 1) := by decide +kernel
theorem dL_goes_2 : decode cL_goes 2 = .ok (.invokevirtual 65, 3) := by decide +kernel
theorem dL_goes_5 : decode cL_goes 5 = .ok (.istore_n 1, 1) := by decide +kernel
theorem dL_goes_6 : decode cL_goes 6 = .ok (.aload_n 0, 1) := by decide +kernel
theorem dL_goes_7 : decode cL_goes 7 = .ok (.iconst 1, 1) := by decide +kernel
theorem dL_goes_8 : decode cL_goes 8 = .ok (.invokevirtual 65, 3) := by decide +kernel
theorem dL_goes_11 : decode cL_goes 11 = .ok (.istore_n 2, 1) := by decide +kernel
theorem dL_goes_12 : decode cL_goes 12 = .ok (.iload_n 1, 1) := by decide +kernel
theorem dL_goes_13 : decode cL_goes 13 = .ok (.ifCond .ge 20, 3) := by decide +kernel
theorem dL_goes_16 : decode cL_goes 16 = .ok (.iload_n 1, 1) := by decide +kernel
theorem dL_goes_17 : decode cL_goes 17 = .ok (.bipush (-6), 2) := by decide +kernel
theorem dL_goes_19 : decode cL_goes 19 = .ok (.if_icmp .ne 12, 3) := by decide +kernel
theorem dL_goes_22 : decode cL_goes 22 = .ok (.iload_n 2, 1) := by decide +kernel
theorem dL_goes_23 : decode cL_goes 23 = .ok (.iload_n 1, 1) := by decide +kernel
theorem dL_goes_24 : decode cL_goes 24 = .ok (.if_icmp .ne 7, 3) := by decide +kernel
theorem dL_goes_27 : decode cL_goes 27 = .ok (.iconst 1, 1) := by decide +kernel
theorem dL_goes_28 : decode cL_goes 28 = .ok (.goto 4, 3) := by decide +kernel
theorem dL_goes_31 : decode cL_goes 31 = .ok (.iconst 0, 1) := by decide +kernel
theorem dL_goes_32 : decode cL_goes 32 = .ok (.ireturn, 1) := by decide +kernel
theorem dL_goes_33 : decode cL_goes 33 = .ok (.aload_n 0, 1) := by decide +kernel
theorem dL_goes_34 : decode cL_goes 34 = .ok (.invokestatic 68, 3) := by decide +kernel
theorem dL_goes_37 : decode cL_goes 37 = .ok (.lstore_n 3, 1) := by decide +kernel
theorem dL_goes_38 : decode cL_goes 38 = .ok (.aload_n 0, 1) := by decide +kernel
theorem dL_goes_39 : decode cL_goes 39 = .ok (.bipush 7, 2) := by decide +kernel
theorem dL_goes_41 : decode cL_goes 41 = .ok (.invokevirtual 38, 3) := by decide +kernel
theorem dL_goes_44 : decode cL_goes 44 = .ok (.istore 5, 2) := by decide +kernel
theorem dL_goes_46 : decode cL_goes 46 = .ok (.iload_n 1, 1) := by decide +kernel
theorem dL_goes_47 : decode cL_goes 47 = .ok (.ifCond .le 31, 3) := by decide +kernel
theorem dL_goes_50 : decode cL_goes 50 = .ok (.iload_n 1, 1) := by decide +kernel
theorem dL_goes_51 : decode cL_goes 51 = .ok (.sipush 200, 3) := by decide +kernel
theorem dL_goes_54 : decode cL_goes 54 = .ok (.if_icmp .gt 24, 3) := by decide +kernel
theorem dL_goes_57 : decode cL_goes 57 = .ok (.iload_n 2, 1) := by decide +kernel
theorem dL_goes_58 : decode cL_goes 58 = .ok (.ifCond .lt 20, 3) := by decide +kernel
theorem dL_goes_61 : decode cL_goes 61 = .ok (.aload_n 0, 1) := by decide +kernel
theorem dL_goes_62 : decode cL_goes 62 = .ok (.iconst 1, 1) := by decide +kernel
theorem dL_goes_63 : decode cL_goes 63 = .ok (.invokevirtual 72, 3) := by decide +kernel
theorem dL_goes_66 : decode cL_goes 66 = .ok (.aload_n 0, 1) := by decide +kernel
theorem dL_goes_67 : decode cL_goes 67 = .ok (.iconst 1, 1) := by decide +kernel
theorem dL_goes_68 : decode cL_goes 68 = .ok (.invokevirtual 38, 3) := by decide +kernel
theorem dL_goes_71 : decode cL_goes 71 = .ok (.if_icmp .ne 7, 3) := by decide +kernel
theorem dL_goes_74 : decode cL_goes 74 = .ok (.iconst 1, 1) := by decide +kernel
theorem dL_goes_75 : decode cL_goes 75 = .ok (.goto 4, 3) := by decide +kernel
theorem dL_goes_78 : decode cL_goes 78 = .ok (.iconst 0, 1) := by decide +kernel
theorem dL_goes_79 : decode cL_goes 79 = .ok (.istore 6, 2) := by decide +kernel
theorem dL_goes_81 : decode cL_goes 81 = .ok (.iload_n 1, 1) := by decide +kernel
theorem dL_goes_82 : decode cL_goes 82 = .ok (.iconst 1, 1) := by decide +kernel
theorem dL_goes_83 : decode cL_goes 83 = .ok (.isub, 1) := by decide +kernel
theorem dL_goes_84 : decode cL_goes 84 = .ok (.istore 7, 2) := by decide +kernel
theorem dL_goes_86 : decode cL_goes 86 = .ok (.iload 7, 2) := by decide +kernel
theorem dL_goes_88 : decode cL_goes 88 = .ok (.ifCond .le 58, 3) := by decide +kernel
theorem dL_goes_91 : decode cL_goes 91 = .ok (.iload 6, 2) := by decide +kernel
theorem dL_goes_93 : decode cL_goes 93 = .ok (.ifCond .eq 53, 3) := by decide +kernel
theorem dL_goes_96 : decode cL_goes 96 = .ok (.aload_n 0, 1) := by decide +kernel
theorem dL_goes_97 : decode cL_goes 97 = .ok (.iload 7, 2) := by decide +kernel
theorem dL_goes_99 : decode cL_goes 99 = .ok (.bipush 99, 2) := by decide +kernel
theorem dL_goes_101 : decode cL_goes 101 = .ok (.if_icmp .le 8, 3) := by decide +kernel
theorem dL_goes_104 : decode cL_goes 104 = .ok (.bipush 99, 2) := by decide +kernel
theorem dL_goes_106 : decode cL_goes 106 = .ok (.goto 5, 3) := by decide +kernel
theorem dL_goes_109 : decode cL_goes 109 = .ok (.iload 7, 2) := by decide +kernel
theorem dL_goes_111 : decode cL_goes 111 = .ok (.invokevirtual 35, 3) := by decide +kernel
theorem dL_goes_114 : decode cL_goes 114 = .ok (.ifCond .ne 7, 3) := by decide +kernel
theorem dL_goes_117 : decode cL_goes 117 = .ok (.iconst 1, 1) := by decide +kernel
theorem dL_goes_118 : decode cL_goes 118 = .ok (.goto 4, 3) := by decide +kernel
theorem dL_goes_121 : decode cL_goes 121 = .ok (.iconst 0, 1) := by decide +kernel
theorem dL_goes_122 : decode cL_goes 122 = .ok (.istore 6, 2) := by decide +kernel
theorem dL_goes_124 : decode cL_goes 124 = .ok (.iload 7, 2) := by decide +kernel
theorem dL_goes_126 : decode cL_goes 126 = .ok (.iload 7, 2) := by decide +kernel
theorem dL_goes_128 : decode cL_goes 128 = .ok (.bipush 99, 2) := by decide +kernel
theorem dL_goes_130 : decode cL_goes 130 = .ok (.if_icmp .le 8, 3) := by decide +kernel
theorem dL_goes_133 : decode cL_goes 133 = .ok (.bipush 99, 2) := by decide +kernel
theorem dL_goes_135 : decode cL_goes 135 = .ok (.goto 5, 3) := by decide +kernel
theorem dL_goes_138 : decode cL_goes 138 = .ok (.iload 7, 2) := by decide +kernel
theorem dL_goes_140 : decode cL_goes 140 = .ok (.isub, 1) := by decide +kernel
theorem dL_goes_141 : decode cL_goes 141 = .ok (.istore 7, 2) := by decide +kernel
theorem dL_goes_143 : decode cL_goes 143 = .ok (.goto (-57), 3) := by decide +kernel
theorem dL_goes_146 : decode cL_goes 146 = .ok (.iload_n 2, 1) := by decide +kernel
theorem dL_goes_147 : decode cL_goes 147 = .ok (.ifCond .ge 7, 3) := by decide +kernel
theorem dL_goes_150 : decode cL_goes 150 = .ok (.iconst 0, 1) := by decide +kernel
theorem dL_goes_151 : decode cL_goes 151 = .ok (.goto 10, 3) := by decide +kernel
theorem dL_goes_154 : decode cL_goes 154 = .ok (.aload_n 0, 1) := by decide +kernel
theorem dL_goes_155 : decode cL_goes 155 = .ok (.iload_n 2, 1) := by decide +kernel
theorem dL_goes_156 : decode cL_goes 156 = .ok (.bipush 11, 2) := by decide +kernel
theorem dL_goes_158 : decode cL_goes 158 = .ok (.invokevirtual 41, 3) := by decide +kernel
theorem dL_goes_161 : decode cL_goes 161 = .ok (.istore 7, 2) := by decide +kernel
theorem dL_goes_163 : decode cL_goes 163 = .ok (.iload 6, 2) := by decide +kernel
theorem dL_goes_165 : decode cL_goes 165 = .ok (.ifCond .eq 113, 3) := by decide +kernel
theorem dL_goes_168 : decode cL_goes 168 = .ok (.aload_n 0, 1) := by decide +kernel
theorem dL_goes_169 : decode cL_goes 169 = .ok (.bipush 7, 2) := by decide +kernel
theorem dL_goes_171 : decode cL_goes 171 = .ok (.invokevirtual 38, 3) := by decide +kernel
theorem dL_goes_174 : decode cL_goes 174 = .ok (.iload 5, 2) := by decide +kernel
theorem dL_goes_176 : decode cL_goes 176 = .ok (.if_icmp .ne 102, 3) := by decide +kernel
theorem dL_goes_179 : decode cL_goes 179 = .ok (.aload_n 0, 1) := by decide +kernel
theorem dL_goes_180 : decode cL_goes 180 = .ok (.iconst 0, 1) := by decide +kernel
theorem dL_goes_181 : decode cL_goes 181 = .ok (.invokevirtual 65, 3) := by decide +kernel
theorem dL_goes_184 : decode cL_goes 184 = .ok (.iconst 1, 1) := by decide +kernel
theorem dL_goes_185 : decode cL_goes 185 = .ok (.if_icmp .ne 93, 3) := by decide +kernel
theorem dL_goes_188 : decode cL_goes 188 = .ok (.aload_n 0, 1) := by decide +kernel
theorem dL_goes_189 : decode cL_goes 189 = .ok (.iconst 1, 1) := by decide +kernel
theorem dL_goes_190 : decode cL_goes 190 = .ok (.invokevirtual 65, 3) := by decide +kernel
theorem dL_goes_193 : decode cL_goes 193 = .ok (.iload_n 2, 1) := by decide +kernel
theorem dL_goes_194 : decode cL_goes 194 = .ok (.if_icmp .ne 84, 3) := by decide +kernel
theorem dL_goes_197 : decode cL_goes 197 = .ok (.aload_n 0, 1) := by decide +kernel
theorem dL_goes_198 : decode cL_goes 198 = .ok (.iconst 1, 1) := by decide +kernel
theorem dL_goes_199 : decode cL_goes 199 = .ok (.invokevirtual 35, 3) := by decide +kernel
theorem dL_goes_202 : decode cL_goes 202 = .ok (.ifCond .le 76, 3) := by decide +kernel
theorem dL_goes_205 : decode cL_goes 205 = .ok (.aload_n 0, 1) := by decide +kernel
theorem dL_goes_206 : decode cL_goes 206 = .ok (.iload_n 2, 1) := by decide +kernel
theorem dL_goes_207 : decode cL_goes 207 = .ok (.bipush 11, 2) := by decide +kernel
theorem dL_goes_209 : decode cL_goes 209 = .ok (.invokevirtual 41, 3) := by decide +kernel
theorem dL_goes_212 : decode cL_goes 212 = .ok (.iload 7, 2) := by decide +kernel
theorem dL_goes_214 : decode cL_goes 214 = .ok (.iconst 1, 1) := by decide +kernel
theorem dL_goes_215 : decode cL_goes 215 = .ok (.iadd, 1) := by decide +kernel
theorem dL_goes_216 : decode cL_goes 216 = .ok (.if_icmp .ne 62, 3) := by decide +kernel
theorem dL_goes_219 : decode cL_goes 219 = .ok (.aload_n 0, 1) := by decide +kernel
theorem dL_goes_220 : decode cL_goes 220 = .ok (.iload_n 2, 1) := by decide +kernel
theorem dL_goes_221 : decode cL_goes 221 = .ok (.iconst 3, 1) := by decide +kernel
theorem dL_goes_222 : decode cL_goes 222 = .ok (.invokevirtual 41, 3) := by decide +kernel
theorem dL_goes_225 : decode cL_goes 225 = .ok (.aload_n 0, 1) := by decide +kernel
theorem dL_goes_226 : decode cL_goes 226 = .ok (.bipush 9, 2) := by decide +kernel
theorem dL_goes_228 : decode cL_goes 228 = .ok (.invokevirtual 38, 3) := by decide +kernel
theorem dL_goes_231 : decode cL_goes 231 = .ok (.ifCond .ne 7, 3) := by decide +kernel
theorem dL_goes_234 : decode cL_goes 234 = .ok (.iconst 2, 1) := by decide +kernel
theorem dL_goes_235 : decode cL_goes 235 = .ok (.goto 4, 3) := by decide +kernel
theorem dL_goes_238 : decode cL_goes 238 = .ok (.iconst 1, 1) := by decide +kernel
theorem dL_goes_239 : decode cL_goes 239 = .ok (.if_icmp .ne 39, 3) := by decide +kernel
theorem dL_goes_242 : decode cL_goes 242 = .ok (.aload_n 0, 1) := by decide +kernel
theorem dL_goes_243 : decode cL_goes 243 = .ok (.iload_n 2, 1) := by decide +kernel
theorem dL_goes_244 : decode cL_goes 244 = .ok (.bipush 10, 2) := by decide +kernel
theorem dL_goes_246 : decode cL_goes 246 = .ok (.invokevirtual 41, 3) := by decide +kernel
theorem dL_goes_249 : decode cL_goes 249 = .ok (.aload_n 0, 1) := by decide +kernel
theorem dL_goes_250 : decode cL_goes 250 = .ok (.bipush 9, 2) := by decide +kernel
theorem dL_goes_252 : decode cL_goes 252 = .ok (.invokevirtual 38, 3) := by decide +kernel
theorem dL_goes_255 : decode cL_goes 255 = .ok (.if_icmp .ne 23, 3) := by decide +kernel
theorem dL_goes_258 : decode cL_goes 258 = .ok (.aload_n 0, 1) := by decide +kernel
theorem dL_goes_259 : decode cL_goes 259 = .ok (.iload_n 2, 1) := by decide +kernel
theorem dL_goes_260 : decode cL_goes 260 = .ok (.iconst 5, 1) := by decide +kernel
theorem dL_goes_261 : decode cL_goes 261 = .ok (.invokevirtual 41, 3) := by decide +kernel
theorem dL_goes_264 : decode cL_goes 264 = .ok (.aload_n 0, 1) := by decide +kernel
theorem dL_goes_265 : decode cL_goes 265 = .ok (.iload_n 2, 1) := by decide +kernel
theorem dL_goes_266 : decode cL_goes 266 = .ok (.bipush 6, 2) := by decide +kernel
theorem dL_goes_268 : decode cL_goes 268 = .ok (.invokevirtual 41, 3) := by decide +kernel
theorem dL_goes_271 : decode cL_goes 271 = .ok (.if_icmp .lt 7, 3) := by decide +kernel
theorem dL_goes_274 : decode cL_goes 274 = .ok (.iconst 1, 1) := by decide +kernel
theorem dL_goes_275 : decode cL_goes 275 = .ok (.goto 4, 3) := by decide +kernel
theorem dL_goes_278 : decode cL_goes 278 = .ok (.iconst 0, 1) := by decide +kernel
theorem dL_goes_279 : decode cL_goes 279 = .ok (.istore 6, 2) := by decide +kernel
theorem dL_goes_281 : decode cL_goes 281 = .ok (.iload 6, 2) := by decide +kernel
theorem dL_goes_283 : decode cL_goes 283 = .ok (.ifCond .eq 24, 3) := by decide +kernel
theorem dL_goes_286 : decode cL_goes 286 = .ok (.aload_n 0, 1) := by decide +kernel
theorem dL_goes_287 : decode cL_goes 287 = .ok (.iconst 1, 1) := by decide +kernel
theorem dL_goes_288 : decode cL_goes 288 = .ok (.invokevirtual 75, 3) := by decide +kernel
theorem dL_goes_291 : decode cL_goes 291 = .ok (.ifCond .lt 16, 3) := by decide +kernel
theorem dL_goes_294 : decode cL_goes 294 = .ok (.aload_n 0, 1) := by decide +kernel
theorem dL_goes_295 : decode cL_goes 295 = .ok (.invokestatic 68, 3) := by decide +kernel
theorem dL_goes_298 : decode cL_goes 298 = .ok (.lload_n 3, 1) := by decide +kernel
theorem dL_goes_299 : decode cL_goes 299 = .ok (.lcmp, 1) := by decide +kernel
theorem dL_goes_300 : decode cL_goes 300 = .ok (.ifCond .ne 7, 3) := by decide +kernel
theorem dL_goes_303 : decode cL_goes 303 = .ok (.iconst 1, 1) := by decide +kernel
theorem dL_goes_304 : decode cL_goes 304 = .ok (.goto 4, 3) := by decide +kernel
theorem dL_goes_307 : decode cL_goes 307 = .ok (.iconst 0, 1) := by decide +kernel
theorem dL_goes_308 : decode cL_goes 308 = .ok (.ireturn, 1) := by decide +kernel
theorem dL_tests_0 : decode cL_tests 0 = .ok (.aload_n 0, 1) := by decide +kernel
theorem dL_tests_1 : decode cL_tests 1 = .ok (.iload_n 1, 1) := by decide +kernel
theorem dL_tests_2 : decode cL_tests 2 = .ok (.iload_n 2, 1) := by decide +kernel
theorem dL_tests_3 : decode cL_tests 3 = .ok (.iconst 0, 1) := by decide +kernel
theorem dL_tests_4 : decode cL_tests 4 = .ok (.invokevirtual 78, 3) := by decide +kernel
theorem dL_tests_7 : decode cL_tests 7 = .ok (.istore_n 3, 1) := by decide +kernel
theorem dL_tests_8 : decode cL_tests 8 = .ok (.aload_n 0, 1) := by decide +kernel
theorem dL_tests_9 : decode cL_tests 9 = .ok (.iload_n 1, 1) := by decide +kernel
theorem dL_tests_10 : decode cL_tests 10 = .ok (.iload_n 2, 1) := by decide +kernel
theorem dL_tests_11 : decode cL_tests 11 = .ok (.iconst 1, 1) := by decide +kernel
theorem dL_tests_12 : decode cL_tests 12 = .ok (.invokevirtual 78, 3) := by decide +kernel
theorem dL_tests_15 : decode cL_tests 15 = .ok (.istore 4, 2) := by decide +kernel
theorem dL_tests_17 : decode cL_tests 17 = .ok (.iload_n 1, 1) := by decide +kernel
theorem dL_tests_18 : decode cL_tests 18 = .ok (.aload_n 0, 1) := by decide +kernel
theorem dL_tests_19 : decode cL_tests 19 = .ok (.iconst 1, 1) := by decide +kernel
theorem dL_tests_20 : decode cL_tests 20 = .ok (.invokevirtual 38, 3) := by decide +kernel
theorem dL_tests_23 : decode cL_tests 23 = .ok (.if_icmp .lt 20, 3) := by decide +kernel
theorem dL_tests_26 : decode cL_tests 26 = .ok (.iload_n 3, 1) := by decide +kernel
theorem dL_tests_27 : decode cL_tests 27 = .ok (.iconst (-1), 1) := by decide +kernel
theorem dL_tests_28 : decode cL_tests 28 = .ok (.if_icmp .ne 13, 3) := by decide +kernel
theorem dL_tests_31 : decode cL_tests 31 = .ok (.iload 4, 2) := by decide +kernel
theorem dL_tests_33 : decode cL_tests 33 = .ok (.iload_n 3, 1) := by decide +kernel
theorem dL_tests_34 : decode cL_tests 34 = .ok (.if_icmp .ne 7, 3) := by decide +kernel
theorem dL_tests_37 : decode cL_tests 37 = .ok (.iconst 1, 1) := by decide +kernel
theorem dL_tests_38 : decode cL_tests 38 = .ok (.goto 4, 3) := by decide +kernel
theorem dL_tests_41 : decode cL_tests 41 = .ok (.iconst 0, 1) := by decide +kernel
theorem dL_tests_42 : decode cL_tests 42 = .ok (.ireturn, 1) := by decide +kernel
theorem dL_tests_43 : decode cL_tests 43 = .ok (.aload_n 0, 1) := by decide +kernel
theorem dL_tests_44 : decode cL_tests 44 = .ok (.invokestatic 68, 3) := by decide +kernel
theorem dL_tests_47 : decode cL_tests 47 = .ok (.lstore 5, 2) := by decide +kernel
theorem dL_tests_49 : decode cL_tests 49 = .ok (.iload_n 3, 1) := by decide +kernel
theorem dL_tests_50 : decode cL_tests 50 = .ok (.ifCond .ge 7, 3) := by decide +kernel
theorem dL_tests_53 : decode cL_tests 53 = .ok (.iconst 1, 1) := by decide +kernel
theorem dL_tests_54 : decode cL_tests 54 = .ok (.goto 4, 3) := by decide +kernel
theorem dL_tests_57 : decode cL_tests 57 = .ok (.iconst 0, 1) := by decide +kernel
theorem dL_tests_58 : decode cL_tests 58 = .ok (.iload 4, 2) := by decide +kernel
theorem dL_tests_60 : decode cL_tests 60 = .ok (.ifCond .ge 7, 3) := by decide +kernel
theorem dL_tests_63 : decode cL_tests 63 = .ok (.iconst 1, 1) := by decide +kernel
theorem dL_tests_64 : decode cL_tests 64 = .ok (.goto 4, 3) := by decide +kernel
theorem dL_tests_67 : decode cL_tests 67 = .ok (.iconst 0, 1) := by decide +kernel
theorem dL_tests_68 : decode cL_tests 68 = .ok (.if_icmp .ne 51, 3) := by decide +kernel
theorem dL_tests_71 : decode cL_tests 71 = .ok (.iload_n 3, 1) := by decide +kernel
theorem dL_tests_72 : decode cL_tests 72 = .ok (.ifCond .ge 12, 3) := by decide +kernel
theorem dL_tests_75 : decode cL_tests 75 = .ok (.iload_n 3, 1) := by decide +kernel
theorem dL_tests_76 : decode cL_tests 76 = .ok (.bipush (-6), 2) := by decide +kernel
theorem dL_tests_78 : decode cL_tests 78 = .ok (.if_icmp .ne 41, 3) := by decide +kernel
theorem dL_tests_81 : decode cL_tests 81 = .ok (.goto 34, 3) := by decide +kernel
theorem dL_tests_84 : decode cL_tests 84 = .ok (.iload_n 3, 1) := by decide +kernel
theorem dL_tests_85 : decode cL_tests 85 = .ok (.sipush 200, 3) := by decide +kernel
theorem dL_tests_88 : decode cL_tests 88 = .ok (.if_icmp .gt 31, 3) := by decide +kernel
theorem dL_tests_91 : decode cL_tests 91 = .ok (.aload_n 0, 1) := by decide +kernel
theorem dL_tests_92 : decode cL_tests 92 = .ok (.iload 4, 2) := by decide +kernel
theorem dL_tests_94 : decode cL_tests 94 = .ok (.invokevirtual 44, 3) := by decide +kernel
theorem dL_tests_97 : decode cL_tests 97 = .ok (.iload_n 1, 1) := by decide +kernel
theorem dL_tests_98 : decode cL_tests 98 = .ok (.ishr, 1) := by decide +kernel
theorem dL_tests_99 : decode cL_tests 99 = .ok (.iconst 1, 1) := by decide +kernel
theorem dL_tests_100 : decode cL_tests 100 = .ok (.iand, 1) := by decide +kernel
theorem dL_tests_101 : decode cL_tests 101 = .ok (.iconst 1, 1) := by decide +kernel
theorem dL_tests_102 : decode cL_tests 102 = .ok (.if_icmp .ne 17, 3) := by decide +kernel
theorem dL_tests_105 : decode cL_tests 105 = .ok (.aload_n 0, 1) := by decide +kernel
theorem dL_tests_106 : decode cL_tests 106 = .ok (.iload 4, 2) := by decide +kernel
theorem dL_tests_108 : decode cL_tests 108 = .ok (.iconst 3, 1) := by decide +kernel
theorem dL_tests_109 : decode cL_tests 109 = .ok (.invokevirtual 41, 3) := by decide +kernel
theorem dL_tests_112 : decode cL_tests 112 = .ok (.ifCond .ne 7, 3) := by decide +kernel
theorem dL_tests_115 : decode cL_tests 115 = .ok (.iconst 1, 1) := by decide +kernel
theorem dL_tests_116 : decode cL_tests 116 = .ok (.goto 4, 3) := by decide +kernel
theorem dL_tests_119 : decode cL_tests 119 = .ok (.iconst 0, 1) := by decide +kernel
theorem dL_tests_120 : decode cL_tests 120 = .ok (.istore 7, 2) := by decide +kernel
theorem dL_tests_122 : decode cL_tests 122 = .ok (.bipush 100, 2) := by decide +kernel
theorem dL_tests_124 : decode cL_tests 124 = .ok (.istore 8, 2) := by decide +kernel
theorem dL_tests_126 : decode cL_tests 126 = .ok (.iload_n 1, 1) := by decide +kernel
theorem dL_tests_127 : decode cL_tests 127 = .ok (.istore 9, 2) := by decide +kernel
theorem dL_tests_129 : decode cL_tests 129 = .ok (.iload 9, 2) := by decide +kernel
theorem dL_tests_131 : decode cL_tests 131 = .ok (.ifCond .lt 41, 3) := by decide +kernel
theorem dL_tests_134 : decode cL_tests 134 = .ok (.aload_n 0, 1) := by decide +kernel
theorem dL_tests_135 : decode cL_tests 135 = .ok (.iload 9, 2) := by decide +kernel
theorem dL_tests_137 : decode cL_tests 137 = .ok (.iconst 1, 1) := by decide +kernel
theorem dL_tests_138 : decode cL_tests 138 = .ok (.invokevirtual 41, 3) := by decide +kernel
theorem dL_tests_141 : decode cL_tests 141 = .ok (.iload 8, 2) := by decide +kernel
theorem dL_tests_143 : decode cL_tests 143 = .ok (.if_icmp .ge 13, 3) := by decide +kernel
theorem dL_tests_146 : decode cL_tests 146 = .ok (.aload_n 0, 1) := by decide +kernel
theorem dL_tests_147 : decode cL_tests 147 = .ok (.iload 9, 2) := by decide +kernel
theorem dL_tests_149 : decode cL_tests 149 = .ok (.iconst 1, 1) := by decide +kernel
theorem dL_tests_150 : decode cL_tests 150 = .ok (.invokevirtual 41, 3) := by decide +kernel
theorem dL_tests_153 : decode cL_tests 153 = .ok (.goto 5, 3) := by decide +kernel
theorem dL_tests_156 : decode cL_tests 156 = .ok (.iload 8, 2) := by decide +kernel
theorem dL_tests_158 : decode cL_tests 158 = .ok (.istore 8, 2) := by decide +kernel
theorem dL_tests_160 : decode cL_tests 160 = .ok (.aload_n 0, 1) := by decide +kernel
theorem dL_tests_161 : decode cL_tests 161 = .ok (.iload 9, 2) := by decide +kernel
theorem dL_tests_163 : decode cL_tests 163 = .ok (.iconst 0, 1) := by decide +kernel
theorem dL_tests_164 : decode cL_tests 164 = .ok (.invokevirtual 41, 3) := by decide +kernel
theorem dL_tests_167 : decode cL_tests 167 = .ok (.istore 9, 2) := by decide +kernel
theorem dL_tests_169 : decode cL_tests 169 = .ok (.goto (-40), 3) := by decide +kernel
theorem dL_tests_172 : decode cL_tests 172 = .ok (.iload 7, 2) := by decide +kernel
theorem dL_tests_174 : decode cL_tests 174 = .ok (.ifCond .eq 35, 3) := by decide +kernel
theorem dL_tests_177 : decode cL_tests 177 = .ok (.iload_n 2, 1) := by decide +kernel
theorem dL_tests_178 : decode cL_tests 178 = .ok (.iload 8, 2) := by decide +kernel
theorem dL_tests_180 : decode cL_tests 180 = .ok (.if_icmp .gt 9, 3) := by decide +kernel
theorem dL_tests_183 : decode cL_tests 183 = .ok (.iload_n 3, 1) := by decide +kernel
theorem dL_tests_184 : decode cL_tests 184 = .ok (.bipush (-6), 2) := by decide +kernel
theorem dL_tests_186 : decode cL_tests 186 = .ok (.if_icmp .ne 23, 3) := by decide +kernel
theorem dL_tests_189 : decode cL_tests 189 = .ok (.aload_n 0, 1) := by decide +kernel
theorem dL_tests_190 : decode cL_tests 190 = .ok (.iload_n 1, 1) := by decide +kernel
theorem dL_tests_191 : decode cL_tests 191 = .ok (.bipush 8, 2) := by decide +kernel
theorem dL_tests_193 : decode cL_tests 193 = .ok (.invokevirtual 41, 3) := by decide +kernel
theorem dL_tests_196 : decode cL_tests 196 = .ok (.ifCond .eq 9, 3) := by decide +kernel
theorem dL_tests_199 : decode cL_tests 199 = .ok (.iload_n 3, 1) := by decide +kernel
theorem dL_tests_200 : decode cL_tests 200 = .ok (.bipush (-6), 2) := by decide +kernel
theorem dL_tests_202 : decode cL_tests 202 = .ok (.if_icmp .ne 7, 3) := by decide +kernel
theorem dL_tests_205 : decode cL_tests 205 = .ok (.iconst 1, 1) := by decide +kernel
theorem dL_tests_206 : decode cL_tests 206 = .ok (.goto 4, 3) := by decide +kernel
theorem dL_tests_209 : decode cL_tests 209 = .ok (.iconst 0, 1) := by decide +kernel
theorem dL_tests_210 : decode cL_tests 210 = .ok (.istore 7, 2) := by decide +kernel
theorem dL_tests_212 : decode cL_tests 212 = .ok (.iload 7, 2) := by decide +kernel
theorem dL_tests_214 : decode cL_tests 214 = .ok (.ifCond .eq 17, 3) := by decide +kernel
theorem dL_tests_217 : decode cL_tests 217 = .ok (.aload_n 0, 1) := by decide +kernel
theorem dL_tests_218 : decode cL_tests 218 = .ok (.invokestatic 68, 3) := by decide +kernel
theorem dL_tests_221 : decode cL_tests 221 = .ok (.lload 5, 2) := by decide +kernel
theorem dL_tests_223 : decode cL_tests 223 = .ok (.lcmp, 1) := by decide +kernel
theorem dL_tests_224 : decode cL_tests 224 = .ok (.ifCond .ne 7, 3) := by decide +kernel
theorem dL_tests_227 : decode cL_tests 227 = .ok (.iconst 1, 1) := by decide +kernel
theorem dL_tests_228 : decode cL_tests 228 = .ok (.goto 4, 3) := by decide +kernel
theorem dL_tests_231 : decode cL_tests 231 = .ok (.iconst 0, 1) := by decide +kernel
theorem dL_tests_232 : decode cL_tests 232 = .ok (.ireturn, 1) := by decide +kernel
theorem dL_faults_0 : decode cL_faults 0 = .ok (.iconst 0, 1) := by decide +kernel
theorem dL_faults_1 : decode cL_faults 1 = .ok (.istore_n 2, 1) := by decide +kernel
theorem dL_faults_2 : decode cL_faults 2 = .ok (.iconst 0, 1) := by decide +kernel
theorem dL_faults_3 : decode cL_faults 3 = .ok (.istore_n 3, 1) := by decide +kernel
theorem dL_faults_4 : decode cL_faults 4 = .ok (.iload_n 3, 1) := by decide +kernel
theorem dL_faults_5 : decode cL_faults 5 = .ok (.aload_n 0, 1) := by decide +kernel
theorem dL_faults_6 : decode cL_faults 6 = .ok (.iconst 1, 1) := by decide +kernel
theorem dL_faults_7 : decode cL_faults 7 = .ok (.invokevirtual 38, 3) := by decide +kernel
theorem dL_faults_10 : decode cL_faults 10 = .ok (.if_icmp .ge 46, 3) := by decide +kernel
theorem dL_faults_13 : decode cL_faults 13 = .ok (.aload_n 0, 1) := by decide +kernel
theorem dL_faults_14 : decode cL_faults 14 = .ok (.iload_n 3, 1) := by decide +kernel
theorem dL_faults_15 : decode cL_faults 15 = .ok (.iload_n 1, 1) := by decide +kernel
theorem dL_faults_16 : decode cL_faults 16 = .ok (.aload_n 0, 1) := by decide +kernel
theorem dL_faults_17 : decode cL_faults 17 = .ok (.iload_n 3, 1) := by decide +kernel
theorem dL_faults_18 : decode cL_faults 18 = .ok (.iconst 1, 1) := by decide +kernel
theorem dL_faults_19 : decode cL_faults 19 = .ok (.invokevirtual 41, 3) := by decide +kernel
theorem dL_faults_22 : decode cL_faults 22 = .ok (.imul, 1) := by decide +kernel
theorem dL_faults_23 : decode cL_faults 23 = .ok (.iconst 1, 1) := by decide +kernel
theorem dL_faults_24 : decode cL_faults 24 = .ok (.invokevirtual 78, 3) := by decide +kernel
theorem dL_faults_27 : decode cL_faults 27 = .ok (.istore 4, 2) := by decide +kernel
theorem dL_faults_29 : decode cL_faults 29 = .ok (.iload_n 2, 1) := by decide +kernel
theorem dL_faults_30 : decode cL_faults 30 = .ok (.iload 4, 2) := by decide +kernel
theorem dL_faults_32 : decode cL_faults 32 = .ok (.ifCond .lt 15, 3) := by decide +kernel
theorem dL_faults_35 : decode cL_faults 35 = .ok (.iload 4, 2) := by decide +kernel
theorem dL_faults_37 : decode cL_faults 37 = .ok (.iload_n 3, 1) := by decide +kernel
theorem dL_faults_38 : decode cL_faults 38 = .ok (.if_icmp .eq 9, 3) := by decide +kernel
theorem dL_faults_41 : decode cL_faults 41 = .ok (.iconst 1, 1) := by decide +kernel
theorem dL_faults_42 : decode cL_faults 42 = .ok (.iload_n 3, 1) := by decide +kernel
theorem dL_faults_43 : decode cL_faults 43 = .ok (.ishl, 1) := by decide +kernel
theorem dL_faults_44 : decode cL_faults 44 = .ok (.goto 4, 3) := by decide +kernel
theorem dL_faults_47 : decode cL_faults 47 = .ok (.iconst 0, 1) := by decide +kernel
theorem dL_faults_48 : decode cL_faults 48 = .ok (.ior, 1) := by decide +kernel
theorem dL_faults_49 : decode cL_faults 49 = .ok (.istore_n 2, 1) := by decide +kernel
theorem dL_faults_50 : decode cL_faults 50 = .ok (.iinc 3 1, 3) := by decide +kernel
theorem dL_faults_53 : decode cL_faults 53 = .ok (.goto (-49), 3) := by decide +kernel
theorem dL_faults_56 : decode cL_faults 56 = .ok (.aload_n 0, 1) := by decide +kernel
theorem dL_faults_57 : decode cL_faults 57 = .ok (.iload_n 1, 1) := by decide +kernel
theorem dL_faults_58 : decode cL_faults 58 = .ok (.invokevirtual 81, 3) := by decide +kernel
theorem dL_faults_61 : decode cL_faults 61 = .ok (.iload_n 2, 1) := by decide +kernel
theorem dL_faults_62 : decode cL_faults 62 = .ok (.if_icmp .ne 13, 3) := by decide +kernel
theorem dL_faults_65 : decode cL_faults 65 = .ok (.iload_n 2, 1) := by decide +kernel
theorem dL_faults_66 : decode cL_faults 66 = .ok (.iconst 1, 1) := by decide +kernel
theorem dL_faults_67 : decode cL_faults 67 = .ok (.iand, 1) := by decide +kernel
theorem dL_faults_68 : decode cL_faults 68 = .ok (.ifCond .ne 7, 3) := by decide +kernel
theorem dL_faults_71 : decode cL_faults 71 = .ok (.iconst 1, 1) := by decide +kernel
theorem dL_faults_72 : decode cL_faults 72 = .ok (.goto 4, 3) := by decide +kernel
theorem dL_faults_75 : decode cL_faults 75 = .ok (.iconst 0, 1) := by decide +kernel
theorem dL_faults_76 : decode cL_faults 76 = .ok (.ireturn, 1) := by decide +kernel
theorem dL_law_0 : decode cL_law 0 = .ok (.new 17, 3) := by decide +kernel
theorem dL_law_3 : decode cL_law 3 = .ok (.dup, 1) := by decide +kernel
theorem dL_law_4 : decode cL_law 4 = .ok (.invokespecial 84, 3) := by decide +kernel
theorem dL_law_7 : decode cL_law 7 = .ok (.astore_n 1, 1) := by decide +kernel
theorem dL_law_8 : decode cL_law 8 = .ok (.aload_n 1, 1) := by decide +kernel
theorem dL_law_9 : decode cL_law 9 = .ok (.invokestatic 85, 3) := by decide +kernel
theorem dL_law_12 : decode cL_law 12 = .ok (.ifCond .eq 22, 3) := by decide +kernel
theorem dL_law_15 : decode cL_law 15 = .ok (.aload_n 1, 1) := by decide +kernel
theorem dL_law_16 : decode cL_law 16 = .ok (.invokestatic 88, 3) := by decide +kernel
theorem dL_law_19 : decode cL_law 19 = .ok (.ifCond .eq 15, 3) := by decide +kernel
theorem dL_law_22 : decode cL_law 22 = .ok (.aload_n 1, 1) := by decide +kernel
theorem dL_law_23 : decode cL_law 23 = .ok (.iconst 2, 1) := by decide +kernel
theorem dL_law_24 : decode cL_law 24 = .ok (.invokestatic 91, 3) := by decide +kernel
theorem dL_law_27 : decode cL_law 27 = .ok (.ifCond .eq 7, 3) := by decide +kernel
theorem dL_law_30 : decode cL_law 30 = .ok (.iconst 1, 1) := by decide +kernel
theorem dL_law_31 : decode cL_law 31 = .ok (.goto 4, 3) := by decide +kernel
theorem dL_law_34 : decode cL_law 34 = .ok (.iconst 0, 1) := by decide +kernel
theorem dL_law_35 : decode cL_law 35 = .ok (.istore_n 2, 1) := by decide +kernel
theorem dL_law_36 : decode cL_law 36 = .ok (.iconst 0, 1) := by decide +kernel
theorem dL_law_37 : decode cL_law 37 = .ok (.istore_n 3, 1) := by decide +kernel
theorem dL_law_38 : decode cL_law 38 = .ok (.iload_n 3, 1) := by decide +kernel
theorem dL_law_39 : decode cL_law 39 = .ok (.bipush 46, 2) := by decide +kernel
theorem dL_law_41 : decode cL_law 41 = .ok (.if_icmp .ge 380, 3) := by decide +kernel
theorem dL_law_44 : decode cL_law 44 = .ok (.iload_n 2, 1) := by decide +kernel
theorem dL_law_45 : decode cL_law 45 = .ok (.ifCond .eq 376, 3) := by decide +kernel
theorem dL_law_48 : decode cL_law 48 = .ok (.aload_n 0, 1) := by decide +kernel
theorem dL_law_49 : decode cL_law 49 = .ok (.iconst 2, 1) := by decide +kernel
theorem dL_law_50 : decode cL_law 50 = .ok (.iload_n 3, 1) := by decide +kernel
theorem dL_law_51 : decode cL_law 51 = .ok (.imul, 1) := by decide +kernel
theorem dL_law_52 : decode cL_law 52 = .ok (.invokestatic 95, 3) := by decide +kernel
theorem dL_law_55 : decode cL_law 55 = .ok (.istore 4, 2) := by decide +kernel
theorem dL_law_57 : decode cL_law 57 = .ok (.aload_n 0, 1) := by decide +kernel
theorem dL_law_58 : decode cL_law 58 = .ok (.iconst 2, 1) := by decide +kernel
theorem dL_law_59 : decode cL_law 59 = .ok (.iload_n 3, 1) := by decide +kernel
theorem dL_law_60 : decode cL_law 60 = .ok (.imul, 1) := by decide +kernel
theorem dL_law_61 : decode cL_law 61 = .ok (.iconst 1, 1) := by decide +kernel
theorem dL_law_62 : decode cL_law 62 = .ok (.iadd, 1) := by decide +kernel
theorem dL_law_63 : decode cL_law 63 = .ok (.invokestatic 95, 3) := by decide +kernel
theorem dL_law_66 : decode cL_law 66 = .ok (.istore 5, 2) := by decide +kernel
theorem dL_law_68 : decode cL_law 68 = .ok (.aload_n 1, 1) := by decide +kernel
theorem dL_law_69 : decode cL_law 69 = .ok (.bipush 13, 2) := by decide +kernel
theorem dL_law_71 : decode cL_law 71 = .ok (.invokevirtual 38, 3) := by decide +kernel
theorem dL_law_74 : decode cL_law 74 = .ok (.istore 6, 2) := by decide +kernel
theorem dL_law_76 : decode cL_law 76 = .ok (.aload_n 1, 1) := by decide +kernel
theorem dL_law_77 : decode cL_law 77 = .ok (.invokestatic 68, 3) := by decide +kernel
theorem dL_law_80 : decode cL_law 80 = .ok (.lstore 7, 2) := by decide +kernel
theorem dL_law_82 : decode cL_law 82 = .ok (.iload_n 3, 1) := by decide +kernel
theorem dL_law_83 : decode cL_law 83 = .ok (.iconst 4, 1) := by decide +kernel
theorem dL_law_84 : decode cL_law 84 = .ok (.if_icmp .ge 57, 3) := by decide +kernel
theorem dL_law_87 : decode cL_law 87 = .ok (.aload_n 1, 1) := by decide +kernel
theorem dL_law_88 : decode cL_law 88 = .ok (.iload 4, 2) := by decide +kernel
theorem dL_law_90 : decode cL_law 90 = .ok (.iload_n 3, 1) := by decide +kernel
theorem dL_law_91 : decode cL_law 91 = .ok (.iconst 1, 1) := by decide +kernel
theorem dL_law_92 : decode cL_law 92 = .ok (.iadd, 1) := by decide +kernel
theorem dL_law_93 : decode cL_law 93 = .ok (.invokestatic 10, 3) := by decide +kernel
theorem dL_law_96 : decode cL_law 96 = .ok (.iload_n 3, 1) := by decide +kernel
theorem dL_law_97 : decode cL_law 97 = .ok (.ifCond .le 19, 3) := by decide +kernel
theorem dL_law_100 : decode cL_law 100 = .ok (.iload 4, 2) := by decide +kernel
theorem dL_law_102 : decode cL_law 102 = .ok (.iload_n 3, 1) := by decide +kernel
theorem dL_law_103 : decode cL_law 103 = .ok (.iconst 1, 1) := by decide +kernel
theorem dL_law_104 : decode cL_law 104 = .ok (.iadd, 1) := by decide +kernel
theorem dL_law_105 : decode cL_law 105 = .ok (.invokestatic 10, 3) := by decide +kernel
theorem dL_law_108 : decode cL_law 108 = .ok (.iload_n 3, 1) := by decide +kernel
theorem dL_law_109 : decode cL_law 109 = .ok (.if_icmp .ne 7, 3) := by decide +kernel
theorem dL_law_112 : decode cL_law 112 = .ok (.iconst 1, 1) := by decide +kernel
theorem dL_law_113 : decode cL_law 113 = .ok (.goto 4, 3) := by decide +kernel
theorem dL_law_116 : decode cL_law 116 = .ok (.iconst 0, 1) := by decide +kernel
theorem dL_law_117 : decode cL_law 117 = .ok (.isub, 1) := by decide +kernel
theorem dL_law_118 : decode cL_law 118 = .ok (.iconst 1, 1) := by decide +kernel
theorem dL_law_119 : decode cL_law 119 = .ok (.iload 5, 2) := by decide +kernel
theorem dL_law_121 : decode cL_law 121 = .ok (.bipush 9, 2) := by decide +kernel
theorem dL_law_123 : decode cL_law 123 = .ok (.invokestatic 10, 3) := by decide +kernel
theorem dL_law_126 : decode cL_law 126 = .ok (.iadd, 1) := by decide +kernel
theorem dL_law_127 : decode cL_law 127 = .ok (.iload 5, 2) := by decide +kernel
theorem dL_law_129 : decode cL_law 129 = .ok (.iconst 4, 1) := by decide +kernel
theorem dL_law_130 : decode cL_law 130 = .ok (.ishr, 1) := by decide +kernel
theorem dL_law_131 : decode cL_law 131 = .ok (.iconst 3, 1) := by decide +kernel
theorem dL_law_132 : decode cL_law 132 = .ok (.invokestatic 10, 3) := by decide +kernel
theorem dL_law_135 : decode cL_law 135 = .ok (.invokevirtual 16, 3) := by decide +kernel
theorem dL_law_138 : decode cL_law 138 = .ok (.goto 39, 3) := by decide +kernel
theorem dL_law_141 : decode cL_law 141 = .ok (.iload_n 3, 1) := by decide +kernel
theorem dL_law_142 : decode cL_law 142 = .ok (.bipush 8, 2) := by decide +kernel
theorem dL_law_144 : decode cL_law 144 = .ok (.if_icmp .ge 25, 3) := by decide +kernel
theorem dL_law_147 : decode cL_law 147 = .ok (.aload_n 1, 1) := by decide +kernel
theorem dL_law_148 : decode cL_law 148 = .ok (.iload 4, 2) := by decide +kernel
theorem dL_law_150 : decode cL_law 150 = .ok (.iconst 4, 1) := by decide +kernel
theorem dL_law_151 : decode cL_law 151 = .ok (.invokestatic 10, 3) := by decide +kernel
theorem dL_law_154 : decode cL_law 154 = .ok (.iconst 1, 1) := by decide +kernel
theorem dL_law_155 : decode cL_law 155 = .ok (.iload 5, 2) := by decide +kernel
theorem dL_law_157 : decode cL_law 157 = .ok (.bipush 14, 2) := by decide +kernel
theorem dL_law_159 : decode cL_law 159 = .ok (.invokestatic 10, 3) := by decide +kernel
theorem dL_law_162 : decode cL_law 162 = .ok (.iadd, 1) := by decide +kernel
theorem dL_law_163 : decode cL_law 163 = .ok (.invokevirtual 22, 3) := by decide +kernel
theorem dL_law_166 : decode cL_law 166 = .ok (.goto 11, 3) := by decide +kernel
theorem dL_law_169 : decode cL_law 169 = .ok (.aload_n 1, 1) := by decide +kernel
theorem dL_law_170 : decode cL_law 170 = .ok (.iload 4, 2) := by decide +kernel
theorem dL_law_172 : decode cL_law 172 = .ok (.iload 5, 2) := by decide +kernel
theorem dL_law_174 : decode cL_law 174 = .ok (.invokestatic 99, 3) := by decide +kernel
theorem dL_law_177 : decode cL_law 177 = .ok (.istore 9, 2) := by decide +kernel
theorem dL_law_179 : decode cL_law 179 = .ok (.iload 9, 2) := by decide +kernel
theorem dL_law_181 : decode cL_law 181 = .ok (.ifCond .ge 33, 3) := by decide +kernel
theorem dL_law_184 : decode cL_law 184 = .ok (.aload_n 1, 1) := by decide +kernel
theorem dL_law_185 : decode cL_law 185 = .ok (.bipush 13, 2) := by decide +kernel
theorem dL_law_187 : decode cL_law 187 = .ok (.invokevirtual 38, 3) := by decide +kernel
theorem dL_law_190 : decode cL_law 190 = .ok (.iload 6, 2) := by decide +kernel
theorem dL_law_192 : decode cL_law 192 = .ok (.if_icmp .ne 17, 3) := by decide +kernel
theorem dL_law_195 : decode cL_law 195 = .ok (.aload_n 1, 1) := by decide +kernel
theorem dL_law_196 : decode cL_law 196 = .ok (.invokestatic 68, 3) := by decide +kernel
theorem dL_law_199 : decode cL_law 199 = .ok (.lload 7, 2) := by decide +kernel
theorem dL_law_201 : decode cL_law 201 = .ok (.lcmp, 1) := by decide +kernel
theorem dL_law_202 : decode cL_law 202 = .ok (.ifCond .ne 7, 3) := by decide +kernel
theorem dL_law_205 : decode cL_law 205 = .ok (.iconst 1, 1) := by decide +kernel
theorem dL_law_206 : decode cL_law 206 = .ok (.goto 4, 3) := by decide +kernel
theorem dL_law_209 : decode cL_law 209 = .ok (.iconst 0, 1) := by decide +kernel
theorem dL_law_210 : decode cL_law 210 = .ok (.istore_n 2, 1) := by decide +kernel
theorem dL_law_211 : decode cL_law 211 = .ok (.goto 104, 3) := by decide +kernel
theorem dL_law_214 : decode cL_law 214 = .ok (.aload_n 1, 1) := by decide +kernel
theorem dL_law_215 : decode cL_law 215 = .ok (.bipush 13, 2) := by decide +kernel
theorem dL_law_217 : decode cL_law 217 = .ok (.invokevirtual 38, 3) := by decide +kernel
theorem dL_law_220 : decode cL_law 220 = .ok (.iload 6, 2) := by decide +kernel
theorem dL_law_222 : decode cL_law 222 = .ok (.bipush 6, 2) := by decide +kernel
theorem dL_law_224 : decode cL_law 224 = .ok (.if_icmp .ge 10, 3) := by decide +kernel
theorem dL_law_227 : decode cL_law 227 = .ok (.iload 6, 2) := by decide +kernel
theorem dL_law_229 : decode cL_law 229 = .ok (.iconst 1, 1) := by decide +kernel
theorem dL_law_230 : decode cL_law 230 = .ok (.iadd, 1) := by decide +kernel
theorem dL_law_231 : decode cL_law 231 = .ok (.goto 5, 3) := by decide +kernel
theorem dL_law_234 : decode cL_law 234 = .ok (.bipush 6, 2) := by decide +kernel
theorem dL_law_236 : decode cL_law 236 = .ok (.if_icmp .ne 7, 3) := by decide +kernel
theorem dL_law_239 : decode cL_law 239 = .ok (.iconst 1, 1) := by decide +kernel
theorem dL_law_240 : decode cL_law 240 = .ok (.goto 4, 3) := by decide +kernel
theorem dL_law_243 : decode cL_law 243 = .ok (.iconst 0, 1) := by decide +kernel
theorem dL_law_244 : decode cL_law 244 = .ok (.istore_n 2, 1) := by decide +kernel
theorem dL_law_245 : decode cL_law 245 = .ok (.iload_n 2, 1) := by decide +kernel
theorem dL_law_246 : decode cL_law 246 = .ok (.ifCond .eq 69, 3) := by decide +kernel
theorem dL_law_249 : decode cL_law 249 = .ok (.iload_n 3, 1) := by decide +kernel
theorem dL_law_250 : decode cL_law 250 = .ok (.bipush 7, 2) := by decide +kernel
theorem dL_law_252 : decode cL_law 252 = .ok (.if_icmp .le 63, 3) := by decide +kernel
theorem dL_law_255 : decode cL_law 255 = .ok (.iload 5, 2) := by decide +kernel
theorem dL_law_257 : decode cL_law 257 = .ok (.iconst 5, 1) := by decide +kernel
theorem dL_law_258 : decode cL_law 258 = .ok (.ishr, 1) := by decide +kernel
theorem dL_law_259 : decode cL_law 259 = .ok (.iconst 4, 1) := by decide +kernel
theorem dL_law_260 : decode cL_law 260 = .ok (.invokestatic 10, 3) := by decide +kernel
theorem dL_law_263 : decode cL_law 263 = .ok (.ifCond .ne 52, 3) := by decide +kernel
theorem dL_law_266 : decode cL_law 266 = .ok (.aload_n 1, 1) := by decide +kernel
theorem dL_law_267 : decode cL_law 267 = .ok (.invokevirtual 103, 3) := by decide +kernel
theorem dL_law_270 : decode cL_law 270 = .ok (.iload 6, 2) := by decide +kernel
theorem dL_law_272 : decode cL_law 272 = .ok (.bipush 6, 2) := by decide +kernel
theorem dL_law_274 : decode cL_law 274 = .ok (.if_icmp .ge 8, 3) := by decide +kernel
theorem dL_law_277 : decode cL_law 277 = .ok (.iload 6, 2) := by decide +kernel
theorem dL_law_279 : decode cL_law 279 = .ok (.goto 4, 3) := by decide +kernel
theorem dL_law_282 : decode cL_law 282 = .ok (.iconst 5, 1) := by decide +kernel
theorem dL_law_283 : decode cL_law 283 = .ok (.if_icmp .ne 30, 3) := by decide +kernel
theorem dL_law_286 : decode cL_law 286 = .ok (.aload_n 1, 1) := by decide +kernel
theorem dL_law_287 : decode cL_law 287 = .ok (.invokestatic 68, 3) := by decide +kernel
theorem dL_law_290 : decode cL_law 290 = .ok (.lload 7, 2) := by decide +kernel
theorem dL_law_292 : decode cL_law 292 = .ok (.lcmp, 1) := by decide +kernel
theorem dL_law_293 : decode cL_law 293 = .ok (.ifCond .ne 20, 3) := by decide +kernel
theorem dL_law_296 : decode cL_law 296 = .ok (.aload_n 1, 1) := by decide +kernel
theorem dL_law_297 : decode cL_law 297 = .ok (.iload 4, 2) := by decide +kernel
theorem dL_law_299 : decode cL_law 299 = .ok (.iload 5, 2) := by decide +kernel
theorem dL_law_301 : decode cL_law 301 = .ok (.invokestatic 99, 3) := by decide +kernel
theorem dL_law_304 : decode cL_law 304 = .ok (.iload 9, 2) := by decide +kernel
theorem dL_law_306 : decode cL_law 306 = .ok (.if_icmp .ne 7, 3) := by decide +kernel
theorem dL_law_309 : decode cL_law 309 = .ok (.iconst 1, 1) := by decide +kernel
theorem dL_law_310 : decode cL_law 310 = .ok (.goto 4, 3) := by decide +kernel
theorem dL_law_313 : decode cL_law 313 = .ok (.iconst 0, 1) := by decide +kernel
theorem dL_law_314 : decode cL_law 314 = .ok (.istore_n 2, 1) := by decide +kernel
theorem dL_law_315 : decode cL_law 315 = .ok (.iload_n 2, 1) := by decide +kernel
theorem dL_law_316 : decode cL_law 316 = .ok (.ifCond .eq 97, 3) := by decide +kernel
theorem dL_law_319 : decode cL_law 319 = .ok (.aload_n 1, 1) := by decide +kernel
theorem dL_law_320 : decode cL_law 320 = .ok (.invokestatic 85, 3) := by decide +kernel
theorem dL_law_323 : decode cL_law 323 = .ok (.ifCond .eq 90, 3) := by decide +kernel
theorem dL_law_326 : decode cL_law 326 = .ok (.iload_n 3, 1) := by decide +kernel
theorem dL_law_327 : decode cL_law 327 = .ok (.iconst 3, 1) := by decide +kernel
theorem dL_law_328 : decode cL_law 328 = .ok (.irem, 1) := by decide +kernel
theorem dL_law_329 : decode cL_law 329 = .ok (.ifCond .gt 10, 3) := by decide +kernel
theorem dL_law_332 : decode cL_law 332 = .ok (.aload_n 1, 1) := by decide +kernel
theorem dL_law_333 : decode cL_law 333 = .ok (.invokestatic 88, 3) := by decide +kernel
theorem dL_law_336 : decode cL_law 336 = .ok (.ifCond .eq 77, 3) := by decide +kernel
theorem dL_law_339 : decode cL_law 339 = .ok (.aload_n 1, 1) := by decide +kernel
theorem dL_law_340 : decode cL_law 340 = .ok (.iload 4, 2) := by decide +kernel
theorem dL_law_342 : decode cL_law 342 = .ok (.bipush 6, 2) := by decide +kernel
theorem dL_law_344 : decode cL_law 344 = .ok (.ishr, 1) := by decide +kernel
theorem dL_law_345 : decode cL_law 345 = .ok (.bipush 6, 2) := by decide +kernel
theorem dL_law_347 : decode cL_law 347 = .ok (.invokestatic 10, 3) := by decide +kernel
theorem dL_law_350 : decode cL_law 350 = .ok (.iconst 1, 1) := by decide +kernel
theorem dL_law_351 : decode cL_law 351 = .ok (.iload 5, 2) := by decide +kernel
theorem dL_law_353 : decode cL_law 353 = .ok (.iconst 3, 1) := by decide +kernel
theorem dL_law_354 : decode cL_law 354 = .ok (.ishr, 1) := by decide +kernel
theorem dL_law_355 : decode cL_law 355 = .ok (.iload 5, 2) := by decide +kernel
theorem dL_law_357 : decode cL_law 357 = .ok (.bipush 9, 2) := by decide +kernel
theorem dL_law_359 : decode cL_law 359 = .ok (.ishr, 1) := by decide +kernel
theorem dL_law_360 : decode cL_law 360 = .ok (.iconst 3, 1) := by decide +kernel
theorem dL_law_361 : decode cL_law 361 = .ok (.invokestatic 10, 3) := by decide +kernel
theorem dL_law_364 : decode cL_law 364 = .ok (.ifCond .ne 9, 3) := by decide +kernel
theorem dL_law_367 : decode cL_law 367 = .ok (.sipush 500, 3) := by decide +kernel
theorem dL_law_370 : decode cL_law 370 = .ok (.goto 5, 3) := by decide +kernel
theorem dL_law_373 : decode cL_law 373 = .ok (.bipush 20, 2) := by decide +kernel
theorem dL_law_375 : decode cL_law 375 = .ok (.invokestatic 10, 3) := by decide +kernel
theorem dL_law_378 : decode cL_law 378 = .ok (.iadd, 1) := by decide +kernel
theorem dL_law_379 : decode cL_law 379 = .ok (.invokestatic 107, 3) := by decide +kernel
theorem dL_law_382 : decode cL_law 382 = .ok (.ifCond .eq 31, 3) := by decide +kernel
theorem dL_law_385 : decode cL_law 385 = .ok (.iload_n 3, 1) := by decide +kernel
theorem dL_law_386 : decode cL_law 386 = .ok (.iconst 5, 1) := by decide +kernel
theorem dL_law_387 : decode cL_law 387 = .ok (.irem, 1) := by decide +kernel
theorem dL_law_388 : decode cL_law 388 = .ok (.ifCond .gt 21, 3) := by decide +kernel
theorem dL_law_391 : decode cL_law 391 = .ok (.aload_n 1, 1) := by decide +kernel
theorem dL_law_392 : decode cL_law 392 = .ok (.iconst 2, 1) := by decide +kernel
theorem dL_law_393 : decode cL_law 393 = .ok (.iload 4, 2) := by decide +kernel
theorem dL_law_395 : decode cL_law 395 = .ok (.iconst 4, 1) := by decide +kernel
theorem dL_law_396 : decode cL_law 396 = .ok (.ishr, 1) := by decide +kernel
theorem dL_law_397 : decode cL_law 397 = .ok (.bipush 19, 2) := by decide +kernel
theorem dL_law_399 : decode cL_law 399 = .ok (.invokestatic 10, 3) := by decide +kernel
theorem dL_law_402 : decode cL_law 402 = .ok (.iadd, 1) := by decide +kernel
theorem dL_law_403 : decode cL_law 403 = .ok (.invokestatic 91, 3) := by decide +kernel
theorem dL_law_406 : decode cL_law 406 = .ok (.ifCond .eq 7, 3) := by decide +kernel
theorem dL_law_409 : decode cL_law 409 = .ok (.iconst 1, 1) := by decide +kernel
theorem dL_law_410 : decode cL_law 410 = .ok (.goto 4, 3) := by decide +kernel
theorem dL_law_413 : decode cL_law 413 = .ok (.iconst 0, 1) := by decide +kernel
theorem dL_law_414 : decode cL_law 414 = .ok (.istore_n 2, 1) := by decide +kernel
theorem dL_law_415 : decode cL_law 415 = .ok (.iinc 3 1, 3) := by decide +kernel
theorem dL_law_418 : decode cL_law 418 = .ok (.goto (-380), 3) := by decide +kernel
theorem dL_law_421 : decode cL_law 421 = .ok (.iload_n 2, 1) := by decide +kernel
theorem dL_law_422 : decode cL_law 422 = .ok (.ifCond .eq 14, 3) := by decide +kernel
theorem dL_law_425 : decode cL_law 425 = .ok (.aload_n 1, 1) := by decide +kernel
theorem dL_law_426 : decode cL_law 426 = .ok (.invokestatic 85, 3) := by decide +kernel
theorem dL_law_429 : decode cL_law 429 = .ok (.ifCond .eq 7, 3) := by decide +kernel
theorem dL_law_432 : decode cL_law 432 = .ok (.iconst 1, 1) := by decide +kernel
theorem dL_law_433 : decode cL_law 433 = .ok (.goto 4, 3) := by decide +kernel
theorem dL_law_436 : decode cL_law 436 = .ok (.iconst 0, 1) := by decide +kernel
theorem dL_law_437 : decode cL_law 437 = .ok (.ireturn, 1) := by decide +kernel
end
section
/-! A judgement of its own over the kit's W: all that a walk carries is bundled in one tuple G. -/
abbrev GT : Type := Program × Launch × Env × Room × State × MethodId × Array Value × List Frame × Method × Code × va_G × (ClassId × ClassId × ClassId) × (Nat → Prop) × (Array Value → State → Outcome → State → Prop) × (Nat × Nat) × (State → Prop)
abbrev gp (G : GT) : Program := G.1
abbrev gl (G : GT) : Launch := G.2.1
abbrev ge (G : GT) : Env := G.2.2.1
abbrev gR (G : GT) : Room := G.2.2.2.1
abbrev gs (G : GT) : State := G.2.2.2.2.1
abbrev gm (G : GT) : MethodId := G.2.2.2.2.2.1
abbrev ga (G : GT) : Array Value := G.2.2.2.2.2.2.1
abbrev gb (G : GT) : List Frame := G.2.2.2.2.2.2.2.1
abbrev gt (G : GT) : Method := G.2.2.2.2.2.2.2.2.1
abbrev gc (G : GT) : Code := G.2.2.2.2.2.2.2.2.2.1
abbrev gD (G : GT) : va_G := G.2.2.2.2.2.2.2.2.2.2.1
abbrev gk (G : GT) : ClassId × ClassId × ClassId := G.2.2.2.2.2.2.2.2.2.2.2.1
abbrev gA (G : GT) : Nat → Prop := G.2.2.2.2.2.2.2.2.2.2.2.2.1
abbrev gQ (G : GT) : Array Value → State → Outcome → State → Prop := G.2.2.2.2.2.2.2.2.2.2.2.2.2.1
abbrev gN (G : GT) : Nat × Nat := G.2.2.2.2.2.2.2.2.2.2.2.2.2.2.1
abbrev gZ (G : GT) : State → Prop := G.2.2.2.2.2.2.2.2.2.2.2.2.2.2.2
abbrev TYs (cs : ClassId × ClassId × ClassId) : List (ClassId × FieldType) := [(cs.1, .int), (cs.2.1, .boolean), (cs.2.2, .array .int)]
def Rmd (d : Nat) : Room := { frames := d, cells := 0, slots := 0, locals := 30 * d }
def aI (cs : ClassId × ClassId × ClassId) (n : Nat) (f : Nat → Int32) : va_E := .inl (cs.1, n, .inl f)
def aZ (cs : ClassId × ClassId × ClassId) (n : Nat) (f : Nat → Int32) : va_E := .inl (cs.2.1, n, .inl f)
def aQ (cs : ClassId × ClassId × ClassId) (n : Nat) (f : Nat → Option Nat) : va_E := .inl (cs.2.2, n, .inr (.inr (.inr (.inr f))))
def zV (G : GT) (nL pc : Nat) (ls : List (Nat × Value)) (st : List Value) (ws : va_W) : Prop :=
  ∀ (H : Heap) (locs : List Loc) (la : Array Slot), va_P (gD G) vwCl ws H → va_D (gA G) ws → va_S (gA G) (gs G).heap H locs → lv_has la nL ls →
    W (gp G) (gl G) (ge G) (gR G) (gs G) (gm G) (ga G) (gb G) (gt G) (gc G) H locs (gN G).1 (gN G).2 (gZ G) (F0 (gm G) pc la st)
/-- the class's two rows of constants, which stand ahead of all that is made -/
def zLV (k : Nat) : Int32 := if k = 0 then 0 else 1
def zMV (k : Nat) : Int32 := if k = 2 then 50 else 9
def zSt (A : Nat → Prop) (U : State) (H : Heap) : Prop :=
  (∃ t : Nat, va_Z "FuseBoards$House" "LEAST_VALUES" "[I" (.ref t) A U H ∧ va_T .int t 3 (fun k => .int (zLV k)) A U H) ∧
  (∃ t : Nat, va_Z "FuseBoards$House" "MOST_VALUES" "[I" (.ref t) A U H ∧ va_T .int t 3 (fun k => .int (zMV k)) A U H)
theorem zSt.kept {A : Nat → Prop} {U : State} {H H1 : Heap} (h : zSt A U H) (hq : ∀ a : Nat, a < H.size → ¬ A a → H1[a]? = H[a]?) : zSt A U H1 := by
  obtain ⟨⟨t, h1, h2⟩, u, h3, h4⟩ := h
  exact ⟨⟨t, h1.kept hq, h2.kept hq⟩, u, h3.kept hq, h4.kept hq⟩
theorem zSt.narrow {A B : Nat → Prop} {U : State} {H : Heap} (h : zSt A U H) (hq : ∀ q, B q → A q) : zSt B U H := by
  obtain ⟨⟨t, h1, h2⟩, u, h3, h4⟩ := h
  exact ⟨⟨t, h1.narrow hq, h2.narrow hq⟩, u, h3.narrow hq, h4.narrow hq⟩
theorem zSt.moved {A : Nat → Prop} {u U : State} {H : Heap} (hvm : u.vm.Alike U.vm) (h : zSt A u H) : zSt A U H := by
  obtain ⟨⟨t, h1, h2⟩, v, h3, h4⟩ := h
  exact ⟨⟨t, h1.moved hvm, h2.moved hvm⟩, v, h3.moved hvm, h4.moved hvm⟩
def zC (G : GT) (cc : ByteArray) (nL : Nat) (own : String) (ret : Option FieldType) (d : Nat) : Prop :=
  ((gp G).tables.exec = Jvm.exec ∧ (gc G).code = cc ∧ (gc G).maxLocals = nL ∧ (gs G).vm.findClass own = some (gm G).cls ∧ ∀ w ∈ lw_tg, w.before (ga G) (gs G) = true) ∧
  va_K (gD G) vwCl (TYs (gk G)) (gs G) ∧ (d ≤ (gR G).frames ∧ 30 * d ≤ (gR G).locals ∧ (gN G).1 ≤ (gR G).cells ∧ (gN G).2 ≤ (gR G).slots) ∧ (gt G).locks = false ∧ (gt G).sig.returnType = ret ∧ (∀ q : Nat, (gs G).heap.size ≤ q → gA G q) ∧ zSt (gA G) (gs G) (gs G).heap
/-- the end of a method: what is owed at it -/
def zF (G : GT) (rv : Option Value) (ws : va_W) : Prop :=
  (gN G = (0, 0) ∧ gZ G = MQ (gb G) (gQ G) (ga G) (gs G) 0 0 (gA G)) ∧ ∀ (H : Heap) (locs : List Loc) (t : State), va_P (gD G) vwCl ws H → va_S (gA G) (gs G).heap H locs → t.heap = H → gQ G (ga G) (gs G) (.returned rv) t
section ZROWS
variable {G : GT} {cc : ByteArray} {nL : Nat} {own : String} {ret : Option FieldType} {d pc : Nat} {ls : List (Nat × Value)} {st : List Value} {ws : va_W}
theorem z_iconst {n : Int} {v : Int32} (C : zC G cc nL own ret d) (hd : decode cc pc = .ok (.iconst n, 1)) (hv : Int32.ofInt n = v) (k : zV G nL (pc + 1) ls (.int v :: st) ws) : zV G nL pc ls st ws := fun H locs la hP hD hS hl => lv_iconst C.1.1 C.1.2.1 hd hv (k H locs la hP hD hS hl)
theorem z_bipush {n : Int} {v : Int32} (C : zC G cc nL own ret d) (hd : decode cc pc = .ok (.bipush n, 2)) (hv : (Int8.ofInt n).toInt32 = v) (k : zV G nL (pc + 2) ls (.int v :: st) ws) : zV G nL pc ls st ws := fun H locs la hP hD hS hl => lv_bipush C.1.1 C.1.2.1 hd hv (k H locs la hP hD hS hl)
theorem z_sipush {n : Int} {v : Int32} (C : zC G cc nL own ret d) (hd : decode cc pc = .ok (.sipush n, 3)) (hv : (Int16.ofInt n).toInt32 = v) (k : zV G nL (pc + 3) ls (.int v :: st) ws) : zV G nL pc ls st ws := fun H locs la hP hD hS hl => lv_sipush C.1.1 C.1.2.1 hd hv (k H locs la hP hD hS hl)
theorem z_lconst {n : Fin 2} {v : Int64} (C : zC G cc nL own ret d) (hd : decode cc pc = .ok (.lconst n, 1)) (hv : Int64.ofNat (n : Nat) = v) (k : zV G nL (pc + 1) ls (.long v :: st) ws) : zV G nL pc ls st ws := fun H locs la hP hD hS hl => lv_lconst C.1.1 C.1.2.1 hd hv (k H locs la hP hD hS hl)
theorem z_iload_n {n : Fin 4} {x : Int32} (j : Nat) (C : zC G cc nL own ret d) (hd : decode cc pc = .ok (.iload_n n, 1)) (hj : ls[j]? = some ((n : Nat), .int x)) (k : zV G nL (pc + 1) ls (.int x :: st) ws) : zV G nL pc ls st ws := fun H locs la hP hD hS hl => lv_iload_n C.1.1 C.1.2.1 hd rfl (lv_at hl j hj) (k H locs la hP hD hS hl)
theorem z_iload {n : Nat} {x : Int32} (j : Nat) (C : zC G cc nL own ret d) (hd : decode cc pc = .ok (.iload n, 2)) (hj : ls[j]? = some (n, .int x)) (k : zV G nL (pc + 2) ls (.int x :: st) ws) : zV G nL pc ls st ws := fun H locs la hP hD hS hl => lv_iload C.1.1 C.1.2.1 hd (lv_at hl j hj) (k H locs la hP hD hS hl)
theorem z_lload_n {n : Fin 4} {x : Int64} (j : Nat) (C : zC G cc nL own ret d) (hd : decode cc pc = .ok (.lload_n n, 1)) (hj : ls[j]? = some ((n : Nat), .long x)) (k : zV G nL (pc + 1) ls (.long x :: st) ws) : zV G nL pc ls st ws := fun H locs la hP hD hS hl => lv_lload_n C.1.1 C.1.2.1 hd rfl (lv_at hl j hj) (k H locs la hP hD hS hl)
theorem z_lload {n : Nat} {x : Int64} (j : Nat) (C : zC G cc nL own ret d) (hd : decode cc pc = .ok (.lload n, 2)) (hj : ls[j]? = some (n, .long x)) (k : zV G nL (pc + 2) ls (.long x :: st) ws) : zV G nL pc ls st ws := fun H locs la hP hD hS hl => lv_lload C.1.1 C.1.2.1 hd (lv_at hl j hj) (k H locs la hP hD hS hl)
theorem z_aload_n {n : Fin 4} {a : Nat} (j : Nat) (C : zC G cc nL own ret d) (hd : decode cc pc = .ok (.aload_n n, 1)) (hj : ls[j]? = some ((n : Nat), .ref a)) (k : zV G nL (pc + 1) ls (.ref a :: st) ws) : zV G nL pc ls st ws := fun H locs la hP hD hS hl => lv_aload_n C.1.1 C.1.2.1 hd rfl (lv_at hl j hj) (k H locs la hP hD hS hl)
theorem z_istore_n {n : Fin 4} {x : Int32} {ls' : List (Nat × Value)} (C : zC G cc nL own ret d) (hd : decode cc pc = .ok (.istore_n n, 1)) (hn : (n : Nat) < nL) (hl' : ((n : Nat), Value.int x) :: ls.filter (fun q => !(q.1 == (n : Nat)) && !(q.1 + 1 == (n : Nat) && q.2.category == 2)) = ls') (k : zV G nL (pc + 1) ls' st ws) : zV G nL pc ls (.int x :: st) ws := fun H locs _ hP hD hS hl => lv_istore_n C.1.1 C.1.2.1 hd rfl hl hn hl' (fun la' h' => k H locs la' hP hD hS h')
theorem z_istore {n : Nat} {x : Int32} {ls' : List (Nat × Value)} (C : zC G cc nL own ret d) (hd : decode cc pc = .ok (.istore n, 2)) (hn : n < nL) (hl' : (n, Value.int x) :: ls.filter (fun q => !(q.1 == n) && !(q.1 + 1 == n && q.2.category == 2)) = ls') (k : zV G nL (pc + 2) ls' st ws) : zV G nL pc ls (.int x :: st) ws := fun H locs _ hP hD hS hl => lv_istore C.1.1 C.1.2.1 hd hl hn hl' (fun la' h' => k H locs la' hP hD hS h')
theorem z_lstore_n {n : Fin 4} {x : Int64} {ls' : List (Nat × Value)} (C : zC G cc nL own ret d) (hd : decode cc pc = .ok (.lstore_n n, 1)) (hn : (n : Nat) + 1 < nL) (hl' : ((n : Nat), Value.long x) :: ls.filter (fun q => !(q.1 == (n : Nat)) && (!(q.1 == (n : Nat) + 1) && !(q.1 + 1 == (n : Nat) && q.2.category == 2))) = ls') (k : zV G nL (pc + 1) ls' st ws) : zV G nL pc ls (.long x :: st) ws := fun H locs _ hP hD hS hl => lv_lstore_n C.1.1 C.1.2.1 hd rfl hl hn hl' (fun la' h' => k H locs la' hP hD hS h')
theorem z_iinc {i : Nat} {n : Int} {x n' v : Int32} {ls' : List (Nat × Value)} (j : Nat) (C : zC G cc nL own ret d) (hd : decode cc pc = .ok (.iinc i n, 3)) (hj : ls[j]? = some (i, .int x)) (hn' : Int32.ofInt n = n') (hv : x + n' = v) (hn : i < nL) (hl' : (i, Value.int v) :: ls.filter (fun q => !(q.1 == i) && !(q.1 + 1 == i && q.2.category == 2)) = ls') (k : zV G nL (pc + 3) ls' st ws) : zV G nL pc ls st ws := fun H locs _ hP hD hS hl => lv_iinc C.1.1 C.1.2.1 hd hl hj (by rw [hn']; exact hv) hn hl' (fun la' h' => k H locs la' hP hD hS h')
/-- a name for the top -/
theorem z_top {x x' : Int32} (he : x = x') (k : zV G nL pc ls (.int x' :: st) ws) : zV G nL pc ls (.int x :: st) ws := he ▸ k
theorem z_topl {x x' : Int64} (he : x = x') (k : zV G nL pc ls (.long x' :: st) ws) : zV G nL pc ls (.long x :: st) ws := he ▸ k
theorem z_sub {ls' : List (Nat × Value)} (ks : List Nat) (h : lv_pick ls ks = ls') (k : zV G nL pc ls' st ws) : zV G nL pc ls st ws := fun H locs la hP hD hS hl => k H locs la hP hD hS (lv_sub hl ks h)
theorem z_iadd {x y : Int32} (C : zC G cc nL own ret d) (hd : decode cc pc = .ok (.iadd, 1)) (k : zV G nL (pc + 1) ls (.int (x + y) :: st) ws) : zV G nL pc ls (.int y :: .int x :: st) ws := fun H locs la hP hD hS hl => lv_iadd C.1.1 C.1.2.1 hd (k H locs la hP hD hS hl)
theorem z_isub {x y : Int32} (C : zC G cc nL own ret d) (hd : decode cc pc = .ok (.isub, 1)) (k : zV G nL (pc + 1) ls (.int (x - y) :: st) ws) : zV G nL pc ls (.int y :: .int x :: st) ws := fun H locs la hP hD hS hl => lv_isub C.1.1 C.1.2.1 hd (k H locs la hP hD hS hl)
theorem z_imul {x y : Int32} (C : zC G cc nL own ret d) (hd : decode cc pc = .ok (.imul, 1)) (k : zV G nL (pc + 1) ls (.int (x * y) :: st) ws) : zV G nL pc ls (.int y :: .int x :: st) ws := fun H locs la hP hD hS hl => lv_imul C.1.1 C.1.2.1 hd (k H locs la hP hD hS hl)
theorem z_iand {x y : Int32} (C : zC G cc nL own ret d) (hd : decode cc pc = .ok (.iand, 1)) (k : zV G nL (pc + 1) ls (.int (x &&& y) :: st) ws) : zV G nL pc ls (.int y :: .int x :: st) ws := fun H locs la hP hD hS hl => lv_iand C.1.1 C.1.2.1 hd (k H locs la hP hD hS hl)
theorem z_ior {x y : Int32} (C : zC G cc nL own ret d) (hd : decode cc pc = .ok (.ior, 1)) (k : zV G nL (pc + 1) ls (.int (x ||| y) :: st) ws) : zV G nL pc ls (.int y :: .int x :: st) ws := fun H locs la hP hD hS hl => lv_ior C.1.1 C.1.2.1 hd (k H locs la hP hD hS hl)
theorem z_ixor {x y : Int32} (C : zC G cc nL own ret d) (hd : decode cc pc = .ok (.ixor, 1)) (k : zV G nL (pc + 1) ls (.int (x ^^^ y) :: st) ws) : zV G nL pc ls (.int y :: .int x :: st) ws := fun H locs la hP hD hS hl => lv_ixor C.1.1 C.1.2.1 hd (k H locs la hP hD hS hl)
theorem z_ineg {x : Int32} (C : zC G cc nL own ret d) (hd : decode cc pc = .ok (.ineg, 1)) (k : zV G nL (pc + 1) ls (.int (-x) :: st) ws) : zV G nL pc ls (.int x :: st) ws := fun H locs la hP hD hS hl => lv_ineg C.1.1 C.1.2.1 hd (k H locs la hP hD hS hl)
theorem z_idiv {x y : Int32} (C : zC G cc nL own ret d) (hd : decode cc pc = .ok (.idiv, 1)) (hne : ¬ y = 0) (k : zV G nL (pc + 1) ls (.int (x / y) :: st) ws) : zV G nL pc ls (.int y :: .int x :: st) ws := fun H locs la hP hD hS hl => lv_idiv C.1.1 C.1.2.1 hd hne (k H locs la hP hD hS hl)
theorem z_irem {x y : Int32} (C : zC G cc nL own ret d) (hd : decode cc pc = .ok (.irem, 1)) (hne : ¬ y = 0) (k : zV G nL (pc + 1) ls (.int (x - x / y * y) :: st) ws) : zV G nL pc ls (.int y :: .int x :: st) ws := fun H locs la hP hD hS hl => lv_irem C.1.1 C.1.2.1 hd hne (k H locs la hP hD hS hl)
theorem z_ishl {x y : Int32} (C : zC G cc nL own ret d) (hd : decode cc pc = .ok (.ishl, 1)) (k : zV G nL (pc + 1) ls (.int (x <<< (y &&& 31)) :: st) ws) : zV G nL pc ls (.int y :: .int x :: st) ws := fun H locs la hP hD hS hl => lv_ishl C.1.1 C.1.2.1 hd (k H locs la hP hD hS hl)
theorem z_ishr {x y : Int32} (C : zC G cc nL own ret d) (hd : decode cc pc = .ok (.ishr, 1)) (k : zV G nL (pc + 1) ls (.int (x >>> (y &&& 31)) :: st) ws) : zV G nL pc ls (.int y :: .int x :: st) ws := fun H locs la hP hD hS hl => lv_ishr C.1.1 C.1.2.1 hd (k H locs la hP hD hS hl)
def zushr (x y : Int32) : Int32 := (x.toUInt32 >>> (y.toUInt32 &&& Int32.toUInt32 31)).toInt32
def zlushr (x : Int64) (y : Int32) : Int64 := (x.toUInt64 >>> (y.toInt64.toUInt64 &&& Int64.toUInt64 63)).toInt64
def zlshl (x : Int64) (y : Int32) : Int64 := x <<< (y.toInt64 &&& 63)
theorem z_iushr {x y : Int32} (C : zC G cc nL own ret d) (hd : decode cc pc = .ok (.iushr, 1)) (k : zV G nL (pc + 1) ls (.int (zushr x y) :: st) ws) : zV G nL pc ls (.int y :: .int x :: st) ws := fun H locs la hP hD hS hl => lv_iushr C.1.1 C.1.2.1 hd rfl (k H locs la hP hD hS hl)
theorem z_lushr {x : Int64} {y : Int32} (C : zC G cc nL own ret d) (hd : decode cc pc = .ok (.lushr, 1)) (k : zV G nL (pc + 1) ls (.long (zlushr x y) :: st) ws) : zV G nL pc ls (.int y :: .long x :: st) ws := fun H locs la hP hD hS hl => lv_lushr C.1.1 C.1.2.1 hd rfl (k H locs la hP hD hS hl)
theorem z_lshl {x : Int64} {y : Int32} (C : zC G cc nL own ret d) (hd : decode cc pc = .ok (.lshl, 1)) (k : zV G nL (pc + 1) ls (.long (zlshl x y) :: st) ws) : zV G nL pc ls (.int y :: .long x :: st) ws := fun H locs la hP hD hS hl => lv_lshl C.1.1 C.1.2.1 hd rfl (k H locs la hP hD hS hl)
theorem z_land {x y : Int64} (C : zC G cc nL own ret d) (hd : decode cc pc = .ok (.land, 1)) (k : zV G nL (pc + 1) ls (.long (x &&& y) :: st) ws) : zV G nL pc ls (.long y :: .long x :: st) ws := fun H locs la hP hD hS hl => lv_land C.1.1 C.1.2.1 hd (k H locs la hP hD hS hl)
theorem z_lor {x y : Int64} (C : zC G cc nL own ret d) (hd : decode cc pc = .ok (.lor, 1)) (k : zV G nL (pc + 1) ls (.long (x ||| y) :: st) ws) : zV G nL pc ls (.long y :: .long x :: st) ws := fun H locs la hP hD hS hl => lv_lor C.1.1 C.1.2.1 hd (k H locs la hP hD hS hl)
theorem z_l2i {x : Int64} (C : zC G cc nL own ret d) (hd : decode cc pc = .ok (.l2i, 1)) (k : zV G nL (pc + 1) ls (.int x.toInt32 :: st) ws) : zV G nL pc ls (.long x :: st) ws := fun H locs la hP hD hS hl => lv_l2i C.1.1 C.1.2.1 hd rfl (k H locs la hP hD hS hl)
theorem z_i2l {x : Int32} (C : zC G cc nL own ret d) (hd : decode cc pc = .ok (.i2l, 1)) (k : zV G nL (pc + 1) ls (.long x.toInt64 :: st) ws) : zV G nL pc ls (.int x :: st) ws := fun H locs la hP hD hS hl => lv_i2l C.1.1 C.1.2.1 hd rfl (k H locs la hP hD hS hl)
theorem z_lcmp {x y : Int64} (C : zC G cc nL own ret d) (hd : decode cc pc = .ok (.lcmp, 1)) (k : zV G nL (pc + 1) ls (.int (lg_cmp x y) :: st) ws) : zV G nL pc ls (.long y :: .long x :: st) ws := fun H locs la hP hD hS hl => W.lcmp C.1.1 C.1.2.1 hd (k H locs la hP hD hS hl)
theorem z_dup {v : Value} (C : zC G cc nL own ret d) (hd : decode cc pc = .ok (.dup, 1)) (hv : v.category = 1) (k : zV G nL (pc + 1) ls (v :: v :: st) ws) : zV G nL pc ls (v :: st) ws := fun H locs la hP hD hS hl => lv_dup C.1.1 C.1.2.1 hd hv (k H locs la hP hD hS hl)
theorem z_dup2 {u v : Value} (C : zC G cc nL own ret d) (hd : decode cc pc = .ok (.dup2, 1)) (hu : u.category = 1) (hv : v.category = 1) (k : zV G nL (pc + 1) ls (u :: v :: u :: v :: st) ws) : zV G nL pc ls (u :: v :: st) ws := fun H locs la hP hD hS hl => lv_dup2_11 C.1.1 C.1.2.1 hd hu hv (k H locs la hP hD hS hl)
theorem z_pop {v : Value} (C : zC G cc nL own ret d) (hd : decode cc pc = .ok (.pop, 1)) (hv : v.category = 1) (k : zV G nL (pc + 1) ls st ws) : zV G nL pc ls (v :: st) ws := fun H locs la hP hD hS hl => lv_pop C.1.1 C.1.2.1 hd hv (k H locs la hP hD hS hl)
theorem z_goto {off : Int} {tgt : Nat} (C : zC G cc nL own ret d) (hd : decode cc pc = .ok (.goto off, 3)) (ht : (pc : Int) + off = (tgt : Int)) (k : zV G nL tgt ls st ws) : zV G nL pc ls st ws := fun H locs la hP hD hS hl => lv_goto C.1.1 C.1.2.1 hd ht (k H locs la hP hD hS hl)
theorem z_icmp_eq {x y : Int32} {off : Int} {tgt : Nat} (C : zC G cc nL own ret d) (hd : decode cc pc = .ok (.if_icmp .eq off, 3)) (ht : (pc : Int) + off = (tgt : Int)) (kt : x = y → zV G nL tgt ls st ws) (kf : ¬ x = y → zV G nL (pc + 3) ls st ws) : zV G nL pc ls (.int y :: .int x :: st) ws := fun H locs la hP hD hS hl => lv_icmp_eq C.1.1 C.1.2.1 hd ht (fun h => kt h H locs la hP hD hS hl) (fun h => kf h H locs la hP hD hS hl)
theorem z_icmp_ne {x y : Int32} {off : Int} {tgt : Nat} (C : zC G cc nL own ret d) (hd : decode cc pc = .ok (.if_icmp .ne off, 3)) (ht : (pc : Int) + off = (tgt : Int)) (kt : ¬ x = y → zV G nL tgt ls st ws) (kf : x = y → zV G nL (pc + 3) ls st ws) : zV G nL pc ls (.int y :: .int x :: st) ws := fun H locs la hP hD hS hl => lv_icmp_ne C.1.1 C.1.2.1 hd ht (fun h => kt h H locs la hP hD hS hl) (fun h => kf h H locs la hP hD hS hl)
theorem z_icmp_lt {x y : Int32} {off : Int} {tgt : Nat} (C : zC G cc nL own ret d) (hd : decode cc pc = .ok (.if_icmp .lt off, 3)) (ht : (pc : Int) + off = (tgt : Int)) (kt : x < y → zV G nL tgt ls st ws) (kf : ¬ x < y → zV G nL (pc + 3) ls st ws) : zV G nL pc ls (.int y :: .int x :: st) ws := fun H locs la hP hD hS hl => lv_icmp_lt C.1.1 C.1.2.1 hd ht (fun h => kt h H locs la hP hD hS hl) (fun h => kf h H locs la hP hD hS hl)
theorem z_icmp_ge {x y : Int32} {off : Int} {tgt : Nat} (C : zC G cc nL own ret d) (hd : decode cc pc = .ok (.if_icmp .ge off, 3)) (ht : (pc : Int) + off = (tgt : Int)) (kt : y ≤ x → zV G nL tgt ls st ws) (kf : ¬ y ≤ x → zV G nL (pc + 3) ls st ws) : zV G nL pc ls (.int y :: .int x :: st) ws := fun H locs la hP hD hS hl => lv_icmp_ge C.1.1 C.1.2.1 hd ht (fun h => kt h H locs la hP hD hS hl) (fun h => kf h H locs la hP hD hS hl)
theorem z_icmp_gt {x y : Int32} {off : Int} {tgt : Nat} (C : zC G cc nL own ret d) (hd : decode cc pc = .ok (.if_icmp .gt off, 3)) (ht : (pc : Int) + off = (tgt : Int)) (kt : y < x → zV G nL tgt ls st ws) (kf : ¬ y < x → zV G nL (pc + 3) ls st ws) : zV G nL pc ls (.int y :: .int x :: st) ws := fun H locs la hP hD hS hl => lv_icmp_gt C.1.1 C.1.2.1 hd ht (fun h => kt h H locs la hP hD hS hl) (fun h => kf h H locs la hP hD hS hl)
theorem z_icmp_le {x y : Int32} {off : Int} {tgt : Nat} (C : zC G cc nL own ret d) (hd : decode cc pc = .ok (.if_icmp .le off, 3)) (ht : (pc : Int) + off = (tgt : Int)) (kt : x ≤ y → zV G nL tgt ls st ws) (kf : ¬ x ≤ y → zV G nL (pc + 3) ls st ws) : zV G nL pc ls (.int y :: .int x :: st) ws := fun H locs la hP hD hS hl => lv_icmp_le C.1.1 C.1.2.1 hd ht (fun h => kt h H locs la hP hD hS hl) (fun h => kf h H locs la hP hD hS hl)
theorem z_if_eq {x : Int32} {off : Int} {tgt : Nat} (C : zC G cc nL own ret d) (hd : decode cc pc = .ok (.ifCond .eq off, 3)) (ht : (pc : Int) + off = (tgt : Int)) (kt : x = 0 → zV G nL tgt ls st ws) (kf : ¬ x = 0 → zV G nL (pc + 3) ls st ws) : zV G nL pc ls (.int x :: st) ws := fun H locs la hP hD hS hl => lv_if_eq C.1.1 C.1.2.1 hd ht (fun h => kt h H locs la hP hD hS hl) (fun h => kf h H locs la hP hD hS hl)
theorem z_if_ne {x : Int32} {off : Int} {tgt : Nat} (C : zC G cc nL own ret d) (hd : decode cc pc = .ok (.ifCond .ne off, 3)) (ht : (pc : Int) + off = (tgt : Int)) (kt : ¬ x = 0 → zV G nL tgt ls st ws) (kf : x = 0 → zV G nL (pc + 3) ls st ws) : zV G nL pc ls (.int x :: st) ws := fun H locs la hP hD hS hl => lv_if_ne C.1.1 C.1.2.1 hd ht (fun h => kt h H locs la hP hD hS hl) (fun h => kf h H locs la hP hD hS hl)
theorem z_if_lt {x : Int32} {off : Int} {tgt : Nat} (C : zC G cc nL own ret d) (hd : decode cc pc = .ok (.ifCond .lt off, 3)) (ht : (pc : Int) + off = (tgt : Int)) (kt : x < 0 → zV G nL tgt ls st ws) (kf : ¬ x < 0 → zV G nL (pc + 3) ls st ws) : zV G nL pc ls (.int x :: st) ws := fun H locs la hP hD hS hl => lv_if_lt C.1.1 C.1.2.1 hd ht (fun h => kt h H locs la hP hD hS hl) (fun h => kf h H locs la hP hD hS hl)
theorem z_if_ge {x : Int32} {off : Int} {tgt : Nat} (C : zC G cc nL own ret d) (hd : decode cc pc = .ok (.ifCond .ge off, 3)) (ht : (pc : Int) + off = (tgt : Int)) (kt : 0 ≤ x → zV G nL tgt ls st ws) (kf : ¬ 0 ≤ x → zV G nL (pc + 3) ls st ws) : zV G nL pc ls (.int x :: st) ws := fun H locs la hP hD hS hl => lv_if_ge C.1.1 C.1.2.1 hd ht (fun h => kt h H locs la hP hD hS hl) (fun h => kf h H locs la hP hD hS hl)
theorem z_if_gt {x : Int32} {off : Int} {tgt : Nat} (C : zC G cc nL own ret d) (hd : decode cc pc = .ok (.ifCond .gt off, 3)) (ht : (pc : Int) + off = (tgt : Int)) (kt : 0 < x → zV G nL tgt ls st ws) (kf : ¬ 0 < x → zV G nL (pc + 3) ls st ws) : zV G nL pc ls (.int x :: st) ws := fun H locs la hP hD hS hl => lv_if_gt C.1.1 C.1.2.1 hd ht (fun h => kt h H locs la hP hD hS hl) (fun h => kf h H locs la hP hD hS hl)
theorem z_if_le {x : Int32} {off : Int} {tgt : Nat} (C : zC G cc nL own ret d) (hd : decode cc pc = .ok (.ifCond .le off, 3)) (ht : (pc : Int) + off = (tgt : Int)) (kt : x ≤ 0 → zV G nL tgt ls st ws) (kf : ¬ x ≤ 0 → zV G nL (pc + 3) ls st ws) : zV G nL pc ls (.int x :: st) ws := fun H locs la hP hD hS hl => lv_if_le C.1.1 C.1.2.1 hd ht (fun h => kt h H locs la hP hD hS hl) (fun h => kf h H locs la hP hD hS hl)
theorem z_tabIn {dflt lo hi : Int} {offs : Array Int} {len : Nat} {x x0 : Int32} {off : Int} {tgt : Nat} (C : zC G cc nL own ret d) (hd : decode cc pc = .ok (.tableswitch dflt lo hi offs, len)) (hx : x = x0) (h1 : ¬ x0.toInt < lo) (h2 : ¬ hi < x0.toInt) (ho : offs[(x0.toInt - lo).toNat]? = some off) (ht : (pc : Int) + off = (tgt : Int)) (k : zV G nL tgt ls st ws) : zV G nL pc ls (.int x :: st) ws := by
  subst hx
  exact fun H locs la hP hD hS hl => lv_tableIn C.1.1 C.1.2.1 hd h1 h2 ho ht (k H locs la hP hD hS hl)
theorem z_tabOut {dflt lo hi : Int} {offs : Array Int} {len : Nat} {x : Int32} {tgt : Nat} (C : zC G cc nL own ret d) (hd : decode cc pc = .ok (.tableswitch dflt lo hi offs, len)) (h : x.toInt < lo ∨ hi < x.toInt) (ht : (pc : Int) + dflt = (tgt : Int)) (k : zV G nL tgt ls st ws) : zV G nL pc ls (.int x :: st) ws := fun H locs la hP hD hS hl => lv_tableOut C.1.1 C.1.2.1 hd h ht (k H locs la hP hD hS hl)
theorem z_look {dflt : Int} {ps : Array (Int × Int)} {len : Nat} {x : Int32} {off : Int} {tgt : Nat} (C : zC G cc nL own ret d) (hd : decode cc pc = .ok (.lookupswitch dflt ps, len)) (hp : (ps.toList.zip (ps.toList.drop 1)).all (fun (a, next) => a.1 < next.1) = true) (ho : Op.lookupswitch.offset ps.toList dflt x.toInt = off) (ht : (pc : Int) + off = (tgt : Int)) (k : zV G nL tgt ls st ws) : zV G nL pc ls (.int x :: st) ws := fun H locs la hP hD hS hl => lv_lookup C.1.1 C.1.2.1 hd hp ho ht (k H locs la hP hD hS hl)
theorem z_ldc {index : Nat} {v : Int32} (C : zC G cc nL own ret d) (hd : decode cc pc = .ok (.ldc index, 2)) (hw : Cond.constant own index v ∈ lw_tg) (k : zV G nL (pc + 2) ls (.int v :: st) ws) : zV G nL pc ls st ws := fun H locs la hP hD hS hl => lv_ldc C.1.1 C.1.2.1 C.1.2.2.2.1 (C.1.2.2.2.2 _ hw) hd (k H locs la hP hD hS hl)
theorem z_ldcw {index : Nat} {v : Int32} (C : zC G cc nL own ret d) (hd : decode cc pc = .ok (.ldc_w index, 3)) (hw : Cond.constant own index v ∈ lw_tg) (k : zV G nL (pc + 3) ls (.int v :: st) ws) : zV G nL pc ls st ws := fun H locs la hP hD hS hl => lv_ldcw C.1.1 C.1.2.1 C.1.2.2.2.1 (C.1.2.2.2.2 _ hw) hd (k H locs la hP hD hS hl)
theorem z_ldc2 {index : Nat} {v : Int64} (C : zC G cc nL own ret d) (hd : decode cc pc = .ok (.ldc2_w index, 3)) (hw : Cond.constantLong own index v ∈ lw_tg) (k : zV G nL (pc + 3) ls (.long v :: st) ws) : zV G nL pc ls st ws := fun H locs la hP hD hS hl => lv_ldc2 C.1.1 C.1.2.1 C.1.2.2.2.1 (C.1.2.2.2.2 _ hw) hd (k H locs la hP hD hS hl)
/-- an index in its row, and its place -/
def zin (i : Int32) (n k : Nat) : Prop := vp_in i n ∧ i.toNatClampNeg = k
theorem z_iald (q0 : Nat) {n : Nat} {f : Nat → Int32} {a k : Nat} {i : Int32} (C : zC G cc nL own ret d) (hd : decode cc pc = .ok (.iaload, 1)) (hi : zin i n k) (ha : ws[q0]? = some (a, aI (gk G) n f)) (kk : zV G nL (pc + 1) ls (.int (f k) :: st) ws) : zV G nL pc ls (.int i :: .ref a :: st) ws := by
  obtain ⟨h1, rfl⟩ := hi
  exact fun H locs la hP hD hS hl => va_iald C.1.1 C.1.2.1 C.2.1 hP q0 0 ha rfl h1 hd (kk H locs la hP hD hS hl)
theorem z_zald (q0 : Nat) {n : Nat} {f : Nat → Int32} {a k : Nat} {i : Int32} (C : zC G cc nL own ret d) (hd : decode cc pc = .ok (.baload, 1)) (hi : zin i n k) (ha : ws[q0]? = some (a, aZ (gk G) n f)) (kk : zV G nL (pc + 1) ls (.int (f k) :: st) ws) : zV G nL pc ls (.int i :: .ref a :: st) ws := by
  obtain ⟨h1, rfl⟩ := hi
  exact fun H locs la hP hD hS hl => va_zald C.1.1 C.1.2.1 C.2.1 hP q0 1 ha rfl h1 hd (kk H locs la hP hD hS hl)
theorem z_aald (q0 : Nat) {n : Nat} {f : Nat → Option Nat} {a k : Nat} {i : Int32} (C : zC G cc nL own ret d) (hd : decode cc pc = .ok (.aaload, 1)) (hi : zin i n k) (ha : ws[q0]? = some (a, aQ (gk G) n f)) (kk : zV G nL (pc + 1) ls (va_rf (f k) :: st) ws) : zV G nL pc ls (.int i :: .ref a :: st) ws := by
  obtain ⟨h1, rfl⟩ := hi
  intro H locs la hP hD hS hl
  have hlt : i.toNatClampNeg < n := Nat.not_le.mp fun q => h1 (Or.inr q)
  exact W.aald (v := va_rf (f i.toNatClampNeg)) (ty := .array .int) C.1.1 C.1.2.1 (hP q0 _ ha) ((C.2.1.2 2 _ rfl).1 n (fun j => va_rf (f j))) rfl (fun q => by cases q) (by show ¬ (i < 0 ∨ (arrV _ _ _).slots.size ≤ _); rw [arrV_size]; exact h1) (by show (arrV _ _ _).slots[_]? = _; rw [arrV_read _ _ hlt]) rfl rfl hd (kk H locs la hP hD hS hl)
theorem z_iast (q0 : Nat) {n : Nat} {f f' : Nat → Int32} {a k : Nat} {i x : Int32} {ws' : va_W} (C : zC G cc nL own ret d) (hd : decode cc pc = .ok (.iastore, 1)) (hi : zin i n k) (ha : ws[q0]? = some (a, aI (gk G) n f)) (he : upd f k x = f') (hw : ws.set q0 (a, aI (gk G) n f') = ws') (kk : zV G nL (pc + 1) ls st ws') : zV G nL pc ls (.int x :: .int i :: .ref a :: st) ws := by
  obtain ⟨h1, rfl⟩ := hi
  subst he
  subst hw
  exact fun H locs la hP hD hS hl => va_iast C.1.1 C.1.2.1 C.2.1 hP hD hS q0 0 ha rfl h1 hd (fun H1 locs1 hP1 hD1 hS1 => kk H1 locs1 la hP1 hD1 hS1 hl)
theorem z_zast (q0 : Nat) {n : Nat} {f f' : Nat → Int32} {a k : Nat} {i x : Int32} {ws' : va_W} (C : zC G cc nL own ret d) (hd : decode cc pc = .ok (.bastore, 1)) (hi : zin i n k) (ha : ws[q0]? = some (a, aZ (gk G) n f)) (he : upd f k (vp_nar .boolean x) = f') (hw : ws.set q0 (a, aZ (gk G) n f') = ws') (kk : zV G nL (pc + 1) ls st ws') : zV G nL pc ls (.int x :: .int i :: .ref a :: st) ws := by
  obtain ⟨h1, rfl⟩ := hi
  subst he
  subst hw
  exact fun H locs la hP hD hS hl => va_zast C.1.1 C.1.2.1 C.2.1 hP hD hS q0 1 ha rfl h1 hd (fun H1 locs1 hP1 hD1 hS1 => kk H1 locs1 la hP1 hD1 hS1 hl)
theorem z_alen (q0 : Nat) {n : Nat} {f : Nat → Int32} {a : Nat} {v : Int32} (C : zC G cc nL own ret d) (hd : decode cc pc = .ok (.arraylength, 1)) (ha : ws[q0]? = some (a, aI (gk G) n f)) (hv : Int32.ofNat n = v) (kk : zV G nL (pc + 1) ls (.int v :: st) ws) : zV G nL pc ls (.ref a :: st) ws := fun H locs la hP hD hS hl => va_alen C.1.1 C.1.2.1 C.2.1 hP q0 0 ha rfl hv hd (kk H locs la hP hD hS hl)
theorem z_get {index ci N a : Nat} {Cn : String} {T : u_T} {fs : List Value} {v : Value} (q0 k : Nat) (C : zC G cc nL own ret d) (hd : decode cc pc = .ok (.getfield index, 3)) (hc : vwCl[ci]? = some (Cn, T, N)) (hin : ∀ w ∈ u_ws Cn T N, w ∈ lw_tg) (hk : k < N) (hlink : Cond.fieldLink own index (T k).1 (T k).2.1 (T k).2.2.1 ∈ lw_tg) (he : ws[q0]? = some (a, .inr (ci, fs))) (hv : fs[k]? = some v) (kk : zV G nL (pc + 3) ls (v :: st) ws) : zV G nL pc ls (.ref a :: st) ws :=
  fun H locs la hP hD hS hl => va_get C.1.1 C.1.2.1 C.1.2.2.2.2 hin C.1.2.2.2.1 C.2.1 hP q0 he hc k hk (C.1.2.2.2.2 _ hlink) (fun _ h => h) hv hd (kk H locs la hP hD hS hl)
theorem z_put {index ci N a : Nat} {Cn : String} {T : u_T} {fs : List Value} {x : Int32} {ws' : va_W} (q0 k : Nat) (C : zC G cc nL own ret d) (hd : decode cc pc = .ok (.putfield index, 3)) (hc : vwCl[ci]? = some (Cn, T, N)) (hin : ∀ w ∈ u_ws Cn T N, w ∈ lw_tg) (ty0 : Nat → FieldType) (hty : ∀ k, k < N → parseFieldDescriptor (T k).2.2.1 = some (ty0 k)) (hnm : ∀ a, a < N → ∀ b, b < N → a ≠ b → (T a).2.1 ≠ (T b).2.1) (hk : k < N) (hlink : Cond.fieldLink own index (T k).1 (T k).2.1 (T k).2.2.1 ∈ lw_tg) (hfin : (T k).2.2.2 = false) (hti : ty0 k = .int) (he : ws[q0]? = some (a, .inr (ci, fs))) (hlen : k < fs.length) (hw : ws.set q0 (a, .inr (ci, fs.set k (.int x))) = ws') (kk : zV G nL (pc + 3) ls st ws') : zV G nL pc ls (.int x :: .ref a :: st) ws := by
  subst hw
  exact fun H locs la hP hD hS hl => va_put C.1.1 C.1.2.1 C.1.2.2.2.2 hin ty0 hty hnm C.1.2.2.2.1 C.2.1 hP hD hS q0 he hc k hk (C.1.2.2.2.2 _ hlink) (fun _ h => h) hfin (hty k hk) (by rw [hti]; rfl) (by rw [hti]; rfl) hlen hd (fun H1 locs1 hP1 hD1 hS1 => kk H1 locs1 la hP1 hD1 hS1 hl)
theorem z_gets {index t : Nat} {Cn n de : String} (C : zC G cc nL own ret d) (hZ : va_Z Cn n de (.ref t) (gA G) (gs G) (gs G).heap) (hd : decode cc pc = .ok (.getstatic index, 3)) (hw : Cond.fieldLink own index Cn n de ∈ lw_tg) (kk : zV G nL (pc + 3) ls (.ref t :: st) ws) : zV G nL pc ls st ws := fun H locs la hP hD hS hl => va_gets C.1.1 C.1.2.1 hZ hS C.1.2.2.2.1 (C.1.2.2.2.2 _ hw) (fun _ h => h) hd (kk H locs la hP hD hS hl)
theorem z_tld {t k : Nat} {f : Nat → Int32} {i : Int32} (C : zC G cc nL own ret d) (hT : va_T .int t 3 (fun k => .int (f k)) (gA G) (gs G) (gs G).heap) (hd : decode cc pc = .ok (.iaload, 1)) (hi : zin i 3 k) (kk : zV G nL (pc + 1) ls (.int (f k) :: st) ws) : zV G nL pc ls (.int i :: .ref t :: st) ws := by
  obtain ⟨h1, rfl⟩ := hi
  exact fun H locs la hP hD hS hl => va_ti C.1.1 C.1.2.1 hT hS h1 rfl hd (kk H locs la hP hD hS hl)
theorem z_st {st' : List Value} (he : st = st') (k : zV G nL pc ls st' ws) : zV G nL pc ls st ws := he ▸ k
/-- the ends -/
theorem zZ {rv : Option Value} (F : zF G rv ws) {H : Heap} {locs : List Loc} {g : JFrame} (h : W (gp G) (gl G) (ge G) (gR G) (gs G) (gm G) (ga G) (gb G) (gt G) (gc G) H locs 0 0 (MQ (gb G) (gQ G) (ga G) (gs G) 0 0 (gA G)) g) : W (gp G) (gl G) (ge G) (gR G) (gs G) (gm G) (ga G) (gb G) (gt G) (gc G) H locs (gN G).1 (gN G).2 (gZ G) g := by
  rw [F.1.1, F.1.2]
  exact h
theorem z_iret {v : Int32} (C : zC G cc nL own (some .int) d) (hd : decode cc pc = .ok (.ireturn, 1)) (F : zF G (some (.int v)) ws) : zV G nL pc ls [.int v] ws := fun H locs la hP hD hS hl => zZ F (W.iret C.1.1 C.1.2.1 C.2.2.2.2.1 (fun t ht _ => F.2 H locs t hP hS ht) hS.2.2 hd C.2.2.2.1)
theorem z_zret {v : Int32} (C : zC G cc nL own (some .boolean) d) (hd : decode cc pc = .ok (.ireturn, 1)) (hn : narrow .boolean (.int v) = .int v) (F : zF G (some (.int v)) ws) : zV G nL pc ls [.int v] ws := fun H locs la hP hD hS hl => zZ F (W.zret C.1.1 C.1.2.1 C.2.2.2.2.1 hn (fun t ht _ => F.2 H locs t hP hS ht) hS.2.2 hd C.2.2.2.1)
theorem z_lret {v : Int64} (C : zC G cc nL own (some .long) d) (hd : decode cc pc = .ok (.lreturn, 1)) (F : zF G (some (.long v)) ws) : zV G nL pc ls [.long v] ws := fun H locs la hP hD hS hl => zZ F (W.lret C.1.1 C.1.2.1 C.2.2.2.2.1 (fun t ht _ => F.2 H locs t hP hS ht) hS.2.2 hd C.2.2.2.1)
theorem z_vret (C : zC G cc nL own none d) (hd : decode cc pc = .ok (.return_, 1)) (F : zF G none ws) : zV G nL pc ls [] ws := fun H locs la hP hD hS hl => zZ F (W.vret C.1.1 C.1.2.1 C.2.2.2.2.1 (fun t ht _ => F.2 H locs t hP hS ht) hS.2.2 hd C.2.2.2.1)
theorem z_ladd {x y : Int64} (C : zC G cc nL own ret d) (hd : decode cc pc = .ok (.ladd, 1)) (k : zV G nL (pc + 1) ls (.long (x + y) :: st) ws) : zV G nL pc ls (.long y :: .long x :: st) ws := fun H locs la hP hD hS hl => lv_ladd C.1.1 C.1.2.1 hd (k H locs la hP hD hS hl)
theorem z_lmul {x y : Int64} (C : zC G cc nL own ret d) (hd : decode cc pc = .ok (.lmul, 1)) (k : zV G nL (pc + 1) ls (.long (x * y) :: st) ws) : zV G nL pc ls (.long y :: .long x :: st) ws := fun H locs la hP hD hS hl => lv_lmul C.1.1 C.1.2.1 hd (k H locs la hP hD hS hl)
theorem z_lstore {n : Nat} {x : Int64} {ls' : List (Nat × Value)} (C : zC G cc nL own ret d) (hd : decode cc pc = .ok (.lstore n, 2)) (hn : n + 1 < nL) (hl' : (n, Value.long x) :: ls.filter (fun q => !(q.1 == n) && (!(q.1 == n + 1) && !(q.1 + 1 == n && q.2.category == 2))) = ls') (k : zV G nL (pc + 2) ls' st ws) : zV G nL pc ls (.long x :: st) ws := fun H locs _ hP hD hS hl => lv_lstore C.1.1 C.1.2.1 hd hl hn hl' (fun la' h' => k H locs la' hP hD hS h')
end ZROWS
/-- the loops' fuel: 300, in a form that no check unfolds -/
noncomputable def FU : Nat := Classical.choose (⟨300, rfl⟩ : ∃ n : Nat, n = 300)
theorem FU_eq : FU = 300 := Classical.choose_spec (⟨300, rfl⟩ : ∃ n : Nat, n = 300)
theorem FU_lt {j : Nat} (h : j < 300) : j < FU := by rw [FU_eq]; exact h
/-- the pure side's words: a guarded place, names, answers of callees -/
def gd {γ : Type} (i : Int32) (n : Nat) (K : Nat → Option γ) : Option γ := if i < 0 ∨ n ≤ i.toNatClampNeg then none else K i.toNatClampNeg
def nmI {α γ : Type} (x : α) (K : α → Option γ) : Option γ := K x
def b1 {α γ : Type} (o : Option α) (K : α → Option γ) : Option γ := match o with
  | none => none
  | some a => K a
def b2 {α β γ : Type} (o : Option (α × β)) (K : α → β → Option γ) : Option γ := match o with
  | none => none
  | some (a, b) => K a b
def b3 {α β δ γ : Type} (o : Option (α × β × δ)) (K : α → β → δ → Option γ) : Option γ := match o with
  | none => none
  | some (a, b, c) => K a b c
def b4 {α β δ ε γ : Type} (o : Option (α × β × δ × ε)) (K : α → β → δ → ε → Option γ) : Option γ := match o with
  | none => none
  | some (a, b, c, d) => K a b c d
def b5 {α β δ ε ζ γ : Type} (o : Option (α × β × δ × ε × ζ)) (K : α → β → δ → ε → ζ → Option γ) : Option γ := match o with
  | none => none
  | some (a, b, c, d, e) => K a b c d e
def b6 {α β δ ε ζ η γ : Type} (o : Option (α × β × δ × ε × ζ × η)) (K : α → β → δ → ε → ζ → η → Option γ) : Option γ := match o with
  | none => none
  | some (a, b, c, d, e, f) => K a b c d e f
def b7 {α β δ ε ζ η θ γ : Type} (o : Option (α × β × δ × ε × ζ × η × θ)) (K : α → β → δ → ε → ζ → η → θ → Option γ) : Option γ := match o with
  | none => none
  | some (a, b, c, d, e, f, g) => K a b c d e f g
def b8 {α β δ ε ζ η θ ι γ : Type} (o : Option (α × β × δ × ε × ζ × η × θ × ι)) (K : α → β → δ → ε → ζ → η → θ → ι → Option γ) : Option γ := match o with
  | none => none
  | some (a, b, c, d, e, f, g, h) => K a b c d e f g h
def b9 {α β δ ε ζ η θ ι κ γ : Type} (o : Option (α × β × δ × ε × ζ × η × θ × ι × κ)) (K : α → β → δ → ε → ζ → η → θ → ι → κ → Option γ) : Option γ := match o with
  | none => none
  | some (a, b, c, d, e, f, g, h, i) => K a b c d e f g h i
theorem gd_e {γ : Type} {i : Int32} {n : Nat} {K : Nat → Option γ} {r : γ} (h : gd i n K = some r) : ∃ k, zin i n k ∧ K k = some r := by
  unfold gd at h
  split at h
  · cases h
  · exact ⟨_, ⟨by assumption, rfl⟩, h⟩
theorem nm_g {α γ : Type} {x : α} {K : α → Option γ} {r : γ} (h : nmI x K = some r) : ∃ y, x = y ∧ K y = some r := ⟨x, rfl, h⟩
theorem b1_e {α γ : Type} {o : Option α} {K : α → Option γ} {r : γ} (h : b1 o K = some r) : ∃ a, o = some a ∧ K a = some r := by
  cases o with
  | none => cases h
  | some a => exact ⟨a, rfl, h⟩
theorem b2_e {α β γ : Type} {o : Option (α × β)} {K : α → β → Option γ} {r : γ} (h : b2 o K = some r) : ∃ a b, o = some (a, b) ∧ K a b = some r := by
  cases o with
  | none => cases h
  | some a => exact ⟨_, _, rfl, h⟩
theorem b3_e {α β δ γ : Type} {o : Option (α × β × δ)} {K : α → β → δ → Option γ} {r : γ} (h : b3 o K = some r) : ∃ a b c, o = some (a, b, c) ∧ K a b c = some r := by
  cases o with
  | none => cases h
  | some a => exact ⟨_, _, _, rfl, h⟩
theorem b4_e {α β δ ε γ : Type} {o : Option (α × β × δ × ε)} {K : α → β → δ → ε → Option γ} {r : γ} (h : b4 o K = some r) : ∃ a b c d, o = some (a, b, c, d) ∧ K a b c d = some r := by
  cases o with
  | none => cases h
  | some a => exact ⟨_, _, _, _, rfl, h⟩
theorem b5_e {α β δ ε ζ γ : Type} {o : Option (α × β × δ × ε × ζ)} {K : α → β → δ → ε → ζ → Option γ} {r : γ} (h : b5 o K = some r) : ∃ a b c d e, o = some (a, b, c, d, e) ∧ K a b c d e = some r := by
  cases o with
  | none => cases h
  | some a => exact ⟨_, _, _, _, _, rfl, h⟩
theorem b6_e {α β δ ε ζ η γ : Type} {o : Option (α × β × δ × ε × ζ × η)} {K : α → β → δ → ε → ζ → η → Option γ} {r : γ} (h : b6 o K = some r) : ∃ a b c d e f, o = some (a, b, c, d, e, f) ∧ K a b c d e f = some r := by
  cases o with
  | none => cases h
  | some a => exact ⟨_, _, _, _, _, _, rfl, h⟩
theorem b7_e {α β δ ε ζ η θ γ : Type} {o : Option (α × β × δ × ε × ζ × η × θ)} {K : α → β → δ → ε → ζ → η → θ → Option γ} {r : γ} (h : b7 o K = some r) : ∃ a b c d e f g, o = some (a, b, c, d, e, f, g) ∧ K a b c d e f g = some r := by
  cases o with
  | none => cases h
  | some a => exact ⟨_, _, _, _, _, _, _, rfl, h⟩
theorem b8_e {α β δ ε ζ η θ ι γ : Type} {o : Option (α × β × δ × ε × ζ × η × θ × ι)} {K : α → β → δ → ε → ζ → η → θ → ι → Option γ} {r : γ} (h : b8 o K = some r) : ∃ a b c d e f g h, o = some (a, b, c, d, e, f, g, h) ∧ K a b c d e f g h = some r := by
  cases o with
  | none => cases h
  | some a => exact ⟨_, _, _, _, _, _, _, _, rfl, h⟩
theorem b9_e {α β δ ε ζ η θ ι κ γ : Type} {o : Option (α × β × δ × ε × ζ × η × θ × ι × κ)} {K : α → β → δ → ε → ζ → η → θ → ι → κ → Option γ} {r : γ} (h : b9 o K = some r) : ∃ a b c d e f g h i, o = some (a, b, c, d, e, f, g, h, i) ∧ K a b c d e f g h i = some r := by
  cases o with
  | none => cases h
  | some a => exact ⟨_, _, _, _, _, _, _, _, _, rfl, h⟩
def zbo {γ : Type} (v : Int32) (K : Option γ) : Option γ := if v = 0 ∨ v = 1 then K else none
theorem zbo_e {γ : Type} {v : Int32} {K : Option γ} {r : γ} (h : zbo v K = some r) : narrow .boolean (.int v) = .int v ∧ K = some r := by
  unfold zbo at h
  split at h
  · rename_i hv
    rcases hv with rfl | rfl <;> exact ⟨rfl, h⟩
  · cases h
def zdv {γ : Type} (v : Int32) (K : Option γ) : Option γ := if v = 0 then none else K
theorem zdv_e {γ : Type} {v : Int32} {K : Option γ} {r : γ} (h : zdv v K = some r) : ¬ v = 0 ∧ K = some r := by
  unfold zdv at h
  split at h
  · cases h
  · exact ⟨by assumption, h⟩
theorem zin_lt {i : Int32} {n k : Nat} (h : zin i n k) : k < n := by
  obtain ⟨h1, rfl⟩ := h
  exact Nat.not_le.mp fun q => h1 (Or.inr q)
theorem zlt7 {k : Nat} (h : k < 7) : k = 0 ∨ k = 1 ∨ k = 2 ∨ k = 3 ∨ k = 4 ∨ k = 5 ∨ k = 6 := by omega
theorem zlt2 {k : Nat} (h : k < 2) : k = 0 ∨ k = 1 := by omega
theorem ti_ne {x k : Int32} {z : Int} (hk : k.toInt = z) (h : ¬ x = k) : ¬ x.toInt = z := fun q => h (Int32.toInt_inj.mp (q.trans hk.symm))
theorem zne {x z : Int} (h : ¬ x = z) : ¬ z = x := fun q => h q.symm
theorem ifp {γ : Type} {c : Prop} [Decidable c] {a b : Option γ} {r : γ} (hc : c) (h : (if c then a else b) = some r) : a = some r := by
  rw [if_pos hc] at h
  exact h
theorem ifn {γ : Type} {c : Prop} [Decidable c] {a b : Option γ} {r : γ} (hc : ¬ c) (h : (if c then a else b) = some r) : b = some r := by
  rw [if_neg hc] at h
  exact h
/-- the places 'is' of a list, set to the cells of another -/
def zput (ws : va_W) : List Nat → va_W → va_W
  | i :: is, c :: cs => zput (ws.set i c) is cs
  | _, _ => ws
theorem zput_get : ∀ (is : List Nat) (cs ws : va_W), (∀ i ∈ is, i < ws.length) → is.length = cs.length → ∀ (k : Nat) (q : Nat × va_E), (zput ws is cs)[k]? = some q → (∃ j : Nat, is[j]? = some k ∧ cs[j]? = some q) ∨ (k ∉ is ∧ ws[k]? = some q)
  | [], cs, ws, _, _, k, q, h => Or.inr ⟨List.not_mem_nil, by simpa [zput] using h⟩
  | _ :: _, [], _, _, hl, _, _, _ => by cases hl
  | i :: is, c :: cs, ws, hi, hl, k, q, h => by
    have h0 : i < ws.length := hi i List.mem_cons_self
    rcases zput_get is cs (ws.set i c) (fun j hj => by rw [List.length_set]; exact hi j (List.mem_cons_of_mem _ hj)) (Nat.succ.inj hl) k q h with ⟨j, h1, h2⟩ | ⟨h1, h2⟩
    · exact Or.inl ⟨j + 1, by simpa using h1, by simpa using h2⟩
    · by_cases hk : k = i
      · subst hk
        rw [List.getElem?_set_self h0] at h2
        exact Or.inl ⟨0, rfl, h2⟩
      · rw [List.getElem?_set_ne (Ne.symm hk)] at h2
        exact Or.inr ⟨fun hm => (List.mem_cons.mp hm).elim hk h1, h2⟩
theorem zfm : ∀ {is : List Nat} {ws w : va_W}, is.map (fun i => ws[i]?) = w.map some → is.filterMap (fun i => ws[i]?) = w := by
  intro is ws w h
  have h1 : is.filterMap (fun i => ws[i]?) = (is.map (fun i => ws[i]?)).filterMap id := by rw [List.filterMap_map]; rfl
  rw [h1, h, List.filterMap_map]
  simp
theorem zat {is : List Nat} {ws w : va_W} (hs : is.map (fun i => ws[i]?) = w.map some) (j : Nat) : (is[j]?).bind (fun i => ws[i]?) = w[j]? := by
  have h1 : (is.map (fun i => ws[i]?))[j]? = (w.map some)[j]? := by rw [hs]
  rw [List.getElem?_map, List.getElem?_map] at h1
  cases hi : is[j]? with
  | none => rw [hi] at h1; cases hw : w[j]? with
    | none => rfl
    | some q => rw [hw] at h1; cases h1
  | some i => rw [hi] at h1; cases hw : w[j]? with
    | none => rw [hw] at h1; cases h1
    | some q => rw [hw] at h1; exact Option.some.inj h1
theorem zput_P {D : va_G} {cl : List vw_C} {A0 : Nat → Prop} {ws wc w1 : va_W} {H H1 : Heap} {is : List Nat} (hP : va_P D cl ws H) (hD : va_D A0 ws) (hC : is.map (fun i => ws[i]?) = wc.map some) (hf : w1.map Prod.fst = wc.map Prod.fst)
    (hk : ∀ q : Nat, q < H.size → ¬ va_A wc H.size q → H1[q]? = H[q]?) (hP1 : va_P D cl w1 H1) : va_P D cl (zput ws is w1) H1 ∧ va_D A0 (zput ws is w1) := by
  have hlen : is.length = wc.length := by have := congrArg List.length hC; simpa using this
  have hlen1 : w1.length = wc.length := by have := congrArg List.length hf; simpa using this
  have hlt : ∀ i ∈ is, i < ws.length := by
    intro i hi
    obtain ⟨j, hj⟩ := List.getElem?_of_mem hi
    have h1 := zat hC j
    rw [hj] at h1
    have hjl : j < wc.length := by rw [← hlen]; exact (List.getElem?_eq_some_iff.mp hj).1
    rw [List.getElem?_eq_getElem hjl] at h1
    exact (List.getElem?_eq_some_iff.mp (show ws[i]? = some _ from h1)).1
  have hadr : ∀ (k : Nat) (q : Nat × va_E), (zput ws is w1)[k]? = some q → (∃ q0, ws[k]? = some q0 ∧ q0.1 = q.1) ∧ va_at D cl q H1 := by
    intro k q hq
    rcases zput_get is w1 ws hlt (hlen.trans hlen1.symm) k q hq with ⟨j, h1, h2⟩ | ⟨h1, h2⟩
    · refine ⟨?_, hP1 j q h2⟩
      have h3 := zat hC j
      rw [h1] at h3
      have h4 : (w1.map Prod.fst)[j]? = (wc.map Prod.fst)[j]? := by rw [hf]
      rw [List.getElem?_map, List.getElem?_map, h2, ← h3] at h4
      cases hw : ws[k]? with
      | none => rw [show ((some k).bind fun i => ws[i]?) = ws[k]? from rfl, hw] at h4; cases h4
      | some q0 => rw [show ((some k).bind fun i => ws[i]?) = ws[k]? from rfl, hw] at h4; exact ⟨q0, rfl, (Option.some.inj h4).symm⟩
    · refine ⟨⟨q, h2, rfl⟩, (hP k q h2).kept (hk q.1 (hP k q h2).lt ?_)⟩
      rintro (⟨j, e, h3⟩ | h3)
      · have h4 := zat hC j
        rw [h3] at h4
        cases hi : is[j]? with
        | none => rw [hi] at h4; cases h4
        | some i =>
          rw [hi] at h4
          have h5 : ws[i]? = some (q.1, e) := h4
          have := hD.1 k i q (q.1, e) h2 h5 rfl
          subst this
          exact h1 (List.mem_of_getElem? hi)
      · exact absurd (hP k q h2).lt (Nat.not_lt.mpr h3)
  refine ⟨fun k q hq => (hadr k q hq).2, fun i j x y hi hj hxy => ?_, fun k q hq => ?_⟩
  · obtain ⟨⟨x0, h1, h2⟩, -⟩ := hadr i x hi
    obtain ⟨⟨y0, h3, h4⟩, -⟩ := hadr j y hj
    exact hD.1 i j x0 y0 h1 h3 (h2.trans (hxy.trans h4.symm))
  · obtain ⟨⟨q0, h1, h2⟩, -⟩ := hadr k q hq
    rw [← h2]
    exact hD.2 k q0 h1
/-- a contract: from the world ws to the world ws2, with an answer -/
def zB (D : va_G) (cs : ClassId × ClassId × ClassId) (ws : va_W) (sz : Nat) (U : State) : Prop := U.heap.size = sz ∧ va_P D vwCl ws U.heap ∧ va_K D vwCl (TYs cs) U ∧ va_D (fun _ => True) ws ∧ zSt (va_A ws sz) U U.heap
def zM (l : Launch) (D : va_G) (cs : ClassId × ClassId × ClassId) (y : MethodName) (bytes : ByteArray) (maxL : Nat) (ret : Option FieldType) (d : Nat) (As : List Value) (ws : va_W) (rv : Int32) (ws2 : va_W) : Prop :=
  ∀ sz : Nat, Met l y (.code y bytes maxL ret :: lw_tg) (Rmd d) (va_Pc As (zB D cs ws sz)) (va_Qi (fun v (_ : Unit) => v = rv) (fun _ t => va_P D vwCl ws2 t.heap) (va_A ws sz)) 0 0 (va_A ws sz)
def zMv (l : Launch) (D : va_G) (cs : ClassId × ClassId × ClassId) (y : MethodName) (bytes : ByteArray) (maxL : Nat) (ret : Option FieldType) (d : Nat) (As : List Value) (ws : va_W) (ws2 : va_W) : Prop :=
  ∀ sz : Nat, Met l y (.code y bytes maxL ret :: lw_tg) (Rmd d) (va_Pc As (zB D cs ws sz)) (va_Qv (fun (_ : Unit) => True) (fun _ t => va_P D vwCl ws2 t.heap) (va_A ws sz)) 0 0 (va_A ws sz)
def zMl (l : Launch) (D : va_G) (cs : ClassId × ClassId × ClassId) (y : MethodName) (bytes : ByteArray) (maxL : Nat) (ret : Option FieldType) (d : Nat) (As : List Value) (ws : va_W) (rv : Int64) (ws2 : va_W) : Prop :=
  ∀ sz : Nat, Met l y (.code y bytes maxL ret :: lw_tg) (Rmd d) (va_Pc As (zB D cs ws sz)) (va_Ql (fun v (_ : Unit) => v = rv) (fun _ t => va_P D vwCl ws2 t.heap) (va_A ws sz)) 0 0 (va_A ws sz)
theorem zB_blind {D : va_G} {cs : ClassId × ClassId × ClassId} {ws : va_W} {sz : Nat} {As : List Value} : FrameBlind (va_Pc As (zB D cs ws sz)) := fun a U g mk q => by
  obtain ⟨q0, q1, q2, q3, q4, q5⟩ := q
  exact ⟨q0, q1, q2, va_K.moved (u := U) (U := U.calling g mk a) (Vm.Alike.refl U.vm) q3, q4, zSt.moved (u := U) (U := U.calling g mk a) (Vm.Alike.refl U.vm) q5⟩
def zW (own : String) (index : Nat) (y : MethodName) (bytes : ByteArray) (maxL : Nat) (ret : Option FieldType) (n : Nat) : Prop :=
  (Cond.methodLink own index y ∈ lw_tg ∧ Cond.initialized y.cls ∈ lw_tg ∧ Cond.code y bytes maxL ret ∈ lw_tg) ∧ (y.cls ≠ "java/lang/invoke/MethodHandle" ∧ y.cls ≠ "java/lang/invoke/VarHandle" ∧ (parseMethodDescriptor y.desc).map (fun d => d.parameters.length) = some n) ∧ maxL ≤ 11
def zWI (own : String) (index : Nat) (y : MethodName) (bytes : ByteArray) (maxL : Nat) (ret : Option FieldType) (n : Nat) : Prop := zW own index y bytes maxL ret n ∧ Cond.instanceMethod y ∈ lw_tg ∧ Cond.selects y.cls y y ∈ lw_tg
def zWS (own : String) (index : Nat) (y : MethodName) (bytes : ByteArray) (maxL : Nat) (ret : Option FieldType) (n : Nat) : Prop := zW own index y bytes maxL ret n ∧ Cond.static y ∈ lw_tg
theorem zGood {y : MethodName} {bytes : ByteArray} {maxL : Nat} {ret : Option FieldType} (h : Cond.code y bytes maxL ret ∈ lw_tg) : GoodIn lw_tg (.code y bytes maxL ret :: lw_tg) := by
  intro w hw
  rcases List.mem_cons.mp hw with rfl | hw
  · exact ⟨h, (lw_good _ h).2⟩
  · exact ⟨hw, (lw_good _ hw).2⟩
section ZCALL
variable {G : GT} {cc : ByteArray} {nL : Nat} {own : String} {ret : Option FieldType} {d pc : Nat} {ls : List (Nat × Value)} {st stk : List Value} {ws ws2 : va_W}
variable {index n maxL d2 a ci N : Nat} {y : MethodName} {bytes : ByteArray} {ret2 : Option FieldType} {As : List Value} {wc w1 : va_W} {rv : Int32} {fs : List Value} {T : u_T}
theorem zCB {R : Room} {s : State} {args : Array Value} (hR : d ≤ R.frames ∧ 30 * d ≤ R.locals) (hts : ∀ w ∈ lw_tg, w.before args s = true) (w : zW own index y bytes maxL ret2 n) (hlt : d2 < d) : CallB R s args own index y bytes maxL ret2 (.code y bytes maxL ret2 :: lw_tg) (Rmd d2) 0 0 n :=
  callB_of n hts (zGood w.1.2.2) rfl rfl rfl (hts _ w.1.2.1) (hts _ w.1.1) w.2.1 (by have := w.2.2; obtain ⟨h1, h2⟩ := hR; simp only [Rmd]; omega)
theorem z_callV (is : List Nat) (C : zC G cc nL own ret d) (hd : decode cc pc = .ok (.invokevirtual index, 3)) (w : zWI own index y bytes maxL ret2 n) (hM : zM (gl G) (gD G) (gk G) y bytes maxL ret2 d2 (.ref a :: As) wc rv w1) (hlt : d2 < d) (hC : is.map (fun i => ws[i]?) = wc.map some) (hnd : va_nd is = true) (hf : w1.map Prod.fst = wc.map Prod.fst) (hr0 : wc[0]? = some (a, .inr (ci, fs))) (hr1 : vwCl[ci]? = some (y.cls, T, N)) (hn : As.length = n) (hst : stk = As.reverse ++ .ref a :: st) (hcat : (st.map fun v => v.category).sum ≤ 8) (hws : zput ws is w1 = ws2)
    (kk : zV G nL (pc + 3) ls (.int rv :: st) ws2) : zV G nL pc ls stk ws := by
  intro H locs la hP hD hS hl
  subst hst
  subst hws
  have hPc := hP.sub is (zfm hC)
  have hDc := hD.sub is hnd hC
  have hFc := va_free hD hS C.2.2.2.2.2.1 is hC
  refine va_calli (va_runV (As := As) (rest := st) C.1 (hM H.size) ⟨zCB ⟨C.2.2.1.1, C.2.2.1.2.1⟩ C.1.2.2.2.2 w.1 hlt, C.1.2.2.2.2 _ w.2.1, C.1.2.2.2.2 _ w.2.2⟩ ⟨zB_blind, va_recv C.2.1 hPc hr1 hr0, fun U hU hW => ⟨rfl, by rw [hU], by rw [hU]; exact hPc, va_K.moved hW.alike C.2.1, hDc.weaken (fun _ _ _ _ => trivial), by rw [hU]; exact ((C.2.2.2.2.2.2.kept (fun q h1 h2 => hS.2.1 q h1 h2)).narrow hFc).moved hW.alike⟩⟩ rfl hn hl.1 rfl (lv_room hcat) hd ⟨C.2.2.1.2.2.1, C.2.2.1.2.2.2⟩) hS (fun q _ h => hFc q h) hFc (fun r u t H1 locs1 ht hvm hw hB hz1 hk1 hS1 => ?_)
  rw [ht] at hB
  obtain ⟨hP1, hD1⟩ := zput_P hP hD hC hf hk1 hB
  cases hw
  exact kk H1 locs1 la hP1 hD1 hS1 hl
theorem z_callVv (is : List Nat) (C : zC G cc nL own ret d) (hd : decode cc pc = .ok (.invokevirtual index, 3)) (w : zWI own index y bytes maxL ret2 n) (hM : zMv (gl G) (gD G) (gk G) y bytes maxL ret2 d2 (.ref a :: As) wc w1) (hlt : d2 < d) (hC : is.map (fun i => ws[i]?) = wc.map some) (hnd : va_nd is = true) (hf : w1.map Prod.fst = wc.map Prod.fst) (hr0 : wc[0]? = some (a, .inr (ci, fs))) (hr1 : vwCl[ci]? = some (y.cls, T, N)) (hn : As.length = n) (hst : stk = As.reverse ++ .ref a :: st) (hcat : (st.map fun v => v.category).sum ≤ 8) (hws : zput ws is w1 = ws2)
    (kk : zV G nL (pc + 3) ls st ws2) : zV G nL pc ls stk ws := by
  intro H locs la hP hD hS hl
  subst hst
  subst hws
  have hPc := hP.sub is (zfm hC)
  have hDc := hD.sub is hnd hC
  have hFc := va_free hD hS C.2.2.2.2.2.1 is hC
  refine va_callv (va_runV (As := As) (rest := st) C.1 (hM H.size) ⟨zCB ⟨C.2.2.1.1, C.2.2.1.2.1⟩ C.1.2.2.2.2 w.1 hlt, C.1.2.2.2.2 _ w.2.1, C.1.2.2.2.2 _ w.2.2⟩ ⟨zB_blind, va_recv C.2.1 hPc hr1 hr0, fun U hU hW => ⟨rfl, by rw [hU], by rw [hU]; exact hPc, va_K.moved hW.alike C.2.1, hDc.weaken (fun _ _ _ _ => trivial), by rw [hU]; exact ((C.2.2.2.2.2.2.kept (fun q h1 h2 => hS.2.1 q h1 h2)).narrow hFc).moved hW.alike⟩⟩ rfl hn hl.1 rfl (lv_room hcat) hd ⟨C.2.2.1.2.2.1, C.2.2.1.2.2.2⟩) hS (fun q _ h => hFc q h) hFc (fun u t H1 locs1 ht hvm hw hB hz1 hk1 hS1 => ?_)
  rw [ht] at hB
  obtain ⟨hP1, hD1⟩ := zput_P hP hD hC hf hk1 hB
  exact kk H1 locs1 la hP1 hD1 hS1 hl
theorem z_callS (is : List Nat) (C : zC G cc nL own ret d) (hd : decode cc pc = .ok (.invokestatic index, 3)) (w : zWS own index y bytes maxL ret2 n) (hM : zM (gl G) (gD G) (gk G) y bytes maxL ret2 d2 As wc rv w1) (hlt : d2 < d) (hC : is.map (fun i => ws[i]?) = wc.map some) (hnd : va_nd is = true) (hf : w1.map Prod.fst = wc.map Prod.fst) (hn : As.length = n) (hst : stk = As.reverse ++ st) (hcat : (st.map fun v => v.category).sum ≤ 8) (hws : zput ws is w1 = ws2)
    (kk : zV G nL (pc + 3) ls (.int rv :: st) ws2) : zV G nL pc ls stk ws := by
  intro H locs la hP hD hS hl
  subst hst
  subst hws
  have hPc := hP.sub is (zfm hC)
  have hDc := hD.sub is hnd hC
  have hFc := va_free hD hS C.2.2.2.2.2.1 is hC
  refine va_calli (va_runS (As := As) (rest := st) C.1 (hM H.size) ⟨zCB ⟨C.2.2.1.1, C.2.2.1.2.1⟩ C.1.2.2.2.2 w.1 hlt, C.1.2.2.2.2 _ w.2⟩ ⟨zB_blind, fun U hU hW => ⟨rfl, by rw [hU], by rw [hU]; exact hPc, va_K.moved hW.alike C.2.1, hDc.weaken (fun _ _ _ _ => trivial), by rw [hU]; exact ((C.2.2.2.2.2.2.kept (fun q h1 h2 => hS.2.1 q h1 h2)).narrow hFc).moved hW.alike⟩⟩ rfl hn hl.1 rfl (lv_room hcat) hd ⟨C.2.2.1.2.2.1, C.2.2.1.2.2.2⟩) hS (fun q _ h => hFc q h) hFc (fun r u t H1 locs1 ht hvm hw hB hz1 hk1 hS1 => ?_)
  rw [ht] at hB
  obtain ⟨hP1, hD1⟩ := zput_P hP hD hC hf hk1 hB
  cases hw
  exact kk H1 locs1 la hP1 hD1 hS1 hl
theorem z_callSl {rw : Int64} (is : List Nat) (C : zC G cc nL own ret d) (hd : decode cc pc = .ok (.invokestatic index, 3)) (w : zWS own index y bytes maxL ret2 n) (hM : zMl (gl G) (gD G) (gk G) y bytes maxL ret2 d2 As wc rw w1) (hlt : d2 < d) (hC : is.map (fun i => ws[i]?) = wc.map some) (hnd : va_nd is = true) (hf : w1.map Prod.fst = wc.map Prod.fst) (hn : As.length = n) (hst : stk = As.reverse ++ st) (hcat : (st.map fun v => v.category).sum ≤ 8) (hws : zput ws is w1 = ws2)
    (kk : zV G nL (pc + 3) ls (.long rw :: st) ws2) : zV G nL pc ls stk ws := by
  intro H locs la hP hD hS hl
  subst hst
  subst hws
  have hPc := hP.sub is (zfm hC)
  have hDc := hD.sub is hnd hC
  have hFc := va_free hD hS C.2.2.2.2.2.1 is hC
  refine va_calll (va_runS (As := As) (rest := st) C.1 (hM H.size) ⟨zCB ⟨C.2.2.1.1, C.2.2.1.2.1⟩ C.1.2.2.2.2 w.1 hlt, C.1.2.2.2.2 _ w.2⟩ ⟨zB_blind, fun U hU hW => ⟨rfl, by rw [hU], by rw [hU]; exact hPc, va_K.moved hW.alike C.2.1, hDc.weaken (fun _ _ _ _ => trivial), by rw [hU]; exact ((C.2.2.2.2.2.2.kept (fun q h1 h2 => hS.2.1 q h1 h2)).narrow hFc).moved hW.alike⟩⟩ rfl hn hl.1 rfl (lv_room hcat) hd ⟨C.2.2.1.2.2.1, C.2.2.1.2.2.2⟩) hS (fun q _ h => hFc q h) hFc (fun r u t H1 locs1 ht hvm hw hB hz1 hk1 hS1 => ?_)
  rw [ht] at hB
  obtain ⟨hP1, hD1⟩ := zput_P hP hD hC hf hk1 hB
  cases hw
  exact kk H1 locs1 la hP1 hD1 hS1 hl
theorem z_callSv (is : List Nat) (C : zC G cc nL own ret d) (hd : decode cc pc = .ok (.invokestatic index, 3)) (w : zWS own index y bytes maxL ret2 n) (hM : zMv (gl G) (gD G) (gk G) y bytes maxL ret2 d2 As wc w1) (hlt : d2 < d) (hC : is.map (fun i => ws[i]?) = wc.map some) (hnd : va_nd is = true) (hf : w1.map Prod.fst = wc.map Prod.fst) (hn : As.length = n) (hst : stk = As.reverse ++ st) (hcat : (st.map fun v => v.category).sum ≤ 8) (hws : zput ws is w1 = ws2)
    (kk : zV G nL (pc + 3) ls st ws2) : zV G nL pc ls stk ws := by
  intro H locs la hP hD hS hl
  subst hst
  subst hws
  have hPc := hP.sub is (zfm hC)
  have hDc := hD.sub is hnd hC
  have hFc := va_free hD hS C.2.2.2.2.2.1 is hC
  refine va_callv (va_runS (As := As) (rest := st) C.1 (hM H.size) ⟨zCB ⟨C.2.2.1.1, C.2.2.1.2.1⟩ C.1.2.2.2.2 w.1 hlt, C.1.2.2.2.2 _ w.2⟩ ⟨zB_blind, fun U hU hW => ⟨rfl, by rw [hU], by rw [hU]; exact hPc, va_K.moved hW.alike C.2.1, hDc.weaken (fun _ _ _ _ => trivial), by rw [hU]; exact ((C.2.2.2.2.2.2.kept (fun q h1 h2 => hS.2.1 q h1 h2)).narrow hFc).moved hW.alike⟩⟩ rfl hn hl.1 rfl (lv_room hcat) hd ⟨C.2.2.1.2.2.1, C.2.2.1.2.2.2⟩) hS (fun q _ h => hFc q h) hFc (fun u t H1 locs1 ht hvm hw hB hz1 hk1 hS1 => ?_)
  rw [ht] at hB
  obtain ⟨hP1, hD1⟩ := zput_P hP hD hC hf hk1 hB
  exact kk H1 locs1 la hP1 hD1 hS1 hl
theorem zmapall : ∀ (ws : va_W), (List.range ws.length).map (fun i => ws[i]?) = ws.map some := by
  intro ws
  apply List.ext_getElem?
  intro k
  rw [List.getElem?_map, List.getElem?_map]
  by_cases h : k < ws.length
  · rw [List.getElem?_range h]
    show some (ws[k]?) = Option.map some (ws[k]?)
    rw [List.getElem?_eq_getElem h]
    rfl
  · rw [List.getElem?_eq_none (by simpa using h), List.getElem?_eq_none (by omega)]
    rfl
theorem znd_range (n : Nat) : va_nd (List.range n) = true := by
  have key : ∀ (m k : Nat), va_nd (List.range' k m) = true := by
    intro m
    induction m with
    | zero => intro k; rfl
    | succ m ih =>
      intro k
      rw [List.range'_succ]
      simp only [va_nd, Bool.and_eq_true, decide_eq_true_eq]
      refine ⟨fun h => ?_, ih (k + 1)⟩
      have := List.mem_range'_1.mp h
      omega
  rw [List.range_eq_range']
  exact key n 0
theorem zput_all {ws w1 : va_W} (h : w1.length = ws.length) : zput ws (List.range ws.length) w1 = w1 := by
  have hlt : ∀ i ∈ List.range ws.length, i < ws.length := fun i hi => List.mem_range.mp hi
  have hl : (List.range ws.length).length = w1.length := by rw [List.length_range, h]
  have hlen : ∀ (is : List Nat) (cs ws : va_W), (zput ws is cs).length = ws.length := by
    intro is
    induction is with
    | nil => intro cs ws; simp [zput]
    | cons i is ih =>
      intro cs ws
      cases cs with
      | nil => simp [zput]
      | cons c cs => simp [zput, ih]
  apply List.ext_getElem?
  intro k
  cases hk : (zput ws (List.range ws.length) w1)[k]? with
  | none =>
    have := List.getElem?_eq_none_iff.mp hk
    rw [hlen] at this
    exact (List.getElem?_eq_none (by omega)).symm
  | some q =>
    have h0 := (List.getElem?_eq_some_iff.mp hk).1
    rw [hlen] at h0
    rcases zput_get _ w1 ws hlt hl k q hk with ⟨j, h1, h2⟩ | ⟨h1, -⟩
    · have h3 := (List.getElem?_eq_some_iff.mp h1)
      obtain ⟨h4, h5⟩ := h3
      rw [List.getElem_range] at h5
      rw [← h5, h2]
    · exact absurd (List.mem_range.mpr h0) h1
/-- a call over the whole world -/
theorem z_callVs (C : zC G cc nL own ret d) (hd : decode cc pc = .ok (.invokevirtual index, 3)) (w : zWI own index y bytes maxL ret2 n) (hM : zM (gl G) (gD G) (gk G) y bytes maxL ret2 d2 (.ref a :: As) ws rv ws2) (hlt : d2 < d) (hf : ws2.map Prod.fst = ws.map Prod.fst) (hr0 : ws[0]? = some (a, .inr (ci, fs))) (hr1 : vwCl[ci]? = some (y.cls, T, N)) (hn : As.length = n) (hst : stk = As.reverse ++ .ref a :: st) (hcat : (st.map fun v => v.category).sum ≤ 8)
    (kk : zV G nL (pc + 3) ls (.int rv :: st) ws2) : zV G nL pc ls stk ws :=
  z_callV (List.range ws.length) C hd w hM hlt (zmapall ws) (znd_range _) hf hr0 hr1 hn hst hcat (zput_all (by simpa using congrArg List.length hf)) kk
theorem z_callVvs (C : zC G cc nL own ret d) (hd : decode cc pc = .ok (.invokevirtual index, 3)) (w : zWI own index y bytes maxL ret2 n) (hM : zMv (gl G) (gD G) (gk G) y bytes maxL ret2 d2 (.ref a :: As) ws ws2) (hlt : d2 < d) (hf : ws2.map Prod.fst = ws.map Prod.fst) (hr0 : ws[0]? = some (a, .inr (ci, fs))) (hr1 : vwCl[ci]? = some (y.cls, T, N)) (hn : As.length = n) (hst : stk = As.reverse ++ .ref a :: st) (hcat : (st.map fun v => v.category).sum ≤ 8)
    (kk : zV G nL (pc + 3) ls st ws2) : zV G nL pc ls stk ws :=
  z_callVv (List.range ws.length) C hd w hM hlt (zmapall ws) (znd_range _) hf hr0 hr1 hn hst hcat (zput_all (by simpa using congrArg List.length hf)) kk
theorem z_callSs (C : zC G cc nL own ret d) (hd : decode cc pc = .ok (.invokestatic index, 3)) (w : zWS own index y bytes maxL ret2 n) (hM : zM (gl G) (gD G) (gk G) y bytes maxL ret2 d2 As ws rv ws2) (hlt : d2 < d) (hf : ws2.map Prod.fst = ws.map Prod.fst) (hn : As.length = n) (hst : stk = As.reverse ++ st) (hcat : (st.map fun v => v.category).sum ≤ 8)
    (kk : zV G nL (pc + 3) ls (.int rv :: st) ws2) : zV G nL pc ls stk ws :=
  z_callS (List.range ws.length) C hd w hM hlt (zmapall ws) (znd_range _) hf hn hst hcat (zput_all (by simpa using congrArg List.length hf)) kk
theorem z_callSsl {rw : Int64} (C : zC G cc nL own ret d) (hd : decode cc pc = .ok (.invokestatic index, 3)) (w : zWS own index y bytes maxL ret2 n) (hM : zMl (gl G) (gD G) (gk G) y bytes maxL ret2 d2 As ws rw ws2) (hlt : d2 < d) (hf : ws2.map Prod.fst = ws.map Prod.fst) (hn : As.length = n) (hst : stk = As.reverse ++ st) (hcat : (st.map fun v => v.category).sum ≤ 8)
    (kk : zV G nL (pc + 3) ls (.long rw :: st) ws2) : zV G nL pc ls stk ws :=
  z_callSl (List.range ws.length) C hd w hM hlt (zmapall ws) (znd_range _) hf hn hst hcat (zput_all (by simpa using congrArg List.length hf)) kk
def zmx (x y : Int32) : Int32 := if x < y then y else x
def zmn (x y : Int32) : Int32 := if y < x then y else x
def zWM (own : String) (index : Nat) (y : MethodName) (bytes : ByteArray) : Prop := Cond.methodLink own index y ∈ lw_tg ∧ Cond.static y ∈ lw_tg ∧ Cond.initialized "java/lang/Math" ∈ lw_tg ∧ Cond.code y bytes 2 (some .int) ∈ lw_tg
theorem z_mmax {x z : Int32} (C : zC G cc nL own ret d) (hd : decode cc pc = .ok (.invokestatic index, 3)) (w : zWM own index Lib.Math.max.name Lib.Math.max.code) (hlt : 0 < d) (hcat : (st.map fun v => v.category).sum ≤ 8) (kk : zV G nL (pc + 3) ls (.int (zmx x z) :: st) ws) : zV G nL pc ls (.int z :: .int x :: st) ws := fun H locs la hP hD hS hl =>
  va_mmax C.1.1 C.1.2.1 (C.1.2.2.1.trans hl.1.symm) C.1.2.2.2.1 (C.1.2.2.2.2 _ w.1) (C.1.2.2.2.2 _ w.2.1) (C.1.2.2.2.2 _ w.2.2.1) (C.1.2.2.2.2 _ w.2.2.2) (Nat.le_trans hlt C.2.2.1.1) (by have := C.2.2.1.2.1; omega) C.2.2.1.2.2.1 C.2.2.1.2.2.2 hd (kk H locs la hP hD hS hl)
theorem z_mmin {x z : Int32} (C : zC G cc nL own ret d) (hd : decode cc pc = .ok (.invokestatic index, 3)) (w : zWM own index Lib.Math.min.name Lib.Math.min.code) (hlt : 0 < d) (hcat : (st.map fun v => v.category).sum ≤ 8) (kk : zV G nL (pc + 3) ls (.int (zmn x z) :: st) ws) : zV G nL pc ls (.int z :: .int x :: st) ws := fun H locs la hP hD hS hl =>
  va_mmin C.1.1 C.1.2.1 (C.1.2.2.1.trans hl.1.symm) C.1.2.2.2.1 (C.1.2.2.2.2 _ w.1) (C.1.2.2.2.2 _ w.2.1) (C.1.2.2.2.2 _ w.2.2.1) (C.1.2.2.2.2 _ w.2.2.2) (Nat.le_trans hlt C.2.2.1.1) (by have := C.2.2.1.2.1; omega) C.2.2.1.2.2.1 C.2.2.1.2.2.2 hd (kk H locs la hP hD hS hl)
def zWC (own : String) (index : Nat) : Prop := Cond.methodLink own index arraycopyName ∈ lw_tg ∧ Cond.native arraycopyName ∈ lw_tg ∧ Cond.static arraycopyName ∈ lw_tg ∧ Cond.initialized "java/lang/System" ∈ lw_tg
theorem z_copy (q0 q1 : Nat) {n0 n1 a0 a1 s0 d0 c0 : Nat} {f g g2 : Nat → Int32} {sp dp cn : Int32} (C : zC G cc nL own ret d) (hd : decode cc pc = .ok (.invokestatic index, 3)) (w : zWC own index) (hlt : 0 < d) (hcat : (st.map fun v => v.category).sum ≤ 8) (ha0 : ws[q0]? = some (a0, aI (gk G) n0 f)) (ha1 : ws[q1]? = some (a1, aI (gk G) n1 g)) (h1 : ¬ sp < 0 ∧ sp.toNatClampNeg = s0) (h2 : ¬ dp < 0 ∧ dp.toNatClampNeg = d0) (h3 : ¬ cn < 0 ∧ cn.toNatClampNeg = c0) (h4 : s0 + c0 ≤ n0) (h5 : d0 + c0 ≤ n1) (he : va_cpy f g s0 d0 c0 = g2) (hws : ws.set q1 (a1, aI (gk G) n1 g2) = ws2)
    (kk : zV G nL (pc + 3) ls st ws2) : zV G nL pc ls (.int cn :: .int dp :: .ref a1 :: .int sp :: .ref a0 :: st) ws := by
  intro H locs la hP hD hS hl
  obtain ⟨h1, rfl⟩ := h1
  obtain ⟨h2, rfl⟩ := h2
  obtain ⟨h3, rfl⟩ := h3
  subst he
  subst hws
  have hfr : 1 ≤ (gR G).frames := Nat.le_trans hlt C.2.2.1.1
  have hlo : (st.map fun v => v.category).sum + (nativeFrameWords "java/lang/System" "arraycopy" 5 + 11) ≤ (gR G).locals := by
    have h9 : nativeFrameWords "java/lang/System" "arraycopy" 5 + 11 ≤ 22 := by decide +kernel
    have h8 := C.2.2.1.2.1
    omega
  exact va_copyi C.1.1 C.1.2.1 (C.1.2.2.1.trans hl.1.symm) C.1.2.2.2.1 (C.1.2.2.2.2 _ w.1) (C.1.2.2.2.2 _ w.2.1) (C.1.2.2.2.2 _ w.2.2.1) (C.1.2.2.2.2 _ w.2.2.2) C.2.1 hP hD hS q0 q1 0 0 ha0 ha1 rfl rfl rfl h1 h2 h3 h4 h5 (fun _ _ => rfl) hfr hlo hd (fun H1 locs1 hP1 hD1 hS1 => kk H1 locs1 la hP1 hD1 hS1 hl)
end ZCALL
section ZOF
variable {l : Launch} {D : va_G} {cs : ClassId × ClassId × ClassId} {y : MethodName} {bytes : ByteArray} {maxL d : Nat} {ret : Option FieldType} {As : List Value} {ws ws2 : va_W} {rv : Int32}
theorem zM_of (hy : plainName y.cls = true) (ha : (lg_sl As).length ≤ maxL)
    (body : ∀ G : GT, gl G = l → gD G = D → gk G = cs → zC G bytes maxL y.cls ret d → zF G (some (.int rv)) ws2 → zV G maxL 0 (lv_args 0 As) [] ws) : zM l D cs y bytes maxL ret d As ws rv ws2 := by
  intro sz
  refine Met.ofW (cc := bytes) (maxL := maxL) (ret := ret) hy rfl ?_
  intro p e s m args below meth c s₁ B hml hv
  obtain ⟨rfl, hsz, hP, hK, hD0, hSt⟩ := hv
  subst hsz
  have hts := atoms_spec (ws := .code y bytes maxL ret :: lw_tg) B.pre
  have hl := lv_entry As (n := maxL) ha
  rw [lg_entry_eq]
  exact body (p, l, e, Rmd d, s, m, As.toArray, below, meth, c, D, cs, va_A ws s.heap.size, va_Qi (fun v (_ : Unit) => v = rv) (fun _ t => va_P D vwCl ws2 t.heap) (va_A ws s.heap.size), (0, 0), MQ below (va_Qi (fun v (_ : Unit) => v = rv) (fun _ t => va_P D vwCl ws2 t.heap) (va_A ws s.heap.size)) As.toArray s 0 0 (va_A ws s.heap.size)) rfl rfl rfl
    ⟨⟨B.exec, B.bytes, hml, findClass_of_methodNamed B.named, fun w hw => hts w (List.mem_cons_of_mem _ hw)⟩, hK, ⟨Nat.le_refl _, Nat.le_refl _, Nat.zero_le _, Nat.zero_le _⟩, B.notSynchronized, B.returns, fun q h => Or.inr h, hSt⟩
    ⟨⟨rfl, rfl⟩, fun H locs t hP2 hS2 ht => ⟨⟨rv, (), rfl, rfl, by show va_P D vwCl ws2 t.heap; rw [ht]; exact hP2⟩, va_S.F hS2 ht⟩⟩ s.heap [] _ hP (hD0.self) va_S.rf hl
theorem zMv_of (hy : plainName y.cls = true) (ha : (lg_sl As).length ≤ maxL)
    (body : ∀ G : GT, gl G = l → gD G = D → gk G = cs → zC G bytes maxL y.cls ret d → zF G none ws2 → zV G maxL 0 (lv_args 0 As) [] ws) : zMv l D cs y bytes maxL ret d As ws ws2 := by
  intro sz
  refine Met.ofW (cc := bytes) (maxL := maxL) (ret := ret) hy rfl ?_
  intro p e s m args below meth c s₁ B hml hv
  obtain ⟨rfl, hsz, hP, hK, hD0, hSt⟩ := hv
  subst hsz
  have hts := atoms_spec (ws := .code y bytes maxL ret :: lw_tg) B.pre
  have hl := lv_entry As (n := maxL) ha
  rw [lg_entry_eq]
  exact body (p, l, e, Rmd d, s, m, As.toArray, below, meth, c, D, cs, va_A ws s.heap.size, va_Qv (fun (_ : Unit) => True) (fun _ t => va_P D vwCl ws2 t.heap) (va_A ws s.heap.size), (0, 0), MQ below (va_Qv (fun (_ : Unit) => True) (fun _ t => va_P D vwCl ws2 t.heap) (va_A ws s.heap.size)) As.toArray s 0 0 (va_A ws s.heap.size)) rfl rfl rfl
    ⟨⟨B.exec, B.bytes, hml, findClass_of_methodNamed B.named, fun w hw => hts w (List.mem_cons_of_mem _ hw)⟩, hK, ⟨Nat.le_refl _, Nat.le_refl _, Nat.zero_le _, Nat.zero_le _⟩, B.notSynchronized, B.returns, fun q h => Or.inr h, hSt⟩
    ⟨⟨rfl, rfl⟩, fun H locs t hP2 hS2 ht => ⟨⟨(), rfl, trivial, by show va_P D vwCl ws2 t.heap; rw [ht]; exact hP2⟩, va_S.F hS2 ht⟩⟩ s.heap [] _ hP (hD0.self) va_S.rf hl
theorem zMl_of {rv : Int64} (hy : plainName y.cls = true) (ha : (lg_sl As).length ≤ maxL)
    (body : ∀ G : GT, gl G = l → gD G = D → gk G = cs → zC G bytes maxL y.cls ret d → zF G (some (.long rv)) ws2 → zV G maxL 0 (lv_args 0 As) [] ws) : zMl l D cs y bytes maxL ret d As ws rv ws2 := by
  intro sz
  refine Met.ofW (cc := bytes) (maxL := maxL) (ret := ret) hy rfl ?_
  intro p e s m args below meth c s₁ B hml hv
  obtain ⟨rfl, hsz, hP, hK, hD0, hSt⟩ := hv
  subst hsz
  have hts := atoms_spec (ws := .code y bytes maxL ret :: lw_tg) B.pre
  have hl := lv_entry As (n := maxL) ha
  rw [lg_entry_eq]
  exact body (p, l, e, Rmd d, s, m, As.toArray, below, meth, c, D, cs, va_A ws s.heap.size, va_Ql (fun v (_ : Unit) => v = rv) (fun _ t => va_P D vwCl ws2 t.heap) (va_A ws s.heap.size), (0, 0), MQ below (va_Ql (fun v (_ : Unit) => v = rv) (fun _ t => va_P D vwCl ws2 t.heap) (va_A ws s.heap.size)) As.toArray s 0 0 (va_A ws s.heap.size)) rfl rfl rfl
    ⟨⟨B.exec, B.bytes, hml, findClass_of_methodNamed B.named, fun w hw => hts w (List.mem_cons_of_mem _ hw)⟩, hK, ⟨Nat.le_refl _, Nat.le_refl _, Nat.zero_le _, Nat.zero_le _⟩, B.notSynchronized, B.returns, fun q h => Or.inr h, hSt⟩
    ⟨⟨rfl, rfl⟩, fun H locs t hP2 hS2 ht => ⟨⟨rv, (), rfl, rfl, by show va_P D vwCl ws2 t.heap; rw [ht]; exact hP2⟩, va_S.F hS2 ht⟩⟩ s.heap [] _ hP (hD0.self) va_S.rf hl
end ZOF
/-- the worlds -/
abbrev zA : Type := Nat → Int32
def HW (cs : ClassId × ClassId × ClassId) (h r fl : Nat) (row flow : Nat → Int32) : va_W := [(h, .inr (0, [.ref r, .ref fl])), (r, aI cs 125 row), (fl, aI cs 10 flow)]
def PW (cs : ClassId × ClassId × ClassId) (h q : Nat) (codes pf : Nat → Int32) : va_W := [(h, .inr (1, [.ref q, .int (pf 1), .int (pf 2), .int (pf 3), .int (pf 4), .int (pf 5), .int (pf 6)])), (q, aI cs 80 codes)]
def FW (cs : ClassId × ClassId × ClassId) (ad : Nat → Nat) (nr nf tr tf co pf : Nat → Int32) (hi sl : Nat → Nat → Int32) (sv ff : Nat → Int32) : va_W := [(ad 0, .inr (2, [.ref (ad 1), .ref (ad 4), .ref (ad 7), .ref (ad 9), .ref (ad 17), .ref (ad 20), .int (ff 6), .int (ff 7)])), (ad 1, .inr (0, [.ref (ad 2), .ref (ad 3)])), (ad 2, aI cs 125 nr), (ad 3, aI cs 10 nf), (ad 4, .inr (0, [.ref (ad 5), .ref (ad 6)])), (ad 5, aI cs 125 tr), (ad 6, aI cs 10 tf), (ad 7, .inr (1, [.ref (ad 8), .int (pf 1), .int (pf 2), .int (pf 3), .int (pf 4), .int (pf 5), .int (pf 6)])), (ad 8, aI cs 80 co), (ad 9, aQ cs 7 (fun j => if j < 7 then some (ad (10 + j)) else none)), (ad 10, aI cs 125 (hi 0)), (ad 11, aI cs 125 (hi 1)), (ad 12, aI cs 125 (hi 2)), (ad 13, aI cs 125 (hi 3)), (ad 14, aI cs 125 (hi 4)), (ad 15, aI cs 125 (hi 5)), (ad 16, aI cs 125 (hi 6)), (ad 17, aQ cs 2 (fun j => if j < 2 then some (ad (18 + j)) else none)), (ad 18, aI cs 125 (sl 0)), (ad 19, aI cs 125 (sl 1)), (ad 20, aZ cs 2 sv)]
theorem FWf (cs : ClassId × ClassId × ClassId) (ad : Nat → Nat) (nr nf tr tf co pf : zA) (hi sl : Nat → zA) (sv ff : zA) (nr2 nf2 tr2 tf2 co2 pf2 : zA) (hi2 sl2 : Nat → zA) (sv2 ff2 : zA) : (FW cs ad nr nf tr tf co pf hi sl sv ff).map Prod.fst = (FW cs ad nr2 nf2 tr2 tf2 co2 pf2 hi2 sl2 sv2 ff2).map Prod.fst := rfl
/-- a word of the script, or behind its end -/
def cellf (L : Nat) (xs : zA) (k : Int32) : Option Int32 := if nI L ≤ k then some ((957851075 * (k + 1)) + 365160361) else gd k L fun j => some (xs j)
end
section
theorem kc_m1 : Int32.ofInt (-1) = (-1) := by decide +kernel
theorem kc_0 : Int32.ofInt (0) = 0 := by decide +kernel
theorem kc_1 : Int32.ofInt (1) = 1 := by decide +kernel
theorem kc_2 : Int32.ofInt (2) = 2 := by decide +kernel
theorem kc_3 : Int32.ofInt (3) = 3 := by decide +kernel
theorem kc_4 : Int32.ofInt (4) = 4 := by decide +kernel
theorem kc_5 : Int32.ofInt (5) = 5 := by decide +kernel
theorem kb_m6 : (Int8.ofInt (-6)).toInt32 = (-6) := by decide +kernel
theorem kb_m5 : (Int8.ofInt (-5)).toInt32 = (-5) := by decide +kernel
theorem kb_m4 : (Int8.ofInt (-4)).toInt32 = (-4) := by decide +kernel
theorem kb_m2 : (Int8.ofInt (-2)).toInt32 = (-2) := by decide +kernel
theorem kb_6 : (Int8.ofInt (6)).toInt32 = 6 := by decide +kernel
theorem kb_7 : (Int8.ofInt (7)).toInt32 = 7 := by decide +kernel
theorem kb_8 : (Int8.ofInt (8)).toInt32 = 8 := by decide +kernel
theorem kb_9 : (Int8.ofInt (9)).toInt32 = 9 := by decide +kernel
theorem kb_10 : (Int8.ofInt (10)).toInt32 = 10 := by decide +kernel
theorem kb_11 : (Int8.ofInt (11)).toInt32 = 11 := by decide +kernel
theorem kb_12 : (Int8.ofInt (12)).toInt32 = 12 := by decide +kernel
theorem kb_13 : (Int8.ofInt (13)).toInt32 = 13 := by decide +kernel
theorem kb_14 : (Int8.ofInt (14)).toInt32 = 14 := by decide +kernel
theorem kb_16 : (Int8.ofInt (16)).toInt32 = 16 := by decide +kernel
theorem kb_17 : (Int8.ofInt (17)).toInt32 = 17 := by decide +kernel
theorem kb_19 : (Int8.ofInt (19)).toInt32 = 19 := by decide +kernel
theorem kb_20 : (Int8.ofInt (20)).toInt32 = 20 := by decide +kernel
theorem kb_27 : (Int8.ofInt (27)).toInt32 = 27 := by decide +kernel
theorem kb_37 : (Int8.ofInt (37)).toInt32 = 37 := by decide +kernel
theorem kb_40 : (Int8.ofInt (40)).toInt32 = 40 := by decide +kernel
theorem kb_46 : (Int8.ofInt (46)).toInt32 = 46 := by decide +kernel
theorem kb_47 : (Int8.ofInt (47)).toInt32 = 47 := by decide +kernel
theorem kb_57 : (Int8.ofInt (57)).toInt32 = 57 := by decide +kernel
theorem kb_63 : (Int8.ofInt (63)).toInt32 = 63 := by decide +kernel
theorem kb_67 : (Int8.ofInt (67)).toInt32 = 67 := by decide +kernel
theorem kb_77 : (Int8.ofInt (77)).toInt32 = 77 := by decide +kernel
theorem kb_87 : (Int8.ofInt (87)).toInt32 = 87 := by decide +kernel
theorem kb_97 : (Int8.ofInt (97)).toInt32 = 97 := by decide +kernel
theorem kb_99 : (Int8.ofInt (99)).toInt32 = 99 := by decide +kernel
theorem kb_100 : (Int8.ofInt (100)).toInt32 = 100 := by decide +kernel
theorem kb_111 : (Int8.ofInt (111)).toInt32 = 111 := by decide +kernel
theorem kb_125 : (Int8.ofInt (125)).toInt32 = 125 := by decide +kernel
theorem ks_200 : (Int16.ofInt (200)).toInt32 = 200 := by decide +kernel
theorem ks_500 : (Int16.ofInt (500)).toInt32 = 500 := by decide +kernel
theorem ks_9999 : (Int16.ofInt (9999)).toInt32 = 9999 := by decide +kernel
theorem ix_0_125 : zin 0 125 0 := by refine ⟨?_, ?_⟩ <;> first | decide +kernel | (unfold vp_in; decide +kernel)
theorem ix_1_125 : zin 1 125 1 := by refine ⟨?_, ?_⟩ <;> first | decide +kernel | (unfold vp_in; decide +kernel)
theorem ix_2_125 : zin 2 125 2 := by refine ⟨?_, ?_⟩ <;> first | decide +kernel | (unfold vp_in; decide +kernel)
theorem ix_3_125 : zin 3 125 3 := by refine ⟨?_, ?_⟩ <;> first | decide +kernel | (unfold vp_in; decide +kernel)
theorem ix_4_125 : zin 4 125 4 := by refine ⟨?_, ?_⟩ <;> first | decide +kernel | (unfold vp_in; decide +kernel)
theorem ix_5_125 : zin 5 125 5 := by refine ⟨?_, ?_⟩ <;> first | decide +kernel | (unfold vp_in; decide +kernel)
theorem ix_6_125 : zin 6 125 6 := by refine ⟨?_, ?_⟩ <;> first | decide +kernel | (unfold vp_in; decide +kernel)
theorem ix_7_125 : zin 7 125 7 := by refine ⟨?_, ?_⟩ <;> first | decide +kernel | (unfold vp_in; decide +kernel)
theorem ix_8_125 : zin 8 125 8 := by refine ⟨?_, ?_⟩ <;> first | decide +kernel | (unfold vp_in; decide +kernel)
theorem ix_9_125 : zin 9 125 9 := by refine ⟨?_, ?_⟩ <;> first | decide +kernel | (unfold vp_in; decide +kernel)
theorem ix_97_125 : zin 97 125 97 := by refine ⟨?_, ?_⟩ <;> first | decide +kernel | (unfold vp_in; decide +kernel)
theorem ix_111_125 : zin 111 125 111 := by refine ⟨?_, ?_⟩ <;> first | decide +kernel | (unfold vp_in; decide +kernel)
theorem cp_0 : ¬ (0 : Int32) < 0 ∧ (0 : Int32).toNatClampNeg = 0 := by decide +kernel
theorem cp_7 : ¬ (7 : Int32) < 0 ∧ (7 : Int32).toNatClampNeg = 7 := by decide +kernel
theorem cp_9 : ¬ (9 : Int32) < 0 ∧ (9 : Int32).toNatClampNeg = 9 := by decide +kernel
theorem cp_10 : ¬ (10 : Int32) < 0 ∧ (10 : Int32).toNatClampNeg = 10 := by decide +kernel
theorem cp_125 : ¬ (125 : Int32) < 0 ∧ (125 : Int32).toNatClampNeg = 125 := by decide +kernel
theorem kn_125 : Int32.ofNat 125 = 125 := by decide +kernel
theorem gf_X0_11 {G : GT} {cc : ByteArray} {nL : Nat} {ret : Option FieldType} {d pc a : Nat} {ls : List (Nat × Value)} {st fs : List Value} {ws : va_W} {v : Value} (q0 : Nat) (C : zC G cc nL RX0 ret d) (hd : decode cc pc = .ok (.getfield 11, 3)) (he : ws[q0]? = some (a, .inr (0, fs))) (hv : fs[0]? = some v) (kk : zV G nL (pc + 3) ls (v :: st) ws) : zV G nL pc ls (.ref a :: st) ws := z_get q0 0 C hd (ci := 0) rfl in_X0 (by decide) tw_25 he hv kk
theorem gf_X0_15 {G : GT} {cc : ByteArray} {nL : Nat} {ret : Option FieldType} {d pc a : Nat} {ls : List (Nat × Value)} {st fs : List Value} {ws : va_W} {v : Value} (q0 : Nat) (C : zC G cc nL RX0 ret d) (hd : decode cc pc = .ok (.getfield 15, 3)) (he : ws[q0]? = some (a, .inr (0, fs))) (hv : fs[1]? = some v) (kk : zV G nL (pc + 3) ls (v :: st) ws) : zV G nL pc ls (.ref a :: st) ws := z_get q0 1 C hd (ci := 0) rfl in_X0 (by decide) tw_104 he hv kk
theorem gf_X1_15 {G : GT} {cc : ByteArray} {nL : Nat} {ret : Option FieldType} {d pc a : Nat} {ls : List (Nat × Value)} {st fs : List Value} {ws : va_W} {v : Value} (q0 : Nat) (C : zC G cc nL RX1 ret d) (hd : decode cc pc = .ok (.getfield 15, 3)) (he : ws[q0]? = some (a, .inr (1, fs))) (hv : fs[1]? = some v) (kk : zV G nL (pc + 3) ls (v :: st) ws) : zV G nL pc ls (.ref a :: st) ws := z_get q0 1 C hd (ci := 1) rfl in_X1 (by decide) tw_184 he hv kk
theorem gf_X2_12 {G : GT} {cc : ByteArray} {nL : Nat} {ret : Option FieldType} {d pc a : Nat} {ls : List (Nat × Value)} {st fs : List Value} {ws : va_W} {v : Value} (q0 : Nat) (C : zC G cc nL RX2 ret d) (hd : decode cc pc = .ok (.getfield 12, 3)) (he : ws[q0]? = some (a, .inr (2, fs))) (hv : fs[0]? = some v) (kk : zV G nL (pc + 3) ls (v :: st) ws) : zV G nL pc ls (.ref a :: st) ws := z_get q0 0 C hd (ci := 2) rfl in_X2 (by decide) tw_13 he hv kk
theorem gf_X2_16 {G : GT} {cc : ByteArray} {nL : Nat} {ret : Option FieldType} {d pc a : Nat} {ls : List (Nat × Value)} {st fs : List Value} {ws : va_W} {v : Value} (q0 : Nat) (C : zC G cc nL RX2 ret d) (hd : decode cc pc = .ok (.getfield 16, 3)) (he : ws[q0]? = some (a, .inr (2, fs))) (hv : fs[1]? = some v) (kk : zV G nL (pc + 3) ls (v :: st) ws) : zV G nL pc ls (.ref a :: st) ws := z_get q0 1 C hd (ci := 2) rfl in_X2 (by decide) tw_256 he hv kk
theorem gf_X2_22 {G : GT} {cc : ByteArray} {nL : Nat} {ret : Option FieldType} {d pc a : Nat} {ls : List (Nat × Value)} {st fs : List Value} {ws : va_W} {v : Value} (q0 : Nat) (C : zC G cc nL RX2 ret d) (hd : decode cc pc = .ok (.getfield 22, 3)) (he : ws[q0]? = some (a, .inr (2, fs))) (hv : fs[2]? = some v) (kk : zV G nL (pc + 3) ls (v :: st) ws) : zV G nL pc ls (.ref a :: st) ws := z_get q0 2 C hd (ci := 2) rfl in_X2 (by decide) tw_178 he hv kk
theorem gf_X2_28 {G : GT} {cc : ByteArray} {nL : Nat} {ret : Option FieldType} {d pc a : Nat} {ls : List (Nat × Value)} {st fs : List Value} {ws : va_W} {v : Value} (q0 : Nat) (C : zC G cc nL RX2 ret d) (hd : decode cc pc = .ok (.getfield 28, 3)) (he : ws[q0]? = some (a, .inr (2, fs))) (hv : fs[3]? = some v) (kk : zV G nL (pc + 3) ls (v :: st) ws) : zV G nL pc ls (.ref a :: st) ws := z_get q0 3 C hd (ci := 2) rfl in_X2 (by decide) tw_18 he hv kk
theorem gf_X2_31 {G : GT} {cc : ByteArray} {nL : Nat} {ret : Option FieldType} {d pc a : Nat} {ls : List (Nat × Value)} {st fs : List Value} {ws : va_W} {v : Value} (q0 : Nat) (C : zC G cc nL RX2 ret d) (hd : decode cc pc = .ok (.getfield 31, 3)) (he : ws[q0]? = some (a, .inr (2, fs))) (hv : fs[4]? = some v) (kk : zV G nL (pc + 3) ls (v :: st) ws) : zV G nL pc ls (.ref a :: st) ws := z_get q0 4 C hd (ci := 2) rfl in_X2 (by decide) tw_278 he hv kk
theorem gf_X2_34 {G : GT} {cc : ByteArray} {nL : Nat} {ret : Option FieldType} {d pc a : Nat} {ls : List (Nat × Value)} {st fs : List Value} {ws : va_W} {v : Value} (q0 : Nat) (C : zC G cc nL RX2 ret d) (hd : decode cc pc = .ok (.getfield 34, 3)) (he : ws[q0]? = some (a, .inr (2, fs))) (hv : fs[5]? = some v) (kk : zV G nL (pc + 3) ls (v :: st) ws) : zV G nL pc ls (.ref a :: st) ws := z_get q0 5 C hd (ci := 2) rfl in_X2 (by decide) tw_279 he hv kk
theorem gf_X2_38 {G : GT} {cc : ByteArray} {nL : Nat} {ret : Option FieldType} {d pc a : Nat} {ls : List (Nat × Value)} {st fs : List Value} {ws : va_W} {v : Value} (q0 : Nat) (C : zC G cc nL RX2 ret d) (hd : decode cc pc = .ok (.getfield 38, 3)) (he : ws[q0]? = some (a, .inr (2, fs))) (hv : fs[6]? = some v) (kk : zV G nL (pc + 3) ls (v :: st) ws) : zV G nL pc ls (.ref a :: st) ws := z_get q0 6 C hd (ci := 2) rfl in_X2 (by decide) tw_19 he hv kk
theorem gf_X2_42 {G : GT} {cc : ByteArray} {nL : Nat} {ret : Option FieldType} {d pc a : Nat} {ls : List (Nat × Value)} {st fs : List Value} {ws : va_W} {v : Value} (q0 : Nat) (C : zC G cc nL RX2 ret d) (hd : decode cc pc = .ok (.getfield 42, 3)) (he : ws[q0]? = some (a, .inr (2, fs))) (hv : fs[7]? = some v) (kk : zV G nL (pc + 3) ls (v :: st) ws) : zV G nL pc ls (.ref a :: st) ws := z_get q0 7 C hd (ci := 2) rfl in_X2 (by decide) tw_49 he hv kk
theorem pf_X2_38 {G : GT} {cc : ByteArray} {nL : Nat} {ret : Option FieldType} {d pc a : Nat} {ls : List (Nat × Value)} {st fs : List Value} {ws ws' : va_W} {x : Int32} (q0 : Nat) (C : zC G cc nL RX2 ret d) (hd : decode cc pc = .ok (.putfield 38, 3)) (he : ws[q0]? = some (a, .inr (2, fs))) (hlen : 6 < fs.length) (hw : ws.set q0 (a, .inr (2, fs.set 6 (.int x))) = ws') (kk : zV G nL (pc + 3) ls st ws') : zV G nL pc ls (.int x :: .ref a :: st) ws := z_put q0 6 C hd (ci := 2) rfl in_X2 tyX2 tyX2_ok nmX2 (by decide) tw_19 rfl rfl he hlen hw kk
theorem pf_X2_42 {G : GT} {cc : ByteArray} {nL : Nat} {ret : Option FieldType} {d pc a : Nat} {ls : List (Nat × Value)} {st fs : List Value} {ws ws' : va_W} {x : Int32} (q0 : Nat) (C : zC G cc nL RX2 ret d) (hd : decode cc pc = .ok (.putfield 42, 3)) (he : ws[q0]? = some (a, .inr (2, fs))) (hlen : 7 < fs.length) (hw : ws.set q0 (a, .inr (2, fs.set 7 (.int x))) = ws') (kk : zV G nL (pc + 3) ls st ws') : zV G nL pc ls (.int x :: .ref a :: st) ws := z_put q0 7 C hd (ci := 2) rfl in_X2 tyX2 tyX2_ok nmX2 (by decide) tw_49 rfl rfl he hlen hw kk
theorem w_J7_13 : zWS RJ7 13 yJ7_rangeCheck_23922 cJ7_rangeCheck_23922 3 none 3 := ⟨⟨⟨tw_311, tw_111, tw_313⟩, by decide +kernel, by decide⟩, tw_312⟩
theorem w_L_10 : zWS RL 10 yL_low cL_low 2 (some .int) 2 := ⟨⟨⟨tw_5, tw_7, tw_3⟩, by decide +kernel, by decide⟩, tw_6⟩
theorem w_L_16 : zWI RL 16 yX2_board cX2_board 4 (some .int) 3 := ⟨⟨⟨tw_8, tw_11, tw_12⟩, by decide +kernel, by decide⟩, tw_9, tw_10⟩
theorem w_L_22 : zWI RL 22 yX2_load cX2_load 3 (some .int) 2 := ⟨⟨⟨tw_54, tw_11, tw_57⟩, by decide +kernel, by decide⟩, tw_55, tw_56⟩
theorem w_L_25 : zWI RL 25 yX2_fuse cX2_fuse 4 (some .int) 3 := ⟨⟨⟨tw_62, tw_11, tw_65⟩, by decide +kernel, by decide⟩, tw_63, tw_64⟩
theorem w_L_28 : zWI RL 28 yX2_set cX2_set 3 (some .int) 2 := ⟨⟨⟨tw_70, tw_11, tw_73⟩, by decide +kernel, by decide⟩, tw_71, tw_72⟩
theorem w_L_31 : zWI RL 31 yX2_turn cX2_turn 2 (some .int) 1 := ⟨⟨⟨tw_80, tw_11, tw_83⟩, by decide +kernel, by decide⟩, tw_81, tw_82⟩
theorem w_L_35 : zWI RL 35 yX2_pass cX2_pass 2 (some .int) 1 := ⟨⟨⟨tw_92, tw_11, tw_95⟩, by decide +kernel, by decide⟩, tw_93, tw_94⟩
theorem w_L_38 : zWI RL 38 yX2_count cX2_count 2 (some .int) 1 := ⟨⟨⟨tw_174, tw_11, tw_177⟩, by decide +kernel, by decide⟩, tw_175, tw_176⟩
theorem w_L_41 : zWI RL 41 yX2_of cX2_of 3 (some .int) 2 := ⟨⟨⟨tw_205, tw_11, tw_208⟩, by decide +kernel, by decide⟩, tw_206, tw_207⟩
theorem w_L_44 : zWI RL 44 yX2_fed cX2_fed 2 (some .int) 1 := ⟨⟨⟨tw_218, tw_11, tw_221⟩, by decide +kernel, by decide⟩, tw_219, tw_220⟩
theorem w_L_47 : zWI RL 47 yX2_ofLoad cX2_ofLoad 3 (some .int) 2 := ⟨⟨⟨tw_223, tw_11, tw_226⟩, by decide +kernel, by decide⟩, tw_224, tw_225⟩
theorem w_L_51 : zWI RL 51 yX2_ifOpen cX2_ifOpen 2 (some .int) 1 := ⟨⟨⟨tw_233, tw_11, tw_236⟩, by decide +kernel, by decide⟩, tw_234, tw_235⟩
theorem w_L_54 : zWI RL 54 yX2_blown cX2_blown 2 (some .int) 1 := ⟨⟨⟨tw_238, tw_11, tw_241⟩, by decide +kernel, by decide⟩, tw_239, tw_240⟩
theorem w_L_57 : zWS RL 57 yL_boards cL_boards 11 (some .boolean) 1 := ⟨⟨⟨tw_246, tw_7, tw_232⟩, by decide +kernel, by decide⟩, tw_247⟩
theorem w_L_65 : zWI RL 65 yX2_next cX2_next 2 (some .int) 1 := ⟨⟨⟨tw_252, tw_11, tw_255⟩, by decide +kernel, by decide⟩, tw_253, tw_254⟩
theorem w_L_68 : zWS RL 68 yL_print cL_print 4 (some .long) 1 := ⟨⟨⟨tw_272, tw_7, tw_251⟩, by decide +kernel, by decide⟩, tw_273⟩
theorem w_L_72 : zWI RL 72 yX2_save cX2_save 2 (some .int) 1 := ⟨⟨⟨tw_274, tw_11, tw_277⟩, by decide +kernel, by decide⟩, tw_275, tw_276⟩
theorem w_L_75 : zWI RL 75 yX2_restore cX2_restore 2 (some .int) 1 := ⟨⟨⟨tw_287, tw_11, tw_290⟩, by decide +kernel, by decide⟩, tw_288, tw_289⟩
theorem w_L_78 : zWI RL 78 yX2_test cX2_test 4 (some .int) 3 := ⟨⟨⟨tw_296, tw_11, tw_299⟩, by decide +kernel, by decide⟩, tw_297, tw_298⟩
theorem w_L_81 : zWI RL 81 yX2_unfair cX2_unfair 5 (some .int) 1 := ⟨⟨⟨tw_315, tw_11, tw_318⟩, by decide +kernel, by decide⟩, tw_316, tw_317⟩
theorem w_L_85 : zWS RL 85 yL_hangs cL_hangs 5 (some .boolean) 1 := ⟨⟨⟨tw_353, tw_7, tw_248⟩, by decide +kernel, by decide⟩, tw_354⟩
theorem w_L_88 : zWS RL 88 yL_goes cL_goes 8 (some .boolean) 1 := ⟨⟨⟨tw_355, tw_7, tw_295⟩, by decide +kernel, by decide⟩, tw_356⟩
theorem w_L_91 : zWS RL 91 yL_faults cL_faults 5 (some .boolean) 2 := ⟨⟨⟨tw_357, tw_7, tw_323⟩, by decide +kernel, by decide⟩, tw_358⟩
theorem w_L_99 : zWS RL 99 yL_act cL_act 5 (some .int) 3 := ⟨⟨⟨tw_361, tw_7, tw_172⟩, by decide +kernel, by decide⟩, tw_362⟩
theorem w_L_103 : zWI RL 103 yX2_undo cX2_undo 1 (some .int) 0 := ⟨⟨⟨tw_363, tw_11, tw_366⟩, by decide +kernel, by decide⟩, tw_364, tw_365⟩
theorem w_L_107 : zWS RL 107 yL_tests cL_tests 10 (some .boolean) 3 := ⟨⟨⟨tw_367, tw_7, tw_314⟩, by decide +kernel, by decide⟩, tw_368⟩
theorem w_X0_24 : zWI RX0 24 yX0_isBoard cX0_isBoard 2 (some .boolean) 1 := ⟨⟨⟨tw_34, tw_23, tw_37⟩, by decide +kernel, by decide⟩, tw_35, tw_36⟩
theorem w_X0_34 : zWS RX0 34 yX0_isFuse cX0_isFuse 2 (some .boolean) 2 := ⟨⟨⟨tw_38, tw_23, tw_40⟩, by decide +kernel, by decide⟩, tw_39⟩
theorem w_X0_38 : zWI RX0 38 yX0_putNewFuse cX0_putNewFuse 4 none 3 := ⟨⟨⟨tw_41, tw_23, tw_44⟩, by decide +kernel, by decide⟩, tw_42, tw_43⟩
theorem w_X0_42 : zWI RX0 42 yX0_isLoad cX0_isLoad 2 (some .boolean) 1 := ⟨⟨⟨tw_88, tw_23, tw_91⟩, by decide +kernel, by decide⟩, tw_89, tw_90⟩
theorem w_X0_45 : zWI RX0 45 yX0_tick cX0_tick 3 (some .int) 0 := ⟨⟨⟨tw_100, tw_23, tw_103⟩, by decide +kernel, by decide⟩, tw_101, tw_102⟩
theorem w_X0_49 : zWS RX0 49 yJ6_bitCount_0f7a4 cJ6_bitCount_0f7a4 1 (some .int) 1 := ⟨⟨⟨tw_165, tw_167, tw_168⟩, by decide +kernel, by decide⟩, tw_166⟩
theorem w_X0_55 : zWS RX0 55 yJ7_fill_fda19 cJ7_fill_fda19 5 none 4 := ⟨⟨⟨tw_308, tw_111, tw_310⟩, by decide +kernel, by decide⟩, tw_309⟩
theorem w_X0_61 : zWI RX0 61 yX0_addUpCurrents cX0_addUpCurrents 4 none 0 := ⟨⟨⟨tw_105, tw_23, tw_108⟩, by decide +kernel, by decide⟩, tw_106, tw_107⟩
theorem w_X0_64 : zWI RX0 64 yX0_burnArcs cX0_burnArcs 2 none 0 := ⟨⟨⟨tw_121, tw_23, tw_124⟩, by decide +kernel, by decide⟩, tw_122, tw_123⟩
theorem w_X0_67 : zWI RX0 67 yX0_state cX0_state 2 (some .int) 1 := ⟨⟨⟨tw_125, tw_23, tw_128⟩, by decide +kernel, by decide⟩, tw_126, tw_127⟩
theorem w_X0_70 : zWI RX0 70 yX0_warm cX0_warm 7 none 2 := ⟨⟨⟨tw_129, tw_23, tw_132⟩, by decide +kernel, by decide⟩, tw_130, tw_131⟩
theorem w_X0_74 : zWI RX0 74 yX0_molten cX0_molten 3 (some .int) 0 := ⟨⟨⟨tw_142, tw_23, tw_145⟩, by decide +kernel, by decide⟩, tw_143, tw_144⟩
theorem w_X0_77 : zWI RX0 77 yX0_nearestOf cX0_nearestOf 4 (some .int) 1 := ⟨⟨⟨tw_153, tw_23, tw_156⟩, by decide +kernel, by decide⟩, tw_154, tw_155⟩
theorem w_X0_80 : zWI RX0 80 yX0_blow cX0_blow 2 none 1 := ⟨⟨⟨tw_161, tw_23, tw_164⟩, by decide +kernel, by decide⟩, tw_162, tw_163⟩
theorem w_X0_84 : zWS RX0 84 yJ7_fill_53178 cJ7_fill_53178 4 none 2 := ⟨⟨⟨tw_109, tw_111, tw_112⟩, by decide +kernel, by decide⟩, tw_110⟩
theorem w_X0_87 : zWI RX0 87 yX0_deadBoards cX0_deadBoards 3 (some .int) 0 := ⟨⟨⟨tw_113, tw_23, tw_116⟩, by decide +kernel, by decide⟩, tw_114, tw_115⟩
theorem w_X0_90 : zWI RX0 90 yX0_addFlow cX0_addFlow 3 none 2 := ⟨⟨⟨tw_117, tw_23, tw_120⟩, by decide +kernel, by decide⟩, tw_118, tw_119⟩
theorem w_X0_103 : zWI RX0 103 yX0_creep cX0_creep 2 none 1 := ⟨⟨⟨tw_138, tw_23, tw_141⟩, by decide +kernel, by decide⟩, tw_139, tw_140⟩
theorem w_X0_106 : zWI RX0 106 yX0_meltingHeat cX0_meltingHeat 4 (some .int) 1 := ⟨⟨⟨tw_146, tw_23, tw_149⟩, by decide +kernel, by decide⟩, tw_147, tw_148⟩
theorem w_X0_109 : zWI RX0 109 yX0_fedThrough cX0_fedThrough 4 (some .int) 1 := ⟨⟨⟨tw_157, tw_23, tw_160⟩, by decide +kernel, by decide⟩, tw_158, tw_159⟩
theorem w_X0_112 : zWI RX0 112 yX0_current cX0_current 2 (some .int) 1 := ⟨⟨⟨tw_201, tw_23, tw_204⟩, by decide +kernel, by decide⟩, tw_202, tw_203⟩
theorem w_X0_115 : zWI RX0 115 yX0_boardsAhead cX0_boardsAhead 5 (some .int) 1 := ⟨⟨⟨tw_214, tw_23, tw_217⟩, by decide +kernel, by decide⟩, tw_215, tw_216⟩
theorem w_X0_118 : zWI RX0 118 yX0_allBoards cX0_allBoards 1 (some .int) 0 := ⟨⟨⟨tw_189, tw_23, tw_192⟩, by decide +kernel, by decide⟩, tw_190, tw_191⟩
theorem w_X0_121 : zWI RX0 121 yX0_workingLoadsAt cX0_workingLoadsAt 5 (some .int) 1 := ⟨⟨⟨tw_193, tw_23, tw_196⟩, by decide +kernel, by decide⟩, tw_194, tw_195⟩
theorem w_X0_124 : zWI RX0 124 yX0_burningBoards cX0_burningBoards 3 (some .int) 0 := ⟨⟨⟨tw_197, tw_23, tw_200⟩, by decide +kernel, by decide⟩, tw_198, tw_199⟩
theorem w_X0_127 : zWS RX0 127 yX0_heatFactor cX0_heatFactor 1 (some .int) 1 := ⟨⟨⟨tw_150, tw_23, tw_152⟩, by decide +kernel, by decide⟩, tw_151⟩
theorem w_X2_45 : zWI RX2 45 yX2_noteState cX2_noteState 1 none 0 := ⟨⟨⟨tw_14, tw_11, tw_17⟩, by decide +kernel, by decide⟩, tw_15, tw_16⟩
theorem w_X2_48 : zWI RX2 48 yX0_changeSetting cX0_changeSetting 4 (some .int) 2 := ⟨⟨⟨tw_74, tw_23, tw_77⟩, by decide +kernel, by decide⟩, tw_75, tw_76⟩
theorem w_X2_52 : zWI RX2 52 yX2_keepUnlessError cX2_keepUnlessError 2 (some .int) 1 := ⟨⟨⟨tw_45, tw_11, tw_48⟩, by decide +kernel, by decide⟩, tw_46, tw_47⟩
theorem w_X2_56 : zWI RX2 56 yX0_addBoard cX0_addBoard 5 (some .int) 3 := ⟨⟨⟨tw_30, tw_23, tw_33⟩, by decide +kernel, by decide⟩, tw_31, tw_32⟩
theorem w_X2_60 : zWI RX2 60 yX0_addLoad cX0_addLoad 4 (some .int) 2 := ⟨⟨⟨tw_58, tw_23, tw_61⟩, by decide +kernel, by decide⟩, tw_59, tw_60⟩
theorem w_X2_63 : zWI RX2 63 yX0_switchLoad cX0_switchLoad 2 (some .int) 1 := ⟨⟨⟨tw_84, tw_23, tw_87⟩, by decide +kernel, by decide⟩, tw_85, tw_86⟩
theorem w_X2_66 : zWI RX2 66 yX0_changeFuse cX0_changeFuse 5 (some .int) 3 := ⟨⟨⟨tw_66, tw_23, tw_69⟩, by decide +kernel, by decide⟩, tw_67, tw_68⟩
theorem w_X2_69 : zWI RX2 69 yX0_letPass cX0_letPass 4 (some .int) 1 := ⟨⟨⟨tw_96, tw_23, tw_99⟩, by decide +kernel, by decide⟩, tw_97, tw_98⟩
theorem w_X2_72 : zWI RX2 72 yX0_isBoard cX0_isBoard 2 (some .boolean) 1 := ⟨⟨⟨tw_209, tw_23, tw_37⟩, by decide +kernel, by decide⟩, tw_35, tw_36⟩
theorem w_X2_76 : zWI RX2 76 yX0_aboutBoard cX0_aboutBoard 3 (some .int) 2 := ⟨⟨⟨tw_210, tw_23, tw_213⟩, by decide +kernel, by decide⟩, tw_211, tw_212⟩
theorem w_X2_79 : zWI RX2 79 yX0_isLoad cX0_isLoad 2 (some .boolean) 1 := ⟨⟨⟨tw_227, tw_23, tw_91⟩, by decide +kernel, by decide⟩, tw_89, tw_90⟩
theorem w_X2_82 : zWI RX2 82 yX0_aboutLoad cX0_aboutLoad 3 (some .int) 2 := ⟨⟨⟨tw_228, tw_23, tw_231⟩, by decide +kernel, by decide⟩, tw_229, tw_230⟩
theorem w_X2_85 : zWI RX2 85 yX0_fedThrough cX0_fedThrough 4 (some .int) 1 := ⟨⟨⟨tw_222, tw_23, tw_160⟩, by decide +kernel, by decide⟩, tw_158, tw_159⟩
theorem w_X2_88 : zWI RX2 88 yX0_latestBlown cX0_latestBlown 2 (some .int) 1 := ⟨⟨⟨tw_242, tw_23, tw_245⟩, by decide +kernel, by decide⟩, tw_243, tw_244⟩
theorem w_X2_91 : zWI RX2 91 yX1_length cX1_length 1 (some .int) 0 := ⟨⟨⟨tw_179, tw_182, tw_183⟩, by decide +kernel, by decide⟩, tw_180, tw_181⟩
theorem w_X2_95 : zWI RX2 95 yX0_aboutHouse cX0_aboutHouse 2 (some .int) 1 := ⟨⟨⟨tw_185, tw_23, tw_188⟩, by decide +kernel, by decide⟩, tw_186, tw_187⟩
theorem w_X2_98 : zWS RX2 98 yX2_isTrialQuestion cX2_isTrialQuestion 1 (some .boolean) 1 := ⟨⟨⟨tw_257, tw_11, tw_259⟩, by decide +kernel, by decide⟩, tw_258⟩
theorem w_X2_101 : zWI RX2 101 yX0_copyFrom cX0_copyFrom 2 none 1 := ⟨⟨⟨tw_260, tw_23, tw_263⟩, by decide +kernel, by decide⟩, tw_261, tw_262⟩
theorem w_X2_105 : zWI RX2 105 yX2_firstBlow cX2_firstBlow 4 (some .int) 1 := ⟨⟨⟨tw_264, tw_11, tw_267⟩, by decide +kernel, by decide⟩, tw_265, tw_266⟩
theorem w_X2_108 : zWI RX2 108 yX2_tryFault cX2_tryFault 4 (some .int) 3 := ⟨⟨⟨tw_300, tw_11, tw_303⟩, by decide +kernel, by decide⟩, tw_301, tw_302⟩
theorem w_X2_111 : zWI RX2 111 yX0_boards cX0_boards 1 (some .int) 0 := ⟨⟨⟨tw_283, tw_23, tw_286⟩, by decide +kernel, by decide⟩, tw_284, tw_285⟩
theorem w_X2_114 : zWI RX2 114 yX0_rating cX0_rating 2 (some .int) 1 := ⟨⟨⟨tw_319, tw_23, tw_322⟩, by decide +kernel, by decide⟩, tw_320, tw_321⟩
theorem w_X2_117 : zWI RX2 117 yX0_workingLoadsAt cX0_workingLoadsAt 5 (some .int) 1 := ⟨⟨⟨tw_237, tw_23, tw_196⟩, by decide +kernel, by decide⟩, tw_194, tw_195⟩
theorem w_X2_140 : zWI RX2 140 yX0_readFrom cX0_readFrom 2 none 1 := ⟨⟨⟨tw_291, tw_23, tw_294⟩, by decide +kernel, by decide⟩, tw_292, tw_293⟩
theorem w_X2_144 : zWS RX2 144 yX2_isSlot cX2_isSlot 1 (some .boolean) 1 := ⟨⟨⟨tw_280, tw_11, tw_282⟩, by decide +kernel, by decide⟩, tw_281⟩
theorem w_X2_147 : zWI RX2 147 yX0_writeTo cX0_writeTo 2 none 1 := ⟨⟨⟨tw_20, tw_23, tw_24⟩, by decide +kernel, by decide⟩, tw_21, tw_22⟩
theorem w_X2_155 : zWI RX2 155 yX0_leaveOnlyFault cX0_leaveOnlyFault 3 none 2 := ⟨⟨⟨tw_304, tw_23, tw_307⟩, by decide +kernel, by decide⟩, tw_305, tw_306⟩
theorem w_X2_159 : zWI RX2 159 yX0_tick cX0_tick 3 (some .int) 0 := ⟨⟨⟨tw_268, tw_23, tw_103⟩, by decide +kernel, by decide⟩, tw_101, tw_102⟩
theorem w_X2_162 : zWS RX2 162 yX2_lowest cX2_lowest 2 (some .int) 1 := ⟨⟨⟨tw_269, tw_11, tw_271⟩, by decide +kernel, by decide⟩, tw_270⟩
theorem wm_X0_94 : zWM RX0 94 Lib.Math.min.name Lib.Math.min.code := ⟨tw_134, tw_51, tw_52, tw_53⟩
theorem wm_X0_100 : zWM RX0 100 Lib.Math.max.name Lib.Math.max.code := ⟨tw_135, tw_136, tw_52, tw_137⟩
theorem wm_X2_150 : zWM RX2 150 Lib.Math.min.name Lib.Math.min.code := ⟨tw_50, tw_51, tw_52, tw_53⟩
theorem wc_X0_18 : zWC RX0 18 := ⟨tw_26, tw_27, tw_28, tw_29⟩
theorem w_L_95 : zWS RL 95 yL_cell cL_cell 2 (some .int) 2 := ⟨⟨⟨tw_359, tw_7, tw_0⟩, by decide +kernel, by decide⟩, tw_360⟩
end
section
noncomputable def f_X0_copyFrom  (row : zA) (row2 : zA) : Option (zA) := nmI (va_cpy row2 row 0 0 125) fun row1 => some row1
noncomputable def f_X0_readFrom  (row : zA) (kept : zA) : Option (zA) := if (125 : Int32) < 125 then (some row) else (nmI (va_cpy kept row 0 0 125) fun row1 => some row1)
noncomputable def f_X0_writeTo  (row : zA) (kept : zA) : Option (zA) := if (125 : Int32) < 125 then (some kept) else (nmI (va_cpy row kept 0 0 125) fun kept1 => some kept1)
noncomputable def f_X0_boards  (row : zA) : Option (Int32) := some (row 4)
noncomputable def f_X0_isBoard (a1 : Int32) (row : zA) : Option (Int32) := if a1 < 0 then (some 0) else (if (row 4) ≤ a1 then (some 0) else (some 1))
noncomputable def f_X0_isLoad (a1 : Int32) (row : zA) : Option (Int32) := if a1 < 0 then (some 0) else (if (row 5) ≤ a1 then (some 0) else (some 1))
noncomputable def f_X0_rating (a1 : Int32) (row : zA) : Option (Int32) := b1 (f_X0_isBoard a1 row) fun v1 => if v1 = 0 then (some 0) else (gd (27 + a1) 125 fun k3 => some (row k3))
noncomputable def f_X0_changeSetting (a1 : Int32) (a2 : Int32) (row : zA) : Option (Int32 × zA) := if a1 < 0 then (some ((-2), row)) else (if a1 ≤ 2 then (gd a1 3 fun k1 => if a2 < (zLV k1) then (some ((-2), row)) else (gd a1 3 fun k3 => if a2 ≤ (zMV k3) then (gd a1 125 fun k5 => nmI (upd row k5 a2) fun row7 => some ((row k5), row7)) else (some ((-2), row)))) else (some ((-2), row)))
noncomputable def f_X0_isFuse (a0 : Int32) (a1 : Int32)  : Option (Int32) := if a0 < 1 then (some 0) else (if 100 < a0 then (some 0) else (if a1 < 0 then (some 0) else (if 2 < a1 then (some 0) else (some 1))))
noncomputable def f_X0_putNewFuse (a1 : Int32) (a2 : Int32) (a3 : Int32) (row : zA) : Option (zA) := gd (27 + a1) 125 fun k1 => nmI (upd row k1 a2) fun row3 => gd (37 + a1) 125 fun k5 => nmI (upd row3 k5 a3) fun row7 => gd (47 + a1) 125 fun k9 => nmI (upd row7 k9 0) fun row11 => gd (57 + a1) 125 fun k13 => nmI (upd row11 k13 0) fun row15 => gd (67 + a1) 125 fun k17 => nmI (upd row15 k17 0) fun row19 => gd (77 + a1) 125 fun k21 => nmI (upd row19 k21 0) fun row23 => nmI (upd row23 7 ((row23 7) &&& ((1 <<< (a1 &&& 31)) ^^^ (-1)))) fun row25 => some row25
noncomputable def B_X0_addBoard_63 (s0 : Int32) (s1 : Int32) (l2 : Int32) (l3 : Int32) (l4 : Int32) (row : zA) : Option (Int32 × zA) := gd s1 125 fun k1 => nmI (upd row k1 s0) fun row3 => b1 (f_X0_putNewFuse l4 l2 l3 row3) fun row5 => nmI (upd row5 4 (l4 + 1)) fun row7 => some (l4, row7)
noncomputable def B_X0_addBoard_23 (l1 : Int32) (l2 : Int32) (l3 : Int32) (l4 : Int32) (row : zA) : Option (Int32 × zA) := b1 (f_X0_isFuse l2 l3) fun v1 => if v1 = 0 then (some ((-2), row)) else (if l4 < 10 then (if l4 = 0 then (B_X0_addBoard_63 0 (17 + l4) l2 l3 l4 row) else (B_X0_addBoard_63 l1 (17 + l4) l2 l3 l4 row)) else (some ((-4), row)))
noncomputable def f_X0_addBoard (a1 : Int32) (a2 : Int32) (a3 : Int32) (row : zA) : Option (Int32 × zA) := if (row 4) ≤ 0 then (B_X0_addBoard_23 a1 a2 a3 (row 4) row) else (b1 (f_X0_isBoard a1 row) fun v1 => if v1 = 0 then (some ((-1), row)) else (B_X0_addBoard_23 a1 a2 a3 (row 4) row))
noncomputable def f_X0_addLoad (a1 : Int32) (a2 : Int32) (row : zA) : Option (Int32 × zA) := b1 (f_X0_isBoard a1 row) fun v1 => if v1 = 0 then (some ((-1), row)) else (if a2 < 1 then (some ((-2), row)) else (if a2 ≤ 200 then (if (row 5) < 14 then (gd (97 + (row 5)) 125 fun k3 => nmI (upd row k3 a1) fun row5 => gd (111 + (row 5)) 125 fun k7 => nmI (upd row5 k7 a2) fun row9 => nmI (upd row9 5 ((row 5) + 1)) fun row11 => some ((row 5), row11)) else (some ((-4), row))) else (some ((-2), row))))
noncomputable def f_X0_switchLoad (a1 : Int32) (row : zA) : Option (Int32 × zA) := b1 (f_X0_isLoad a1 row) fun v1 => if v1 = 0 then (some ((-1), row)) else (nmI (upd row 6 ((row 6) ^^^ (1 <<< (a1 &&& 31)))) fun row3 => some ((((row3 6) >>> (a1 &&& 31)) &&& 1), row3))
noncomputable def f_X0_changeFuse (a1 : Int32) (a2 : Int32) (a3 : Int32) (row : zA) : Option (Int32 × zA) := b1 (f_X0_isBoard a1 row) fun v1 => if v1 = 0 then (some ((-1), row)) else (b1 (f_X0_isFuse a2 a3) fun v3 => if v3 = 0 then (some ((-2), row)) else (gd (47 + a1) 125 fun k5 => if (row k5) ≤ 0 then (gd (27 + a1) 125 fun k7 => b1 (f_X0_putNewFuse a1 a2 a3 row) fun row9 => some ((row k7), row9)) else (some ((-5), row))))
noncomputable def B_J7_fill_53178_5 (sz : Nat) : Nat → Int32 → Int32 → Int32 → zA → Option (zA)
  | 0, _, _, _, _ => none
  | n + 1, l1, l2, l3, fa => if l3 ≤ l2 then (some fa) else (gd l2 sz fun k1 => nmI (upd fa k1 l1) fun fa3 => nmI (l2 + 1) fun x5 => B_J7_fill_53178_5 sz n l1 x5 l3 fa3)
noncomputable def f_J7_fill_53178 (sz : Nat) (a1 : Int32) (fa : zA) : Option (zA) := nmI (Int32.ofNat sz) fun x1 => B_J7_fill_53178_5 sz FU a1 0 x1 fa
noncomputable def B_X0_deadBoards_10 : Nat → Int32 → Int32 → zA → Option (Int32)
  | 0, _, _, _ => none
  | n + 1, l1, l2, row => if (row 4) ≤ l2 then (some l1) else (gd (17 + l2) 125 fun k1 => if ((l1 >>> ((row k1) &&& 31)) &&& 1) = 0 then (nmI (l2 + 1) fun x3 => B_X0_deadBoards_10 n l1 x3 row) else (nmI (l1 ||| (1 <<< (l2 &&& 31))) fun x5 => nmI (l2 + 1) fun x7 => B_X0_deadBoards_10 n x5 x7 row))
noncomputable def f_X0_deadBoards  (row : zA) : Option (Int32) := B_X0_deadBoards_10 FU (row 7) 1 row
noncomputable def f_X0_addFlow (a1 : Int32) (a2 : Int32) (flow : zA) : Option (zA) := if a1 < 0 then (some flow) else (if 10 ≤ a1 then (some flow) else (gd a1 10 fun k1 => nmI (upd flow k1 ((flow k1) + a2)) fun flow3 => some flow3))
noncomputable def B_X0_addUpCurrents_102 : Nat → Int32 → zA → zA → Option (zA)
  | 0, _, _, _ => none
  | n + 1, l2, row, flow => if l2 ≤ 0 then (some flow) else (gd (17 + l2) 125 fun k1 => gd l2 10 fun k3 => b1 (f_X0_addFlow (row k1) (flow k3) flow) fun flow5 => nmI (l2 + (-1)) fun x7 => B_X0_addUpCurrents_102 n x7 row flow5)
noncomputable def B_X0_addUpCurrents_60 (K : Int32 → Int32 → zA → zA → Option (zA)) (s0 : Int32) (l1 : Int32) (l2 : Int32) (row : zA) (flow : zA) : Option (zA) := if s0 = 0 then (nmI (l2 + 1) fun x1 => K l1 x1 row flow) else (gd (97 + l2) 125 fun k3 => gd (111 + l2) 125 fun k5 => b1 (f_X0_addFlow (row k3) (row k5) flow) fun flow7 => nmI (l2 + 1) fun x9 => K l1 x9 row flow7)
noncomputable def B_X0_addUpCurrents_59 (K : Int32 → Int32 → zA → zA → Option (zA)) (l1 : Int32) (l2 : Int32) (row : zA) (flow : zA) : Option (zA) := B_X0_addUpCurrents_60 K 0 l1 l2 row flow
noncomputable def B_X0_addUpCurrents_15 : Nat → Int32 → Int32 → zA → zA → Option (zA)
  | 0, _, _, _, _ => none
  | n + 1, l1, l2, row, flow => if (row 5) ≤ l2 then (nmI ((row 4) - 1) fun x1 => B_X0_addUpCurrents_102 FU x1 row flow) else (if (((row 6) >>> (l2 &&& 31)) &&& 1) = 0 then (B_X0_addUpCurrents_59 (fun z0 z1 z2 z3 => B_X0_addUpCurrents_15 n z0 z1 z2 z3) l1 l2 row flow) else (gd (97 + l2) 125 fun k3 => if ((l1 >>> ((row k3) &&& 31)) &&& 1) = 0 then (B_X0_addUpCurrents_60 (fun z0 z1 z2 z3 => B_X0_addUpCurrents_15 n z0 z1 z2 z3) 1 l1 l2 row flow) else (B_X0_addUpCurrents_59 (fun z0 z1 z2 z3 => B_X0_addUpCurrents_15 n z0 z1 z2 z3) l1 l2 row flow)))
noncomputable def f_X0_addUpCurrents  (row : zA) (flow : zA) : Option (zA) := b1 (f_J7_fill_53178 10 0 flow) fun flow1 => b1 (f_X0_deadBoards row) fun v3 => B_X0_addUpCurrents_15 FU v3 0 row flow1
noncomputable def B_X0_burnArcs_2 : Nat → Int32 → zA → Option (zA)
  | 0, _, _ => none
  | n + 1, l1, row => if (row 4) ≤ l1 then (some row) else (gd (47 + l1) 125 fun k1 => if (row k1) = 0 then (nmI (l1 + 1) fun x11 => B_X0_burnArcs_2 n x11 row) else (nmI (upd row k1 ((row k1) - 1)) fun row3 => if (row3 k1) = 0 then (nmI (upd row3 7 ((row3 7) ||| (1 <<< (l1 &&& 31)))) fun row7 => nmI (l1 + 1) fun x9 => B_X0_burnArcs_2 n x9 row7) else (nmI (l1 + 1) fun x5 => B_X0_burnArcs_2 n x5 row3)))
noncomputable def f_X0_burnArcs  (row : zA) : Option (zA) := B_X0_burnArcs_2 FU 0 row
noncomputable def f_X0_state (a1 : Int32) (row : zA) : Option (Int32) := if (((row 7) >>> (a1 &&& 31)) &&& 1) = 0 then (gd (47 + a1) 125 fun k1 => if (row k1) ≤ 0 then (some 0) else (some 1)) else (some 2)
noncomputable def f_X0_creep (a1 : Int32) (row : zA) : Option (zA) := gd (77 + a1) 125 fun k1 => nmI (upd row k1 ((row k1) + 1)) fun row3 => if (row3 2) ≤ (row3 k1) then (nmI (upd row3 k1 0) fun row5 => gd (67 + a1) 125 fun k7 => nmI (upd row5 k7 ((row5 k7) + 1)) fun row9 => some row9) else (some row3)
noncomputable def B_X0_warm_95 (l1 : Int32) (l2 : Int32) (l3 : Int32) (row : zA) : Option (zA) := gd (37 + l1) 125 fun k1 => if (row k1) = 2 then (if (2 * l2) ≤ l3 then (some row) else (b1 (f_X0_creep l1 row) fun row3 => some row3)) else (some row)
noncomputable def f_X0_warm (a1 : Int32) (a2 : Int32) (row : zA) : Option (zA) := gd (27 + a1) 125 fun k1 => gd (57 + a1) 125 fun k3 => nmI ((a2 * a2) - ((row k1) * (row k1))) fun x5 => nmI (((row k1) * (row k1)) - (a2 * a2)) fun x7 => if a2 ≤ (row k1) then (zdv (zmx 1 (row 1)) <| nmI (upd row k3 (zmx 0 ((row k3) - (x7 / (zmx 1 (row 1)))))) fun row10 => B_X0_warm_95 a1 a2 (row k1) row10) else (nmI (upd row k3 (zmn 1000000 ((row k3) + x5))) fun row12 => B_X0_warm_95 a1 a2 (row k1) row12)
noncomputable def f_X0_heatFactor (a0 : Int32)  : Option (Int32) := if a0 = 0 then (some 8) else if a0 = 1 then (some 40) else (some 20)
noncomputable def f_X0_meltingHeat (a1 : Int32) (row : zA) : Option (Int32) := gd (27 + a1) 125 fun k1 => gd (37 + a1) 125 fun k3 => b1 (f_X0_heatFactor (row k3)) fun v5 => nmI (((row k1) * (row k1)) * v5) fun x7 => gd (67 + a1) 125 fun k9 => some (zmx 1 (x7 - ((20 * (row k1)) * (row k9))))
noncomputable def B_X0_molten_4 : Nat → Int32 → Int32 → zA → Option (Int32)
  | 0, _, _, _ => none
  | n + 1, l1, l2, row => if (row 4) ≤ l2 then (some l1) else (b1 (f_X0_state l2 row) fun v1 => if v1 = 0 then (gd (57 + l2) 125 fun k5 => b1 (f_X0_meltingHeat l2 row) fun v7 => if (row k5) < v7 then (nmI (l2 + 1) fun x9 => B_X0_molten_4 n l1 x9 row) else (nmI (l1 ||| (1 <<< (l2 &&& 31))) fun x11 => nmI (l2 + 1) fun x13 => B_X0_molten_4 n x11 x13 row)) else (nmI (l2 + 1) fun x3 => B_X0_molten_4 n l1 x3 row))
noncomputable def f_X0_molten  (row : zA) : Option (Int32) := B_X0_molten_4 FU 0 0 row
noncomputable def B_X0_fedThrough_18 : Nat → Int32 → Int32 → zA → Option (Int32)
  | 0, _, _, _ => none
  | n + 1, l2, l3, row => if (row 4) ≤ l3 then (some l2) else (gd (17 + l3) 125 fun k1 => if ((l2 >>> ((row k1) &&& 31)) &&& 1) = 0 then (nmI (l3 + 1) fun x3 => B_X0_fedThrough_18 n l2 x3 row) else (nmI (l2 ||| (1 <<< (l3 &&& 31))) fun x5 => nmI (l3 + 1) fun x7 => B_X0_fedThrough_18 n x5 x7 row))
noncomputable def f_X0_fedThrough (a1 : Int32) (row : zA) : Option (Int32) := b1 (f_X0_isBoard a1 row) fun v1 => if v1 = 0 then (some 0) else (nmI (1 <<< (a1 &&& 31)) fun x3 => nmI (a1 + 1) fun x5 => B_X0_fedThrough_18 FU x3 x5 row)
noncomputable def B_X0_nearestOf_4 : Nat → Int32 → Int32 → Int32 → zA → Option (Int32)
  | 0, _, _, _, _ => none
  | n + 1, l1, l2, l3, row => if (row 4) ≤ l3 then (some l2) else (b1 (f_X0_fedThrough l3 row) fun v1 => if (v1 &&& l1) = (1 <<< (l3 &&& 31)) then (nmI (l2 ||| (1 <<< (l3 &&& 31))) fun x5 => nmI (l3 + 1) fun x7 => B_X0_nearestOf_4 n l1 x5 x7 row) else (nmI (l3 + 1) fun x3 => B_X0_nearestOf_4 n l1 l2 x3 row))
noncomputable def f_X0_nearestOf (a1 : Int32) (row : zA) : Option (Int32) := B_X0_nearestOf_4 FU a1 0 0 row
noncomputable def B_X0_blow_37 (l1 : Int32) (row : zA) : Option (zA) := nmI (upd row 8 ((row 8) + 1)) fun row1 => gd (87 + l1) 125 fun k3 => nmI (upd row1 k3 ((row1 k3) + 1)) fun row5 => nmI (va_cpy row5 row5 9 10 7) fun row7 => nmI (upd row7 9 l1) fun row9 => some row9
noncomputable def f_X0_blow (a1 : Int32) (row : zA) : Option (zA) := gd (47 + a1) 125 fun k1 => nmI (upd row k1 (row 0)) fun row3 => if (row3 0) = 0 then (nmI (upd row3 7 ((row3 7) ||| (1 <<< (a1 &&& 31)))) fun row5 => B_X0_blow_37 a1 row5) else (B_X0_blow_37 a1 row3)
noncomputable def B_X0_tick_56 : Nat → Int32 → Int32 → zA → zA → Option (Int32 × zA × zA)
  | 0, _, _, _, _ => none
  | n + 1, l1, l2, row, flow => if (row 4) ≤ l2 then (nmI (upd row 3 ((row 3) + 1)) fun row1 => some (l1, row1, flow)) else (if ((l1 >>> (l2 &&& 31)) &&& 1) = 0 then (nmI (l2 + 1) fun x3 => B_X0_tick_56 n l1 x3 row flow) else (b1 (f_X0_blow l2 row) fun row5 => nmI (l2 + 1) fun x7 => B_X0_tick_56 n l1 x7 row5 flow))
noncomputable def B_X0_tick_10 : Nat → Int32 → zA → zA → Option (Int32 × zA × zA)
  | 0, _, _, _ => none
  | n + 1, l1, row, flow => if (row 4) ≤ l1 then (b1 (f_X0_molten row) fun v1 => b1 (f_X0_nearestOf v1 row) fun v3 => B_X0_tick_56 FU v3 0 row flow) else (b1 (f_X0_state l1 row) fun v5 => if v5 = 0 then (gd l1 10 fun k9 => b1 (f_X0_warm l1 (flow k9) row) fun row11 => nmI (l1 + 1) fun x13 => B_X0_tick_10 n x13 row11 flow) else (nmI (l1 + 1) fun x7 => B_X0_tick_10 n x7 row flow))
noncomputable def f_X0_tick  (row : zA) (flow : zA) : Option (Int32 × zA × zA) := b1 (f_X0_addUpCurrents row flow) fun flow1 => b1 (f_X0_burnArcs row) fun row3 => B_X0_tick_10 FU 0 row3 flow1
noncomputable def f_J6_bitCount_0f7a4 (a0 : Int32)  : Option (Int32) := nmI (a0 - ((zushr a0 1) &&& 1431655765)) fun x1 => nmI ((x1 &&& 858993459) + ((zushr x1 2) &&& 858993459)) fun x3 => nmI ((x3 + (zushr x3 4)) &&& 252645135) fun x5 => nmI (x5 + (zushr x5 8)) fun x7 => nmI (x7 + (zushr x7 16)) fun x9 => some (x9 &&& 63)
noncomputable def B_X0_letPass_35 : Nat → Int32 → Int32 → Int32 → zA → zA → Option (Int32 × zA × zA)
  | 0, _, _, _, _, _ => none
  | n + 1, l1, l2, l3, row, flow => if l1 ≤ l3 then (some (l2, row, flow)) else (b3 (f_X0_tick row flow) fun v1 row2 flow3 => b1 (f_J6_bitCount_0f7a4 v1) fun v5 => nmI (l2 + v5) fun x7 => nmI (l3 + 1) fun x9 => B_X0_letPass_35 n l1 x7 x9 row2 flow3)
noncomputable def f_X0_letPass (a1 : Int32) (row : zA) (flow : zA) : Option (Int32 × zA × zA) := if a1 < 1 then (some ((-2), row, flow)) else (if a1 ≤ 99 then (if ((row 3) + a1) ≤ 9999 then (B_X0_letPass_35 FU a1 0 0 row flow) else (some ((-5), row, flow))) else (some ((-2), row, flow)))
noncomputable def f_J7_rangeCheck_23922 (a0 : Int32) (a1 : Int32) (a2 : Int32)  : Option (Unit) := if a1 ≤ a2 then (if 0 ≤ a1 then (if a2 ≤ a0 then (some ()) else (none)) else (none)) else (none)
noncomputable def B_J7_fill_fda19_10 (sz : Nat) : Nat → Int32 → Int32 → Int32 → zA → Option (zA)
  | 0, _, _, _, _ => none
  | n + 1, l2, l3, l4, fa => if l2 ≤ l4 then (some fa) else (gd l4 sz fun k1 => nmI (upd fa k1 l3) fun fa3 => nmI (l4 + 1) fun x5 => B_J7_fill_fda19_10 sz n l2 l3 x5 fa3)
noncomputable def f_J7_fill_fda19 (sz : Nat) (a1 : Int32) (a2 : Int32) (a3 : Int32) (fa : zA) : Option (zA) := b1 (f_J7_rangeCheck_23922 (Int32.ofNat sz) a1 a2) fun u1 => B_J7_fill_fda19_10 sz FU a2 a3 a1 fa
noncomputable def f_X0_leaveOnlyFault (a1 : Int32) (a2 : Int32) (row : zA) : Option (zA) := b1 (f_J7_fill_fda19 125 57 67 0 row) fun row1 => nmI (upd row1 97 a1) fun row3 => nmI (upd row3 111 a2) fun row5 => nmI (upd row5 5 1) fun row7 => nmI (upd row7 6 1) fun row9 => some row9
noncomputable def f_X0_current (a1 : Int32) (row : zA) (flow : zA) : Option (Int32 × zA) := b1 (f_X0_addUpCurrents row flow) fun flow1 => gd a1 10 fun k3 => some ((flow1 k3), flow1)
noncomputable def B_X0_boardsAhead_7 : Nat → Int32 → Int32 → Int32 → zA → Option (Int32)
  | 0, _, _, _, _ => none
  | n + 1, l2, l3, l4, row => if l4 ≤ 0 then (some l2) else (if l4 = l3 then (gd (17 + l4) 125 fun k1 => nmI (l2 + 1) fun x3 => nmI (l4 + (-1)) fun x5 => B_X0_boardsAhead_7 n x3 (row k1) x5 row) else (nmI (l4 + (-1)) fun x7 => B_X0_boardsAhead_7 n l2 l3 x7 row))
noncomputable def f_X0_boardsAhead (a1 : Int32) (row : zA) : Option (Int32) := B_X0_boardsAhead_7 FU 0 a1 a1 row
noncomputable def f_X0_aboutBoard (a1 : Int32) (a2 : Int32) (row : zA) (flow : zA) : Option (Int32 × zA) := b1 (f_X0_isBoard a1 row) fun v1 => if v1 = 0 then (some ((-1), flow)) else (if a2 = 0 then (if a1 = 0 then (some ((-6), flow)) else (gd (17 + a1) 125 fun k4 => some ((row k4), flow))) else if a2 = 1 then (gd (27 + a1) 125 fun k7 => some ((row k7), flow)) else if a2 = 2 then (gd (37 + a1) 125 fun k10 => some ((row k10), flow)) else if a2 = 3 then (b1 (f_X0_state a1 row) fun v13 => some (v13, flow)) else if a2 = 4 then (b2 (f_X0_current a1 row flow) fun v16 flow17 => some (v16, flow17)) else if a2 = 5 then (gd (57 + a1) 125 fun k20 => some ((row k20), flow)) else if a2 = 6 then (b1 (f_X0_meltingHeat a1 row) fun v23 => some (v23, flow)) else if a2 = 7 then (gd (67 + a1) 125 fun k26 => some ((row k26), flow)) else if a2 = 8 then (b1 (f_X0_deadBoards row) fun v29 => some (((v29 >>> (a1 &&& 31)) &&& 1), flow)) else if a2 = 9 then (b1 (f_X0_boardsAhead a1 row) fun v32 => some (v32, flow)) else if a2 = 10 then (gd (47 + a1) 125 fun k35 => some ((row k35), flow)) else if a2 = 11 then (gd (87 + a1) 125 fun k38 => some ((row k38), flow)) else (some ((-2), flow)))
noncomputable def f_X0_allBoards  (row : zA) : Option (Int32) := some ((1 <<< ((row 4) &&& 31)) - 1)
noncomputable def B_X0_workingLoadsAt_14 : Nat → Int32 → Int32 → Int32 → zA → Option (Int32)
  | 0, _, _, _, _ => none
  | n + 1, l2, l3, l4, row => if (row 5) ≤ l4 then (some (l3 &&& (row 6))) else (gd (97 + l4) 125 fun k1 => if ((l2 >>> ((row k1) &&& 31)) &&& 1) = 0 then (nmI (l4 + 1) fun x3 => B_X0_workingLoadsAt_14 n l2 l3 x3 row) else (nmI (l3 ||| (1 <<< (l4 &&& 31))) fun x5 => nmI (l4 + 1) fun x7 => B_X0_workingLoadsAt_14 n l2 x5 x7 row))
noncomputable def f_X0_workingLoadsAt (a1 : Int32) (row : zA) : Option (Int32) := b1 (f_X0_deadBoards row) fun v1 => nmI (a1 &&& (v1 ^^^ (-1))) fun x3 => B_X0_workingLoadsAt_14 FU x3 0 0 row
noncomputable def f_X0_aboutLoad (a1 : Int32) (a2 : Int32) (row : zA) : Option (Int32) := b1 (f_X0_isLoad a1 row) fun v1 => if v1 = 0 then (some (-1)) else (if a2 = 0 then (gd (97 + a1) 125 fun k4 => some (row k4)) else if a2 = 1 then (gd (111 + a1) 125 fun k7 => some (row k7)) else if a2 = 2 then (some (((row 6) >>> (a1 &&& 31)) &&& 1)) else if a2 = 3 then (b1 (f_X0_allBoards row) fun v11 => b1 (f_X0_workingLoadsAt v11 row) fun v13 => some ((v13 >>> (a1 &&& 31)) &&& 1)) else (some (-2)))
noncomputable def B_X0_burningBoards_4 : Nat → Int32 → Int32 → zA → Option (Int32)
  | 0, _, _, _ => none
  | n + 1, l1, l2, row => if (row 4) ≤ l2 then (some l1) else (gd (47 + l2) 125 fun k1 => if (row k1) ≤ 0 then (nmI (l2 + 1) fun x3 => B_X0_burningBoards_4 n l1 x3 row) else (nmI (l1 ||| (1 <<< (l2 &&& 31))) fun x5 => nmI (l2 + 1) fun x7 => B_X0_burningBoards_4 n x5 x7 row))
noncomputable def f_X0_burningBoards  (row : zA) : Option (Int32) := B_X0_burningBoards_4 FU 0 0 row
noncomputable def f_X0_aboutHouse (a1 : Int32) (row : zA) (flow : zA) : Option (Int32 × zA) := if a1 = 0 then (some ((row 3), flow)) else if a1 = 1 then (some ((row 4), flow)) else if a1 = 2 then (some ((row 5), flow)) else if a1 = 3 then (b1 (f_X0_deadBoards row) fun v5 => some (v5, flow)) else if a1 = 4 then (b1 (f_X0_allBoards row) fun v8 => b1 (f_X0_workingLoadsAt v8 row) fun v10 => some (v10, flow)) else if a1 = 5 then (some ((row 7), flow)) else if a1 = 6 then (b1 (f_X0_burningBoards row) fun v14 => some (v14, flow)) else if a1 = 7 then (some ((row 8), flow)) else if a1 = 8 then (b2 (f_X0_current 0 row flow) fun v18 flow19 => some (v18, flow19)) else if a1 = 9 then (some ((row 0), flow)) else if a1 = 10 then (some ((row 1), flow)) else if a1 = 11 then (some ((row 2), flow)) else (some ((-2), flow))
noncomputable def f_X0_latestBlown (a1 : Int32) (row : zA) : Option (Int32) := if a1 < 0 then (some (-1)) else (if 8 ≤ a1 then (some (-1)) else (if a1 < (row 8) then (gd (9 + a1) 125 fun k1 => some (row k1)) else (some (-1))))
noncomputable def f_X1_length  (pf : zA) : Option (Int32) := some (pf 1)
noncomputable def f_X2_noteState  (nr : zA) (hi : Nat → zA) (ff : zA) : Option ((Nat → zA)) := gd (ff 6) 7 fun k1 => b1 (f_X0_writeTo nr (hi k1)) fun hi3 => some (va_up hi k1 hi3)
noncomputable def f_X2_keepUnlessError (a1 : Int32) (ff : zA) : Option (Int32 × zA) := if 0 ≤ a1 then (nmI (upd ff 6 (((ff 6) + 1) - ((ff 6) + 1) / 7 * 7)) fun ff1 => nmI (upd ff1 7 (zmn 6 ((ff1 7) + 1))) fun ff3 => some (a1, ff3)) else (some (a1, ff))
noncomputable def f_X2_set (a1 : Int32) (a2 : Int32) (nr : zA) (hi : Nat → zA) (ff : zA) : Option (Int32 × zA × (Nat → zA) × zA) := b1 (f_X2_noteState nr hi ff) fun hi1 => b2 (f_X0_changeSetting a1 a2 nr) fun v3 nr4 => b2 (f_X2_keepUnlessError v3 ff) fun v6 ff7 => some (v6, nr4, hi1, ff7)
noncomputable def f_X2_board (a1 : Int32) (a2 : Int32) (a3 : Int32) (nr : zA) (hi : Nat → zA) (ff : zA) : Option (Int32 × zA × (Nat → zA) × zA) := b1 (f_X2_noteState nr hi ff) fun hi1 => b2 (f_X0_addBoard a1 a2 a3 nr) fun v3 nr4 => b2 (f_X2_keepUnlessError v3 ff) fun v6 ff7 => some (v6, nr4, hi1, ff7)
noncomputable def f_X2_load (a1 : Int32) (a2 : Int32) (nr : zA) (hi : Nat → zA) (ff : zA) : Option (Int32 × zA × (Nat → zA) × zA) := b1 (f_X2_noteState nr hi ff) fun hi1 => b2 (f_X0_addLoad a1 a2 nr) fun v3 nr4 => b2 (f_X2_keepUnlessError v3 ff) fun v6 ff7 => some (v6, nr4, hi1, ff7)
noncomputable def f_X2_turn (a1 : Int32) (nr : zA) (hi : Nat → zA) (ff : zA) : Option (Int32 × zA × (Nat → zA) × zA) := b1 (f_X2_noteState nr hi ff) fun hi1 => b2 (f_X0_switchLoad a1 nr) fun v3 nr4 => b2 (f_X2_keepUnlessError v3 ff) fun v6 ff7 => some (v6, nr4, hi1, ff7)
noncomputable def f_X2_fuse (a1 : Int32) (a2 : Int32) (a3 : Int32) (nr : zA) (hi : Nat → zA) (ff : zA) : Option (Int32 × zA × (Nat → zA) × zA) := b1 (f_X2_noteState nr hi ff) fun hi1 => b2 (f_X0_changeFuse a1 a2 a3 nr) fun v3 nr4 => b2 (f_X2_keepUnlessError v3 ff) fun v6 ff7 => some (v6, nr4, hi1, ff7)
noncomputable def f_X2_pass (a1 : Int32) (nr : zA) (nf : zA) (hi : Nat → zA) (ff : zA) : Option (Int32 × zA × zA × (Nat → zA) × zA) := b1 (f_X2_noteState nr hi ff) fun hi1 => b3 (f_X0_letPass a1 nr nf) fun v3 nr4 nf5 => b2 (f_X2_keepUnlessError v3 ff) fun v7 ff8 => some (v7, nr4, nf5, hi1, ff8)
noncomputable def f_X2_of (a1 : Int32) (a2 : Int32) (nr : zA) (nf : zA) : Option (Int32 × zA) := b1 (f_X0_isBoard a1 nr) fun v1 => if v1 = 0 then (some ((-1), nf)) else (b2 (f_X0_aboutBoard a1 a2 nr nf) fun v3 nf4 => some (v3, nf4))
noncomputable def f_X2_ofLoad (a1 : Int32) (a2 : Int32) (nr : zA) : Option (Int32) := b1 (f_X0_isLoad a1 nr) fun v1 => if v1 = 0 then (some (-1)) else (b1 (f_X0_aboutLoad a1 a2 nr) fun v3 => some v3)
noncomputable def f_X2_fed (a1 : Int32) (nr : zA) : Option (Int32) := b1 (f_X0_isBoard a1 nr) fun v1 => if v1 = 0 then (some (-1)) else (b1 (f_X0_fedThrough a1 nr) fun v3 => some v3)
noncomputable def f_X2_blown (a1 : Int32) (nr : zA) : Option (Int32) := b1 (f_X0_latestBlown a1 nr) fun v1 => some v1
noncomputable def f_X2_count (a1 : Int32) (nr : zA) (nf : zA) (pf : zA) (ff : zA) : Option (Int32 × zA) := if a1 = 12 then (b1 (f_X1_length pf) fun v4 => some (v4, nf)) else (if a1 = 13 then (some ((ff 7), nf)) else (b2 (f_X0_aboutHouse a1 nr nf) fun v1 nf2 => some (v1, nf2)))
noncomputable def f_X2_isTrialQuestion (a0 : Int32)  : Option (Int32) := if a0 = 0 then (some 1) else (if a0 = 1 then (some 1) else (some 0))
noncomputable def B_X2_lowest_2 : Nat → Int32 → Int32 → Option (Int32)
  | 0, _, _ => none
  | n + 1, l0, l1 => if 9 ≤ l1 then (some l1) else (if ((l0 >>> (l1 &&& 31)) &&& 1) = 0 then (nmI (l1 + 1) fun x1 => B_X2_lowest_2 n l0 x1) else (some l1))
noncomputable def f_X2_lowest (a0 : Int32)  : Option (Int32) := B_X2_lowest_2 FU a0 0
noncomputable def B_X2_firstBlow_2 : Nat → Int32 → Int32 → zA → zA → Option (Int32 × zA × zA)
  | 0, _, _, _, _ => none
  | n + 1, l1, l2, tr, tf => if 200 < l2 then (some ((-6), tr, tf)) else (b3 (f_X0_tick tr tf) fun v1 tr2 tf3 => if v1 = 0 then (nmI (l2 + 1) fun x5 => B_X2_firstBlow_2 n l1 x5 tr2 tf3) else (if l1 = 0 then (some (l2, tr2, tf3)) else (b1 (f_X2_lowest v1) fun v7 => some (v7, tr2, tf3))))
noncomputable def f_X2_firstBlow (a1 : Int32) (tr : zA) (tf : zA) : Option (Int32 × zA × zA) := B_X2_firstBlow_2 FU a1 1 tr tf
noncomputable def f_X2_next (a1 : Int32) (nr : zA) (tr : zA) (tf : zA) : Option (Int32 × zA × zA) := b1 (f_X2_isTrialQuestion a1) fun v1 => if v1 = 0 then (some ((-2), tr, tf)) else (b1 (f_X0_copyFrom tr nr) fun tr3 => b3 (f_X2_firstBlow a1 tr3 tf) fun v5 tr6 tf7 => some (v5, tr6, tf7))
noncomputable def f_X2_tryFault (a1 : Int32) (a2 : Int32) (a3 : Int32) (nr : zA) (tr : zA) (tf : zA) : Option (Int32 × zA × zA) := b1 (f_X0_copyFrom tr nr) fun tr1 => b1 (f_X0_leaveOnlyFault a1 a2 tr1) fun tr3 => b3 (f_X2_firstBlow a3 tr3 tf) fun v5 tr6 tf7 => some (v5, tr6, tf7)
noncomputable def f_X2_test (a1 : Int32) (a2 : Int32) (a3 : Int32) (nr : zA) (tr : zA) (tf : zA) : Option (Int32 × zA × zA) := b1 (f_X0_isBoard a1 nr) fun v1 => if v1 = 0 then (some ((-1), tr, tf)) else (if a2 < 1 then (some ((-2), tr, tf)) else (if 9999 < a2 then (some ((-2), tr, tf)) else (b1 (f_X2_isTrialQuestion a3) fun v3 => if v3 = 0 then (some ((-2), tr, tf)) else (b3 (f_X2_tryFault a1 a2 a3 nr tr tf) fun v5 tr6 tf7 => some (v5, tr6, tf7)))))
noncomputable def B_X2_unfair_18 : Nat → Int32 → Int32 → Int32 → zA → zA → zA → Option (Int32 × zA × zA)
  | 0, _, _, _, _, _, _ => none
  | n + 1, l1, l2, l3, nr, tr, tf => b1 (f_X0_boards nr) fun v1 => if v1 ≤ l3 then (some (l2, tr, tf)) else (b1 (f_X0_rating l3 nr) fun v3 => b3 (f_X2_tryFault l3 (l1 * v3) 1 nr tr tf) fun v5 tr6 tf7 => if v5 = (-6) then (nmI (l3 + 1) fun x9 => B_X2_unfair_18 n l1 l2 x9 nr tr6 tf7) else (if v5 = l3 then (nmI (l3 + 1) fun x11 => B_X2_unfair_18 n l1 l2 x11 nr tr6 tf7) else (nmI (l2 ||| (1 <<< (l3 &&& 31))) fun x13 => nmI (l3 + 1) fun x15 => B_X2_unfair_18 n l1 x13 x15 nr tr6 tf7)))
noncomputable def f_X2_unfair (a1 : Int32) (nr : zA) (tr : zA) (tf : zA) : Option (Int32 × zA × zA) := if a1 < 2 then (some ((-2), tr, tf)) else (if a1 ≤ 20 then (B_X2_unfair_18 FU a1 0 0 nr tr tf) else (some ((-2), tr, tf)))
noncomputable def f_X2_ifOpen (a1 : Int32) (nr : zA) : Option (Int32) := b1 (f_X0_isBoard a1 nr) fun v1 => if v1 = 0 then (some (-1)) else (b1 (f_X0_fedThrough a1 nr) fun v3 => b1 (f_X0_workingLoadsAt v3 nr) fun v5 => some v5)
noncomputable def f_X2_undo  (nr : zA) (hi : Nat → zA) (ff : zA) : Option (Int32 × zA × zA) := if (ff 7) = 0 then (some ((-5), nr, ff)) else (nmI (upd ff 7 ((ff 7) - 1)) fun ff1 => nmI (upd ff1 6 ((((ff1 6) + 7) - 1) - (((ff1 6) + 7) - 1) / 7 * 7)) fun ff3 => gd (ff3 6) 7 fun k5 => b1 (f_X0_readFrom nr (hi k5)) fun nr7 => some ((ff3 7), nr7, ff3))
noncomputable def f_X2_isSlot (a0 : Int32)  : Option (Int32) := if a0 < 0 then (some 0) else (if 2 ≤ a0 then (some 0) else (some 1))
noncomputable def f_X2_save (a1 : Int32) (nr : zA) (sl : Nat → zA) (sv : zA) : Option (Int32 × (Nat → zA) × zA) := b1 (f_X2_isSlot a1) fun v1 => if v1 = 0 then (some ((-2), sl, sv)) else (gd a1 2 fun k3 => b1 (f_X0_writeTo nr (sl k3)) fun sl5 => nmI (upd sv k3 (vp_nar .boolean 1)) fun sv7 => b1 (f_X0_boards nr) fun v9 => some (v9, (va_up sl k3 sl5), sv7))
noncomputable def f_X2_restore (a1 : Int32) (nr : zA) (hi : Nat → zA) (sl : Nat → zA) (sv : zA) (ff : zA) : Option (Int32 × zA × (Nat → zA) × zA) := b1 (f_X2_isSlot a1) fun v1 => if v1 = 0 then (some ((-2), nr, hi, ff)) else (gd a1 2 fun k3 => if (sv k3) = 0 then (some ((-5), nr, hi, ff)) else (b1 (f_X2_noteState nr hi ff) fun hi5 => b1 (f_X0_readFrom nr (sl k3)) fun nr7 => b1 (f_X0_boards nr7) fun v9 => b2 (f_X2_keepUnlessError v9 ff) fun v11 ff12 => some (v11, nr7, hi5, ff12)))
noncomputable def f_L_low (a0 : Int32) (a1 : Int32)  : Option (Int32) := zdv a1 <| some ((a0 &&& 2147483647) - (a0 &&& 2147483647) / a1 * a1)
noncomputable def B_L_act_90 (s0 : Int32) (s1 : Int32) (s2 : Int32) (s3 : Int32) (l2 : Int32) (nr : zA) (nf : zA) (hi : Nat → zA) (ff : zA) : Option (Int32 × zA × zA × (Nat → zA) × zA) := b1 (f_L_low s1 s0) fun v1 => b1 (f_L_low (l2 >>> (4 &&& 31)) 3) fun v3 => b4 (f_X2_board s3 (s2 + v1) v3 nr hi ff) fun v5 nr6 hi7 ff8 => some (v5, nr6, nf, hi7, ff8)
noncomputable def B_L_act_128 (s0 : Int32) (s1 : Int32) (s2 : Int32) (s3 : Int32) (nr : zA) (nf : zA) (hi : Nat → zA) (ff : zA) : Option (Int32 × zA × zA × (Nat → zA) × zA) := b1 (f_L_low s1 s0) fun v1 => b4 (f_X2_load s3 (s2 + v1) nr hi ff) fun v3 nr4 hi5 ff6 => some (v3, nr4, nf, hi5, ff6)
noncomputable def B_L_act_184 (s0 : Int32) (s1 : Int32) (s2 : Int32) (s3 : Int32) (nr : zA) (nf : zA) (hi : Nat → zA) (ff : zA) : Option (Int32 × zA × zA × (Nat → zA) × zA) := b1 (f_L_low s1 s0) fun v1 => b4 (f_X2_set s3 (s2 + v1) nr hi ff) fun v3 nr4 hi5 ff6 => some (v3, nr4, nf, hi5, ff6)
noncomputable def f_L_act (a1 : Int32) (a2 : Int32) (nr : zA) (nf : zA) (hi : Nat → zA) (ff : zA) : Option (Int32 × zA × zA × (Nat → zA) × zA) := b1 (f_L_low (a1 >>> (4 &&& 31)) 5) fun v1 => b1 (f_L_low a1 13) fun v3 => if v3 = 0 then (b1 (f_L_low (a2 >>> (8 &&& 31)) 5) fun v6 => if v6 = 0 then (B_L_act_90 100 a2 1 v1 a2 nr nf hi ff) else (B_L_act_90 9 a2 1 v1 a2 nr nf hi ff)) else if v3 = 1 then (b1 (f_L_low (a2 >>> (8 &&& 31)) 5) fun v9 => if v9 = 0 then (B_L_act_90 100 a2 1 v1 a2 nr nf hi ff) else (B_L_act_90 9 a2 1 v1 a2 nr nf hi ff)) else if v3 = 2 then (b1 (f_L_low (a2 >>> (8 &&& 31)) 5) fun v12 => if v12 = 0 then (B_L_act_128 200 a2 1 v1 nr nf hi ff) else (B_L_act_128 12 a2 1 v1 nr nf hi ff)) else if v3 = 3 then (b1 (f_L_low (a2 >>> (8 &&& 31)) 5) fun v15 => if v15 = 0 then (B_L_act_128 200 a2 1 v1 nr nf hi ff) else (B_L_act_128 12 a2 1 v1 nr nf hi ff)) else if v3 = 4 then (b1 (f_L_low a2 9) fun v18 => b1 (f_L_low (a2 >>> (4 &&& 31)) 3) fun v20 => b4 (f_X2_fuse v1 (1 + v18) v20 nr hi ff) fun v22 nr23 hi24 ff25 => some (v22, nr23, nf, hi24, ff25)) else if v3 = 5 then (b1 (f_L_low a2 3) fun v28 => if v28 = 2 then (B_L_act_184 6 (a2 >>> (2 &&& 31)) 1 v28 nr nf hi ff) else (B_L_act_184 9 (a2 >>> (2 &&& 31)) 1 v28 nr nf hi ff)) else if v3 = 6 then (b1 (f_L_low (a1 >>> (4 &&& 31)) 6) fun v31 => b4 (f_X2_turn v31 nr hi ff) fun v33 nr34 hi35 ff36 => some (v33, nr34, nf, hi35, ff36)) else if v3 = 7 then (b1 (f_L_low (a1 >>> (4 &&& 31)) 6) fun v39 => b4 (f_X2_turn v39 nr hi ff) fun v41 nr42 hi43 ff44 => some (v41, nr42, nf, hi43, ff44)) else if v3 = 8 then (b1 (f_L_low (a1 >>> (4 &&& 31)) 6) fun v47 => b4 (f_X2_turn v47 nr hi ff) fun v49 nr50 hi51 ff52 => some (v49, nr50, nf, hi51, ff52)) else if v3 = 9 then (b1 (f_L_low (a1 >>> (4 &&& 31)) 6) fun v55 => b4 (f_X2_turn v55 nr hi ff) fun v57 nr58 hi59 ff60 => some (v57, nr58, nf, hi59, ff60)) else (b1 (f_L_low a2 7) fun v62 => b5 (f_X2_pass (1 + v62) nr nf hi ff) fun v64 nr65 nf66 hi67 ff68 => some (v64, nr65, nf66, hi67, ff68))
noncomputable def B_L_boards_580 (s0 : Int32) (s1 : Int32) (nr : zA) (nf : zA) (pf : zA) (ff : zA) : Option (Int32 × zA) := if s1 = s0 then (some (1, nf)) else (some (0, nf))
noncomputable def B_L_boards_487 (K : Int32 → Int32 → Int32 → Int32 → Int32 → zA → zA → zA → zA → Option (Int32 × zA)) (l1 : Int32) (l2 : Int32) (l3 : Int32) (l4 : Int32) (l5 : Int32) (nr : zA) (nf : zA) (pf : zA) (ff : zA) : Option (Int32 × zA) := b2 (f_X2_of l5 2 nr nf) fun v1 nf2 => if v1 = 2 then (nmI (l5 + 1) fun x4 => K l1 l2 l3 l4 x4 nr nf2 pf ff) else (b2 (f_X2_of l5 7 nr nf2) fun v6 nf7 => if v6 = 0 then (nmI (l5 + 1) fun x9 => K l1 l2 l3 l4 x9 nr nf7 pf ff) else (some (0, nf7)))
noncomputable def B_L_boards_463 (K : Int32 → Int32 → Int32 → Int32 → Int32 → zA → zA → zA → zA → Option (Int32 × zA)) (s0 : Int32) (s1 : Int32) (l1 : Int32) (l2 : Int32) (l3 : Int32) (l4 : Int32) (l5 : Int32) (nr : zA) (nf : zA) (pf : zA) (ff : zA) : Option (Int32 × zA) := if s1 = s0 then (b2 (f_X2_of l5 3 nr nf) fun v1 nf2 => if v1 = 0 then (B_L_boards_487 K l1 l2 l3 l4 l5 nr nf2 pf ff) else (b2 (f_X2_of l5 11 nr nf2) fun v4 nf5 => if v4 = 0 then (some (0, nf5)) else (B_L_boards_487 K l1 l2 l3 l4 l5 nr nf5 pf ff))) else (some (0, nf))
noncomputable def B_L_boards_447 (K : Int32 → Int32 → Int32 → Int32 → Int32 → zA → zA → zA → zA → Option (Int32 × zA)) (s0 : Int32) (l1 : Int32) (l2 : Int32) (l3 : Int32) (l4 : Int32) (l5 : Int32) (nr : zA) (nf : zA) (pf : zA) (ff : zA) : Option (Int32 × zA) := b2 (f_X2_of l5 10 nr nf) fun v1 nf2 => if v1 ≤ 0 then (B_L_boards_463 K 0 s0 l1 l2 l3 l4 l5 nr nf2 pf ff) else (B_L_boards_463 K 1 s0 l1 l2 l3 l4 l5 nr nf2 pf ff)
noncomputable def B_L_boards_386 (K : Int32 → Int32 → Int32 → Int32 → Int32 → zA → zA → zA → zA → Option (Int32 × zA)) (l1 : Int32) (l2 : Int32) (l3 : Int32) (l4 : Int32) (l5 : Int32) (l9 : Int32) (nr : zA) (nf : zA) (pf : zA) (ff : zA) : Option (Int32 × zA) := b1 (f_X2_fed l5 nr) fun v1 => if v1 = l9 then (b2 (f_X2_of l5 5 nr nf) fun v3 nf4 => if v3 < 0 then (some (0, nf4)) else (b2 (f_X2_of l5 5 nr nf4) fun v6 nf7 => if 1000000 < v6 then (some (0, nf7)) else (b2 (f_X2_of l5 6 nr nf7) fun v9 nf10 => if v9 < 1 then (some (0, nf10)) else (b2 (f_X2_of l5 3 nr nf10) fun v12 nf13 => if v12 = 1 then (B_L_boards_447 K 1 l1 l2 l3 l4 l5 nr nf13 pf ff) else (B_L_boards_447 K 0 l1 l2 l3 l4 l5 nr nf13 pf ff))))) else (some (0, nf))
noncomputable def B_L_boards_361 (K : Int32 → Int32 → Int32 → Int32 → Int32 → zA → zA → zA → zA → Option (Int32 × zA)) (s0 : Int32) (s1 : Int32) (l1 : Int32) (l2 : Int32) (l3 : Int32) (l4 : Int32) (l5 : Int32) (l7 : Int32) (l8 : Int32) (l9 : Int32) (nr : zA) (nf : zA) (pf : zA) (ff : zA) : Option (Int32 × zA) := if s1 = s0 then (b2 (f_X2_of l5 4 nr nf) fun v1 nf2 => if v1 = l8 then (if l7 = 0 then (B_L_boards_386 K l1 l2 l3 l4 l5 l9 nr nf2 pf ff) else (if l8 = 0 then (B_L_boards_386 K l1 l2 l3 l4 l5 l9 nr nf2 pf ff) else (some (0, nf2)))) else (some (0, nf2))) else (some (0, nf))
noncomputable def B_L_boards_343 (K : Int32 → Int32 → Int32 → Int32 → Int32 → zA → zA → zA → zA → Option (Int32 × zA)) (l1 : Int32) (l2 : Int32) (l3 : Int32) (l4 : Int32) (l5 : Int32) (l7 : Int32) (l8 : Int32) (l9 : Int32) (nr : zA) (nf : zA) (pf : zA) (ff : zA) : Option (Int32 × zA) := b2 (f_X2_of l5 8 nr nf) fun v1 nf2 => if l7 = 0 then (B_L_boards_361 K 0 v1 l1 l2 l3 l4 l5 l7 l8 l9 nr nf2 pf ff) else (B_L_boards_361 K 1 v1 l1 l2 l3 l4 l5 l7 l8 l9 nr nf2 pf ff)
noncomputable def B_L_boards_302 (K : Int32 → Int32 → Int32 → Int32 → Int32 → zA → zA → zA → zA → Option (Int32 × zA)) (s0 : Int32) (s1 : Int32) (l1 : Int32) (l2 : Int32) (l3 : Int32) (l4 : Int32) (l5 : Int32) (l6 : Int32) (l7 : Int32) (l8 : Int32) (l9 : Int32) (nr : zA) (nf : zA) (pf : zA) (ff : zA) : Option (Int32 × zA) := if s1 = s0 then (if l5 ≤ 0 then (B_L_boards_343 K l1 l2 l3 l4 l5 l7 l8 l9 nr nf pf ff) else (if l6 < 0 then (some (0, nf)) else (if l5 ≤ l6 then (some (0, nf)) else (b2 (f_X2_of l5 9 nr nf) fun v1 nf2 => b2 (f_X2_of l6 9 nr nf2) fun v4 nf5 => if v1 = (v4 + 1) then (B_L_boards_343 K l1 l2 l3 l4 l5 l7 l8 l9 nr nf5 pf ff) else (some (0, nf5)))))) else (some (0, nf))
noncomputable def B_L_boards_290 (K : Int32 → Int32 → Int32 → Int32 → Int32 → zA → zA → zA → zA → Option (Int32 × zA)) (s0 : Int32) (l1 : Int32) (l2 : Int32) (l3 : Int32) (l4 : Int32) (l5 : Int32) (l6 : Int32) (l7 : Int32) (l8 : Int32) (l9 : Int32) (nr : zA) (nf : zA) (pf : zA) (ff : zA) : Option (Int32 × zA) := if l6 = (-6) then (B_L_boards_302 K 1 s0 l1 l2 l3 l4 l5 l6 l7 l8 l9 nr nf pf ff) else (B_L_boards_302 K 0 s0 l1 l2 l3 l4 l5 l6 l7 l8 l9 nr nf pf ff)
noncomputable def B_L_boards_228 (K : Int32 → Int32 → Int32 → Int32 → Int32 → zA → zA → zA → zA → Option (Int32 × zA)) : Nat → Int32 → Int32 → Int32 → Int32 → Int32 → Int32 → Int32 → Int32 → Int32 → Int32 → zA → zA → zA → zA → Option (Int32 × zA)
  | 0, _, _, _, _, _, _, _, _, _, _, _, _, _, _ => none
  | n + 1, l1, l2, l3, l4, l5, l6, l7, l8, l9, l10, nr, nf, pf, ff => b2 (f_X2_count 2 nr nf pf ff) fun v1 nf2 => if v1 ≤ l10 then (if l5 = 0 then (B_L_boards_290 K 1 l1 l2 l3 l4 l5 l6 l7 l8 l9 nr nf2 pf ff) else (B_L_boards_290 K 0 l1 l2 l3 l4 l5 l6 l7 l8 l9 nr nf2 pf ff)) else (b1 (f_X2_ofLoad l10 0 nr) fun v4 => if v4 = l5 then (b1 (f_X2_ofLoad l10 1 nr) fun v10 => b1 (f_X2_ofLoad l10 3 nr) fun v12 => nmI (l8 + (v10 * v12)) fun x14 => nmI (l10 + 1) fun x16 => B_L_boards_228 K n l1 l2 l3 l4 l5 l6 l7 x14 l9 x16 nr nf2 pf ff) else (nmI (l8 + 0) fun x6 => nmI (l10 + 1) fun x8 => B_L_boards_228 K n l1 l2 l3 l4 l5 l6 l7 x6 l9 x8 nr nf2 pf ff))
noncomputable def B_L_boards_189 (K : Int32 → Int32 → Int32 → Int32 → Int32 → Int32 → Int32 → Int32 → Int32 → Int32 → zA → zA → zA → zA → Option (Int32 × zA)) (s0 : Int32) (s1 : Int32) (l1 : Int32) (l2 : Int32) (l3 : Int32) (l4 : Int32) (l5 : Int32) (l6 : Int32) (l7 : Int32) (l9 : Int32) (l10 : Int32) (nr : zA) (nf : zA) (pf : zA) (ff : zA) : Option (Int32 × zA) := nmI (s1 + s0) fun x1 => b2 (f_X2_of l10 0 nr nf) fun v3 nf4 => if v3 = l5 then (b1 (f_X2_fed l10 nr) fun v10 => nmI (l9 ||| v10) fun x12 => nmI (l10 + 1) fun x14 => K l1 l2 l3 l4 l5 l6 l7 x1 x12 x14 nr nf4 pf ff) else (nmI (l9 ||| 0) fun x6 => nmI (l10 + 1) fun x8 => K l1 l2 l3 l4 l5 l6 l7 x1 x6 x8 nr nf4 pf ff)
noncomputable def B_L_boards_154 (K : Int32 → Int32 → Int32 → Int32 → Int32 → zA → zA → zA → zA → Option (Int32 × zA)) : Nat → Int32 → Int32 → Int32 → Int32 → Int32 → Int32 → Int32 → Int32 → Int32 → Int32 → zA → zA → zA → zA → Option (Int32 × zA)
  | 0, _, _, _, _, _, _, _, _, _, _, _, _, _, _ => none
  | n + 1, l1, l2, l3, l4, l5, l6, l7, l8, l9, l10, nr, nf, pf, ff => b2 (f_X2_count 1 nr nf pf ff) fun v1 nf2 => if v1 ≤ l10 then (B_L_boards_228 K FU l1 l2 l3 l4 l5 l6 l7 l8 l9 0 nr nf2 pf ff) else (b2 (f_X2_of l10 0 nr nf2) fun v4 nf5 => if v4 = l5 then (b2 (f_X2_of l10 4 nr nf5) fun v7 nf8 => B_L_boards_189 (fun z0 z1 z2 z3 z4 z5 z6 z7 z8 z9 z10 z11 z12 z13 => B_L_boards_154 K n z0 z1 z2 z3 z4 z5 z6 z7 z8 z9 z10 z11 z12 z13) v7 l8 l1 l2 l3 l4 l5 l6 l7 l9 l10 nr nf8 pf ff) else (B_L_boards_189 (fun z0 z1 z2 z3 z4 z5 z6 z7 z8 z9 z10 z11 z12 z13 => B_L_boards_154 K n z0 z1 z2 z3 z4 z5 z6 z7 z8 z9 z10 z11 z12 z13) 0 l8 l1 l2 l3 l4 l5 l6 l7 l9 l10 nr nf5 pf ff))
noncomputable def B_L_boards_124 (K : Int32 → Int32 → Int32 → Int32 → Int32 → zA → zA → zA → zA → Option (Int32 × zA)) (s0 : Int32) (s1 : Int32) (l1 : Int32) (l2 : Int32) (l4 : Int32) (l5 : Int32) (l6 : Int32) (l7 : Int32) (nr : zA) (nf : zA) (pf : zA) (ff : zA) : Option (Int32 × zA) := nmI (s1 ||| s0) fun x1 => b2 (f_X2_of l5 11 nr nf) fun v3 nf4 => nmI (l4 + v3) fun x6 => nmI (1 <<< (l5 &&& 31)) fun x8 => nmI (l5 + 1) fun x10 => B_L_boards_154 K FU l1 l2 x1 x6 l5 l6 l7 0 x8 x10 nr nf4 pf ff
noncomputable def B_L_boards_102 (K : Int32 → Int32 → Int32 → Int32 → Int32 → zA → zA → zA → zA → Option (Int32 × zA)) (s0 : Int32) (s1 : Int32) (l1 : Int32) (l3 : Int32) (l4 : Int32) (l5 : Int32) (l6 : Int32) (l7 : Int32) (nr : zA) (nf : zA) (pf : zA) (ff : zA) : Option (Int32 × zA) := nmI (s1 ||| s0) fun x1 => b2 (f_X2_of l5 3 nr nf) fun v3 nf4 => if v3 = 1 then (B_L_boards_124 K (1 <<< (l5 &&& 31)) l3 l1 x1 l4 l5 l6 l7 nr nf4 pf ff) else (B_L_boards_124 K 0 l3 l1 x1 l4 l5 l6 l7 nr nf4 pf ff)
noncomputable def B_L_boards_80 (K : Int32 → Int32 → Int32 → Int32 → Int32 → zA → zA → zA → zA → Option (Int32 × zA)) (s0 : Int32) (s1 : Int32) (l2 : Int32) (l3 : Int32) (l4 : Int32) (l5 : Int32) (l6 : Int32) (l7 : Int32) (nr : zA) (nf : zA) (pf : zA) (ff : zA) : Option (Int32 × zA) := nmI (s1 ||| s0) fun x1 => b2 (f_X2_of l5 3 nr nf) fun v3 nf4 => if v3 = 2 then (B_L_boards_102 K (1 <<< (l5 &&& 31)) l2 x1 l3 l4 l5 l6 l7 nr nf4 pf ff) else (B_L_boards_102 K 0 l2 x1 l3 l4 l5 l6 l7 nr nf4 pf ff)
noncomputable def B_L_boards_64 (K : Int32 → Int32 → Int32 → Int32 → Int32 → zA → zA → zA → zA → Option (Int32 × zA)) (s0 : Int32) (l1 : Int32) (l2 : Int32) (l3 : Int32) (l4 : Int32) (l5 : Int32) (l6 : Int32) (nr : zA) (nf : zA) (pf : zA) (ff : zA) : Option (Int32 × zA) := if s0 = 0 then (B_L_boards_80 K 0 l1 l2 l3 l4 l5 l6 s0 nr nf pf ff) else (B_L_boards_80 K (1 <<< (l5 &&& 31)) l1 l2 l3 l4 l5 l6 s0 nr nf pf ff)
noncomputable def B_L_boards_59 (K : Int32 → Int32 → Int32 → Int32 → Int32 → zA → zA → zA → zA → Option (Int32 × zA)) (l1 : Int32) (l2 : Int32) (l3 : Int32) (l4 : Int32) (l5 : Int32) (l6 : Int32) (nr : zA) (nf : zA) (pf : zA) (ff : zA) : Option (Int32 × zA) := B_L_boards_64 K 1 l1 l2 l3 l4 l5 l6 nr nf pf ff
noncomputable def B_L_boards_63 (K : Int32 → Int32 → Int32 → Int32 → Int32 → zA → zA → zA → zA → Option (Int32 × zA)) (l1 : Int32) (l2 : Int32) (l3 : Int32) (l4 : Int32) (l5 : Int32) (l6 : Int32) (nr : zA) (nf : zA) (pf : zA) (ff : zA) : Option (Int32 × zA) := B_L_boards_64 K 0 l1 l2 l3 l4 l5 l6 nr nf pf ff
noncomputable def B_L_boards_12 : Nat → Int32 → Int32 → Int32 → Int32 → Int32 → zA → zA → zA → zA → Option (Int32 × zA)
  | 0, _, _, _, _, _, _, _, _, _ => none
  | n + 1, l1, l2, l3, l4, l5, nr, nf, pf, ff => b2 (f_X2_count 1 nr nf pf ff) fun v1 nf2 => if v1 ≤ l5 then (b2 (f_X2_count 3 nr nf2 pf ff) fun v4 nf5 => if v4 = l1 then (b2 (f_X2_count 5 nr nf5 pf ff) fun v7 nf8 => if v7 = l2 then (b2 (f_X2_count 6 nr nf8 pf ff) fun v10 nf11 => if v10 = l3 then (b2 (f_X2_count 7 nr nf11 pf ff) fun v13 nf14 => if v13 = l4 then (b2 (f_X2_count 8 nr nf14 pf ff) fun v16 nf17 => b2 (f_X2_count 1 nr nf17 pf ff) fun v19 nf20 => if v19 = 0 then (B_L_boards_580 0 v16 nr nf20 pf ff) else (b2 (f_X2_of 0 4 nr nf20) fun v22 nf23 => B_L_boards_580 v22 v16 nr nf23 pf ff)) else (some (0, nf14))) else (some (0, nf11))) else (some (0, nf8))) else (some (0, nf5))) else (b2 (f_X2_of l5 0 nr nf2) fun v25 nf26 => b2 (f_X2_of l5 3 nr nf26) fun v28 nf29 => if v28 = 2 then (B_L_boards_59 (fun z0 z1 z2 z3 z4 z5 z6 z7 z8 => B_L_boards_12 n z0 z1 z2 z3 z4 z5 z6 z7 z8) l1 l2 l3 l4 l5 v25 nr nf29 pf ff) else (if v25 < 0 then (B_L_boards_63 (fun z0 z1 z2 z3 z4 z5 z6 z7 z8 => B_L_boards_12 n z0 z1 z2 z3 z4 z5 z6 z7 z8) l1 l2 l3 l4 l5 v25 nr nf29 pf ff) else (b2 (f_X2_of v25 8 nr nf29) fun v31 nf32 => if v31 = 1 then (B_L_boards_59 (fun z0 z1 z2 z3 z4 z5 z6 z7 z8 => B_L_boards_12 n z0 z1 z2 z3 z4 z5 z6 z7 z8) l1 l2 l3 l4 l5 v25 nr nf32 pf ff) else (B_L_boards_63 (fun z0 z1 z2 z3 z4 z5 z6 z7 z8 => B_L_boards_12 n z0 z1 z2 z3 z4 z5 z6 z7 z8) l1 l2 l3 l4 l5 v25 nr nf32 pf ff))))
noncomputable def f_L_boards  (nr : zA) (nf : zA) (pf : zA) (ff : zA) : Option (Int32 × zA) := B_L_boards_12 FU 0 0 0 0 0 nr nf pf ff
noncomputable def B_L_hangs_150 : Nat → Int32 → Int32 → Int32 → zA → zA → zA → zA → Option (Int32 × zA)
  | 0, _, _, _, _, _, _, _ => none
  | n + 1, l1, l2, l3, nr, nf, pf, ff => if 8 ≤ l3 then (b2 (f_X2_count 4 nr nf pf ff) fun v1 nf2 => if v1 = l1 then (b2 (f_L_boards nr nf2 pf ff) fun v4 nf5 => if v4 = 0 then (some (0, nf5)) else (some (1, nf5))) else (some (0, nf2))) else (b1 (f_X2_blown l3 nr) fun v7 => if l2 ≤ l3 then (if v7 = (-1) then (nmI (l3 + 1) fun x9 => B_L_hangs_150 n l1 l2 x9 nr nf pf ff) else (some (0, nf))) else (if v7 < 0 then (some (0, nf)) else (b2 (f_X2_count 1 nr nf pf ff) fun v11 nf12 => if v11 ≤ v7 then (some (0, nf12)) else (b2 (f_X2_of v7 11 nr nf12) fun v14 nf15 => if v14 = 0 then (some (0, nf15)) else (nmI (l3 + 1) fun x17 => B_L_hangs_150 n l1 l2 x17 nr nf15 pf ff)))))
noncomputable def B_L_hangs_108 (K : Int32 → Int32 → zA → zA → zA → zA → Option (Int32 × zA)) (l1 : Int32) (l2 : Int32) (l3 : Int32) (nr : zA) (nf : zA) (pf : zA) (ff : zA) : Option (Int32 × zA) := if l2 = 0 then (if l3 = l1 then (nmI (l2 + 1) fun x3 => K l1 x3 nr nf pf ff) else (some (0, nf))) else (nmI (l2 + 1) fun x1 => K l1 x1 nr nf pf ff)
noncomputable def B_L_hangs_70 : Nat → Int32 → Int32 → zA → zA → zA → zA → Option (Int32 × zA)
  | 0, _, _, _, _, _, _ => none
  | n + 1, l1, l2, nr, nf, pf, ff => b2 (f_X2_count 1 nr nf pf ff) fun v1 nf2 => if v1 ≤ l2 then (b2 (f_X2_count 7 nr nf2 pf ff) fun v4 nf5 => if 8 ≤ v4 then (B_L_hangs_150 FU l1 8 0 nr nf5 pf ff) else (b2 (f_X2_count 7 nr nf5 pf ff) fun v7 nf8 => B_L_hangs_150 FU l1 v7 0 nr nf8 pf ff)) else (b1 (f_X2_ifOpen l2 nr) fun v10 => if (v10 &&& (l1 ^^^ (-1))) = 0 then (b2 (f_X2_of l2 8 nr nf2) fun v12 nf13 => if v12 = 1 then (if v10 = 0 then (B_L_hangs_108 (fun z0 z1 z2 z3 z4 z5 => B_L_hangs_70 n z0 z1 z2 z3 z4 z5) l1 l2 v10 nr nf13 pf ff) else (some (0, nf13))) else (B_L_hangs_108 (fun z0 z1 z2 z3 z4 z5 => B_L_hangs_70 n z0 z1 z2 z3 z4 z5) l1 l2 v10 nr nf13 pf ff)) else (some (0, nf2)))
noncomputable def B_L_hangs_43 (K : Int32 → Int32 → zA → zA → zA → zA → Option (Int32 × zA)) (s0 : Int32) (l1 : Int32) (l2 : Int32) (nr : zA) (nf : zA) (pf : zA) (ff : zA) : Option (Int32 × zA) := nmI (l1 ||| (s0 <<< (l2 &&& 31))) fun x1 => b1 (f_X2_ofLoad l2 3 nr) fun v3 => if v3 = s0 then (nmI (l2 + 1) fun x5 => K x1 x5 nr nf pf ff) else (some (0, nf))
noncomputable def B_L_hangs_42 (K : Int32 → Int32 → zA → zA → zA → zA → Option (Int32 × zA)) (l1 : Int32) (l2 : Int32) (nr : zA) (nf : zA) (pf : zA) (ff : zA) : Option (Int32 × zA) := B_L_hangs_43 K 0 l1 l2 nr nf pf ff
noncomputable def B_L_hangs_4 : Nat → Int32 → Int32 → zA → zA → zA → zA → Option (Int32 × zA)
  | 0, _, _, _, _, _, _ => none
  | n + 1, l1, l2, nr, nf, pf, ff => b2 (f_X2_count 2 nr nf pf ff) fun v1 nf2 => if v1 ≤ l2 then (B_L_hangs_70 FU l1 0 nr nf2 pf ff) else (b1 (f_X2_ofLoad l2 2 nr) fun v4 => if v4 = 1 then (b1 (f_X2_ofLoad l2 0 nr) fun v6 => b2 (f_X2_of v6 8 nr nf2) fun v8 nf9 => if v8 = 0 then (B_L_hangs_43 (fun z0 z1 z2 z3 z4 z5 => B_L_hangs_4 n z0 z1 z2 z3 z4 z5) 1 l1 l2 nr nf9 pf ff) else (B_L_hangs_42 (fun z0 z1 z2 z3 z4 z5 => B_L_hangs_4 n z0 z1 z2 z3 z4 z5) l1 l2 nr nf9 pf ff)) else (B_L_hangs_42 (fun z0 z1 z2 z3 z4 z5 => B_L_hangs_4 n z0 z1 z2 z3 z4 z5) l1 l2 nr nf2 pf ff))
noncomputable def f_L_hangs  (nr : zA) (nf : zA) (pf : zA) (ff : zA) : Option (Int32 × zA) := B_L_hangs_4 FU 0 0 nr nf pf ff
noncomputable def B_L_print_110 : Nat → Int64 → Int32 → zA → zA → zA → zA → Option (Int64 × zA)
  | 0, _, _, _, _, _, _ => none
  | n + 1, l1, l3, nr, nf, pf, ff => if 8 ≤ l3 then (some (l1, nf)) else (b1 (f_X2_blown l3 nr) fun v1 => nmI ((31 * l1) + (Int32.toInt64 v1)) fun x3 => nmI (l3 + 1) fun x5 => B_L_print_110 n x3 x5 nr nf pf ff)
noncomputable def B_L_print_73 : Nat → Int64 → Int32 → zA → zA → zA → zA → Option (Int64 × zA)
  | 0, _, _, _, _, _, _ => none
  | n + 1, l1, l3, nr, nf, pf, ff => b2 (f_X2_count 2 nr nf pf ff) fun v1 nf2 => if (3 * v1) ≤ l3 then (B_L_print_110 FU l1 0 nr nf2 pf ff) else (b1 (f_X2_ofLoad (l3 / 3) (l3 - l3 / 3 * 3) nr) fun v4 => nmI ((31 * l1) + (Int32.toInt64 v4)) fun x6 => nmI (l3 + 1) fun x8 => B_L_print_73 n x6 x8 nr nf2 pf ff)
noncomputable def B_L_print_33 : Nat → Int64 → Int32 → zA → zA → zA → zA → Option (Int64 × zA)
  | 0, _, _, _, _, _, _ => none
  | n + 1, l1, l3, nr, nf, pf, ff => b2 (f_X2_count 1 nr nf pf ff) fun v1 nf2 => if (12 * v1) ≤ l3 then (B_L_print_73 FU l1 0 nr nf2 pf ff) else (b2 (f_X2_of (l3 / 12) (l3 - l3 / 12 * 12) nr nf2) fun v4 nf5 => nmI ((31 * l1) + (Int32.toInt64 v4)) fun x7 => nmI (l3 + 1) fun x9 => B_L_print_33 n x7 x9 nr nf5 pf ff)
noncomputable def B_L_print_6 : Nat → Int64 → Int32 → zA → zA → zA → zA → Option (Int64 × zA)
  | 0, _, _, _, _, _, _ => none
  | n + 1, l1, l3, nr, nf, pf, ff => if 12 ≤ l3 then (B_L_print_33 FU l1 0 nr nf pf ff) else (b2 (f_X2_count l3 nr nf pf ff) fun v1 nf2 => nmI ((31 * l1) + (Int32.toInt64 v1)) fun x4 => nmI (l3 + 1) fun x6 => B_L_print_6 n x4 x6 nr nf2 pf ff)
noncomputable def f_L_print  (nr : zA) (nf : zA) (pf : zA) (ff : zA) : Option (Int64 × zA) := B_L_print_6 FU 9 0 nr nf pf ff
noncomputable def B_L_goes_279 (s0 : Int32) (l3 : Int64) (nr : zA) (nf : zA) (tr : zA) (tf : zA) (pf : zA) (hi : Nat → zA) (sl : Nat → zA) (sv : zA) (ff : zA) : Option (Int32 × zA × zA × zA × zA × (Nat → zA) × (Nat → zA) × zA × zA) := if s0 = 0 then (some (0, nr, nf, tr, tf, hi, sl, sv, ff)) else (b4 (f_X2_restore 1 nr hi sl sv ff) fun v1 nr2 hi3 ff4 => if v1 < 0 then (some (0, nr2, nf, tr, tf, hi3, sl, sv, ff4)) else (b2 (f_L_print nr2 nf pf ff4) fun v6 nf7 => if (lg_cmp v6 l3) = 0 then (some (1, nr2, nf7, tr, tf, hi3, sl, sv, ff4)) else (some (0, nr2, nf7, tr, tf, hi3, sl, sv, ff4))))
noncomputable def B_L_goes_278 (l3 : Int64) (nr : zA) (nf : zA) (tr : zA) (tf : zA) (pf : zA) (hi : Nat → zA) (sl : Nat → zA) (sv : zA) (ff : zA) : Option (Int32 × zA × zA × zA × zA × (Nat → zA) × (Nat → zA) × zA × zA) := B_L_goes_279 0 l3 nr nf tr tf pf hi sl sv ff
noncomputable def B_L_goes_239 (s0 : Int32) (s1 : Int32) (l2 : Int32) (l3 : Int64) (nr : zA) (nf : zA) (tr : zA) (tf : zA) (pf : zA) (hi : Nat → zA) (sl : Nat → zA) (sv : zA) (ff : zA) : Option (Int32 × zA × zA × zA × zA × (Nat → zA) × (Nat → zA) × zA × zA) := if s1 = s0 then (b2 (f_X2_of l2 10 nr nf) fun v1 nf2 => b2 (f_X2_count 9 nr nf2 pf ff) fun v4 nf5 => if v1 = v4 then (b2 (f_X2_of l2 5 nr nf5) fun v7 nf8 => b2 (f_X2_of l2 6 nr nf8) fun v10 nf11 => if v7 < v10 then (B_L_goes_278 l3 nr nf11 tr tf pf hi sl sv ff) else (B_L_goes_279 1 l3 nr nf11 tr tf pf hi sl sv ff)) else (B_L_goes_278 l3 nr nf5 tr tf pf hi sl sv ff)) else (B_L_goes_278 l3 nr nf tr tf pf hi sl sv ff)
noncomputable def B_L_goes_161 (s0 : Int32) (l2 : Int32) (l3 : Int64) (l5 : Int32) (l6 : Int32) (nr : zA) (nf : zA) (tr : zA) (tf : zA) (pf : zA) (hi : Nat → zA) (sl : Nat → zA) (sv : zA) (ff : zA) : Option (Int32 × zA × zA × zA × zA × (Nat → zA) × (Nat → zA) × zA × zA) := if l6 = 0 then (B_L_goes_278 l3 nr nf tr tf pf hi sl sv ff) else (b2 (f_X2_count 7 nr nf pf ff) fun v1 nf2 => if v1 = l5 then (b3 (f_X2_next 0 nr tr tf) fun v4 tr5 tf6 => if v4 = 1 then (b3 (f_X2_next 1 nr tr5 tf6) fun v8 tr9 tf10 => if v8 = l2 then (b5 (f_X2_pass 1 nr nf2 hi ff) fun v12 nr13 nf14 hi15 ff16 => if v12 ≤ 0 then (B_L_goes_278 l3 nr13 nf14 tr9 tf10 pf hi15 sl sv ff16) else (b2 (f_X2_of l2 11 nr13 nf14) fun v18 nf19 => if v18 = (s0 + 1) then (b2 (f_X2_of l2 3 nr13 nf19) fun v21 nf22 => b2 (f_X2_count 9 nr13 nf22 pf ff16) fun v24 nf25 => if v24 = 0 then (B_L_goes_239 2 v21 l2 l3 nr13 nf25 tr9 tf10 pf hi15 sl sv ff16) else (B_L_goes_239 1 v21 l2 l3 nr13 nf25 tr9 tf10 pf hi15 sl sv ff16)) else (B_L_goes_278 l3 nr13 nf19 tr9 tf10 pf hi15 sl sv ff16))) else (B_L_goes_278 l3 nr nf2 tr9 tf10 pf hi sl sv ff)) else (B_L_goes_278 l3 nr nf2 tr5 tf6 pf hi sl sv ff)) else (B_L_goes_278 l3 nr nf2 tr tf pf hi sl sv ff))
noncomputable def B_L_goes_146 (l2 : Int32) (l3 : Int64) (l5 : Int32) (l6 : Int32) (nr : zA) (nf : zA) (tr : zA) (tf : zA) (pf : zA) (hi : Nat → zA) (sl : Nat → zA) (sv : zA) (ff : zA) : Option (Int32 × zA × zA × zA × zA × (Nat → zA) × (Nat → zA) × zA × zA) := if 0 ≤ l2 then (b2 (f_X2_of l2 11 nr nf) fun v1 nf2 => B_L_goes_161 v1 l2 l3 l5 l6 nr nf2 tr tf pf hi sl sv ff) else (B_L_goes_161 0 l2 l3 l5 l6 nr nf tr tf pf hi sl sv ff)
noncomputable def B_L_goes_122 (K : Int32 → Int64 → Int32 → Int32 → Int32 → zA → zA → zA → zA → zA → (Nat → zA) → (Nat → zA) → zA → zA → Option (Int32 × zA × zA × zA × zA × (Nat → zA) × (Nat → zA) × zA × zA)) (s0 : Int32) (l2 : Int32) (l3 : Int64) (l5 : Int32) (l7 : Int32) (nr : zA) (nf : zA) (tr : zA) (tf : zA) (pf : zA) (hi : Nat → zA) (sl : Nat → zA) (sv : zA) (ff : zA) : Option (Int32 × zA × zA × zA × zA × (Nat → zA) × (Nat → zA) × zA × zA) := if l7 ≤ 99 then (nmI (l7 - l7) fun x1 => K l2 l3 l5 s0 x1 nr nf tr tf pf hi sl sv ff) else (nmI (l7 - 99) fun x3 => K l2 l3 l5 s0 x3 nr nf tr tf pf hi sl sv ff)
noncomputable def B_L_goes_111 (K : Int32 → Int64 → Int32 → Int32 → Int32 → zA → zA → zA → zA → zA → (Nat → zA) → (Nat → zA) → zA → zA → Option (Int32 × zA × zA × zA × zA × (Nat → zA) × (Nat → zA) × zA × zA)) (s0 : Int32) (l2 : Int32) (l3 : Int64) (l5 : Int32) (l7 : Int32) (nr : zA) (nf : zA) (tr : zA) (tf : zA) (pf : zA) (hi : Nat → zA) (sl : Nat → zA) (sv : zA) (ff : zA) : Option (Int32 × zA × zA × zA × zA × (Nat → zA) × (Nat → zA) × zA × zA) := b5 (f_X2_pass s0 nr nf hi ff) fun v1 nr2 nf3 hi4 ff5 => if v1 = 0 then (B_L_goes_122 K 1 l2 l3 l5 l7 nr2 nf3 tr tf pf hi4 sl sv ff5) else (B_L_goes_122 K 0 l2 l3 l5 l7 nr2 nf3 tr tf pf hi4 sl sv ff5)
noncomputable def B_L_goes_86 : Nat → Int32 → Int64 → Int32 → Int32 → Int32 → zA → zA → zA → zA → zA → (Nat → zA) → (Nat → zA) → zA → zA → Option (Int32 × zA × zA × zA × zA × (Nat → zA) × (Nat → zA) × zA × zA)
  | 0, _, _, _, _, _, _, _, _, _, _, _, _, _, _ => none
  | n + 1, l2, l3, l5, l6, l7, nr, nf, tr, tf, pf, hi, sl, sv, ff => if l7 ≤ 0 then (B_L_goes_146 l2 l3 l5 l6 nr nf tr tf pf hi sl sv ff) else (if l6 = 0 then (B_L_goes_146 l2 l3 l5 l6 nr nf tr tf pf hi sl sv ff) else (if l7 ≤ 99 then (B_L_goes_111 (fun z0 z1 z2 z3 z4 z5 z6 z7 z8 z9 z10 z11 z12 z13 => B_L_goes_86 n z0 z1 z2 z3 z4 z5 z6 z7 z8 z9 z10 z11 z12 z13) l7 l2 l3 l5 l7 nr nf tr tf pf hi sl sv ff) else (B_L_goes_111 (fun z0 z1 z2 z3 z4 z5 z6 z7 z8 z9 z10 z11 z12 z13 => B_L_goes_86 n z0 z1 z2 z3 z4 z5 z6 z7 z8 z9 z10 z11 z12 z13) 99 l2 l3 l5 l7 nr nf tr tf pf hi sl sv ff)))
noncomputable def B_L_goes_78 (l1 : Int32) (l2 : Int32) (l3 : Int64) (l5 : Int32) (nr : zA) (nf : zA) (tr : zA) (tf : zA) (pf : zA) (hi : Nat → zA) (sl : Nat → zA) (sv : zA) (ff : zA) : Option (Int32 × zA × zA × zA × zA × (Nat → zA) × (Nat → zA) × zA × zA) := nmI (l1 - 1) fun x1 => B_L_goes_86 FU l2 l3 l5 0 x1 nr nf tr tf pf hi sl sv ff
noncomputable def f_L_goes  (nr : zA) (nf : zA) (tr : zA) (tf : zA) (pf : zA) (hi : Nat → zA) (sl : Nat → zA) (sv : zA) (ff : zA) : Option (Int32 × zA × zA × zA × zA × (Nat → zA) × (Nat → zA) × zA × zA) := b3 (f_X2_next 0 nr tr tf) fun v1 tr2 tf3 => b3 (f_X2_next 1 nr tr2 tf3) fun v5 tr6 tf7 => if 0 ≤ v1 then (b2 (f_L_print nr nf pf ff) fun v9 nf10 => b2 (f_X2_count 7 nr nf10 pf ff) fun v12 nf13 => if v1 ≤ 0 then (B_L_goes_78 v1 v5 v9 v12 nr nf13 tr6 tf7 pf hi sl sv ff) else (if 200 < v1 then (B_L_goes_78 v1 v5 v9 v12 nr nf13 tr6 tf7 pf hi sl sv ff) else (if v5 < 0 then (B_L_goes_78 v1 v5 v9 v12 nr nf13 tr6 tf7 pf hi sl sv ff) else (b3 (f_X2_save 1 nr sl sv) fun v15 sl16 sv17 => b2 (f_X2_count 1 nr nf13 pf ff) fun v19 nf20 => if v15 = v19 then (nmI (v1 - 1) fun x22 => B_L_goes_86 FU v5 v9 v12 1 x22 nr nf20 tr6 tf7 pf hi sl16 sv17 ff) else (B_L_goes_78 v1 v5 v9 v12 nr nf20 tr6 tf7 pf hi sl16 sv17 ff))))) else (if v1 = (-6) then (if v5 = v1 then (some (1, nr, nf, tr6, tf7, hi, sl, sv, ff)) else (some (0, nr, nf, tr6, tf7, hi, sl, sv, ff))) else (some (0, nr, nf, tr6, tf7, hi, sl, sv, ff)))
noncomputable def B_L_tests_210 (s0 : Int32) (l5 : Int64) (nr : zA) (nf : zA) (tr : zA) (tf : zA) (pf : zA) (ff : zA) : Option (Int32 × zA × zA × zA) := if s0 = 0 then (some (0, nf, tr, tf)) else (b2 (f_L_print nr nf pf ff) fun v1 nf2 => if (lg_cmp v1 l5) = 0 then (some (1, nf2, tr, tf)) else (some (0, nf2, tr, tf)))
noncomputable def B_L_tests_209 (l5 : Int64) (nr : zA) (nf : zA) (tr : zA) (tf : zA) (pf : zA) (ff : zA) : Option (Int32 × zA × zA × zA) := B_L_tests_210 0 l5 nr nf tr tf pf ff
noncomputable def B_L_tests_205 (l5 : Int64) (nr : zA) (nf : zA) (tr : zA) (tf : zA) (pf : zA) (ff : zA) : Option (Int32 × zA × zA × zA) := B_L_tests_210 1 l5 nr nf tr tf pf ff
noncomputable def B_L_tests_189 (l1 : Int32) (l3 : Int32) (l5 : Int64) (nr : zA) (nf : zA) (tr : zA) (tf : zA) (pf : zA) (ff : zA) : Option (Int32 × zA × zA × zA) := b2 (f_X2_of l1 8 nr nf) fun v1 nf2 => if v1 = 0 then (B_L_tests_205 l5 nr nf2 tr tf pf ff) else (if l3 = (-6) then (B_L_tests_205 l5 nr nf2 tr tf pf ff) else (B_L_tests_209 l5 nr nf2 tr tf pf ff))
noncomputable def B_L_tests_158 (K : Int32 → Int32 → Int32 → Int64 → Int32 → Int32 → Int32 → zA → zA → zA → zA → zA → zA → Option (Int32 × zA × zA × zA)) (s0 : Int32) (l1 : Int32) (l2 : Int32) (l3 : Int32) (l5 : Int64) (l7 : Int32) (l9 : Int32) (nr : zA) (nf : zA) (tr : zA) (tf : zA) (pf : zA) (ff : zA) : Option (Int32 × zA × zA × zA) := b2 (f_X2_of l9 0 nr nf) fun v1 nf2 => K l1 l2 l3 l5 l7 s0 v1 nr nf2 tr tf pf ff
noncomputable def B_L_tests_129 : Nat → Int32 → Int32 → Int32 → Int64 → Int32 → Int32 → Int32 → zA → zA → zA → zA → zA → zA → Option (Int32 × zA × zA × zA)
  | 0, _, _, _, _, _, _, _, _, _, _, _, _, _ => none
  | n + 1, l1, l2, l3, l5, l7, l8, l9, nr, nf, tr, tf, pf, ff => if l9 < 0 then (if l7 = 0 then (B_L_tests_209 l5 nr nf tr tf pf ff) else (if l8 < l2 then (B_L_tests_189 l1 l3 l5 nr nf tr tf pf ff) else (if l3 = (-6) then (B_L_tests_189 l1 l3 l5 nr nf tr tf pf ff) else (B_L_tests_209 l5 nr nf tr tf pf ff)))) else (b2 (f_X2_of l9 1 nr nf) fun v1 nf2 => if l8 ≤ v1 then (B_L_tests_158 (fun z0 z1 z2 z3 z4 z5 z6 z7 z8 z9 z10 z11 z12 => B_L_tests_129 n z0 z1 z2 z3 z4 z5 z6 z7 z8 z9 z10 z11 z12) l8 l1 l2 l3 l5 l7 l9 nr nf2 tr tf pf ff) else (b2 (f_X2_of l9 1 nr nf2) fun v4 nf5 => B_L_tests_158 (fun z0 z1 z2 z3 z4 z5 z6 z7 z8 z9 z10 z11 z12 => B_L_tests_129 n z0 z1 z2 z3 z4 z5 z6 z7 z8 z9 z10 z11 z12) v4 l1 l2 l3 l5 l7 l9 nr nf5 tr tf pf ff))
noncomputable def B_L_tests_119 (l1 : Int32) (l2 : Int32) (l3 : Int32) (l5 : Int64) (nr : zA) (nf : zA) (tr : zA) (tf : zA) (pf : zA) (ff : zA) : Option (Int32 × zA × zA × zA) := B_L_tests_129 FU l1 l2 l3 l5 0 100 l1 nr nf tr tf pf ff
noncomputable def B_L_tests_115 (l1 : Int32) (l2 : Int32) (l3 : Int32) (l5 : Int64) (nr : zA) (nf : zA) (tr : zA) (tf : zA) (pf : zA) (ff : zA) : Option (Int32 × zA × zA × zA) := B_L_tests_129 FU l1 l2 l3 l5 1 100 l1 nr nf tr tf pf ff
noncomputable def B_L_tests_68 (s0 : Int32) (s1 : Int32) (l1 : Int32) (l2 : Int32) (l3 : Int32) (l4 : Int32) (l5 : Int64) (nr : zA) (nf : zA) (tr : zA) (tf : zA) (pf : zA) (ff : zA) : Option (Int32 × zA × zA × zA) := if s1 = s0 then (if 0 ≤ l3 then (if 200 < l3 then (B_L_tests_119 l1 l2 l3 l5 nr nf tr tf pf ff) else (b1 (f_X2_fed l4 nr) fun v1 => if ((v1 >>> (l1 &&& 31)) &&& 1) = 1 then (b2 (f_X2_of l4 3 nr nf) fun v3 nf4 => if v3 = 0 then (B_L_tests_115 l1 l2 l3 l5 nr nf4 tr tf pf ff) else (B_L_tests_119 l1 l2 l3 l5 nr nf4 tr tf pf ff)) else (B_L_tests_119 l1 l2 l3 l5 nr nf tr tf pf ff))) else (if l3 = (-6) then (B_L_tests_115 l1 l2 l3 l5 nr nf tr tf pf ff) else (B_L_tests_119 l1 l2 l3 l5 nr nf tr tf pf ff))) else (B_L_tests_119 l1 l2 l3 l5 nr nf tr tf pf ff)
noncomputable def B_L_tests_58 (s0 : Int32) (l1 : Int32) (l2 : Int32) (l3 : Int32) (l4 : Int32) (l5 : Int64) (nr : zA) (nf : zA) (tr : zA) (tf : zA) (pf : zA) (ff : zA) : Option (Int32 × zA × zA × zA) := if 0 ≤ l4 then (B_L_tests_68 0 s0 l1 l2 l3 l4 l5 nr nf tr tf pf ff) else (B_L_tests_68 1 s0 l1 l2 l3 l4 l5 nr nf tr tf pf ff)
noncomputable def f_L_tests (a1 : Int32) (a2 : Int32) (nr : zA) (nf : zA) (tr : zA) (tf : zA) (pf : zA) (ff : zA) : Option (Int32 × zA × zA × zA) := b3 (f_X2_test a1 a2 0 nr tr tf) fun v1 tr2 tf3 => b3 (f_X2_test a1 a2 1 nr tr2 tf3) fun v5 tr6 tf7 => b2 (f_X2_count 1 nr nf pf ff) fun v9 nf10 => if a1 < v9 then (b2 (f_L_print nr nf10 pf ff) fun v12 nf13 => if 0 ≤ v1 then (B_L_tests_58 0 a1 a2 v1 v5 v12 nr nf13 tr6 tf7 pf ff) else (B_L_tests_58 1 a1 a2 v1 v5 v12 nr nf13 tr6 tf7 pf ff)) else (if v1 = (-1) then (if v5 = v1 then (some (1, nf10, tr6, tf7)) else (some (0, nf10, tr6, tf7))) else (some (0, nf10, tr6, tf7)))
noncomputable def B_L_faults_4 : Nat → Int32 → Int32 → Int32 → zA → zA → zA → zA → zA → zA → Option (Int32 × zA × zA × zA)
  | 0, _, _, _, _, _, _, _, _, _ => none
  | n + 1, l1, l2, l3, nr, nf, tr, tf, pf, ff => b2 (f_X2_count 1 nr nf pf ff) fun v1 nf2 => if v1 ≤ l3 then (b3 (f_X2_unfair l1 nr tr tf) fun v4 tr5 tf6 => if v4 = l2 then (if (l2 &&& 1) = 0 then (some (1, nf2, tr5, tf6)) else (some (0, nf2, tr5, tf6))) else (some (0, nf2, tr5, tf6))) else (b2 (f_X2_of l3 1 nr nf2) fun v8 nf9 => b3 (f_X2_test l3 (l1 * v8) 1 nr tr tf) fun v11 tr12 tf13 => if v11 < 0 then (nmI (l2 ||| 0) fun x15 => nmI (l3 + 1) fun x17 => B_L_faults_4 n l1 x15 x17 nr nf9 tr12 tf13 pf ff) else (if v11 = l3 then (nmI (l2 ||| 0) fun x19 => nmI (l3 + 1) fun x21 => B_L_faults_4 n l1 x19 x21 nr nf9 tr12 tf13 pf ff) else (nmI (l2 ||| (1 <<< (l3 &&& 31))) fun x23 => nmI (l3 + 1) fun x25 => B_L_faults_4 n l1 x23 x25 nr nf9 tr12 tf13 pf ff)))
noncomputable def f_L_faults (a1 : Int32) (nr : zA) (nf : zA) (tr : zA) (tf : zA) (pf : zA) (ff : zA) : Option (Int32 × zA × zA × zA) := B_L_faults_4 FU a1 0 0 nr nf tr tf pf ff
noncomputable def B_L_law_421 (L : Nat) (xs : zA) (l2 : Int32) (nr : zA) (nf : zA) (tr : zA) (tf : zA) (pf : zA) (hi : Nat → zA) (sl : Nat → zA) (sv : zA) (ff : zA) : Option (Int32 × zA × zA × zA × zA × (Nat → zA) × (Nat → zA) × zA × zA) := if l2 = 0 then (some (0, nr, nf, tr, tf, hi, sl, sv, ff)) else (b2 (f_L_hangs nr nf pf ff) fun v1 nf2 => if v1 = 0 then (some (0, nr, nf2, tr, tf, hi, sl, sv, ff)) else (some (1, nr, nf2, tr, tf, hi, sl, sv, ff)))
noncomputable def B_L_law_375 (L : Nat) (xs : zA) (K : Int32 → Int32 → zA → zA → zA → zA → zA → (Nat → zA) → (Nat → zA) → zA → zA → Option (Int32 × zA × zA × zA × zA × (Nat → zA) × (Nat → zA) × zA × zA)) (s0 : Int32) (s1 : Int32) (s2 : Int32) (s3 : Int32) (l3 : Int32) (l4 : Int32) (nr : zA) (nf : zA) (tr : zA) (tf : zA) (pf : zA) (hi : Nat → zA) (sl : Nat → zA) (sv : zA) (ff : zA) : Option (Int32 × zA × zA × zA × zA × (Nat → zA) × (Nat → zA) × zA × zA) := b1 (f_L_low s1 s0) fun v1 => b4 (f_L_tests s3 (s2 + v1) nr nf tr tf pf ff) fun v3 nf4 tr5 tf6 => if v3 = 0 then (nmI (l3 + 1) fun x8 => K 0 x8 nr nf4 tr5 tf6 pf hi sl sv ff) else (if 0 < (l3 - l3 / 5 * 5) then (nmI (l3 + 1) fun x10 => K 1 x10 nr nf4 tr5 tf6 pf hi sl sv ff) else (b1 (f_L_low (l4 >>> (4 &&& 31)) 19) fun v12 => b4 (f_L_faults (2 + v12) nr nf4 tr5 tf6 pf ff) fun v14 nf15 tr16 tf17 => if v14 = 0 then (nmI (l3 + 1) fun x19 => K 0 x19 nr nf15 tr16 tf17 pf hi sl sv ff) else (nmI (l3 + 1) fun x21 => K 1 x21 nr nf15 tr16 tf17 pf hi sl sv ff)))
noncomputable def B_L_law_339 (L : Nat) (xs : zA) (K : Int32 → Int32 → zA → zA → zA → zA → zA → (Nat → zA) → (Nat → zA) → zA → zA → Option (Int32 × zA × zA × zA × zA × (Nat → zA) × (Nat → zA) × zA × zA)) (l3 : Int32) (l4 : Int32) (l5 : Int32) (nr : zA) (nf : zA) (tr : zA) (tf : zA) (pf : zA) (hi : Nat → zA) (sl : Nat → zA) (sv : zA) (ff : zA) : Option (Int32 × zA × zA × zA × zA × (Nat → zA) × (Nat → zA) × zA × zA) := b1 (f_L_low (l4 >>> (6 &&& 31)) 6) fun v1 => b1 (f_L_low (l5 >>> (9 &&& 31)) 3) fun v3 => if v3 = 0 then (B_L_law_375 L xs K 500 (l5 >>> (3 &&& 31)) 1 v1 l3 l4 nr nf tr tf pf hi sl sv ff) else (B_L_law_375 L xs K 20 (l5 >>> (3 &&& 31)) 1 v1 l3 l4 nr nf tr tf pf hi sl sv ff)
noncomputable def B_L_law_315 (L : Nat) (xs : zA) (K : Int32 → Int32 → zA → zA → zA → zA → zA → (Nat → zA) → (Nat → zA) → zA → zA → Option (Int32 × zA × zA × zA × zA × (Nat → zA) × (Nat → zA) × zA × zA)) (l2 : Int32) (l3 : Int32) (l4 : Int32) (l5 : Int32) (nr : zA) (nf : zA) (tr : zA) (tf : zA) (pf : zA) (hi : Nat → zA) (sl : Nat → zA) (sv : zA) (ff : zA) : Option (Int32 × zA × zA × zA × zA × (Nat → zA) × (Nat → zA) × zA × zA) := if l2 = 0 then (nmI (l3 + 1) fun x1 => K 0 x1 nr nf tr tf pf hi sl sv ff) else (b2 (f_L_hangs nr nf pf ff) fun v3 nf4 => if v3 = 0 then (nmI (l3 + 1) fun x6 => K 0 x6 nr nf4 tr tf pf hi sl sv ff) else (if 0 < (l3 - l3 / 3 * 3) then (B_L_law_339 L xs K l3 l4 l5 nr nf4 tr tf pf hi sl sv ff) else (b9 (f_L_goes nr nf4 tr tf pf hi sl sv ff) fun v8 nr9 nf10 tr11 tf12 hi13 sl14 sv15 ff16 => if v8 = 0 then (nmI (l3 + 1) fun x18 => K 0 x18 nr9 nf10 tr11 tf12 pf hi13 sl14 sv15 ff16) else (B_L_law_339 L xs K l3 l4 l5 nr9 nf10 tr11 tf12 pf hi13 sl14 sv15 ff16))))
noncomputable def B_L_law_314 (L : Nat) (xs : zA) (K : Int32 → Int32 → zA → zA → zA → zA → zA → (Nat → zA) → (Nat → zA) → zA → zA → Option (Int32 × zA × zA × zA × zA × (Nat → zA) × (Nat → zA) × zA × zA)) (s0 : Int32) (l3 : Int32) (l4 : Int32) (l5 : Int32) (nr : zA) (nf : zA) (tr : zA) (tf : zA) (pf : zA) (hi : Nat → zA) (sl : Nat → zA) (sv : zA) (ff : zA) : Option (Int32 × zA × zA × zA × zA × (Nat → zA) × (Nat → zA) × zA × zA) := B_L_law_315 L xs K s0 l3 l4 l5 nr nf tr tf pf hi sl sv ff
noncomputable def B_L_law_313 (L : Nat) (xs : zA) (K : Int32 → Int32 → zA → zA → zA → zA → zA → (Nat → zA) → (Nat → zA) → zA → zA → Option (Int32 × zA × zA × zA × zA × (Nat → zA) × (Nat → zA) × zA × zA)) (l3 : Int32) (l4 : Int32) (l5 : Int32) (nr : zA) (nf : zA) (tr : zA) (tf : zA) (pf : zA) (hi : Nat → zA) (sl : Nat → zA) (sv : zA) (ff : zA) : Option (Int32 × zA × zA × zA × zA × (Nat → zA) × (Nat → zA) × zA × zA) := B_L_law_314 L xs K 0 l3 l4 l5 nr nf tr tf pf hi sl sv ff
noncomputable def B_L_law_283 (L : Nat) (xs : zA) (K : Int32 → Int32 → zA → zA → zA → zA → zA → (Nat → zA) → (Nat → zA) → zA → zA → Option (Int32 × zA × zA × zA × zA × (Nat → zA) × (Nat → zA) × zA × zA)) (s0 : Int32) (s1 : Int32) (l3 : Int32) (l4 : Int32) (l5 : Int32) (l7 : Int64) (l9 : Int32) (nr : zA) (nf : zA) (tr : zA) (tf : zA) (pf : zA) (hi : Nat → zA) (sl : Nat → zA) (sv : zA) (ff : zA) : Option (Int32 × zA × zA × zA × zA × (Nat → zA) × (Nat → zA) × zA × zA) := if s1 = s0 then (b2 (f_L_print nr nf pf ff) fun v1 nf2 => if (lg_cmp v1 l7) = 0 then (b5 (f_L_act l4 l5 nr nf2 hi ff) fun v4 nr5 nf6 hi7 ff8 => if v4 = l9 then (B_L_law_314 L xs K 1 l3 l4 l5 nr5 nf6 tr tf pf hi7 sl sv ff8) else (B_L_law_313 L xs K l3 l4 l5 nr5 nf6 tr tf pf hi7 sl sv ff8)) else (B_L_law_313 L xs K l3 l4 l5 nr nf2 tr tf pf hi sl sv ff)) else (B_L_law_313 L xs K l3 l4 l5 nr nf tr tf pf hi sl sv ff)
noncomputable def B_L_law_244 (L : Nat) (xs : zA) (K : Int32 → Int32 → zA → zA → zA → zA → zA → (Nat → zA) → (Nat → zA) → zA → zA → Option (Int32 × zA × zA × zA × zA × (Nat → zA) × (Nat → zA) × zA × zA)) (s0 : Int32) (l3 : Int32) (l4 : Int32) (l5 : Int32) (l6 : Int32) (l7 : Int64) (l9 : Int32) (nr : zA) (nf : zA) (tr : zA) (tf : zA) (pf : zA) (hi : Nat → zA) (sl : Nat → zA) (sv : zA) (ff : zA) : Option (Int32 × zA × zA × zA × zA × (Nat → zA) × (Nat → zA) × zA × zA) := if s0 = 0 then (B_L_law_315 L xs K s0 l3 l4 l5 nr nf tr tf pf hi sl sv ff) else (if l3 ≤ 7 then (B_L_law_315 L xs K s0 l3 l4 l5 nr nf tr tf pf hi sl sv ff) else (b1 (f_L_low (l5 >>> (5 &&& 31)) 4) fun v1 => if v1 = 0 then (b3 (f_X2_undo nr hi ff) fun v3 nr4 ff5 => if 6 ≤ l6 then (B_L_law_283 L xs K 5 v3 l3 l4 l5 l7 l9 nr4 nf tr tf pf hi sl sv ff5) else (B_L_law_283 L xs K l6 v3 l3 l4 l5 l7 l9 nr4 nf tr tf pf hi sl sv ff5)) else (B_L_law_315 L xs K s0 l3 l4 l5 nr nf tr tf pf hi sl sv ff)))
noncomputable def B_L_law_236 (L : Nat) (xs : zA) (K : Int32 → Int32 → zA → zA → zA → zA → zA → (Nat → zA) → (Nat → zA) → zA → zA → Option (Int32 × zA × zA × zA × zA × (Nat → zA) × (Nat → zA) × zA × zA)) (s0 : Int32) (s1 : Int32) (l3 : Int32) (l4 : Int32) (l5 : Int32) (l6 : Int32) (l7 : Int64) (l9 : Int32) (nr : zA) (nf : zA) (tr : zA) (tf : zA) (pf : zA) (hi : Nat → zA) (sl : Nat → zA) (sv : zA) (ff : zA) : Option (Int32 × zA × zA × zA × zA × (Nat → zA) × (Nat → zA) × zA × zA) := if s1 = s0 then (B_L_law_244 L xs K 1 l3 l4 l5 l6 l7 l9 nr nf tr tf pf hi sl sv ff) else (B_L_law_244 L xs K 0 l3 l4 l5 l6 l7 l9 nr nf tr tf pf hi sl sv ff)
noncomputable def B_L_law_210 (L : Nat) (xs : zA) (K : Int32 → Int32 → zA → zA → zA → zA → zA → (Nat → zA) → (Nat → zA) → zA → zA → Option (Int32 × zA × zA × zA × zA × (Nat → zA) × (Nat → zA) × zA × zA)) (s0 : Int32) (l3 : Int32) (l4 : Int32) (l5 : Int32) (nr : zA) (nf : zA) (tr : zA) (tf : zA) (pf : zA) (hi : Nat → zA) (sl : Nat → zA) (sv : zA) (ff : zA) : Option (Int32 × zA × zA × zA × zA × (Nat → zA) × (Nat → zA) × zA × zA) := B_L_law_315 L xs K s0 l3 l4 l5 nr nf tr tf pf hi sl sv ff
noncomputable def B_L_law_209 (L : Nat) (xs : zA) (K : Int32 → Int32 → zA → zA → zA → zA → zA → (Nat → zA) → (Nat → zA) → zA → zA → Option (Int32 × zA × zA × zA × zA × (Nat → zA) × (Nat → zA) × zA × zA)) (l3 : Int32) (l4 : Int32) (l5 : Int32) (nr : zA) (nf : zA) (tr : zA) (tf : zA) (pf : zA) (hi : Nat → zA) (sl : Nat → zA) (sv : zA) (ff : zA) : Option (Int32 × zA × zA × zA × zA × (Nat → zA) × (Nat → zA) × zA × zA) := B_L_law_210 L xs K 0 l3 l4 l5 nr nf tr tf pf hi sl sv ff
noncomputable def B_L_law_177 (L : Nat) (xs : zA) (K : Int32 → Int32 → zA → zA → zA → zA → zA → (Nat → zA) → (Nat → zA) → zA → zA → Option (Int32 × zA × zA × zA × zA × (Nat → zA) × (Nat → zA) × zA × zA)) (s0 : Int32) (l3 : Int32) (l4 : Int32) (l5 : Int32) (l6 : Int32) (l7 : Int64) (nr : zA) (nf : zA) (tr : zA) (tf : zA) (pf : zA) (hi : Nat → zA) (sl : Nat → zA) (sv : zA) (ff : zA) : Option (Int32 × zA × zA × zA × zA × (Nat → zA) × (Nat → zA) × zA × zA) := if 0 ≤ s0 then (b2 (f_X2_count 13 nr nf pf ff) fun v1 nf2 => if 6 ≤ l6 then (B_L_law_236 L xs K 6 v1 l3 l4 l5 l6 l7 s0 nr nf2 tr tf pf hi sl sv ff) else (B_L_law_236 L xs K (l6 + 1) v1 l3 l4 l5 l6 l7 s0 nr nf2 tr tf pf hi sl sv ff)) else (b2 (f_X2_count 13 nr nf pf ff) fun v4 nf5 => if v4 = l6 then (b2 (f_L_print nr nf5 pf ff) fun v7 nf8 => if (lg_cmp v7 l7) = 0 then (B_L_law_210 L xs K 1 l3 l4 l5 nr nf8 tr tf pf hi sl sv ff) else (B_L_law_209 L xs K l3 l4 l5 nr nf8 tr tf pf hi sl sv ff)) else (B_L_law_209 L xs K l3 l4 l5 nr nf5 tr tf pf hi sl sv ff))
noncomputable def B_L_law_117 (L : Nat) (xs : zA) (K : Int32 → Int32 → zA → zA → zA → zA → zA → (Nat → zA) → (Nat → zA) → zA → zA → Option (Int32 × zA × zA × zA × zA × (Nat → zA) × (Nat → zA) × zA × zA)) (s0 : Int32) (s1 : Int32) (l3 : Int32) (l4 : Int32) (l5 : Int32) (l6 : Int32) (l7 : Int64) (nr : zA) (nf : zA) (tr : zA) (tf : zA) (pf : zA) (hi : Nat → zA) (sl : Nat → zA) (sv : zA) (ff : zA) : Option (Int32 × zA × zA × zA × zA × (Nat → zA) × (Nat → zA) × zA × zA) := b1 (f_L_low l5 9) fun v1 => b1 (f_L_low (l5 >>> (4 &&& 31)) 3) fun v3 => b4 (f_X2_board (s1 - s0) (1 + v1) v3 nr hi ff) fun v5 nr6 hi7 ff8 => B_L_law_177 L xs K v5 l3 l4 l5 l6 l7 nr6 nf tr tf pf hi7 sl sv ff8
noncomputable def B_L_law_116 (L : Nat) (xs : zA) (K : Int32 → Int32 → zA → zA → zA → zA → zA → (Nat → zA) → (Nat → zA) → zA → zA → Option (Int32 × zA × zA × zA × zA × (Nat → zA) × (Nat → zA) × zA × zA)) (s0 : Int32) (l3 : Int32) (l4 : Int32) (l5 : Int32) (l6 : Int32) (l7 : Int64) (nr : zA) (nf : zA) (tr : zA) (tf : zA) (pf : zA) (hi : Nat → zA) (sl : Nat → zA) (sv : zA) (ff : zA) : Option (Int32 × zA × zA × zA × zA × (Nat → zA) × (Nat → zA) × zA × zA) := B_L_law_117 L xs K 0 s0 l3 l4 l5 l6 l7 nr nf tr tf pf hi sl sv ff
noncomputable def B_L_law_38 (L : Nat) (xs : zA) : Nat → Int32 → Int32 → zA → zA → zA → zA → zA → (Nat → zA) → (Nat → zA) → zA → zA → Option (Int32 × zA × zA × zA × zA × (Nat → zA) × (Nat → zA) × zA × zA)
  | 0, _, _, _, _, _, _, _, _, _, _, _ => none
  | n + 1, l2, l3, nr, nf, tr, tf, pf, hi, sl, sv, ff => if 46 ≤ l3 then (B_L_law_421 L xs l2 nr nf tr tf pf hi sl sv ff) else (if l2 = 0 then (B_L_law_421 L xs l2 nr nf tr tf pf hi sl sv ff) else (b1 (cellf L xs (2 * l3)) fun v1 => b1 (cellf L xs ((2 * l3) + 1)) fun v3 => b2 (f_X2_count 13 nr nf pf ff) fun v5 nf6 => b2 (f_L_print nr nf6 pf ff) fun v8 nf9 => if 4 ≤ l3 then (if 8 ≤ l3 then (b5 (f_L_act v1 v3 nr nf9 hi ff) fun v11 nr12 nf13 hi14 ff15 => B_L_law_177 L xs (fun z0 z1 z2 z3 z4 z5 z6 z7 z8 z9 z10 => B_L_law_38 L xs n z0 z1 z2 z3 z4 z5 z6 z7 z8 z9 z10) v11 l3 v1 v3 v5 v8 nr12 nf13 tr tf pf hi14 sl sv ff15) else (b1 (f_L_low v1 4) fun v17 => b1 (f_L_low v3 14) fun v19 => b4 (f_X2_load v17 (1 + v19) nr hi ff) fun v21 nr22 hi23 ff24 => B_L_law_177 L xs (fun z0 z1 z2 z3 z4 z5 z6 z7 z8 z9 z10 => B_L_law_38 L xs n z0 z1 z2 z3 z4 z5 z6 z7 z8 z9 z10) v21 l3 v1 v3 v5 v8 nr22 nf9 tr tf pf hi23 sl sv ff24)) else (b1 (f_L_low v1 (l3 + 1)) fun v26 => if l3 ≤ 0 then (B_L_law_116 L xs (fun z0 z1 z2 z3 z4 z5 z6 z7 z8 z9 z10 => B_L_law_38 L xs n z0 z1 z2 z3 z4 z5 z6 z7 z8 z9 z10) v26 l3 v1 v3 v5 v8 nr nf9 tr tf pf hi sl sv ff) else (b1 (f_L_low v1 (l3 + 1)) fun v28 => if v28 = l3 then (B_L_law_117 L xs (fun z0 z1 z2 z3 z4 z5 z6 z7 z8 z9 z10 => B_L_law_38 L xs n z0 z1 z2 z3 z4 z5 z6 z7 z8 z9 z10) 1 v26 l3 v1 v3 v5 v8 nr nf9 tr tf pf hi sl sv ff) else (B_L_law_116 L xs (fun z0 z1 z2 z3 z4 z5 z6 z7 z8 z9 z10 => B_L_law_38 L xs n z0 z1 z2 z3 z4 z5 z6 z7 z8 z9 z10) v26 l3 v1 v3 v5 v8 nr nf9 tr tf pf hi sl sv ff)))))
noncomputable def B_L_law_8 (L : Nat) (xs : zA) (nr : zA) (nf : zA) (tr : zA) (tf : zA) (pf : zA) (hi : Nat → zA) (sl : Nat → zA) (sv : zA) (ff : zA) : Option (Int32 × zA × zA × zA × zA × (Nat → zA) × (Nat → zA) × zA × zA) := b2 (f_L_hangs nr nf pf ff) fun v1 nf2 => if v1 = 0 then (B_L_law_38 L xs FU 0 0 nr nf2 tr tf pf hi sl sv ff) else (b9 (f_L_goes nr nf2 tr tf pf hi sl sv ff) fun v4 nr5 nf6 tr7 tf8 hi9 sl10 sv11 ff12 => if v4 = 0 then (B_L_law_38 L xs FU 0 0 nr5 nf6 tr7 tf8 pf hi9 sl10 sv11 ff12) else (b4 (f_L_faults 2 nr5 nf6 tr7 tf8 pf ff12) fun v14 nf15 tr16 tf17 => if v14 = 0 then (B_L_law_38 L xs FU 0 0 nr5 nf15 tr16 tf17 pf hi9 sl10 sv11 ff12) else (B_L_law_38 L xs FU 1 0 nr5 nf15 tr16 tf17 pf hi9 sl10 sv11 ff12)))
end
section
set_option maxHeartbeats 400000 in
set_option maxRecDepth 100000 in
theorem c_X0_copyFrom {l : Launch} {D : va_G} {cs : ClassId × ClassId × ClassId} (h : Nat) (r : Nat) (fl : Nat) (h2 : Nat) (r2 : Nat) (fl2 : Nat)  (row : zA) (flow : zA) (row2 : zA) (flow2 : zA) {row' : zA} (e : f_X0_copyFrom row row2 = some row') : zMv l D cs yX0_copyFrom cX0_copyFrom 2 none 1 [.ref h, .ref h2] (HW cs h r fl row flow ++ HW cs h2 r2 fl2 row2 flow2) (HW cs h r fl row' flow ++ HW cs h2 r2 fl2 row2 flow2) := by
  refine zMv_of (show plainName RX0 = true by decide +kernel) (Nat.le_of_ble_eq_true rfl) ?_
  rintro G rfl rfl rfl C F
  have hf := e
  clear e
  unfold f_X0_copyFrom at hf
  show zV G 2 0 [(0, .ref h), (1, .ref h2)] [] (HW (gk G) h r fl row flow ++ HW (gk G) h2 r2 fl2 row2 flow2)
  refine z_aload_n 1 C dX0_copyFrom_0 rfl ?_
  refine gf_X0_11 3 C dX0_copyFrom_1 rfl rfl ?_
  refine z_iconst (v := 0) C dX0_copyFrom_4 kc_0 ?_
  refine z_aload_n 0 C dX0_copyFrom_5 rfl ?_
  refine gf_X0_11 0 C dX0_copyFrom_6 rfl rfl ?_
  refine z_iconst (v := 0) C dX0_copyFrom_9 kc_0 ?_
  refine z_bipush (v := 125) C dX0_copyFrom_10 kb_125 ?_
  obtain ⟨row1, e2, hf⟩ := nm_g hf
  refine z_copy (ws2 := (HW (gk G) h r fl row1 flow ++ HW (gk G) h2 r2 fl2 row2 flow2)) 4 1 C dX0_copyFrom_12 wc_X0_18 (by decide) (Nat.le_of_ble_eq_true rfl) rfl rfl cp_0 cp_0 cp_125 (by decide) (by decide) e2 rfl ?_
  cases hf
  exact z_vret C dX0_copyFrom_15 F
set_option maxHeartbeats 400000 in
set_option maxRecDepth 100000 in
theorem c_X0_readFrom {l : Launch} {D : va_G} {cs : ClassId × ClassId × ClassId} (h : Nat) (r : Nat) (fl : Nat) (kp : Nat)  (row : zA) (flow : zA) (kept : zA) {row' : zA} (e : f_X0_readFrom row kept = some row') : zMv l D cs yX0_readFrom cX0_readFrom 2 none 1 [.ref h, .ref kp] (HW cs h r fl row flow ++ [(kp, aI cs 125 kept)]) (HW cs h r fl row' flow ++ [(kp, aI cs 125 kept)]) := by
  refine zMv_of (show plainName RX0 = true by decide +kernel) (Nat.le_of_ble_eq_true rfl) ?_
  rintro G rfl rfl rfl C F
  have hf := e
  clear e
  unfold f_X0_readFrom at hf
  show zV G 2 0 [(0, .ref h), (1, .ref kp)] [] (HW (gk G) h r fl row flow ++ [(kp, aI (gk G) 125 kept)])
  refine z_aload_n 1 C dX0_readFrom_0 rfl ?_
  refine z_alen (v := 125) 3 C dX0_readFrom_1 rfl kn_125 ?_
  refine z_bipush (v := 125) C dX0_readFrom_2 kb_125 ?_
  refine z_icmp_lt (tgt := 19) C dX0_readFrom_4 rfl (fun hc => ?_) (fun hc => ?_)
  · rw [if_pos hc] at hf
    cases hf
    exact z_vret C dX0_readFrom_19 F
  rw [if_neg hc] at hf
  refine z_aload_n 1 C dX0_readFrom_7 rfl ?_
  refine z_iconst (v := 0) C dX0_readFrom_8 kc_0 ?_
  refine z_aload_n 0 C dX0_readFrom_9 rfl ?_
  refine gf_X0_11 0 C dX0_readFrom_10 rfl rfl ?_
  refine z_iconst (v := 0) C dX0_readFrom_13 kc_0 ?_
  refine z_bipush (v := 125) C dX0_readFrom_14 kb_125 ?_
  obtain ⟨row1, e2, hf⟩ := nm_g hf
  refine z_copy (ws2 := (HW (gk G) h r fl row1 flow ++ [(kp, aI (gk G) 125 kept)])) 3 1 C dX0_readFrom_16 wc_X0_18 (by decide) (Nat.le_of_ble_eq_true rfl) rfl rfl cp_0 cp_0 cp_125 (by decide) (by decide) e2 rfl ?_
  cases hf
  exact z_vret C dX0_readFrom_19 F
set_option maxHeartbeats 400000 in
set_option maxRecDepth 100000 in
theorem c_X0_writeTo {l : Launch} {D : va_G} {cs : ClassId × ClassId × ClassId} (h : Nat) (r : Nat) (fl : Nat) (kp : Nat)  (row : zA) (flow : zA) (kept : zA) {kept' : zA} (e : f_X0_writeTo row kept = some kept') : zMv l D cs yX0_writeTo cX0_writeTo 2 none 1 [.ref h, .ref kp] (HW cs h r fl row flow ++ [(kp, aI cs 125 kept)]) (HW cs h r fl row flow ++ [(kp, aI cs 125 kept')]) := by
  refine zMv_of (show plainName RX0 = true by decide +kernel) (Nat.le_of_ble_eq_true rfl) ?_
  rintro G rfl rfl rfl C F
  have hf := e
  clear e
  unfold f_X0_writeTo at hf
  show zV G 2 0 [(0, .ref h), (1, .ref kp)] [] (HW (gk G) h r fl row flow ++ [(kp, aI (gk G) 125 kept)])
  refine z_aload_n 1 C dX0_writeTo_0 rfl ?_
  refine z_alen (v := 125) 3 C dX0_writeTo_1 rfl kn_125 ?_
  refine z_bipush (v := 125) C dX0_writeTo_2 kb_125 ?_
  refine z_icmp_lt (tgt := 19) C dX0_writeTo_4 rfl (fun hc => ?_) (fun hc => ?_)
  · rw [if_pos hc] at hf
    cases hf
    exact z_vret C dX0_writeTo_19 F
  rw [if_neg hc] at hf
  refine z_aload_n 0 C dX0_writeTo_7 rfl ?_
  refine gf_X0_11 0 C dX0_writeTo_8 rfl rfl ?_
  refine z_iconst (v := 0) C dX0_writeTo_11 kc_0 ?_
  refine z_aload_n 1 C dX0_writeTo_12 rfl ?_
  refine z_iconst (v := 0) C dX0_writeTo_13 kc_0 ?_
  refine z_bipush (v := 125) C dX0_writeTo_14 kb_125 ?_
  obtain ⟨kept1, e2, hf⟩ := nm_g hf
  refine z_copy (ws2 := (HW (gk G) h r fl row flow ++ [(kp, aI (gk G) 125 kept1)])) 1 3 C dX0_writeTo_16 wc_X0_18 (by decide) (Nat.le_of_ble_eq_true rfl) rfl rfl cp_0 cp_0 cp_125 (by decide) (by decide) e2 rfl ?_
  cases hf
  exact z_vret C dX0_writeTo_19 F
set_option maxHeartbeats 400000 in
set_option maxRecDepth 100000 in
theorem c_X0_boards {l : Launch} {D : va_G} {cs : ClassId × ClassId × ClassId} (h : Nat) (r : Nat) (fl : Nat)  (row : zA) (flow : zA) {v : Int32}  (e : f_X0_boards row = some v) : zM l D cs yX0_boards cX0_boards 1 (some .int) 0 [.ref h] (HW cs h r fl row flow) v (HW cs h r fl row flow) := by
  refine zM_of (show plainName RX0 = true by decide +kernel) (Nat.le_of_ble_eq_true rfl) ?_
  rintro G rfl rfl rfl C F
  have hf := e
  clear e
  unfold f_X0_boards at hf
  show zV G 1 0 [(0, .ref h)] [] (HW (gk G) h r fl row flow)
  refine z_aload_n 0 C dX0_boards_0 rfl ?_
  refine gf_X0_11 0 C dX0_boards_1 rfl rfl ?_
  refine z_iconst (v := 4) C dX0_boards_4 kc_4 ?_
  refine z_iald 1 C dX0_boards_5 ix_4_125 rfl ?_
  cases hf
  exact z_iret C dX0_boards_6 F
set_option maxHeartbeats 400000 in
set_option maxRecDepth 100000 in
theorem c_X0_isBoard {l : Launch} {D : va_G} {cs : ClassId × ClassId × ClassId} (h : Nat) (r : Nat) (fl : Nat) (a1 : Int32) (row : zA) (flow : zA) {v : Int32}  (e : f_X0_isBoard a1 row = some v) : zM l D cs yX0_isBoard cX0_isBoard 2 (some .boolean) 0 [.ref h, .int a1] (HW cs h r fl row flow) v (HW cs h r fl row flow) := by
  refine zM_of (show plainName RX0 = true by decide +kernel) (Nat.le_of_ble_eq_true rfl) ?_
  rintro G rfl rfl rfl C F
  have hf := e
  clear e
  unfold f_X0_isBoard at hf
  show zV G 2 0 [(0, .ref h), (1, .int a1)] [] (HW (gk G) h r fl row flow)
  refine z_iload_n 1 C dX0_isBoard_0 rfl ?_
  refine z_if_lt (tgt := 18) C dX0_isBoard_1 rfl (fun hc => ?_) (fun hc => ?_)
  · have hf := ifp hc hf
    refine z_iconst (v := 0) C dX0_isBoard_18 kc_0 ?_
    cases hf
    exact z_zret C dX0_isBoard_19 rfl F
  have hf := ifn hc hf
  refine z_iload_n 1 C dX0_isBoard_4 rfl ?_
  refine z_aload_n 0 C dX0_isBoard_5 rfl ?_
  refine gf_X0_11 0 C dX0_isBoard_6 rfl rfl ?_
  refine z_iconst (v := 4) C dX0_isBoard_9 kc_4 ?_
  refine z_iald 1 C dX0_isBoard_10 ix_4_125 rfl ?_
  refine z_icmp_ge (tgt := 18) C dX0_isBoard_11 rfl (fun hc => ?_) (fun hc => ?_)
  · have hf := ifp hc hf
    refine z_iconst (v := 0) C dX0_isBoard_18 kc_0 ?_
    cases hf
    exact z_zret C dX0_isBoard_19 rfl F
  have hf := ifn hc hf
  refine z_iconst (v := 1) C dX0_isBoard_14 kc_1 ?_
  refine z_goto (tgt := 19) C dX0_isBoard_15 rfl ?_
  cases hf
  exact z_zret C dX0_isBoard_19 rfl F
set_option maxHeartbeats 400000 in
set_option maxRecDepth 100000 in
theorem c_X0_isLoad {l : Launch} {D : va_G} {cs : ClassId × ClassId × ClassId} (h : Nat) (r : Nat) (fl : Nat) (a1 : Int32) (row : zA) (flow : zA) {v : Int32}  (e : f_X0_isLoad a1 row = some v) : zM l D cs yX0_isLoad cX0_isLoad 2 (some .boolean) 0 [.ref h, .int a1] (HW cs h r fl row flow) v (HW cs h r fl row flow) := by
  refine zM_of (show plainName RX0 = true by decide +kernel) (Nat.le_of_ble_eq_true rfl) ?_
  rintro G rfl rfl rfl C F
  have hf := e
  clear e
  unfold f_X0_isLoad at hf
  show zV G 2 0 [(0, .ref h), (1, .int a1)] [] (HW (gk G) h r fl row flow)
  refine z_iload_n 1 C dX0_isLoad_0 rfl ?_
  refine z_if_lt (tgt := 18) C dX0_isLoad_1 rfl (fun hc => ?_) (fun hc => ?_)
  · have hf := ifp hc hf
    refine z_iconst (v := 0) C dX0_isLoad_18 kc_0 ?_
    cases hf
    exact z_zret C dX0_isLoad_19 rfl F
  have hf := ifn hc hf
  refine z_iload_n 1 C dX0_isLoad_4 rfl ?_
  refine z_aload_n 0 C dX0_isLoad_5 rfl ?_
  refine gf_X0_11 0 C dX0_isLoad_6 rfl rfl ?_
  refine z_iconst (v := 5) C dX0_isLoad_9 kc_5 ?_
  refine z_iald 1 C dX0_isLoad_10 ix_5_125 rfl ?_
  refine z_icmp_ge (tgt := 18) C dX0_isLoad_11 rfl (fun hc => ?_) (fun hc => ?_)
  · have hf := ifp hc hf
    refine z_iconst (v := 0) C dX0_isLoad_18 kc_0 ?_
    cases hf
    exact z_zret C dX0_isLoad_19 rfl F
  have hf := ifn hc hf
  refine z_iconst (v := 1) C dX0_isLoad_14 kc_1 ?_
  refine z_goto (tgt := 19) C dX0_isLoad_15 rfl ?_
  cases hf
  exact z_zret C dX0_isLoad_19 rfl F
set_option maxHeartbeats 400000 in
set_option maxRecDepth 100000 in
theorem c_X0_rating {l : Launch} {D : va_G} {cs : ClassId × ClassId × ClassId} (h : Nat) (r : Nat) (fl : Nat) (a1 : Int32) (row : zA) (flow : zA) {v : Int32}  (e : f_X0_rating a1 row = some v) : zM l D cs yX0_rating cX0_rating 2 (some .int) 1 [.ref h, .int a1] (HW cs h r fl row flow) v (HW cs h r fl row flow) := by
  refine zM_of (show plainName RX0 = true by decide +kernel) (Nat.le_of_ble_eq_true rfl) ?_
  rintro G rfl rfl rfl C F
  have hf := e
  clear e
  unfold f_X0_rating at hf
  show zV G 2 0 [(0, .ref h), (1, .int a1)] [] (HW (gk G) h r fl row flow)
  refine z_aload_n 0 C dX0_rating_0 rfl ?_
  refine z_iload_n 1 C dX0_rating_1 rfl ?_
  obtain ⟨v1, e2, hf⟩ := b1_e hf
  refine z_callV (st := []) (ws2 := (HW (gk G) h r fl row flow)) [0, 1, 2] C dX0_rating_2 w_X0_24 (c_X0_isBoard h r fl a1 row flow e2) (by decide) rfl rfl rfl rfl rfl rfl rfl (Nat.le_of_ble_eq_true rfl) rfl ?_
  refine z_if_eq (tgt := 20) C dX0_rating_5 rfl (fun hc => ?_) (fun hc => ?_)
  · have hf := ifp hc hf
    refine z_iconst (v := 0) C dX0_rating_20 kc_0 ?_
    cases hf
    exact z_iret C dX0_rating_21 F
  have hf := ifn hc hf
  refine z_aload_n 0 C dX0_rating_8 rfl ?_
  refine gf_X0_11 0 C dX0_rating_9 rfl rfl ?_
  refine z_bipush (v := 27) C dX0_rating_12 kb_27 ?_
  refine z_iload_n 1 C dX0_rating_14 rfl ?_
  refine z_iadd C dX0_rating_15 ?_
  obtain ⟨k3, h4, hf⟩ := gd_e hf
  refine z_iald 1 C dX0_rating_16 h4 rfl ?_
  refine z_goto (tgt := 21) C dX0_rating_17 rfl ?_
  cases hf
  exact z_iret C dX0_rating_21 F
set_option maxHeartbeats 400000 in
set_option maxRecDepth 100000 in
theorem c_X0_changeSetting {l : Launch} {D : va_G} {cs : ClassId × ClassId × ClassId} (h : Nat) (r : Nat) (fl : Nat) (a1 : Int32) (a2 : Int32) (row : zA) (flow : zA) {v : Int32} {row' : zA} (e : f_X0_changeSetting a1 a2 row = some (v, row')) : zM l D cs yX0_changeSetting cX0_changeSetting 4 (some .int) 0 [.ref h, .int a1, .int a2] (HW cs h r fl row flow) v (HW cs h r fl row' flow) := by
  refine zM_of (show plainName RX0 = true by decide +kernel) (Nat.le_of_ble_eq_true rfl) ?_
  rintro G rfl rfl rfl C F
  have hf := e
  clear e
  unfold f_X0_changeSetting at hf
  show zV G 4 0 [(0, .ref h), (1, .int a1), (2, .int a2)] [] (HW (gk G) h r fl row flow)
  refine z_iload_n 1 C dX0_changeSetting_0 rfl ?_
  refine z_if_lt (tgt := 9) C dX0_changeSetting_1 rfl (fun hc => ?_) (fun hc => ?_)
  · have hf := ifp hc hf
    refine z_bipush (v := -2) C dX0_changeSetting_9 kb_m2 ?_
    cases hf
    exact z_iret C dX0_changeSetting_11 F
  have hf := ifn hc hf
  refine z_iload_n 1 C dX0_changeSetting_4 rfl ?_
  refine z_iconst (v := 2) C dX0_changeSetting_5 kc_2 ?_
  refine z_icmp_le (tgt := 12) C dX0_changeSetting_6 rfl (fun hc => ?_) (fun hc => ?_)
  · have hf := ifp hc hf
    refine z_iload_n 2 C dX0_changeSetting_12 rfl ?_
    obtain ⟨tL, hzL, htL⟩ := C.2.2.2.2.2.2.1
    refine z_gets C hzL dX0_changeSetting_13 tw_78 ?_
    refine z_iload_n 1 C dX0_changeSetting_16 rfl ?_
    obtain ⟨k1, h2, hf⟩ := gd_e hf
    refine z_tld C htL dX0_changeSetting_17 h2 ?_
    refine z_icmp_lt (tgt := 30) C dX0_changeSetting_18 rfl (fun hc => ?_) (fun hc => ?_)
    · have hf := ifp hc hf
      refine z_bipush (v := -2) C dX0_changeSetting_30 kb_m2 ?_
      cases hf
      exact z_iret C dX0_changeSetting_32 F
    have hf := ifn hc hf
    refine z_iload_n 2 C dX0_changeSetting_21 rfl ?_
    obtain ⟨tM, hzM, htM⟩ := C.2.2.2.2.2.2.2
    refine z_gets C hzM dX0_changeSetting_22 tw_79 ?_
    refine z_iload_n 1 C dX0_changeSetting_25 rfl ?_
    obtain ⟨k3, h4, hf⟩ := gd_e hf
    refine z_tld C htM dX0_changeSetting_26 h4 ?_
    refine z_icmp_le (tgt := 33) C dX0_changeSetting_27 rfl (fun hc => ?_) (fun hc => ?_)
    · have hf := ifp hc hf
      refine z_aload_n 0 C dX0_changeSetting_33 rfl ?_
      refine gf_X0_11 0 C dX0_changeSetting_34 rfl rfl ?_
      refine z_iload_n 1 C dX0_changeSetting_37 rfl ?_
      obtain ⟨k5, h6, hf⟩ := gd_e hf
      refine z_iald 1 C dX0_changeSetting_38 h6 rfl ?_
      refine z_istore_n (ls' := [(3, _), (0, _), (1, _), (2, _)]) C dX0_changeSetting_39 (by decide) rfl ?_
      refine z_aload_n 1 C dX0_changeSetting_40 rfl ?_
      refine gf_X0_11 0 C dX0_changeSetting_41 rfl rfl ?_
      refine z_iload_n 2 C dX0_changeSetting_44 rfl ?_
      refine z_iload_n 3 C dX0_changeSetting_45 rfl ?_
      obtain ⟨row7, e8, hf⟩ := nm_g hf
      refine z_iast (ws' := (HW (gk G) h r fl row7 flow)) 1 C dX0_changeSetting_46 h6 rfl e8 rfl ?_
      refine z_iload_n 0 C dX0_changeSetting_47 rfl ?_
      cases hf
      exact z_iret C dX0_changeSetting_48 F
    have hf := ifn hc hf
    refine z_bipush (v := -2) C dX0_changeSetting_30 kb_m2 ?_
    cases hf
    exact z_iret C dX0_changeSetting_32 F
  have hf := ifn hc hf
  refine z_bipush (v := -2) C dX0_changeSetting_9 kb_m2 ?_
  cases hf
  exact z_iret C dX0_changeSetting_11 F
set_option maxHeartbeats 400000 in
set_option maxRecDepth 100000 in
theorem c_X0_isFuse {l : Launch} {D : va_G} {cs : ClassId × ClassId × ClassId}  (a0 : Int32) (a1 : Int32)  {v : Int32}  (e : f_X0_isFuse a0 a1 = some v) : zM l D cs yX0_isFuse cX0_isFuse 2 (some .boolean) 0 [.int a0, .int a1] ([] : va_W) v ([] : va_W) := by
  refine zM_of (show plainName RX0 = true by decide +kernel) (Nat.le_of_ble_eq_true rfl) ?_
  rintro G rfl rfl rfl C F
  have hf := e
  clear e
  unfold f_X0_isFuse at hf
  show zV G 2 0 [(0, .int a0), (1, .int a1)] [] ([] : va_W)
  refine z_iload_n 0 C dX0_isFuse_0 rfl ?_
  refine z_iconst (v := 1) C dX0_isFuse_1 kc_1 ?_
  refine z_icmp_lt (tgt := 24) C dX0_isFuse_2 rfl (fun hc => ?_) (fun hc => ?_)
  · have hf := ifp hc hf
    refine z_iconst (v := 0) C dX0_isFuse_24 kc_0 ?_
    cases hf
    exact z_zret C dX0_isFuse_25 rfl F
  have hf := ifn hc hf
  refine z_iload_n 0 C dX0_isFuse_5 rfl ?_
  refine z_bipush (v := 100) C dX0_isFuse_6 kb_100 ?_
  refine z_icmp_gt (tgt := 24) C dX0_isFuse_8 rfl (fun hc => ?_) (fun hc => ?_)
  · have hf := ifp hc hf
    refine z_iconst (v := 0) C dX0_isFuse_24 kc_0 ?_
    cases hf
    exact z_zret C dX0_isFuse_25 rfl F
  have hf := ifn hc hf
  refine z_iload_n 1 C dX0_isFuse_11 rfl ?_
  refine z_if_lt (tgt := 24) C dX0_isFuse_12 rfl (fun hc => ?_) (fun hc => ?_)
  · have hf := ifp hc hf
    refine z_iconst (v := 0) C dX0_isFuse_24 kc_0 ?_
    cases hf
    exact z_zret C dX0_isFuse_25 rfl F
  have hf := ifn hc hf
  refine z_iload_n 1 C dX0_isFuse_15 rfl ?_
  refine z_iconst (v := 2) C dX0_isFuse_16 kc_2 ?_
  refine z_icmp_gt (tgt := 24) C dX0_isFuse_17 rfl (fun hc => ?_) (fun hc => ?_)
  · have hf := ifp hc hf
    refine z_iconst (v := 0) C dX0_isFuse_24 kc_0 ?_
    cases hf
    exact z_zret C dX0_isFuse_25 rfl F
  have hf := ifn hc hf
  refine z_iconst (v := 1) C dX0_isFuse_20 kc_1 ?_
  refine z_goto (tgt := 25) C dX0_isFuse_21 rfl ?_
  cases hf
  exact z_zret C dX0_isFuse_25 rfl F
set_option maxHeartbeats 400000 in
set_option maxRecDepth 100000 in
theorem c_X0_putNewFuse {l : Launch} {D : va_G} {cs : ClassId × ClassId × ClassId} (h : Nat) (r : Nat) (fl : Nat) (a1 : Int32) (a2 : Int32) (a3 : Int32) (row : zA) (flow : zA) {row' : zA} (e : f_X0_putNewFuse a1 a2 a3 row = some row') : zMv l D cs yX0_putNewFuse cX0_putNewFuse 4 none 0 [.ref h, .int a1, .int a2, .int a3] (HW cs h r fl row flow) (HW cs h r fl row' flow) := by
  refine zMv_of (show plainName RX0 = true by decide +kernel) (Nat.le_of_ble_eq_true rfl) ?_
  rintro G rfl rfl rfl C F
  have hf := e
  clear e
  unfold f_X0_putNewFuse at hf
  show zV G 4 0 [(0, .ref h), (1, .int a1), (2, .int a2), (3, .int a3)] [] (HW (gk G) h r fl row flow)
  refine z_aload_n 0 C dX0_putNewFuse_0 rfl ?_
  refine gf_X0_11 0 C dX0_putNewFuse_1 rfl rfl ?_
  refine z_bipush (v := 27) C dX0_putNewFuse_4 kb_27 ?_
  refine z_iload_n 1 C dX0_putNewFuse_6 rfl ?_
  refine z_iadd C dX0_putNewFuse_7 ?_
  refine z_iload_n 2 C dX0_putNewFuse_8 rfl ?_
  obtain ⟨k1, h2, hf⟩ := gd_e hf
  obtain ⟨row3, e4, hf⟩ := nm_g hf
  refine z_iast (ws' := (HW (gk G) h r fl row3 flow)) 1 C dX0_putNewFuse_9 h2 rfl e4 rfl ?_
  refine z_aload_n 0 C dX0_putNewFuse_10 rfl ?_
  refine gf_X0_11 0 C dX0_putNewFuse_11 rfl rfl ?_
  refine z_bipush (v := 37) C dX0_putNewFuse_14 kb_37 ?_
  refine z_iload_n 1 C dX0_putNewFuse_16 rfl ?_
  refine z_iadd C dX0_putNewFuse_17 ?_
  refine z_iload_n 3 C dX0_putNewFuse_18 rfl ?_
  obtain ⟨k5, h6, hf⟩ := gd_e hf
  obtain ⟨row7, e8, hf⟩ := nm_g hf
  refine z_iast (ws' := (HW (gk G) h r fl row7 flow)) 1 C dX0_putNewFuse_19 h6 rfl e8 rfl ?_
  refine z_aload_n 0 C dX0_putNewFuse_20 rfl ?_
  refine gf_X0_11 0 C dX0_putNewFuse_21 rfl rfl ?_
  refine z_bipush (v := 47) C dX0_putNewFuse_24 kb_47 ?_
  refine z_iload_n 1 C dX0_putNewFuse_26 rfl ?_
  refine z_iadd C dX0_putNewFuse_27 ?_
  refine z_iconst (v := 0) C dX0_putNewFuse_28 kc_0 ?_
  obtain ⟨k9, h10, hf⟩ := gd_e hf
  obtain ⟨row11, e12, hf⟩ := nm_g hf
  refine z_iast (ws' := (HW (gk G) h r fl row11 flow)) 1 C dX0_putNewFuse_29 h10 rfl e12 rfl ?_
  refine z_aload_n 0 C dX0_putNewFuse_30 rfl ?_
  refine gf_X0_11 0 C dX0_putNewFuse_31 rfl rfl ?_
  refine z_bipush (v := 57) C dX0_putNewFuse_34 kb_57 ?_
  refine z_iload_n 1 C dX0_putNewFuse_36 rfl ?_
  refine z_iadd C dX0_putNewFuse_37 ?_
  refine z_iconst (v := 0) C dX0_putNewFuse_38 kc_0 ?_
  obtain ⟨k13, h14, hf⟩ := gd_e hf
  obtain ⟨row15, e16, hf⟩ := nm_g hf
  refine z_iast (ws' := (HW (gk G) h r fl row15 flow)) 1 C dX0_putNewFuse_39 h14 rfl e16 rfl ?_
  refine z_aload_n 0 C dX0_putNewFuse_40 rfl ?_
  refine gf_X0_11 0 C dX0_putNewFuse_41 rfl rfl ?_
  refine z_bipush (v := 67) C dX0_putNewFuse_44 kb_67 ?_
  refine z_iload_n 1 C dX0_putNewFuse_46 rfl ?_
  refine z_iadd C dX0_putNewFuse_47 ?_
  refine z_iconst (v := 0) C dX0_putNewFuse_48 kc_0 ?_
  obtain ⟨k17, h18, hf⟩ := gd_e hf
  obtain ⟨row19, e20, hf⟩ := nm_g hf
  refine z_iast (ws' := (HW (gk G) h r fl row19 flow)) 1 C dX0_putNewFuse_49 h18 rfl e20 rfl ?_
  refine z_aload_n 0 C dX0_putNewFuse_50 rfl ?_
  refine gf_X0_11 0 C dX0_putNewFuse_51 rfl rfl ?_
  refine z_bipush (v := 77) C dX0_putNewFuse_54 kb_77 ?_
  refine z_iload_n 1 C dX0_putNewFuse_56 rfl ?_
  refine z_iadd C dX0_putNewFuse_57 ?_
  refine z_iconst (v := 0) C dX0_putNewFuse_58 kc_0 ?_
  obtain ⟨k21, h22, hf⟩ := gd_e hf
  obtain ⟨row23, e24, hf⟩ := nm_g hf
  refine z_iast (ws' := (HW (gk G) h r fl row23 flow)) 1 C dX0_putNewFuse_59 h22 rfl e24 rfl ?_
  refine z_aload_n 0 C dX0_putNewFuse_60 rfl ?_
  refine gf_X0_11 0 C dX0_putNewFuse_61 rfl rfl ?_
  refine z_bipush (v := 7) C dX0_putNewFuse_64 kb_7 ?_
  refine z_dup2 C dX0_putNewFuse_66 rfl rfl ?_
  refine z_iald 1 C dX0_putNewFuse_67 ix_7_125 rfl ?_
  refine z_iconst (v := 1) C dX0_putNewFuse_68 kc_1 ?_
  refine z_iload_n 1 C dX0_putNewFuse_69 rfl ?_
  refine z_ishl C dX0_putNewFuse_70 ?_
  refine z_iconst (v := -1) C dX0_putNewFuse_71 kc_m1 ?_
  refine z_ixor C dX0_putNewFuse_72 ?_
  refine z_iand C dX0_putNewFuse_73 ?_
  obtain ⟨row25, e26, hf⟩ := nm_g hf
  refine z_iast (ws' := (HW (gk G) h r fl row25 flow)) 1 C dX0_putNewFuse_74 ix_7_125 rfl e26 rfl ?_
  cases hf
  exact z_vret C dX0_putNewFuse_75 F
set_option maxHeartbeats 400000 in
set_option maxRecDepth 100000 in
theorem tb_X0_addBoard_63 {G : GT} (h : Nat) (r : Nat) (fl : Nat) (flow : zA) {v : Int32} {row' : zA} (C : zC G cX0_addBoard 5 RX0 (some .int) 1) (F : zF G (some (.int v)) (HW (gk G) h r fl row' flow)) : ∀ (s0 : Int32) (s1 : Int32) (l2 : Int32) (l3 : Int32) (l4 : Int32) (row : zA), B_X0_addBoard_63 s0 s1 l2 l3 l4 row = some (v, row') → zV G 5 63 [(0, .ref h), (2, .int l2), (3, .int l3), (4, .int l4)] [.int s0, .int s1, .ref r] (HW (gk G) h r fl row flow) := by
  intro s0 s1 l2 l3 l4 row hf
  unfold B_X0_addBoard_63 at hf
  obtain ⟨k1, h2, hf⟩ := gd_e hf
  obtain ⟨row3, e4, hf⟩ := nm_g hf
  refine z_iast (ws' := (HW (gk G) h r fl row3 flow)) 1 C dX0_addBoard_63 h2 rfl e4 rfl ?_
  refine z_aload_n 0 C dX0_addBoard_64 rfl ?_
  refine z_iload 3 C dX0_addBoard_65 rfl ?_
  refine z_iload_n 1 C dX0_addBoard_67 rfl ?_
  refine z_iload_n 2 C dX0_addBoard_68 rfl ?_
  obtain ⟨row5, e6, hf⟩ := b1_e hf
  refine z_callVv (st := []) (ws2 := (HW (gk G) h r fl row5 flow)) [0, 1, 2] C dX0_addBoard_69 w_X0_38 (c_X0_putNewFuse h r fl l4 l2 l3 row3 flow e6) (by decide) rfl rfl rfl rfl rfl rfl rfl (Nat.le_of_ble_eq_true rfl) rfl ?_
  refine z_aload_n 0 C dX0_addBoard_72 rfl ?_
  refine gf_X0_11 0 C dX0_addBoard_73 rfl rfl ?_
  refine z_iconst (v := 4) C dX0_addBoard_76 kc_4 ?_
  refine z_iload 3 C dX0_addBoard_77 rfl ?_
  refine z_iconst (v := 1) C dX0_addBoard_79 kc_1 ?_
  refine z_iadd C dX0_addBoard_80 ?_
  obtain ⟨row7, e8, hf⟩ := nm_g hf
  refine z_iast (ws' := (HW (gk G) h r fl row7 flow)) 1 C dX0_addBoard_81 ix_4_125 rfl e8 rfl ?_
  refine z_iload 3 C dX0_addBoard_82 rfl ?_
  cases hf
  exact z_iret C dX0_addBoard_84 F
set_option maxHeartbeats 400000 in
set_option maxRecDepth 100000 in
theorem tb_X0_addBoard_23 {G : GT} (h : Nat) (r : Nat) (fl : Nat) (flow : zA) {v : Int32} {row' : zA} (C : zC G cX0_addBoard 5 RX0 (some .int) 1) (F : zF G (some (.int v)) (HW (gk G) h r fl row' flow)) : ∀ (l1 : Int32) (l2 : Int32) (l3 : Int32) (l4 : Int32) (row : zA), B_X0_addBoard_23 l1 l2 l3 l4 row = some (v, row') → zV G 5 23 [(0, .ref h), (1, .int l1), (2, .int l2), (3, .int l3), (4, .int l4)] [] (HW (gk G) h r fl row flow) := by
  intro l1 l2 l3 l4 row hf
  unfold B_X0_addBoard_23 at hf
  refine z_iload_n 2 C dX0_addBoard_23 rfl ?_
  refine z_iload_n 3 C dX0_addBoard_24 rfl ?_
  obtain ⟨v1, e2, hf⟩ := b1_e hf
  refine z_callS (st := []) (ws2 := (HW (gk G) h r fl row flow)) [] C dX0_addBoard_25 w_X0_34 (c_X0_isFuse l2 l3 e2) (by decide) rfl rfl rfl  rfl rfl (Nat.le_of_ble_eq_true rfl) rfl ?_
  refine z_if_ne (tgt := 34) C dX0_addBoard_28 rfl (fun hc => ?_) (fun hc => ?_)
  · have hf := ifn hc hf
    refine z_iload 4 C dX0_addBoard_34 rfl ?_
    refine z_bipush (v := 10) C dX0_addBoard_36 kb_10 ?_
    refine z_icmp_lt (tgt := 44) C dX0_addBoard_38 rfl (fun hc => ?_) (fun hc => ?_)
    · have hf := ifp hc hf
      refine z_aload_n 0 C dX0_addBoard_44 rfl ?_
      refine gf_X0_11 0 C dX0_addBoard_45 rfl rfl ?_
      refine z_bipush (v := 17) C dX0_addBoard_48 kb_17 ?_
      refine z_iload 4 C dX0_addBoard_50 rfl ?_
      refine z_iadd C dX0_addBoard_52 ?_
      refine z_iload 4 C dX0_addBoard_53 rfl ?_
      refine z_if_ne (tgt := 62) C dX0_addBoard_55 rfl (fun hc => ?_) (fun hc => ?_)
      · have hf := ifn hc hf
        refine z_iload_n 1 C dX0_addBoard_62 rfl ?_
        refine z_sub (ls' := [(0, .ref h), (2, .int l2), (3, .int l3), (4, .int l4)]) [0, 2, 3, 4] rfl ?_
        exact tb_X0_addBoard_63 h r fl flow C F _ _ _ _ _ _ hf
      have hf := ifp hc hf
      refine z_iconst (v := 0) C dX0_addBoard_58 kc_0 ?_
      refine z_goto (tgt := 63) C dX0_addBoard_59 rfl ?_
      refine z_sub (ls' := [(0, .ref h), (2, .int l2), (3, .int l3), (4, .int l4)]) [0, 2, 3, 4] rfl ?_
      exact tb_X0_addBoard_63 h r fl flow C F _ _ _ _ _ _ hf
    have hf := ifn hc hf
    refine z_bipush (v := -4) C dX0_addBoard_41 kb_m4 ?_
    cases hf
    exact z_iret C dX0_addBoard_43 F
  have hf := ifp hc hf
  refine z_bipush (v := -2) C dX0_addBoard_31 kb_m2 ?_
  cases hf
  exact z_iret C dX0_addBoard_33 F
set_option maxHeartbeats 400000 in
set_option maxRecDepth 100000 in
theorem c_X0_addBoard {l : Launch} {D : va_G} {cs : ClassId × ClassId × ClassId} (h : Nat) (r : Nat) (fl : Nat) (a1 : Int32) (a2 : Int32) (a3 : Int32) (row : zA) (flow : zA) {v : Int32} {row' : zA} (e : f_X0_addBoard a1 a2 a3 row = some (v, row')) : zM l D cs yX0_addBoard cX0_addBoard 5 (some .int) 1 [.ref h, .int a1, .int a2, .int a3] (HW cs h r fl row flow) v (HW cs h r fl row' flow) := by
  refine zM_of (show plainName RX0 = true by decide +kernel) (Nat.le_of_ble_eq_true rfl) ?_
  rintro G rfl rfl rfl C F
  have hf := e
  clear e
  unfold f_X0_addBoard at hf
  show zV G 5 0 [(0, .ref h), (1, .int a1), (2, .int a2), (3, .int a3)] [] (HW (gk G) h r fl row flow)
  refine z_aload_n 0 C dX0_addBoard_0 rfl ?_
  refine gf_X0_11 0 C dX0_addBoard_1 rfl rfl ?_
  refine z_iconst (v := 4) C dX0_addBoard_4 kc_4 ?_
  refine z_iald 1 C dX0_addBoard_5 ix_4_125 rfl ?_
  refine z_istore (ls' := [(4, _), (0, _), (1, _), (2, _), (3, _)]) C dX0_addBoard_6 (by decide) rfl ?_
  refine z_iload 0 C dX0_addBoard_8 rfl ?_
  refine z_if_le (tgt := 23) C dX0_addBoard_10 rfl (fun hc => ?_) (fun hc => ?_)
  · have hf := ifp hc hf
    refine z_sub (ls' := [(0, .ref h), (1, .int a1), (2, .int a2), (3, .int a3), (4, .int (row 4))]) [1, 2, 3, 4, 0] rfl ?_
    exact tb_X0_addBoard_23 h r fl flow C F _ _ _ _ _ hf
  have hf := ifn hc hf
  refine z_aload_n 1 C dX0_addBoard_13 rfl ?_
  refine z_iload_n 2 C dX0_addBoard_14 rfl ?_
  obtain ⟨v1, e2, hf⟩ := b1_e hf
  refine z_callV (st := []) (ws2 := (HW (gk G) h r fl row flow)) [0, 1, 2] C dX0_addBoard_15 w_X0_24 (c_X0_isBoard h r fl a1 row flow e2) (by decide) rfl rfl rfl rfl rfl rfl rfl (Nat.le_of_ble_eq_true rfl) rfl ?_
  refine z_if_ne (tgt := 23) C dX0_addBoard_18 rfl (fun hc => ?_) (fun hc => ?_)
  · have hf := ifn hc hf
    refine z_sub (ls' := [(0, .ref h), (1, .int a1), (2, .int a2), (3, .int a3), (4, .int (row 4))]) [1, 2, 3, 4, 0] rfl ?_
    exact tb_X0_addBoard_23 h r fl flow C F _ _ _ _ _ hf
  have hf := ifp hc hf
  refine z_iconst (v := -1) C dX0_addBoard_21 kc_m1 ?_
  cases hf
  exact z_iret C dX0_addBoard_22 F
set_option maxHeartbeats 400000 in
set_option maxRecDepth 100000 in
theorem c_X0_addLoad {l : Launch} {D : va_G} {cs : ClassId × ClassId × ClassId} (h : Nat) (r : Nat) (fl : Nat) (a1 : Int32) (a2 : Int32) (row : zA) (flow : zA) {v : Int32} {row' : zA} (e : f_X0_addLoad a1 a2 row = some (v, row')) : zM l D cs yX0_addLoad cX0_addLoad 4 (some .int) 1 [.ref h, .int a1, .int a2] (HW cs h r fl row flow) v (HW cs h r fl row' flow) := by
  refine zM_of (show plainName RX0 = true by decide +kernel) (Nat.le_of_ble_eq_true rfl) ?_
  rintro G rfl rfl rfl C F
  have hf := e
  clear e
  unfold f_X0_addLoad at hf
  show zV G 4 0 [(0, .ref h), (1, .int a1), (2, .int a2)] [] (HW (gk G) h r fl row flow)
  refine z_aload_n 0 C dX0_addLoad_0 rfl ?_
  refine gf_X0_11 0 C dX0_addLoad_1 rfl rfl ?_
  refine z_iconst (v := 5) C dX0_addLoad_4 kc_5 ?_
  refine z_iald 1 C dX0_addLoad_5 ix_5_125 rfl ?_
  refine z_istore_n (ls' := [(3, _), (0, _), (1, _), (2, _)]) C dX0_addLoad_6 (by decide) rfl ?_
  refine z_aload_n 1 C dX0_addLoad_7 rfl ?_
  refine z_iload_n 2 C dX0_addLoad_8 rfl ?_
  obtain ⟨v1, e2, hf⟩ := b1_e hf
  refine z_callV (st := []) (ws2 := (HW (gk G) h r fl row flow)) [0, 1, 2] C dX0_addLoad_9 w_X0_24 (c_X0_isBoard h r fl a1 row flow e2) (by decide) rfl rfl rfl rfl rfl rfl rfl (Nat.le_of_ble_eq_true rfl) rfl ?_
  refine z_if_ne (tgt := 17) C dX0_addLoad_12 rfl (fun hc => ?_) (fun hc => ?_)
  · have hf := ifn hc hf
    refine z_iload_n 3 C dX0_addLoad_17 rfl ?_
    refine z_iconst (v := 1) C dX0_addLoad_18 kc_1 ?_
    refine z_icmp_lt (tgt := 29) C dX0_addLoad_19 rfl (fun hc => ?_) (fun hc => ?_)
    · have hf := ifp hc hf
      refine z_bipush (v := -2) C dX0_addLoad_29 kb_m2 ?_
      cases hf
      exact z_iret C dX0_addLoad_31 F
    have hf := ifn hc hf
    refine z_iload_n 3 C dX0_addLoad_22 rfl ?_
    refine z_sipush (v := 200) C dX0_addLoad_23 ks_200 ?_
    refine z_icmp_le (tgt := 32) C dX0_addLoad_26 rfl (fun hc => ?_) (fun hc => ?_)
    · have hf := ifp hc hf
      refine z_iload_n 0 C dX0_addLoad_32 rfl ?_
      refine z_bipush (v := 14) C dX0_addLoad_33 kb_14 ?_
      refine z_icmp_lt (tgt := 41) C dX0_addLoad_35 rfl (fun hc => ?_) (fun hc => ?_)
      · have hf := ifp hc hf
        refine z_aload_n 1 C dX0_addLoad_41 rfl ?_
        refine gf_X0_11 0 C dX0_addLoad_42 rfl rfl ?_
        refine z_bipush (v := 97) C dX0_addLoad_45 kb_97 ?_
        refine z_iload_n 0 C dX0_addLoad_47 rfl ?_
        refine z_iadd C dX0_addLoad_48 ?_
        refine z_iload_n 2 C dX0_addLoad_49 rfl ?_
        obtain ⟨k3, h4, hf⟩ := gd_e hf
        obtain ⟨row5, e6, hf⟩ := nm_g hf
        refine z_iast (ws' := (HW (gk G) h r fl row5 flow)) 1 C dX0_addLoad_50 h4 rfl e6 rfl ?_
        refine z_aload_n 1 C dX0_addLoad_51 rfl ?_
        refine gf_X0_11 0 C dX0_addLoad_52 rfl rfl ?_
        refine z_bipush (v := 111) C dX0_addLoad_55 kb_111 ?_
        refine z_iload_n 0 C dX0_addLoad_57 rfl ?_
        refine z_iadd C dX0_addLoad_58 ?_
        refine z_iload_n 3 C dX0_addLoad_59 rfl ?_
        obtain ⟨k7, h8, hf⟩ := gd_e hf
        obtain ⟨row9, e10, hf⟩ := nm_g hf
        refine z_iast (ws' := (HW (gk G) h r fl row9 flow)) 1 C dX0_addLoad_60 h8 rfl e10 rfl ?_
        refine z_aload_n 1 C dX0_addLoad_61 rfl ?_
        refine gf_X0_11 0 C dX0_addLoad_62 rfl rfl ?_
        refine z_iconst (v := 5) C dX0_addLoad_65 kc_5 ?_
        refine z_iload_n 0 C dX0_addLoad_66 rfl ?_
        refine z_iconst (v := 1) C dX0_addLoad_67 kc_1 ?_
        refine z_iadd C dX0_addLoad_68 ?_
        obtain ⟨row11, e12, hf⟩ := nm_g hf
        refine z_iast (ws' := (HW (gk G) h r fl row11 flow)) 1 C dX0_addLoad_69 ix_5_125 rfl e12 rfl ?_
        refine z_iload_n 0 C dX0_addLoad_70 rfl ?_
        cases hf
        exact z_iret C dX0_addLoad_71 F
      have hf := ifn hc hf
      refine z_bipush (v := -4) C dX0_addLoad_38 kb_m4 ?_
      cases hf
      exact z_iret C dX0_addLoad_40 F
    have hf := ifn hc hf
    refine z_bipush (v := -2) C dX0_addLoad_29 kb_m2 ?_
    cases hf
    exact z_iret C dX0_addLoad_31 F
  have hf := ifp hc hf
  refine z_iconst (v := -1) C dX0_addLoad_15 kc_m1 ?_
  cases hf
  exact z_iret C dX0_addLoad_16 F
set_option maxHeartbeats 400000 in
set_option maxRecDepth 100000 in
theorem c_X0_switchLoad {l : Launch} {D : va_G} {cs : ClassId × ClassId × ClassId} (h : Nat) (r : Nat) (fl : Nat) (a1 : Int32) (row : zA) (flow : zA) {v : Int32} {row' : zA} (e : f_X0_switchLoad a1 row = some (v, row')) : zM l D cs yX0_switchLoad cX0_switchLoad 2 (some .int) 1 [.ref h, .int a1] (HW cs h r fl row flow) v (HW cs h r fl row' flow) := by
  refine zM_of (show plainName RX0 = true by decide +kernel) (Nat.le_of_ble_eq_true rfl) ?_
  rintro G rfl rfl rfl C F
  have hf := e
  clear e
  unfold f_X0_switchLoad at hf
  show zV G 2 0 [(0, .ref h), (1, .int a1)] [] (HW (gk G) h r fl row flow)
  refine z_aload_n 0 C dX0_switchLoad_0 rfl ?_
  refine z_iload_n 1 C dX0_switchLoad_1 rfl ?_
  obtain ⟨v1, e2, hf⟩ := b1_e hf
  refine z_callV (st := []) (ws2 := (HW (gk G) h r fl row flow)) [0, 1, 2] C dX0_switchLoad_2 w_X0_42 (c_X0_isLoad h r fl a1 row flow e2) (by decide) rfl rfl rfl rfl rfl rfl rfl (Nat.le_of_ble_eq_true rfl) rfl ?_
  refine z_if_ne (tgt := 10) C dX0_switchLoad_5 rfl (fun hc => ?_) (fun hc => ?_)
  · have hf := ifn hc hf
    refine z_aload_n 0 C dX0_switchLoad_10 rfl ?_
    refine gf_X0_11 0 C dX0_switchLoad_11 rfl rfl ?_
    refine z_bipush (v := 6) C dX0_switchLoad_14 kb_6 ?_
    refine z_dup2 C dX0_switchLoad_16 rfl rfl ?_
    refine z_iald 1 C dX0_switchLoad_17 ix_6_125 rfl ?_
    refine z_iconst (v := 1) C dX0_switchLoad_18 kc_1 ?_
    refine z_iload_n 1 C dX0_switchLoad_19 rfl ?_
    refine z_ishl C dX0_switchLoad_20 ?_
    refine z_ixor C dX0_switchLoad_21 ?_
    obtain ⟨row3, e4, hf⟩ := nm_g hf
    refine z_iast (ws' := (HW (gk G) h r fl row3 flow)) 1 C dX0_switchLoad_22 ix_6_125 rfl e4 rfl ?_
    refine z_aload_n 0 C dX0_switchLoad_23 rfl ?_
    refine gf_X0_11 0 C dX0_switchLoad_24 rfl rfl ?_
    refine z_bipush (v := 6) C dX0_switchLoad_27 kb_6 ?_
    refine z_iald 1 C dX0_switchLoad_29 ix_6_125 rfl ?_
    refine z_iload_n 1 C dX0_switchLoad_30 rfl ?_
    refine z_ishr C dX0_switchLoad_31 ?_
    refine z_iconst (v := 1) C dX0_switchLoad_32 kc_1 ?_
    refine z_iand C dX0_switchLoad_33 ?_
    cases hf
    exact z_iret C dX0_switchLoad_34 F
  have hf := ifp hc hf
  refine z_iconst (v := -1) C dX0_switchLoad_8 kc_m1 ?_
  cases hf
  exact z_iret C dX0_switchLoad_9 F
set_option maxHeartbeats 400000 in
set_option maxRecDepth 100000 in
theorem c_X0_changeFuse {l : Launch} {D : va_G} {cs : ClassId × ClassId × ClassId} (h : Nat) (r : Nat) (fl : Nat) (a1 : Int32) (a2 : Int32) (a3 : Int32) (row : zA) (flow : zA) {v : Int32} {row' : zA} (e : f_X0_changeFuse a1 a2 a3 row = some (v, row')) : zM l D cs yX0_changeFuse cX0_changeFuse 5 (some .int) 1 [.ref h, .int a1, .int a2, .int a3] (HW cs h r fl row flow) v (HW cs h r fl row' flow) := by
  refine zM_of (show plainName RX0 = true by decide +kernel) (Nat.le_of_ble_eq_true rfl) ?_
  rintro G rfl rfl rfl C F
  have hf := e
  clear e
  unfold f_X0_changeFuse at hf
  show zV G 5 0 [(0, .ref h), (1, .int a1), (2, .int a2), (3, .int a3)] [] (HW (gk G) h r fl row flow)
  refine z_aload_n 0 C dX0_changeFuse_0 rfl ?_
  refine z_iload_n 1 C dX0_changeFuse_1 rfl ?_
  obtain ⟨v1, e2, hf⟩ := b1_e hf
  refine z_callV (st := []) (ws2 := (HW (gk G) h r fl row flow)) [0, 1, 2] C dX0_changeFuse_2 w_X0_24 (c_X0_isBoard h r fl a1 row flow e2) (by decide) rfl rfl rfl rfl rfl rfl rfl (Nat.le_of_ble_eq_true rfl) rfl ?_
  refine z_if_ne (tgt := 10) C dX0_changeFuse_5 rfl (fun hc => ?_) (fun hc => ?_)
  · have hf := ifn hc hf
    refine z_iload_n 2 C dX0_changeFuse_10 rfl ?_
    refine z_iload_n 3 C dX0_changeFuse_11 rfl ?_
    obtain ⟨v3, e4, hf⟩ := b1_e hf
    refine z_callS (st := []) (ws2 := (HW (gk G) h r fl row flow)) [] C dX0_changeFuse_12 w_X0_34 (c_X0_isFuse a2 a3 e4) (by decide) rfl rfl rfl  rfl rfl (Nat.le_of_ble_eq_true rfl) rfl ?_
    refine z_if_ne (tgt := 21) C dX0_changeFuse_15 rfl (fun hc => ?_) (fun hc => ?_)
    · have hf := ifn hc hf
      refine z_aload_n 0 C dX0_changeFuse_21 rfl ?_
      refine gf_X0_11 0 C dX0_changeFuse_22 rfl rfl ?_
      refine z_bipush (v := 47) C dX0_changeFuse_25 kb_47 ?_
      refine z_iload_n 1 C dX0_changeFuse_27 rfl ?_
      refine z_iadd C dX0_changeFuse_28 ?_
      obtain ⟨k5, h6, hf⟩ := gd_e hf
      refine z_iald 1 C dX0_changeFuse_29 h6 rfl ?_
      refine z_if_le (tgt := 36) C dX0_changeFuse_30 rfl (fun hc => ?_) (fun hc => ?_)
      · have hf := ifp hc hf
        refine z_aload_n 0 C dX0_changeFuse_36 rfl ?_
        refine gf_X0_11 0 C dX0_changeFuse_37 rfl rfl ?_
        refine z_bipush (v := 27) C dX0_changeFuse_40 kb_27 ?_
        refine z_iload_n 1 C dX0_changeFuse_42 rfl ?_
        refine z_iadd C dX0_changeFuse_43 ?_
        obtain ⟨k7, h8, hf⟩ := gd_e hf
        refine z_iald 1 C dX0_changeFuse_44 h8 rfl ?_
        refine z_istore (ls' := [(4, _), (0, _), (1, _), (2, _), (3, _)]) C dX0_changeFuse_45 (by decide) rfl ?_
        refine z_aload_n 1 C dX0_changeFuse_47 rfl ?_
        refine z_iload_n 2 C dX0_changeFuse_48 rfl ?_
        refine z_iload_n 3 C dX0_changeFuse_49 rfl ?_
        refine z_iload_n 4 C dX0_changeFuse_50 rfl ?_
        obtain ⟨row9, e10, hf⟩ := b1_e hf
        refine z_callVv (st := []) (ws2 := (HW (gk G) h r fl row9 flow)) [0, 1, 2] C dX0_changeFuse_51 w_X0_38 (c_X0_putNewFuse h r fl a1 a2 a3 row flow e10) (by decide) rfl rfl rfl rfl rfl rfl rfl (Nat.le_of_ble_eq_true rfl) rfl ?_
        refine z_iload 0 C dX0_changeFuse_54 rfl ?_
        cases hf
        exact z_iret C dX0_changeFuse_56 F
      have hf := ifn hc hf
      refine z_bipush (v := -5) C dX0_changeFuse_33 kb_m5 ?_
      cases hf
      exact z_iret C dX0_changeFuse_35 F
    have hf := ifp hc hf
    refine z_bipush (v := -2) C dX0_changeFuse_18 kb_m2 ?_
    cases hf
    exact z_iret C dX0_changeFuse_20 F
  have hf := ifp hc hf
  refine z_iconst (v := -1) C dX0_changeFuse_8 kc_m1 ?_
  cases hf
  exact z_iret C dX0_changeFuse_9 F
set_option maxHeartbeats 400000 in
set_option maxRecDepth 100000 in
theorem tb_J7_fill_53178_5 {G : GT} (ap : Nat) (sz : Nat)  {fa' : zA} (C : zC G cJ7_fill_53178 4 RJ7 none 0) (F : zF G none ([(ap, aI (gk G) sz fa')] : va_W)) : ∀ (n : Nat) (l1 : Int32) (l2 : Int32) (l3 : Int32) (fa : zA), B_J7_fill_53178_5 sz n l1 l2 l3 fa = some fa' → zV G 4 5 [(0, .ref ap), (1, .int l1), (2, .int l2), (3, .int l3)] [] ([(ap, aI (gk G) sz fa)] : va_W) := by
  intro n
  induction n with
  | zero => intro _ _ _ _ hf; rw [B_J7_fill_53178_5] at hf; cases hf
  | succ n ih =>
    intro l1 l2 l3 fa hf
    rw [B_J7_fill_53178_5] at hf
    refine z_iload_n 2 C dJ7_fill_53178_5 rfl ?_
    refine z_iload_n 3 C dJ7_fill_53178_6 rfl ?_
    refine z_icmp_ge (tgt := 20) C dJ7_fill_53178_7 rfl (fun hc => ?_) (fun hc => ?_)
    · have hf := ifp hc hf
      cases hf
      exact z_vret C dJ7_fill_53178_20 F
    have hf := ifn hc hf
    refine z_aload_n 0 C dJ7_fill_53178_10 rfl ?_
    refine z_iload_n 2 C dJ7_fill_53178_11 rfl ?_
    refine z_iload_n 1 C dJ7_fill_53178_12 rfl ?_
    obtain ⟨k1, h2, hf⟩ := gd_e hf
    obtain ⟨fa3, e4, hf⟩ := nm_g hf
    refine z_iast (ws' := ([(ap, aI (gk G) sz fa3)] : va_W)) 0 C dJ7_fill_53178_13 h2 rfl e4 rfl ?_
    obtain ⟨x5, e6, hf⟩ := nm_g hf
    refine z_iinc (ls' := [(2, _), (0, _), (1, _), (3, _)]) 2 C dJ7_fill_53178_14 rfl kc_1 e6 (by decide) rfl ?_
    refine z_goto (tgt := 5) C dJ7_fill_53178_17 rfl ?_
    refine z_sub (ls' := [(0, .ref ap), (1, .int l1), (2, .int x5), (3, .int l3)]) [1, 2, 0, 3] rfl ?_
    exact ih _ _ _ _ hf
set_option maxHeartbeats 400000 in
set_option maxRecDepth 100000 in
theorem c_J7_fill_53178 {l : Launch} {D : va_G} {cs : ClassId × ClassId × ClassId} (ap : Nat) (sz : Nat) (a1 : Int32) (fa : zA) {fa' : zA} (e : f_J7_fill_53178 sz a1 fa = some fa') : zMv l D cs yJ7_fill_53178 cJ7_fill_53178 4 none 0 [.ref ap, .int a1] ([(ap, aI cs sz fa)] : va_W) ([(ap, aI cs sz fa')] : va_W) := by
  refine zMv_of (show plainName RJ7 = true by decide +kernel) (Nat.le_of_ble_eq_true rfl) ?_
  rintro G rfl rfl rfl C F
  have hf := e
  clear e
  unfold f_J7_fill_53178 at hf
  show zV G 4 0 [(0, .ref ap), (1, .int a1)] [] ([(ap, aI (gk G) sz fa)] : va_W)
  refine z_iconst (v := 0) C dJ7_fill_53178_0 kc_0 ?_
  refine z_istore_n (ls' := [(2, _), (0, _), (1, _)]) C dJ7_fill_53178_1 (by decide) rfl ?_
  refine z_aload_n 1 C dJ7_fill_53178_2 rfl ?_
  refine z_alen 0 C dJ7_fill_53178_3 rfl rfl ?_
  obtain ⟨x1, e2, hf⟩ := nm_g hf
  refine z_top e2 ?_
  refine z_istore_n (ls' := [(3, _), (2, _), (0, _), (1, _)]) C dJ7_fill_53178_4 (by decide) rfl ?_
  refine z_sub (ls' := [(0, .ref ap), (1, .int a1), (2, .int 0), (3, .int x1)]) [2, 3, 1, 0] rfl ?_
  exact tb_J7_fill_53178_5 ap sz C F _ _ _ _ _ hf
set_option maxHeartbeats 400000 in
set_option maxRecDepth 100000 in
theorem tb_X0_deadBoards_10 {G : GT} (h : Nat) (r : Nat) (fl : Nat) (row : zA) (flow : zA) {v : Int32}  (C : zC G cX0_deadBoards 3 RX0 (some .int) 0) (F : zF G (some (.int v)) (HW (gk G) h r fl row flow)) : ∀ (n : Nat) (l1 : Int32) (l2 : Int32), B_X0_deadBoards_10 n l1 l2 row = some v → zV G 3 10 [(0, .ref h), (1, .int l1), (2, .int l2)] [] (HW (gk G) h r fl row flow) := by
  intro n
  induction n with
  | zero => intro _ _ hf; rw [B_X0_deadBoards_10] at hf; cases hf
  | succ n ih =>
    intro l1 l2 hf
    rw [B_X0_deadBoards_10] at hf
    refine z_iload_n 2 C dX0_deadBoards_10 rfl ?_
    refine z_aload_n 0 C dX0_deadBoards_11 rfl ?_
    refine gf_X0_11 0 C dX0_deadBoards_12 rfl rfl ?_
    refine z_iconst (v := 4) C dX0_deadBoards_15 kc_4 ?_
    refine z_iald 1 C dX0_deadBoards_16 ix_4_125 rfl ?_
    refine z_icmp_ge (tgt := 48) C dX0_deadBoards_17 rfl (fun hc => ?_) (fun hc => ?_)
    · have hf := ifp hc hf
      refine z_iload_n 1 C dX0_deadBoards_48 rfl ?_
      cases hf
      exact z_iret C dX0_deadBoards_49 F
    have hf := ifn hc hf
    refine z_iload_n 1 C dX0_deadBoards_20 rfl ?_
    refine z_aload_n 0 C dX0_deadBoards_21 rfl ?_
    refine gf_X0_11 0 C dX0_deadBoards_22 rfl rfl ?_
    refine z_bipush (v := 17) C dX0_deadBoards_25 kb_17 ?_
    refine z_iload_n 2 C dX0_deadBoards_27 rfl ?_
    refine z_iadd C dX0_deadBoards_28 ?_
    obtain ⟨k1, h2, hf⟩ := gd_e hf
    refine z_iald 1 C dX0_deadBoards_29 h2 rfl ?_
    refine z_ishr C dX0_deadBoards_30 ?_
    refine z_iconst (v := 1) C dX0_deadBoards_31 kc_1 ?_
    refine z_iand C dX0_deadBoards_32 ?_
    refine z_if_eq (tgt := 42) C dX0_deadBoards_33 rfl (fun hc => ?_) (fun hc => ?_)
    · have hf := ifp hc hf
      obtain ⟨x3, e4, hf⟩ := nm_g hf
      refine z_iinc (ls' := [(2, _), (0, _), (1, _)]) 2 C dX0_deadBoards_42 rfl kc_1 e4 (by decide) rfl ?_
      refine z_goto (tgt := 10) C dX0_deadBoards_45 rfl ?_
      refine z_sub (ls' := [(0, .ref h), (1, .int l1), (2, .int x3)]) [1, 2, 0] rfl ?_
      exact ih _ _ hf
    have hf := ifn hc hf
    refine z_iload_n 1 C dX0_deadBoards_36 rfl ?_
    refine z_iconst (v := 1) C dX0_deadBoards_37 kc_1 ?_
    refine z_iload_n 2 C dX0_deadBoards_38 rfl ?_
    refine z_ishl C dX0_deadBoards_39 ?_
    refine z_ior C dX0_deadBoards_40 ?_
    obtain ⟨x5, e6, hf⟩ := nm_g hf
    refine z_top e6 ?_
    refine z_istore_n (ls' := [(1, _), (0, _), (2, _)]) C dX0_deadBoards_41 (by decide) rfl ?_
    obtain ⟨x7, e8, hf⟩ := nm_g hf
    refine z_iinc (ls' := [(2, _), (1, _), (0, _)]) 2 C dX0_deadBoards_42 rfl kc_1 e8 (by decide) rfl ?_
    refine z_goto (tgt := 10) C dX0_deadBoards_45 rfl ?_
    refine z_sub (ls' := [(0, .ref h), (1, .int x5), (2, .int x7)]) [2, 1, 0] rfl ?_
    exact ih _ _ hf
set_option maxHeartbeats 400000 in
set_option maxRecDepth 100000 in
theorem c_X0_deadBoards {l : Launch} {D : va_G} {cs : ClassId × ClassId × ClassId} (h : Nat) (r : Nat) (fl : Nat)  (row : zA) (flow : zA) {v : Int32}  (e : f_X0_deadBoards row = some v) : zM l D cs yX0_deadBoards cX0_deadBoards 3 (some .int) 0 [.ref h] (HW cs h r fl row flow) v (HW cs h r fl row flow) := by
  refine zM_of (show plainName RX0 = true by decide +kernel) (Nat.le_of_ble_eq_true rfl) ?_
  rintro G rfl rfl rfl C F
  have hf := e
  clear e
  unfold f_X0_deadBoards at hf
  show zV G 3 0 [(0, .ref h)] [] (HW (gk G) h r fl row flow)
  refine z_aload_n 0 C dX0_deadBoards_0 rfl ?_
  refine gf_X0_11 0 C dX0_deadBoards_1 rfl rfl ?_
  refine z_bipush (v := 7) C dX0_deadBoards_4 kb_7 ?_
  refine z_iald 1 C dX0_deadBoards_6 ix_7_125 rfl ?_
  refine z_istore_n (ls' := [(1, _), (0, _)]) C dX0_deadBoards_7 (by decide) rfl ?_
  refine z_iconst (v := 1) C dX0_deadBoards_8 kc_1 ?_
  refine z_istore_n (ls' := [(2, _), (1, _), (0, _)]) C dX0_deadBoards_9 (by decide) rfl ?_
  refine z_sub (ls' := [(0, .ref h), (1, .int (row 7)), (2, .int 1)]) [2, 1, 0] rfl ?_
  exact tb_X0_deadBoards_10 h r fl row flow C F _ _ _ hf
set_option maxHeartbeats 400000 in
set_option maxRecDepth 100000 in
theorem c_X0_addFlow {l : Launch} {D : va_G} {cs : ClassId × ClassId × ClassId} (h : Nat) (r : Nat) (fl : Nat) (a1 : Int32) (a2 : Int32) (row : zA) (flow : zA) {flow' : zA} (e : f_X0_addFlow a1 a2 flow = some flow') : zMv l D cs yX0_addFlow cX0_addFlow 3 none 0 [.ref h, .int a1, .int a2] (HW cs h r fl row flow) (HW cs h r fl row flow') := by
  refine zMv_of (show plainName RX0 = true by decide +kernel) (Nat.le_of_ble_eq_true rfl) ?_
  rintro G rfl rfl rfl C F
  have hf := e
  clear e
  unfold f_X0_addFlow at hf
  show zV G 3 0 [(0, .ref h), (1, .int a1), (2, .int a2)] [] (HW (gk G) h r fl row flow)
  refine z_iload_n 1 C dX0_addFlow_0 rfl ?_
  refine z_if_lt (tgt := 20) C dX0_addFlow_1 rfl (fun hc => ?_) (fun hc => ?_)
  · have hf := ifp hc hf
    cases hf
    exact z_vret C dX0_addFlow_20 F
  have hf := ifn hc hf
  refine z_iload_n 1 C dX0_addFlow_4 rfl ?_
  refine z_bipush (v := 10) C dX0_addFlow_5 kb_10 ?_
  refine z_icmp_ge (tgt := 20) C dX0_addFlow_7 rfl (fun hc => ?_) (fun hc => ?_)
  · have hf := ifp hc hf
    cases hf
    exact z_vret C dX0_addFlow_20 F
  have hf := ifn hc hf
  refine z_aload_n 0 C dX0_addFlow_10 rfl ?_
  refine gf_X0_15 0 C dX0_addFlow_11 rfl rfl ?_
  refine z_iload_n 1 C dX0_addFlow_14 rfl ?_
  refine z_dup2 C dX0_addFlow_15 rfl rfl ?_
  obtain ⟨k1, h2, hf⟩ := gd_e hf
  refine z_iald 2 C dX0_addFlow_16 h2 rfl ?_
  refine z_iload_n 2 C dX0_addFlow_17 rfl ?_
  refine z_iadd C dX0_addFlow_18 ?_
  obtain ⟨flow3, e4, hf⟩ := nm_g hf
  refine z_iast (ws' := (HW (gk G) h r fl row flow3)) 2 C dX0_addFlow_19 h2 rfl e4 rfl ?_
  cases hf
  exact z_vret C dX0_addFlow_20 F
set_option maxHeartbeats 400000 in
set_option maxRecDepth 100000 in
theorem tb_X0_addUpCurrents_102 {G : GT} (h : Nat) (r : Nat) (fl : Nat) (row : zA) {flow' : zA} (C : zC G cX0_addUpCurrents 4 RX0 none 1) (F : zF G none (HW (gk G) h r fl row flow')) : ∀ (n : Nat) (l2 : Int32) (flow : zA), B_X0_addUpCurrents_102 n l2 row flow = some flow' → zV G 4 102 [(0, .ref h), (2, .int l2)] [] (HW (gk G) h r fl row flow) := by
  intro n
  induction n with
  | zero => intro _ _ hf; rw [B_X0_addUpCurrents_102] at hf; cases hf
  | succ n ih =>
    intro l2 flow hf
    rw [B_X0_addUpCurrents_102] at hf
    refine z_iload_n 1 C dX0_addUpCurrents_102 rfl ?_
    refine z_if_le (tgt := 131) C dX0_addUpCurrents_103 rfl (fun hc => ?_) (fun hc => ?_)
    · have hf := ifp hc hf
      cases hf
      exact z_vret C dX0_addUpCurrents_131 F
    have hf := ifn hc hf
    refine z_aload_n 0 C dX0_addUpCurrents_106 rfl ?_
    refine z_aload_n 0 C dX0_addUpCurrents_107 rfl ?_
    refine gf_X0_11 0 C dX0_addUpCurrents_108 rfl rfl ?_
    refine z_bipush (v := 17) C dX0_addUpCurrents_111 kb_17 ?_
    refine z_iload_n 1 C dX0_addUpCurrents_113 rfl ?_
    refine z_iadd C dX0_addUpCurrents_114 ?_
    obtain ⟨k1, h2, hf⟩ := gd_e hf
    refine z_iald 1 C dX0_addUpCurrents_115 h2 rfl ?_
    refine z_aload_n 0 C dX0_addUpCurrents_116 rfl ?_
    refine gf_X0_15 0 C dX0_addUpCurrents_117 rfl rfl ?_
    refine z_iload_n 1 C dX0_addUpCurrents_120 rfl ?_
    obtain ⟨k3, h4, hf⟩ := gd_e hf
    refine z_iald 2 C dX0_addUpCurrents_121 h4 rfl ?_
    obtain ⟨flow5, e6, hf⟩ := b1_e hf
    refine z_callVv (st := []) (ws2 := (HW (gk G) h r fl row flow5)) [0, 1, 2] C dX0_addUpCurrents_122 w_X0_90 (c_X0_addFlow h r fl (row k1) (flow k3) row flow e6) (by decide) rfl rfl rfl rfl rfl rfl rfl (Nat.le_of_ble_eq_true rfl) rfl ?_
    obtain ⟨x7, e8, hf⟩ := nm_g hf
    refine z_iinc (ls' := [(2, _), (0, _)]) 1 C dX0_addUpCurrents_125 rfl kc_m1 e8 (by decide) rfl ?_
    refine z_goto (tgt := 102) C dX0_addUpCurrents_128 rfl ?_
    refine z_sub (ls' := [(0, .ref h), (2, .int x7)]) [1, 0] rfl ?_
    exact ih _ _ hf
set_option maxHeartbeats 400000 in
set_option maxRecDepth 100000 in
theorem tb_X0_addUpCurrents_60 {G : GT} (h : Nat) (r : Nat) (fl : Nat) (row : zA) {flow' : zA} (C : zC G cX0_addUpCurrents 4 RX0 none 1) (F : zF G none (HW (gk G) h r fl row flow')) (K : Int32 → Int32 → zA → zA → Option (zA)) (hK : ∀ (l1 : Int32) (l2 : Int32) (flow : zA), K l1 l2 row flow = some flow' → zV G 4 15 [(0, .ref h), (1, .int l1), (2, .int l2)] [] (HW (gk G) h r fl row flow)) : ∀ (s0 : Int32) (l1 : Int32) (l2 : Int32) (flow : zA), B_X0_addUpCurrents_60 K s0 l1 l2 row flow = some flow' → zV G 4 60 [(0, .ref h), (1, .int l1), (2, .int l2)] [.int s0] (HW (gk G) h r fl row flow) := by
  intro s0 l1 l2 flow hf
  unfold B_X0_addUpCurrents_60 at hf
  refine z_istore_n (ls' := [(3, _), (0, _), (1, _), (2, _)]) C dX0_addUpCurrents_60 (by decide) rfl ?_
  refine z_iload_n 0 C dX0_addUpCurrents_61 rfl ?_
  refine z_if_eq (tgt := 87) C dX0_addUpCurrents_62 rfl (fun hc => ?_) (fun hc => ?_)
  · have hf := ifp hc hf
    obtain ⟨x1, e2, hf⟩ := nm_g hf
    refine z_iinc (ls' := [(2, _), (3, _), (0, _), (1, _)]) 3 C dX0_addUpCurrents_87 rfl kc_1 e2 (by decide) rfl ?_
    refine z_goto (tgt := 15) C dX0_addUpCurrents_90 rfl ?_
    refine z_sub (ls' := [(0, .ref h), (1, .int l1), (2, .int x1)]) [2, 3, 0] rfl ?_
    exact hK _ _ _ hf
  have hf := ifn hc hf
  refine z_aload_n 1 C dX0_addUpCurrents_65 rfl ?_
  refine z_aload_n 1 C dX0_addUpCurrents_66 rfl ?_
  refine gf_X0_11 0 C dX0_addUpCurrents_67 rfl rfl ?_
  refine z_bipush (v := 97) C dX0_addUpCurrents_70 kb_97 ?_
  refine z_iload_n 3 C dX0_addUpCurrents_72 rfl ?_
  refine z_iadd C dX0_addUpCurrents_73 ?_
  obtain ⟨k3, h4, hf⟩ := gd_e hf
  refine z_iald 1 C dX0_addUpCurrents_74 h4 rfl ?_
  refine z_aload_n 1 C dX0_addUpCurrents_75 rfl ?_
  refine gf_X0_11 0 C dX0_addUpCurrents_76 rfl rfl ?_
  refine z_bipush (v := 111) C dX0_addUpCurrents_79 kb_111 ?_
  refine z_iload_n 3 C dX0_addUpCurrents_81 rfl ?_
  refine z_iadd C dX0_addUpCurrents_82 ?_
  obtain ⟨k5, h6, hf⟩ := gd_e hf
  refine z_iald 1 C dX0_addUpCurrents_83 h6 rfl ?_
  obtain ⟨flow7, e8, hf⟩ := b1_e hf
  refine z_callVv (st := []) (ws2 := (HW (gk G) h r fl row flow7)) [0, 1, 2] C dX0_addUpCurrents_84 w_X0_90 (c_X0_addFlow h r fl (row k3) (row k5) row flow e8) (by decide) rfl rfl rfl rfl rfl rfl rfl (Nat.le_of_ble_eq_true rfl) rfl ?_
  obtain ⟨x9, e10, hf⟩ := nm_g hf
  refine z_iinc (ls' := [(2, _), (3, _), (0, _), (1, _)]) 3 C dX0_addUpCurrents_87 rfl kc_1 e10 (by decide) rfl ?_
  refine z_goto (tgt := 15) C dX0_addUpCurrents_90 rfl ?_
  refine z_sub (ls' := [(0, .ref h), (1, .int l1), (2, .int x9)]) [2, 3, 0] rfl ?_
  exact hK _ _ _ hf
set_option maxHeartbeats 400000 in
set_option maxRecDepth 100000 in
theorem tb_X0_addUpCurrents_59 {G : GT} (h : Nat) (r : Nat) (fl : Nat) (row : zA) {flow' : zA} (C : zC G cX0_addUpCurrents 4 RX0 none 1) (F : zF G none (HW (gk G) h r fl row flow')) (K : Int32 → Int32 → zA → zA → Option (zA)) (hK : ∀ (l1 : Int32) (l2 : Int32) (flow : zA), K l1 l2 row flow = some flow' → zV G 4 15 [(0, .ref h), (1, .int l1), (2, .int l2)] [] (HW (gk G) h r fl row flow)) : ∀ (l1 : Int32) (l2 : Int32) (flow : zA), B_X0_addUpCurrents_59 K l1 l2 row flow = some flow' → zV G 4 59 [(0, .ref h), (1, .int l1), (2, .int l2)] [] (HW (gk G) h r fl row flow) := by
  intro l1 l2 flow hf
  unfold B_X0_addUpCurrents_59 at hf
  refine z_iconst (v := 0) C dX0_addUpCurrents_59 kc_0 ?_
  exact tb_X0_addUpCurrents_60 h r fl row C F K hK _ _ _ _ hf
set_option maxHeartbeats 400000 in
set_option maxRecDepth 100000 in
theorem tb_X0_addUpCurrents_15 {G : GT} (h : Nat) (r : Nat) (fl : Nat) (row : zA) {flow' : zA} (C : zC G cX0_addUpCurrents 4 RX0 none 1) (F : zF G none (HW (gk G) h r fl row flow')) : ∀ (n : Nat) (l1 : Int32) (l2 : Int32) (flow : zA), B_X0_addUpCurrents_15 n l1 l2 row flow = some flow' → zV G 4 15 [(0, .ref h), (1, .int l1), (2, .int l2)] [] (HW (gk G) h r fl row flow) := by
  intro n
  induction n with
  | zero => intro _ _ _ hf; rw [B_X0_addUpCurrents_15] at hf; cases hf
  | succ n ih =>
    intro l1 l2 flow hf
    rw [B_X0_addUpCurrents_15] at hf
    refine z_iload_n 2 C dX0_addUpCurrents_15 rfl ?_
    refine z_aload_n 0 C dX0_addUpCurrents_16 rfl ?_
    refine gf_X0_11 0 C dX0_addUpCurrents_17 rfl rfl ?_
    refine z_iconst (v := 5) C dX0_addUpCurrents_20 kc_5 ?_
    refine z_iald 1 C dX0_addUpCurrents_21 ix_5_125 rfl ?_
    refine z_icmp_ge (tgt := 93) C dX0_addUpCurrents_22 rfl (fun hc => ?_) (fun hc => ?_)
    · have hf := ifp hc hf
      refine z_aload_n 0 C dX0_addUpCurrents_93 rfl ?_
      refine gf_X0_11 0 C dX0_addUpCurrents_94 rfl rfl ?_
      refine z_iconst (v := 4) C dX0_addUpCurrents_97 kc_4 ?_
      refine z_iald 1 C dX0_addUpCurrents_98 ix_4_125 rfl ?_
      refine z_iconst (v := 1) C dX0_addUpCurrents_99 kc_1 ?_
      refine z_isub C dX0_addUpCurrents_100 ?_
      obtain ⟨x1, e2, hf⟩ := nm_g hf
      refine z_top e2 ?_
      refine z_istore_n (ls' := [(2, _), (0, _), (1, _)]) C dX0_addUpCurrents_101 (by decide) rfl ?_
      refine z_sub (ls' := [(0, .ref h), (2, .int x1)]) [1, 0] rfl ?_
      exact tb_X0_addUpCurrents_102 h r fl row C F _ _ _ hf
    have hf := ifn hc hf
    refine z_aload_n 0 C dX0_addUpCurrents_25 rfl ?_
    refine gf_X0_11 0 C dX0_addUpCurrents_26 rfl rfl ?_
    refine z_bipush (v := 6) C dX0_addUpCurrents_29 kb_6 ?_
    refine z_iald 1 C dX0_addUpCurrents_31 ix_6_125 rfl ?_
    refine z_iload_n 2 C dX0_addUpCurrents_32 rfl ?_
    refine z_ishr C dX0_addUpCurrents_33 ?_
    refine z_iconst (v := 1) C dX0_addUpCurrents_34 kc_1 ?_
    refine z_iand C dX0_addUpCurrents_35 ?_
    refine z_if_eq (tgt := 59) C dX0_addUpCurrents_36 rfl (fun hc => ?_) (fun hc => ?_)
    · have hf := ifp hc hf
      exact tb_X0_addUpCurrents_59 h r fl row C F _ ih _ _ _ hf
    have hf := ifn hc hf
    refine z_iload_n 1 C dX0_addUpCurrents_39 rfl ?_
    refine z_aload_n 0 C dX0_addUpCurrents_40 rfl ?_
    refine gf_X0_11 0 C dX0_addUpCurrents_41 rfl rfl ?_
    refine z_bipush (v := 97) C dX0_addUpCurrents_44 kb_97 ?_
    refine z_iload_n 2 C dX0_addUpCurrents_46 rfl ?_
    refine z_iadd C dX0_addUpCurrents_47 ?_
    obtain ⟨k3, h4, hf⟩ := gd_e hf
    refine z_iald 1 C dX0_addUpCurrents_48 h4 rfl ?_
    refine z_ishr C dX0_addUpCurrents_49 ?_
    refine z_iconst (v := 1) C dX0_addUpCurrents_50 kc_1 ?_
    refine z_iand C dX0_addUpCurrents_51 ?_
    refine z_if_ne (tgt := 59) C dX0_addUpCurrents_52 rfl (fun hc => ?_) (fun hc => ?_)
    · have hf := ifn hc hf
      exact tb_X0_addUpCurrents_59 h r fl row C F _ ih _ _ _ hf
    have hf := ifp hc hf
    refine z_iconst (v := 1) C dX0_addUpCurrents_55 kc_1 ?_
    refine z_goto (tgt := 60) C dX0_addUpCurrents_56 rfl ?_
    exact tb_X0_addUpCurrents_60 h r fl row C F _ ih _ _ _ _ hf
set_option maxHeartbeats 400000 in
set_option maxRecDepth 100000 in
theorem c_X0_addUpCurrents {l : Launch} {D : va_G} {cs : ClassId × ClassId × ClassId} (h : Nat) (r : Nat) (fl : Nat)  (row : zA) (flow : zA) {flow' : zA} (e : f_X0_addUpCurrents row flow = some flow') : zMv l D cs yX0_addUpCurrents cX0_addUpCurrents 4 none 1 [.ref h] (HW cs h r fl row flow) (HW cs h r fl row flow') := by
  refine zMv_of (show plainName RX0 = true by decide +kernel) (Nat.le_of_ble_eq_true rfl) ?_
  rintro G rfl rfl rfl C F
  have hf := e
  clear e
  unfold f_X0_addUpCurrents at hf
  show zV G 4 0 [(0, .ref h)] [] (HW (gk G) h r fl row flow)
  refine z_aload_n 0 C dX0_addUpCurrents_0 rfl ?_
  refine gf_X0_15 0 C dX0_addUpCurrents_1 rfl rfl ?_
  refine z_iconst (v := 0) C dX0_addUpCurrents_4 kc_0 ?_
  obtain ⟨flow1, e2, hf⟩ := b1_e hf
  refine z_callSv (st := []) (ws2 := (HW (gk G) h r fl row flow1)) [2] C dX0_addUpCurrents_5 w_X0_84 (c_J7_fill_53178 fl 10 0 flow e2) (by decide) rfl rfl rfl  rfl rfl (Nat.le_of_ble_eq_true rfl) rfl ?_
  refine z_aload_n 0 C dX0_addUpCurrents_8 rfl ?_
  obtain ⟨v3, e4, hf⟩ := b1_e hf
  refine z_callV (st := []) (ws2 := (HW (gk G) h r fl row flow1)) [0, 1, 2] C dX0_addUpCurrents_9 w_X0_87 (c_X0_deadBoards h r fl row flow1 e4) (by decide) rfl rfl rfl rfl rfl rfl rfl (Nat.le_of_ble_eq_true rfl) rfl ?_
  refine z_istore_n (ls' := [(1, _), (0, _)]) C dX0_addUpCurrents_12 (by decide) rfl ?_
  refine z_iconst (v := 0) C dX0_addUpCurrents_13 kc_0 ?_
  refine z_istore_n (ls' := [(2, _), (1, _), (0, _)]) C dX0_addUpCurrents_14 (by decide) rfl ?_
  refine z_sub (ls' := [(0, .ref h), (1, .int v3), (2, .int 0)]) [2, 1, 0] rfl ?_
  exact tb_X0_addUpCurrents_15 h r fl row C F _ _ _ _ hf
set_option maxHeartbeats 400000 in
set_option maxRecDepth 100000 in
theorem tb_X0_burnArcs_2 {G : GT} (h : Nat) (r : Nat) (fl : Nat) (flow : zA) {row' : zA} (C : zC G cX0_burnArcs 2 RX0 none 0) (F : zF G none (HW (gk G) h r fl row' flow)) : ∀ (n : Nat) (l1 : Int32) (row : zA), B_X0_burnArcs_2 n l1 row = some row' → zV G 2 2 [(0, .ref h), (1, .int l1)] [] (HW (gk G) h r fl row flow) := by
  intro n
  induction n with
  | zero => intro _ _ hf; rw [B_X0_burnArcs_2] at hf; cases hf
  | succ n ih =>
    intro l1 row hf
    rw [B_X0_burnArcs_2] at hf
    refine z_iload_n 1 C dX0_burnArcs_2 rfl ?_
    refine z_aload_n 0 C dX0_burnArcs_3 rfl ?_
    refine gf_X0_11 0 C dX0_burnArcs_4 rfl rfl ?_
    refine z_iconst (v := 4) C dX0_burnArcs_7 kc_4 ?_
    refine z_iald 1 C dX0_burnArcs_8 ix_4_125 rfl ?_
    refine z_icmp_ge (tgt := 71) C dX0_burnArcs_9 rfl (fun hc => ?_) (fun hc => ?_)
    · have hf := ifp hc hf
      cases hf
      exact z_vret C dX0_burnArcs_71 F
    have hf := ifn hc hf
    refine z_aload_n 0 C dX0_burnArcs_12 rfl ?_
    refine gf_X0_11 0 C dX0_burnArcs_13 rfl rfl ?_
    refine z_bipush (v := 47) C dX0_burnArcs_16 kb_47 ?_
    refine z_iload_n 1 C dX0_burnArcs_18 rfl ?_
    refine z_iadd C dX0_burnArcs_19 ?_
    obtain ⟨k1, h2, hf⟩ := gd_e hf
    refine z_iald 1 C dX0_burnArcs_20 h2 rfl ?_
    refine z_if_ne (tgt := 27) C dX0_burnArcs_21 rfl (fun hc => ?_) (fun hc => ?_)
    · have hf := ifn hc hf
      refine z_aload_n 0 C dX0_burnArcs_27 rfl ?_
      refine gf_X0_11 0 C dX0_burnArcs_28 rfl rfl ?_
      refine z_bipush (v := 47) C dX0_burnArcs_31 kb_47 ?_
      refine z_iload_n 1 C dX0_burnArcs_33 rfl ?_
      refine z_iadd C dX0_burnArcs_34 ?_
      refine z_dup2 C dX0_burnArcs_35 rfl rfl ?_
      refine z_iald 1 C dX0_burnArcs_36 h2 rfl ?_
      refine z_iconst (v := 1) C dX0_burnArcs_37 kc_1 ?_
      refine z_isub C dX0_burnArcs_38 ?_
      obtain ⟨row3, e4, hf⟩ := nm_g hf
      refine z_iast (ws' := (HW (gk G) h r fl row3 flow)) 1 C dX0_burnArcs_39 h2 rfl e4 rfl ?_
      refine z_aload_n 0 C dX0_burnArcs_40 rfl ?_
      refine gf_X0_11 0 C dX0_burnArcs_41 rfl rfl ?_
      refine z_bipush (v := 47) C dX0_burnArcs_44 kb_47 ?_
      refine z_iload_n 1 C dX0_burnArcs_46 rfl ?_
      refine z_iadd C dX0_burnArcs_47 ?_
      refine z_iald 1 C dX0_burnArcs_48 h2 rfl ?_
      refine z_if_ne (tgt := 65) C dX0_burnArcs_49 rfl (fun hc => ?_) (fun hc => ?_)
      · have hf := ifn hc hf
        obtain ⟨x5, e6, hf⟩ := nm_g hf
        refine z_iinc (ls' := [(1, _), (0, _)]) 1 C dX0_burnArcs_65 rfl kc_1 e6 (by decide) rfl ?_
        refine z_goto (tgt := 2) C dX0_burnArcs_68 rfl ?_
        refine z_sub (ls' := [(0, .ref h), (1, .int x5)]) [1, 0] rfl ?_
        exact ih _ _ hf
      have hf := ifp hc hf
      refine z_aload_n 0 C dX0_burnArcs_52 rfl ?_
      refine gf_X0_11 0 C dX0_burnArcs_53 rfl rfl ?_
      refine z_bipush (v := 7) C dX0_burnArcs_56 kb_7 ?_
      refine z_dup2 C dX0_burnArcs_58 rfl rfl ?_
      refine z_iald 1 C dX0_burnArcs_59 ix_7_125 rfl ?_
      refine z_iconst (v := 1) C dX0_burnArcs_60 kc_1 ?_
      refine z_iload_n 1 C dX0_burnArcs_61 rfl ?_
      refine z_ishl C dX0_burnArcs_62 ?_
      refine z_ior C dX0_burnArcs_63 ?_
      obtain ⟨row7, e8, hf⟩ := nm_g hf
      refine z_iast (ws' := (HW (gk G) h r fl row7 flow)) 1 C dX0_burnArcs_64 ix_7_125 rfl e8 rfl ?_
      obtain ⟨x9, e10, hf⟩ := nm_g hf
      refine z_iinc (ls' := [(1, _), (0, _)]) 1 C dX0_burnArcs_65 rfl kc_1 e10 (by decide) rfl ?_
      refine z_goto (tgt := 2) C dX0_burnArcs_68 rfl ?_
      refine z_sub (ls' := [(0, .ref h), (1, .int x9)]) [1, 0] rfl ?_
      exact ih _ _ hf
    have hf := ifp hc hf
    refine z_goto (tgt := 65) C dX0_burnArcs_24 rfl ?_
    obtain ⟨x11, e12, hf⟩ := nm_g hf
    refine z_iinc (ls' := [(1, _), (0, _)]) 1 C dX0_burnArcs_65 rfl kc_1 e12 (by decide) rfl ?_
    refine z_goto (tgt := 2) C dX0_burnArcs_68 rfl ?_
    refine z_sub (ls' := [(0, .ref h), (1, .int x11)]) [1, 0] rfl ?_
    exact ih _ _ hf
set_option maxHeartbeats 400000 in
set_option maxRecDepth 100000 in
theorem c_X0_burnArcs {l : Launch} {D : va_G} {cs : ClassId × ClassId × ClassId} (h : Nat) (r : Nat) (fl : Nat)  (row : zA) (flow : zA) {row' : zA} (e : f_X0_burnArcs row = some row') : zMv l D cs yX0_burnArcs cX0_burnArcs 2 none 0 [.ref h] (HW cs h r fl row flow) (HW cs h r fl row' flow) := by
  refine zMv_of (show plainName RX0 = true by decide +kernel) (Nat.le_of_ble_eq_true rfl) ?_
  rintro G rfl rfl rfl C F
  have hf := e
  clear e
  unfold f_X0_burnArcs at hf
  show zV G 2 0 [(0, .ref h)] [] (HW (gk G) h r fl row flow)
  refine z_iconst (v := 0) C dX0_burnArcs_0 kc_0 ?_
  refine z_istore_n (ls' := [(1, _), (0, _)]) C dX0_burnArcs_1 (by decide) rfl ?_
  refine z_sub (ls' := [(0, .ref h), (1, .int 0)]) [1, 0] rfl ?_
  exact tb_X0_burnArcs_2 h r fl flow C F _ _ _ hf
set_option maxHeartbeats 400000 in
set_option maxRecDepth 100000 in
theorem c_X0_state {l : Launch} {D : va_G} {cs : ClassId × ClassId × ClassId} (h : Nat) (r : Nat) (fl : Nat) (a1 : Int32) (row : zA) (flow : zA) {v : Int32}  (e : f_X0_state a1 row = some v) : zM l D cs yX0_state cX0_state 2 (some .int) 0 [.ref h, .int a1] (HW cs h r fl row flow) v (HW cs h r fl row flow) := by
  refine zM_of (show plainName RX0 = true by decide +kernel) (Nat.le_of_ble_eq_true rfl) ?_
  rintro G rfl rfl rfl C F
  have hf := e
  clear e
  unfold f_X0_state at hf
  show zV G 2 0 [(0, .ref h), (1, .int a1)] [] (HW (gk G) h r fl row flow)
  refine z_aload_n 0 C dX0_state_0 rfl ?_
  refine gf_X0_11 0 C dX0_state_1 rfl rfl ?_
  refine z_bipush (v := 7) C dX0_state_4 kb_7 ?_
  refine z_iald 1 C dX0_state_6 ix_7_125 rfl ?_
  refine z_iload_n 1 C dX0_state_7 rfl ?_
  refine z_ishr C dX0_state_8 ?_
  refine z_iconst (v := 1) C dX0_state_9 kc_1 ?_
  refine z_iand C dX0_state_10 ?_
  refine z_if_eq (tgt := 16) C dX0_state_11 rfl (fun hc => ?_) (fun hc => ?_)
  · have hf := ifp hc hf
    refine z_aload_n 0 C dX0_state_16 rfl ?_
    refine gf_X0_11 0 C dX0_state_17 rfl rfl ?_
    refine z_bipush (v := 47) C dX0_state_20 kb_47 ?_
    refine z_iload_n 1 C dX0_state_22 rfl ?_
    refine z_iadd C dX0_state_23 ?_
    obtain ⟨k1, h2, hf⟩ := gd_e hf
    refine z_iald 1 C dX0_state_24 h2 rfl ?_
    refine z_if_le (tgt := 32) C dX0_state_25 rfl (fun hc => ?_) (fun hc => ?_)
    · have hf := ifp hc hf
      refine z_iconst (v := 0) C dX0_state_32 kc_0 ?_
      cases hf
      exact z_iret C dX0_state_33 F
    have hf := ifn hc hf
    refine z_iconst (v := 1) C dX0_state_28 kc_1 ?_
    refine z_goto (tgt := 33) C dX0_state_29 rfl ?_
    cases hf
    exact z_iret C dX0_state_33 F
  have hf := ifn hc hf
  refine z_iconst (v := 2) C dX0_state_14 kc_2 ?_
  cases hf
  exact z_iret C dX0_state_15 F
set_option maxHeartbeats 400000 in
set_option maxRecDepth 100000 in
theorem c_X0_creep {l : Launch} {D : va_G} {cs : ClassId × ClassId × ClassId} (h : Nat) (r : Nat) (fl : Nat) (a1 : Int32) (row : zA) (flow : zA) {row' : zA} (e : f_X0_creep a1 row = some row') : zMv l D cs yX0_creep cX0_creep 2 none 0 [.ref h, .int a1] (HW cs h r fl row flow) (HW cs h r fl row' flow) := by
  refine zMv_of (show plainName RX0 = true by decide +kernel) (Nat.le_of_ble_eq_true rfl) ?_
  rintro G rfl rfl rfl C F
  have hf := e
  clear e
  unfold f_X0_creep at hf
  show zV G 2 0 [(0, .ref h), (1, .int a1)] [] (HW (gk G) h r fl row flow)
  refine z_aload_n 0 C dX0_creep_0 rfl ?_
  refine gf_X0_11 0 C dX0_creep_1 rfl rfl ?_
  refine z_bipush (v := 77) C dX0_creep_4 kb_77 ?_
  refine z_iload_n 1 C dX0_creep_6 rfl ?_
  refine z_iadd C dX0_creep_7 ?_
  refine z_dup2 C dX0_creep_8 rfl rfl ?_
  obtain ⟨k1, h2, hf⟩ := gd_e hf
  refine z_iald 1 C dX0_creep_9 h2 rfl ?_
  refine z_iconst (v := 1) C dX0_creep_10 kc_1 ?_
  refine z_iadd C dX0_creep_11 ?_
  obtain ⟨row3, e4, hf⟩ := nm_g hf
  refine z_iast (ws' := (HW (gk G) h r fl row3 flow)) 1 C dX0_creep_12 h2 rfl e4 rfl ?_
  refine z_aload_n 0 C dX0_creep_13 rfl ?_
  refine gf_X0_11 0 C dX0_creep_14 rfl rfl ?_
  refine z_bipush (v := 77) C dX0_creep_17 kb_77 ?_
  refine z_iload_n 1 C dX0_creep_19 rfl ?_
  refine z_iadd C dX0_creep_20 ?_
  refine z_iald 1 C dX0_creep_21 h2 rfl ?_
  refine z_aload_n 0 C dX0_creep_22 rfl ?_
  refine gf_X0_11 0 C dX0_creep_23 rfl rfl ?_
  refine z_iconst (v := 2) C dX0_creep_26 kc_2 ?_
  refine z_iald 1 C dX0_creep_27 ix_2_125 rfl ?_
  refine z_icmp_ge (tgt := 32) C dX0_creep_28 rfl (fun hc => ?_) (fun hc => ?_)
  · have hf := ifp hc hf
    refine z_aload_n 0 C dX0_creep_32 rfl ?_
    refine gf_X0_11 0 C dX0_creep_33 rfl rfl ?_
    refine z_bipush (v := 77) C dX0_creep_36 kb_77 ?_
    refine z_iload_n 1 C dX0_creep_38 rfl ?_
    refine z_iadd C dX0_creep_39 ?_
    refine z_iconst (v := 0) C dX0_creep_40 kc_0 ?_
    obtain ⟨row5, e6, hf⟩ := nm_g hf
    refine z_iast (ws' := (HW (gk G) h r fl row5 flow)) 1 C dX0_creep_41 h2 rfl e6 rfl ?_
    refine z_aload_n 0 C dX0_creep_42 rfl ?_
    refine gf_X0_11 0 C dX0_creep_43 rfl rfl ?_
    refine z_bipush (v := 67) C dX0_creep_46 kb_67 ?_
    refine z_iload_n 1 C dX0_creep_48 rfl ?_
    refine z_iadd C dX0_creep_49 ?_
    refine z_dup2 C dX0_creep_50 rfl rfl ?_
    obtain ⟨k7, h8, hf⟩ := gd_e hf
    refine z_iald 1 C dX0_creep_51 h8 rfl ?_
    refine z_iconst (v := 1) C dX0_creep_52 kc_1 ?_
    refine z_iadd C dX0_creep_53 ?_
    obtain ⟨row9, e10, hf⟩ := nm_g hf
    refine z_iast (ws' := (HW (gk G) h r fl row9 flow)) 1 C dX0_creep_54 h8 rfl e10 rfl ?_
    cases hf
    exact z_vret C dX0_creep_55 F
  have hf := ifn hc hf
  cases hf
  exact z_vret C dX0_creep_31 F
set_option maxHeartbeats 400000 in
set_option maxRecDepth 100000 in
theorem tb_X0_warm_95 {G : GT} (h : Nat) (r : Nat) (fl : Nat) (flow : zA) {row' : zA} (C : zC G cX0_warm 7 RX0 none 1) (F : zF G none (HW (gk G) h r fl row' flow)) : ∀ (l1 : Int32) (l2 : Int32) (l3 : Int32) (row : zA), B_X0_warm_95 l1 l2 l3 row = some row' → zV G 7 95 [(0, .ref h), (1, .int l1), (2, .int l2), (3, .int l3)] [] (HW (gk G) h r fl row flow) := by
  intro l1 l2 l3 row hf
  unfold B_X0_warm_95 at hf
  refine z_aload_n 0 C dX0_warm_95 rfl ?_
  refine gf_X0_11 0 C dX0_warm_96 rfl rfl ?_
  refine z_bipush (v := 37) C dX0_warm_99 kb_37 ?_
  refine z_iload_n 1 C dX0_warm_101 rfl ?_
  refine z_iadd C dX0_warm_102 ?_
  obtain ⟨k1, h2, hf⟩ := gd_e hf
  refine z_iald 1 C dX0_warm_103 h2 rfl ?_
  refine z_iconst (v := 2) C dX0_warm_104 kc_2 ?_
  refine z_icmp_ne (tgt := 120) C dX0_warm_105 rfl (fun hc => ?_) (fun hc => ?_)
  · have hf := ifn hc hf
    cases hf
    exact z_vret C dX0_warm_120 F
  have hf := ifp hc hf
  refine z_iconst (v := 2) C dX0_warm_108 kc_2 ?_
  refine z_iload_n 2 C dX0_warm_109 rfl ?_
  refine z_imul C dX0_warm_110 ?_
  refine z_iload_n 3 C dX0_warm_111 rfl ?_
  refine z_icmp_le (tgt := 120) C dX0_warm_112 rfl (fun hc => ?_) (fun hc => ?_)
  · have hf := ifp hc hf
    cases hf
    exact z_vret C dX0_warm_120 F
  have hf := ifn hc hf
  refine z_aload_n 0 C dX0_warm_115 rfl ?_
  refine z_iload_n 1 C dX0_warm_116 rfl ?_
  obtain ⟨row3, e4, hf⟩ := b1_e hf
  refine z_callVv (st := []) (ws2 := (HW (gk G) h r fl row3 flow)) [0, 1, 2] C dX0_warm_117 w_X0_103 (c_X0_creep h r fl l1 row flow e4) (by decide) rfl rfl rfl rfl rfl rfl rfl (Nat.le_of_ble_eq_true rfl) rfl ?_
  cases hf
  exact z_vret C dX0_warm_120 F
set_option maxHeartbeats 400000 in
set_option maxRecDepth 100000 in
theorem c_X0_warm {l : Launch} {D : va_G} {cs : ClassId × ClassId × ClassId} (h : Nat) (r : Nat) (fl : Nat) (a1 : Int32) (a2 : Int32) (row : zA) (flow : zA) {row' : zA} (e : f_X0_warm a1 a2 row = some row') : zMv l D cs yX0_warm cX0_warm 7 none 1 [.ref h, .int a1, .int a2] (HW cs h r fl row flow) (HW cs h r fl row' flow) := by
  refine zMv_of (show plainName RX0 = true by decide +kernel) (Nat.le_of_ble_eq_true rfl) ?_
  rintro G rfl rfl rfl C F
  have hf := e
  clear e
  unfold f_X0_warm at hf
  show zV G 7 0 [(0, .ref h), (1, .int a1), (2, .int a2)] [] (HW (gk G) h r fl row flow)
  refine z_aload_n 0 C dX0_warm_0 rfl ?_
  refine gf_X0_11 0 C dX0_warm_1 rfl rfl ?_
  refine z_bipush (v := 27) C dX0_warm_4 kb_27 ?_
  refine z_iload_n 1 C dX0_warm_6 rfl ?_
  refine z_iadd C dX0_warm_7 ?_
  obtain ⟨k1, h2, hf⟩ := gd_e hf
  refine z_iald 1 C dX0_warm_8 h2 rfl ?_
  refine z_istore_n (ls' := [(3, _), (0, _), (1, _), (2, _)]) C dX0_warm_9 (by decide) rfl ?_
  refine z_aload_n 1 C dX0_warm_10 rfl ?_
  refine gf_X0_11 0 C dX0_warm_11 rfl rfl ?_
  refine z_bipush (v := 57) C dX0_warm_14 kb_57 ?_
  refine z_iload_n 2 C dX0_warm_16 rfl ?_
  refine z_iadd C dX0_warm_17 ?_
  obtain ⟨k3, h4, hf⟩ := gd_e hf
  refine z_iald 1 C dX0_warm_18 h4 rfl ?_
  refine z_istore (ls' := [(4, _), (3, _), (0, _), (1, _), (2, _)]) C dX0_warm_19 (by decide) rfl ?_
  refine z_iload_n 4 C dX0_warm_21 rfl ?_
  refine z_iload_n 4 C dX0_warm_22 rfl ?_
  refine z_imul C dX0_warm_23 ?_
  refine z_iload_n 1 C dX0_warm_24 rfl ?_
  refine z_iload_n 1 C dX0_warm_25 rfl ?_
  refine z_imul C dX0_warm_26 ?_
  refine z_isub C dX0_warm_27 ?_
  obtain ⟨x5, e6, hf⟩ := nm_g hf
  refine z_top e6 ?_
  refine z_istore (ls' := [(5, _), (4, _), (3, _), (0, _), (1, _), (2, _)]) C dX0_warm_28 (by decide) rfl ?_
  refine z_iload_n 2 C dX0_warm_30 rfl ?_
  refine z_iload_n 2 C dX0_warm_31 rfl ?_
  refine z_imul C dX0_warm_32 ?_
  refine z_iload_n 5 C dX0_warm_33 rfl ?_
  refine z_iload_n 5 C dX0_warm_34 rfl ?_
  refine z_imul C dX0_warm_35 ?_
  refine z_isub C dX0_warm_36 ?_
  obtain ⟨x7, e8, hf⟩ := nm_g hf
  refine z_top e8 ?_
  refine z_istore (ls' := [(6, _), (5, _), (4, _), (3, _), (0, _), (1, _), (2, _)]) C dX0_warm_37 (by decide) rfl ?_
  refine z_iload_n 6 C dX0_warm_39 rfl ?_
  refine z_iload_n 3 C dX0_warm_40 rfl ?_
  refine z_icmp_le (tgt := 66) C dX0_warm_41 rfl (fun hc => ?_) (fun hc => ?_)
  · have hf := ifp hc hf
    refine z_aload_n 4 C dX0_warm_66 rfl ?_
    refine gf_X0_11 0 C dX0_warm_67 rfl rfl ?_
    refine z_bipush (v := 57) C dX0_warm_70 kb_57 ?_
    refine z_iload_n 5 C dX0_warm_72 rfl ?_
    refine z_iadd C dX0_warm_73 ?_
    refine z_iconst (v := 0) C dX0_warm_74 kc_0 ?_
    refine z_iload 2 C dX0_warm_75 rfl ?_
    refine z_iload 0 C dX0_warm_77 rfl ?_
    refine z_iconst (v := 1) C dX0_warm_79 kc_1 ?_
    refine z_aload_n 4 C dX0_warm_80 rfl ?_
    refine gf_X0_11 0 C dX0_warm_81 rfl rfl ?_
    refine z_iconst (v := 1) C dX0_warm_84 kc_1 ?_
    refine z_iald 1 C dX0_warm_85 ix_1_125 rfl ?_
    refine z_mmax C dX0_warm_86 wm_X0_100 (by decide) (Nat.le_of_ble_eq_true rfl) ?_
    obtain ⟨h9, hf⟩ := zdv_e hf
    refine z_idiv C dX0_warm_89 h9 ?_
    refine z_isub C dX0_warm_90 ?_
    refine z_mmax C dX0_warm_91 wm_X0_100 (by decide) (Nat.le_of_ble_eq_true rfl) ?_
    obtain ⟨row10, e11, hf⟩ := nm_g hf
    refine z_iast (ws' := (HW (gk G) h r fl row10 flow)) 1 C dX0_warm_94 h4 rfl e11 rfl ?_
    refine z_sub (ls' := [(0, .ref h), (1, .int a1), (2, .int a2), (3, .int (row k1))]) [4, 5, 6, 3] rfl ?_
    exact tb_X0_warm_95 h r fl flow C F _ _ _ _ hf
  have hf := ifn hc hf
  refine z_aload_n 4 C dX0_warm_44 rfl ?_
  refine gf_X0_11 0 C dX0_warm_45 rfl rfl ?_
  refine z_bipush (v := 57) C dX0_warm_48 kb_57 ?_
  refine z_iload_n 5 C dX0_warm_50 rfl ?_
  refine z_iadd C dX0_warm_51 ?_
  refine z_ldc C dX0_warm_52 tw_133 ?_
  refine z_iload 2 C dX0_warm_54 rfl ?_
  refine z_iload 1 C dX0_warm_56 rfl ?_
  refine z_iadd C dX0_warm_58 ?_
  refine z_mmin C dX0_warm_59 wm_X0_94 (by decide) (Nat.le_of_ble_eq_true rfl) ?_
  obtain ⟨row12, e13, hf⟩ := nm_g hf
  refine z_iast (ws' := (HW (gk G) h r fl row12 flow)) 1 C dX0_warm_62 h4 rfl e13 rfl ?_
  refine z_goto (tgt := 95) C dX0_warm_63 rfl ?_
  refine z_sub (ls' := [(0, .ref h), (1, .int a1), (2, .int a2), (3, .int (row k1))]) [4, 5, 6, 3] rfl ?_
  exact tb_X0_warm_95 h r fl flow C F _ _ _ _ hf
set_option maxHeartbeats 400000 in
set_option maxRecDepth 100000 in
theorem c_X0_heatFactor {l : Launch} {D : va_G} {cs : ClassId × ClassId × ClassId}  (a0 : Int32)  {v : Int32}  (e : f_X0_heatFactor a0 = some v) : zM l D cs yX0_heatFactor cX0_heatFactor 1 (some .int) 0 [.int a0] ([] : va_W) v ([] : va_W) := by
  refine zM_of (show plainName RX0 = true by decide +kernel) (Nat.le_of_ble_eq_true rfl) ?_
  rintro G rfl rfl rfl C F
  have hf := e
  clear e
  unfold f_X0_heatFactor at hf
  show zV G 1 0 [(0, .int a0)] [] ([] : va_W)
  refine z_iload_n 0 C dX0_heatFactor_0 rfl ?_
  by_cases hs1 : a0 = 0
  · have hf := ifp hs1 hf
    refine z_look (off := 27) (tgt := 28) C dX0_heatFactor_1 (by decide) (by rw [hs1]; decide) rfl ?_
    refine z_bipush (v := 8) C dX0_heatFactor_28 kb_8 ?_
    cases hf
    exact z_iret C dX0_heatFactor_30 F
  have hf := ifn hs1 hf
  by_cases hs2 : a0 = 1
  · have hf := ifp hs2 hf
    refine z_look (off := 30) (tgt := 31) C dX0_heatFactor_1 (by decide) (by rw [hs2]; decide) rfl ?_
    refine z_bipush (v := 40) C dX0_heatFactor_31 kb_40 ?_
    cases hf
    exact z_iret C dX0_heatFactor_33 F
  have hf := ifn hs2 hf
  refine z_look (off := 33) (tgt := 34) C dX0_heatFactor_1 (by decide) (by have q0 := ti_ne (z := 0) (by decide) hs1; have q1 := ti_ne (z := 1) (by decide) hs2; simp [Op.lookupswitch.offset, zne q0, q0, zne q1, q1]) rfl ?_
  refine z_bipush (v := 20) C dX0_heatFactor_34 kb_20 ?_
  cases hf
  exact z_iret C dX0_heatFactor_36 F
set_option maxHeartbeats 400000 in
set_option maxRecDepth 100000 in
theorem c_X0_meltingHeat {l : Launch} {D : va_G} {cs : ClassId × ClassId × ClassId} (h : Nat) (r : Nat) (fl : Nat) (a1 : Int32) (row : zA) (flow : zA) {v : Int32}  (e : f_X0_meltingHeat a1 row = some v) : zM l D cs yX0_meltingHeat cX0_meltingHeat 4 (some .int) 1 [.ref h, .int a1] (HW cs h r fl row flow) v (HW cs h r fl row flow) := by
  refine zM_of (show plainName RX0 = true by decide +kernel) (Nat.le_of_ble_eq_true rfl) ?_
  rintro G rfl rfl rfl C F
  have hf := e
  clear e
  unfold f_X0_meltingHeat at hf
  show zV G 4 0 [(0, .ref h), (1, .int a1)] [] (HW (gk G) h r fl row flow)
  refine z_aload_n 0 C dX0_meltingHeat_0 rfl ?_
  refine gf_X0_11 0 C dX0_meltingHeat_1 rfl rfl ?_
  refine z_bipush (v := 27) C dX0_meltingHeat_4 kb_27 ?_
  refine z_iload_n 1 C dX0_meltingHeat_6 rfl ?_
  refine z_iadd C dX0_meltingHeat_7 ?_
  obtain ⟨k1, h2, hf⟩ := gd_e hf
  refine z_iald 1 C dX0_meltingHeat_8 h2 rfl ?_
  refine z_istore_n (ls' := [(2, _), (0, _), (1, _)]) C dX0_meltingHeat_9 (by decide) rfl ?_
  refine z_iload_n 0 C dX0_meltingHeat_10 rfl ?_
  refine z_iload_n 0 C dX0_meltingHeat_11 rfl ?_
  refine z_imul C dX0_meltingHeat_12 ?_
  refine z_aload_n 1 C dX0_meltingHeat_13 rfl ?_
  refine gf_X0_11 0 C dX0_meltingHeat_14 rfl rfl ?_
  refine z_bipush (v := 37) C dX0_meltingHeat_17 kb_37 ?_
  refine z_iload_n 2 C dX0_meltingHeat_19 rfl ?_
  refine z_iadd C dX0_meltingHeat_20 ?_
  obtain ⟨k3, h4, hf⟩ := gd_e hf
  refine z_iald 1 C dX0_meltingHeat_21 h4 rfl ?_
  obtain ⟨v5, e6, hf⟩ := b1_e hf
  refine z_callS (st := [.int ((row k1) * (row k1))]) (ws2 := (HW (gk G) h r fl row flow)) [] C dX0_meltingHeat_22 w_X0_127 (c_X0_heatFactor (row k3) e6) (by decide) rfl rfl rfl  rfl rfl (Nat.le_of_ble_eq_true rfl) rfl ?_
  refine z_imul C dX0_meltingHeat_25 ?_
  obtain ⟨x7, e8, hf⟩ := nm_g hf
  refine z_top e8 ?_
  refine z_istore_n (ls' := [(3, _), (2, _), (0, _), (1, _)]) C dX0_meltingHeat_26 (by decide) rfl ?_
  refine z_iconst (v := 1) C dX0_meltingHeat_27 kc_1 ?_
  refine z_iload_n 0 C dX0_meltingHeat_28 rfl ?_
  refine z_bipush (v := 20) C dX0_meltingHeat_29 kb_20 ?_
  refine z_iload_n 1 C dX0_meltingHeat_31 rfl ?_
  refine z_imul C dX0_meltingHeat_32 ?_
  refine z_aload_n 2 C dX0_meltingHeat_33 rfl ?_
  refine gf_X0_11 0 C dX0_meltingHeat_34 rfl rfl ?_
  refine z_bipush (v := 67) C dX0_meltingHeat_37 kb_67 ?_
  refine z_iload_n 3 C dX0_meltingHeat_39 rfl ?_
  refine z_iadd C dX0_meltingHeat_40 ?_
  obtain ⟨k9, h10, hf⟩ := gd_e hf
  refine z_iald 1 C dX0_meltingHeat_41 h10 rfl ?_
  refine z_imul C dX0_meltingHeat_42 ?_
  refine z_isub C dX0_meltingHeat_43 ?_
  refine z_mmax C dX0_meltingHeat_44 wm_X0_100 (by decide) (Nat.le_of_ble_eq_true rfl) ?_
  cases hf
  exact z_iret C dX0_meltingHeat_47 F
set_option maxHeartbeats 400000 in
set_option maxRecDepth 100000 in
theorem tb_X0_molten_4 {G : GT} (h : Nat) (r : Nat) (fl : Nat) (row : zA) (flow : zA) {v : Int32}  (C : zC G cX0_molten 3 RX0 (some .int) 2) (F : zF G (some (.int v)) (HW (gk G) h r fl row flow)) : ∀ (n : Nat) (l1 : Int32) (l2 : Int32), B_X0_molten_4 n l1 l2 row = some v → zV G 3 4 [(0, .ref h), (1, .int l1), (2, .int l2)] [] (HW (gk G) h r fl row flow) := by
  intro n
  induction n with
  | zero => intro _ _ hf; rw [B_X0_molten_4] at hf; cases hf
  | succ n ih =>
    intro l1 l2 hf
    rw [B_X0_molten_4] at hf
    refine z_iload_n 2 C dX0_molten_4 rfl ?_
    refine z_aload_n 0 C dX0_molten_5 rfl ?_
    refine gf_X0_11 0 C dX0_molten_6 rfl rfl ?_
    refine z_iconst (v := 4) C dX0_molten_9 kc_4 ?_
    refine z_iald 1 C dX0_molten_10 ix_4_125 rfl ?_
    refine z_icmp_ge (tgt := 51) C dX0_molten_11 rfl (fun hc => ?_) (fun hc => ?_)
    · have hf := ifp hc hf
      refine z_iload_n 1 C dX0_molten_51 rfl ?_
      cases hf
      exact z_iret C dX0_molten_52 F
    have hf := ifn hc hf
    refine z_aload_n 0 C dX0_molten_14 rfl ?_
    refine z_iload_n 2 C dX0_molten_15 rfl ?_
    obtain ⟨v1, e2, hf⟩ := b1_e hf
    refine z_callV (st := []) (ws2 := (HW (gk G) h r fl row flow)) [0, 1, 2] C dX0_molten_16 w_X0_67 (c_X0_state h r fl l2 row flow e2) (by decide) rfl rfl rfl rfl rfl rfl rfl (Nat.le_of_ble_eq_true rfl) rfl ?_
    refine z_if_ne (tgt := 45) C dX0_molten_19 rfl (fun hc => ?_) (fun hc => ?_)
    · have hf := ifn hc hf
      obtain ⟨x3, e4, hf⟩ := nm_g hf
      refine z_iinc (ls' := [(2, _), (0, _), (1, _)]) 2 C dX0_molten_45 rfl kc_1 e4 (by decide) rfl ?_
      refine z_goto (tgt := 4) C dX0_molten_48 rfl ?_
      refine z_sub (ls' := [(0, .ref h), (1, .int l1), (2, .int x3)]) [1, 2, 0] rfl ?_
      exact ih _ _ hf
    have hf := ifp hc hf
    refine z_aload_n 0 C dX0_molten_22 rfl ?_
    refine gf_X0_11 0 C dX0_molten_23 rfl rfl ?_
    refine z_bipush (v := 57) C dX0_molten_26 kb_57 ?_
    refine z_iload_n 2 C dX0_molten_28 rfl ?_
    refine z_iadd C dX0_molten_29 ?_
    obtain ⟨k5, h6, hf⟩ := gd_e hf
    refine z_iald 1 C dX0_molten_30 h6 rfl ?_
    refine z_aload_n 0 C dX0_molten_31 rfl ?_
    refine z_iload_n 2 C dX0_molten_32 rfl ?_
    obtain ⟨v7, e8, hf⟩ := b1_e hf
    refine z_callV (st := [.int (row k5)]) (ws2 := (HW (gk G) h r fl row flow)) [0, 1, 2] C dX0_molten_33 w_X0_106 (c_X0_meltingHeat h r fl l2 row flow e8) (by decide) rfl rfl rfl rfl rfl rfl rfl (Nat.le_of_ble_eq_true rfl) rfl ?_
    refine z_icmp_lt (tgt := 45) C dX0_molten_36 rfl (fun hc => ?_) (fun hc => ?_)
    · have hf := ifp hc hf
      obtain ⟨x9, e10, hf⟩ := nm_g hf
      refine z_iinc (ls' := [(2, _), (0, _), (1, _)]) 2 C dX0_molten_45 rfl kc_1 e10 (by decide) rfl ?_
      refine z_goto (tgt := 4) C dX0_molten_48 rfl ?_
      refine z_sub (ls' := [(0, .ref h), (1, .int l1), (2, .int x9)]) [1, 2, 0] rfl ?_
      exact ih _ _ hf
    have hf := ifn hc hf
    refine z_iload_n 1 C dX0_molten_39 rfl ?_
    refine z_iconst (v := 1) C dX0_molten_40 kc_1 ?_
    refine z_iload_n 2 C dX0_molten_41 rfl ?_
    refine z_ishl C dX0_molten_42 ?_
    refine z_ior C dX0_molten_43 ?_
    obtain ⟨x11, e12, hf⟩ := nm_g hf
    refine z_top e12 ?_
    refine z_istore_n (ls' := [(1, _), (0, _), (2, _)]) C dX0_molten_44 (by decide) rfl ?_
    obtain ⟨x13, e14, hf⟩ := nm_g hf
    refine z_iinc (ls' := [(2, _), (1, _), (0, _)]) 2 C dX0_molten_45 rfl kc_1 e14 (by decide) rfl ?_
    refine z_goto (tgt := 4) C dX0_molten_48 rfl ?_
    refine z_sub (ls' := [(0, .ref h), (1, .int x11), (2, .int x13)]) [2, 1, 0] rfl ?_
    exact ih _ _ hf
set_option maxHeartbeats 400000 in
set_option maxRecDepth 100000 in
theorem c_X0_molten {l : Launch} {D : va_G} {cs : ClassId × ClassId × ClassId} (h : Nat) (r : Nat) (fl : Nat)  (row : zA) (flow : zA) {v : Int32}  (e : f_X0_molten row = some v) : zM l D cs yX0_molten cX0_molten 3 (some .int) 2 [.ref h] (HW cs h r fl row flow) v (HW cs h r fl row flow) := by
  refine zM_of (show plainName RX0 = true by decide +kernel) (Nat.le_of_ble_eq_true rfl) ?_
  rintro G rfl rfl rfl C F
  have hf := e
  clear e
  unfold f_X0_molten at hf
  show zV G 3 0 [(0, .ref h)] [] (HW (gk G) h r fl row flow)
  refine z_iconst (v := 0) C dX0_molten_0 kc_0 ?_
  refine z_istore_n (ls' := [(1, _), (0, _)]) C dX0_molten_1 (by decide) rfl ?_
  refine z_iconst (v := 0) C dX0_molten_2 kc_0 ?_
  refine z_istore_n (ls' := [(2, _), (1, _), (0, _)]) C dX0_molten_3 (by decide) rfl ?_
  refine z_sub (ls' := [(0, .ref h), (1, .int 0), (2, .int 0)]) [2, 1, 0] rfl ?_
  exact tb_X0_molten_4 h r fl row flow C F _ _ _ hf
set_option maxHeartbeats 400000 in
set_option maxRecDepth 100000 in
theorem tb_X0_fedThrough_18 {G : GT} (h : Nat) (r : Nat) (fl : Nat) (row : zA) (flow : zA) {v : Int32}  (C : zC G cX0_fedThrough 4 RX0 (some .int) 1) (F : zF G (some (.int v)) (HW (gk G) h r fl row flow)) : ∀ (n : Nat) (l2 : Int32) (l3 : Int32), B_X0_fedThrough_18 n l2 l3 row = some v → zV G 4 18 [(0, .ref h), (2, .int l2), (3, .int l3)] [] (HW (gk G) h r fl row flow) := by
  intro n
  induction n with
  | zero => intro _ _ hf; rw [B_X0_fedThrough_18] at hf; cases hf
  | succ n ih =>
    intro l2 l3 hf
    rw [B_X0_fedThrough_18] at hf
    refine z_iload_n 2 C dX0_fedThrough_18 rfl ?_
    refine z_aload_n 0 C dX0_fedThrough_19 rfl ?_
    refine gf_X0_11 0 C dX0_fedThrough_20 rfl rfl ?_
    refine z_iconst (v := 4) C dX0_fedThrough_23 kc_4 ?_
    refine z_iald 1 C dX0_fedThrough_24 ix_4_125 rfl ?_
    refine z_icmp_ge (tgt := 56) C dX0_fedThrough_25 rfl (fun hc => ?_) (fun hc => ?_)
    · have hf := ifp hc hf
      refine z_iload_n 1 C dX0_fedThrough_56 rfl ?_
      cases hf
      exact z_iret C dX0_fedThrough_57 F
    have hf := ifn hc hf
    refine z_iload_n 1 C dX0_fedThrough_28 rfl ?_
    refine z_aload_n 0 C dX0_fedThrough_29 rfl ?_
    refine gf_X0_11 0 C dX0_fedThrough_30 rfl rfl ?_
    refine z_bipush (v := 17) C dX0_fedThrough_33 kb_17 ?_
    refine z_iload_n 2 C dX0_fedThrough_35 rfl ?_
    refine z_iadd C dX0_fedThrough_36 ?_
    obtain ⟨k1, h2, hf⟩ := gd_e hf
    refine z_iald 1 C dX0_fedThrough_37 h2 rfl ?_
    refine z_ishr C dX0_fedThrough_38 ?_
    refine z_iconst (v := 1) C dX0_fedThrough_39 kc_1 ?_
    refine z_iand C dX0_fedThrough_40 ?_
    refine z_if_eq (tgt := 50) C dX0_fedThrough_41 rfl (fun hc => ?_) (fun hc => ?_)
    · have hf := ifp hc hf
      obtain ⟨x3, e4, hf⟩ := nm_g hf
      refine z_iinc (ls' := [(3, _), (0, _), (2, _)]) 2 C dX0_fedThrough_50 rfl kc_1 e4 (by decide) rfl ?_
      refine z_goto (tgt := 18) C dX0_fedThrough_53 rfl ?_
      refine z_sub (ls' := [(0, .ref h), (2, .int l2), (3, .int x3)]) [1, 2, 0] rfl ?_
      exact ih _ _ hf
    have hf := ifn hc hf
    refine z_iload_n 1 C dX0_fedThrough_44 rfl ?_
    refine z_iconst (v := 1) C dX0_fedThrough_45 kc_1 ?_
    refine z_iload_n 2 C dX0_fedThrough_46 rfl ?_
    refine z_ishl C dX0_fedThrough_47 ?_
    refine z_ior C dX0_fedThrough_48 ?_
    obtain ⟨x5, e6, hf⟩ := nm_g hf
    refine z_top e6 ?_
    refine z_istore_n (ls' := [(2, _), (0, _), (3, _)]) C dX0_fedThrough_49 (by decide) rfl ?_
    obtain ⟨x7, e8, hf⟩ := nm_g hf
    refine z_iinc (ls' := [(3, _), (2, _), (0, _)]) 2 C dX0_fedThrough_50 rfl kc_1 e8 (by decide) rfl ?_
    refine z_goto (tgt := 18) C dX0_fedThrough_53 rfl ?_
    refine z_sub (ls' := [(0, .ref h), (2, .int x5), (3, .int x7)]) [2, 1, 0] rfl ?_
    exact ih _ _ hf
set_option maxHeartbeats 400000 in
set_option maxRecDepth 100000 in
theorem c_X0_fedThrough {l : Launch} {D : va_G} {cs : ClassId × ClassId × ClassId} (h : Nat) (r : Nat) (fl : Nat) (a1 : Int32) (row : zA) (flow : zA) {v : Int32}  (e : f_X0_fedThrough a1 row = some v) : zM l D cs yX0_fedThrough cX0_fedThrough 4 (some .int) 1 [.ref h, .int a1] (HW cs h r fl row flow) v (HW cs h r fl row flow) := by
  refine zM_of (show plainName RX0 = true by decide +kernel) (Nat.le_of_ble_eq_true rfl) ?_
  rintro G rfl rfl rfl C F
  have hf := e
  clear e
  unfold f_X0_fedThrough at hf
  show zV G 4 0 [(0, .ref h), (1, .int a1)] [] (HW (gk G) h r fl row flow)
  refine z_aload_n 0 C dX0_fedThrough_0 rfl ?_
  refine z_iload_n 1 C dX0_fedThrough_1 rfl ?_
  obtain ⟨v1, e2, hf⟩ := b1_e hf
  refine z_callV (st := []) (ws2 := (HW (gk G) h r fl row flow)) [0, 1, 2] C dX0_fedThrough_2 w_X0_24 (c_X0_isBoard h r fl a1 row flow e2) (by decide) rfl rfl rfl rfl rfl rfl rfl (Nat.le_of_ble_eq_true rfl) rfl ?_
  refine z_if_ne (tgt := 10) C dX0_fedThrough_5 rfl (fun hc => ?_) (fun hc => ?_)
  · have hf := ifn hc hf
    refine z_iconst (v := 1) C dX0_fedThrough_10 kc_1 ?_
    refine z_iload_n 1 C dX0_fedThrough_11 rfl ?_
    refine z_ishl C dX0_fedThrough_12 ?_
    obtain ⟨x3, e4, hf⟩ := nm_g hf
    refine z_top e4 ?_
    refine z_istore_n (ls' := [(2, _), (0, _), (1, _)]) C dX0_fedThrough_13 (by decide) rfl ?_
    refine z_iload_n 2 C dX0_fedThrough_14 rfl ?_
    refine z_iconst (v := 1) C dX0_fedThrough_15 kc_1 ?_
    refine z_iadd C dX0_fedThrough_16 ?_
    obtain ⟨x5, e6, hf⟩ := nm_g hf
    refine z_top e6 ?_
    refine z_istore_n (ls' := [(3, _), (2, _), (0, _), (1, _)]) C dX0_fedThrough_17 (by decide) rfl ?_
    refine z_sub (ls' := [(0, .ref h), (2, .int x3), (3, .int x5)]) [2, 1, 0] rfl ?_
    exact tb_X0_fedThrough_18 h r fl row flow C F _ _ _ hf
  have hf := ifp hc hf
  refine z_iconst (v := 0) C dX0_fedThrough_8 kc_0 ?_
  cases hf
  exact z_iret C dX0_fedThrough_9 F
set_option maxHeartbeats 400000 in
set_option maxRecDepth 100000 in
theorem tb_X0_nearestOf_4 {G : GT} (h : Nat) (r : Nat) (fl : Nat) (row : zA) (flow : zA) {v : Int32}  (C : zC G cX0_nearestOf 4 RX0 (some .int) 2) (F : zF G (some (.int v)) (HW (gk G) h r fl row flow)) : ∀ (n : Nat) (l1 : Int32) (l2 : Int32) (l3 : Int32), B_X0_nearestOf_4 n l1 l2 l3 row = some v → zV G 4 4 [(0, .ref h), (1, .int l1), (2, .int l2), (3, .int l3)] [] (HW (gk G) h r fl row flow) := by
  intro n
  induction n with
  | zero => intro _ _ _ hf; rw [B_X0_nearestOf_4] at hf; cases hf
  | succ n ih =>
    intro l1 l2 l3 hf
    rw [B_X0_nearestOf_4] at hf
    refine z_iload_n 3 C dX0_nearestOf_4 rfl ?_
    refine z_aload_n 0 C dX0_nearestOf_5 rfl ?_
    refine gf_X0_11 0 C dX0_nearestOf_6 rfl rfl ?_
    refine z_iconst (v := 4) C dX0_nearestOf_9 kc_4 ?_
    refine z_iald 1 C dX0_nearestOf_10 ix_4_125 rfl ?_
    refine z_icmp_ge (tgt := 39) C dX0_nearestOf_11 rfl (fun hc => ?_) (fun hc => ?_)
    · have hf := ifp hc hf
      refine z_iload_n 2 C dX0_nearestOf_39 rfl ?_
      cases hf
      exact z_iret C dX0_nearestOf_40 F
    have hf := ifn hc hf
    refine z_aload_n 0 C dX0_nearestOf_14 rfl ?_
    refine z_iload_n 3 C dX0_nearestOf_15 rfl ?_
    obtain ⟨v1, e2, hf⟩ := b1_e hf
    refine z_callV (st := []) (ws2 := (HW (gk G) h r fl row flow)) [0, 1, 2] C dX0_nearestOf_16 w_X0_109 (c_X0_fedThrough h r fl l3 row flow e2) (by decide) rfl rfl rfl rfl rfl rfl rfl (Nat.le_of_ble_eq_true rfl) rfl ?_
    refine z_iload_n 1 C dX0_nearestOf_19 rfl ?_
    refine z_iand C dX0_nearestOf_20 ?_
    refine z_iconst (v := 1) C dX0_nearestOf_21 kc_1 ?_
    refine z_iload_n 3 C dX0_nearestOf_22 rfl ?_
    refine z_ishl C dX0_nearestOf_23 ?_
    refine z_icmp_ne (tgt := 33) C dX0_nearestOf_24 rfl (fun hc => ?_) (fun hc => ?_)
    · have hf := ifn hc hf
      obtain ⟨x3, e4, hf⟩ := nm_g hf
      refine z_iinc (ls' := [(3, _), (0, _), (1, _), (2, _)]) 3 C dX0_nearestOf_33 rfl kc_1 e4 (by decide) rfl ?_
      refine z_goto (tgt := 4) C dX0_nearestOf_36 rfl ?_
      refine z_sub (ls' := [(0, .ref h), (1, .int l1), (2, .int l2), (3, .int x3)]) [1, 2, 3, 0] rfl ?_
      exact ih _ _ _ hf
    have hf := ifp hc hf
    refine z_iload_n 2 C dX0_nearestOf_27 rfl ?_
    refine z_iconst (v := 1) C dX0_nearestOf_28 kc_1 ?_
    refine z_iload_n 3 C dX0_nearestOf_29 rfl ?_
    refine z_ishl C dX0_nearestOf_30 ?_
    refine z_ior C dX0_nearestOf_31 ?_
    obtain ⟨x5, e6, hf⟩ := nm_g hf
    refine z_top e6 ?_
    refine z_istore_n (ls' := [(2, _), (0, _), (1, _), (3, _)]) C dX0_nearestOf_32 (by decide) rfl ?_
    obtain ⟨x7, e8, hf⟩ := nm_g hf
    refine z_iinc (ls' := [(3, _), (2, _), (0, _), (1, _)]) 3 C dX0_nearestOf_33 rfl kc_1 e8 (by decide) rfl ?_
    refine z_goto (tgt := 4) C dX0_nearestOf_36 rfl ?_
    refine z_sub (ls' := [(0, .ref h), (1, .int l1), (2, .int x5), (3, .int x7)]) [2, 3, 1, 0] rfl ?_
    exact ih _ _ _ hf
set_option maxHeartbeats 400000 in
set_option maxRecDepth 100000 in
theorem c_X0_nearestOf {l : Launch} {D : va_G} {cs : ClassId × ClassId × ClassId} (h : Nat) (r : Nat) (fl : Nat) (a1 : Int32) (row : zA) (flow : zA) {v : Int32}  (e : f_X0_nearestOf a1 row = some v) : zM l D cs yX0_nearestOf cX0_nearestOf 4 (some .int) 2 [.ref h, .int a1] (HW cs h r fl row flow) v (HW cs h r fl row flow) := by
  refine zM_of (show plainName RX0 = true by decide +kernel) (Nat.le_of_ble_eq_true rfl) ?_
  rintro G rfl rfl rfl C F
  have hf := e
  clear e
  unfold f_X0_nearestOf at hf
  show zV G 4 0 [(0, .ref h), (1, .int a1)] [] (HW (gk G) h r fl row flow)
  refine z_iconst (v := 0) C dX0_nearestOf_0 kc_0 ?_
  refine z_istore_n (ls' := [(2, _), (0, _), (1, _)]) C dX0_nearestOf_1 (by decide) rfl ?_
  refine z_iconst (v := 0) C dX0_nearestOf_2 kc_0 ?_
  refine z_istore_n (ls' := [(3, _), (2, _), (0, _), (1, _)]) C dX0_nearestOf_3 (by decide) rfl ?_
  refine z_sub (ls' := [(0, .ref h), (1, .int a1), (2, .int 0), (3, .int 0)]) [2, 3, 1, 0] rfl ?_
  exact tb_X0_nearestOf_4 h r fl row flow C F _ _ _ _ hf
set_option maxHeartbeats 400000 in
set_option maxRecDepth 100000 in
theorem tb_X0_blow_37 {G : GT} (h : Nat) (r : Nat) (fl : Nat) (flow : zA) {row' : zA} (C : zC G cX0_blow 2 RX0 none 1) (F : zF G none (HW (gk G) h r fl row' flow)) : ∀ (l1 : Int32) (row : zA), B_X0_blow_37 l1 row = some row' → zV G 2 37 [(0, .ref h), (1, .int l1)] [] (HW (gk G) h r fl row flow) := by
  intro l1 row hf
  unfold B_X0_blow_37 at hf
  refine z_aload_n 0 C dX0_blow_37 rfl ?_
  refine gf_X0_11 0 C dX0_blow_38 rfl rfl ?_
  refine z_bipush (v := 8) C dX0_blow_41 kb_8 ?_
  refine z_dup2 C dX0_blow_43 rfl rfl ?_
  refine z_iald 1 C dX0_blow_44 ix_8_125 rfl ?_
  refine z_iconst (v := 1) C dX0_blow_45 kc_1 ?_
  refine z_iadd C dX0_blow_46 ?_
  obtain ⟨row1, e2, hf⟩ := nm_g hf
  refine z_iast (ws' := (HW (gk G) h r fl row1 flow)) 1 C dX0_blow_47 ix_8_125 rfl e2 rfl ?_
  refine z_aload_n 0 C dX0_blow_48 rfl ?_
  refine gf_X0_11 0 C dX0_blow_49 rfl rfl ?_
  refine z_bipush (v := 87) C dX0_blow_52 kb_87 ?_
  refine z_iload_n 1 C dX0_blow_54 rfl ?_
  refine z_iadd C dX0_blow_55 ?_
  refine z_dup2 C dX0_blow_56 rfl rfl ?_
  obtain ⟨k3, h4, hf⟩ := gd_e hf
  refine z_iald 1 C dX0_blow_57 h4 rfl ?_
  refine z_iconst (v := 1) C dX0_blow_58 kc_1 ?_
  refine z_iadd C dX0_blow_59 ?_
  obtain ⟨row5, e6, hf⟩ := nm_g hf
  refine z_iast (ws' := (HW (gk G) h r fl row5 flow)) 1 C dX0_blow_60 h4 rfl e6 rfl ?_
  refine z_aload_n 0 C dX0_blow_61 rfl ?_
  refine gf_X0_11 0 C dX0_blow_62 rfl rfl ?_
  refine z_bipush (v := 9) C dX0_blow_65 kb_9 ?_
  refine z_aload_n 0 C dX0_blow_67 rfl ?_
  refine gf_X0_11 0 C dX0_blow_68 rfl rfl ?_
  refine z_bipush (v := 10) C dX0_blow_71 kb_10 ?_
  refine z_bipush (v := 7) C dX0_blow_73 kb_7 ?_
  obtain ⟨row7, e8, hf⟩ := nm_g hf
  refine z_copy (ws2 := (HW (gk G) h r fl row7 flow)) 1 1 C dX0_blow_75 wc_X0_18 (by decide) (Nat.le_of_ble_eq_true rfl) rfl rfl cp_9 cp_10 cp_7 (by decide) (by decide) e8 rfl ?_
  refine z_aload_n 0 C dX0_blow_78 rfl ?_
  refine gf_X0_11 0 C dX0_blow_79 rfl rfl ?_
  refine z_bipush (v := 9) C dX0_blow_82 kb_9 ?_
  refine z_iload_n 1 C dX0_blow_84 rfl ?_
  obtain ⟨row9, e10, hf⟩ := nm_g hf
  refine z_iast (ws' := (HW (gk G) h r fl row9 flow)) 1 C dX0_blow_85 ix_9_125 rfl e10 rfl ?_
  cases hf
  exact z_vret C dX0_blow_86 F
set_option maxHeartbeats 400000 in
set_option maxRecDepth 100000 in
theorem c_X0_blow {l : Launch} {D : va_G} {cs : ClassId × ClassId × ClassId} (h : Nat) (r : Nat) (fl : Nat) (a1 : Int32) (row : zA) (flow : zA) {row' : zA} (e : f_X0_blow a1 row = some row') : zMv l D cs yX0_blow cX0_blow 2 none 1 [.ref h, .int a1] (HW cs h r fl row flow) (HW cs h r fl row' flow) := by
  refine zMv_of (show plainName RX0 = true by decide +kernel) (Nat.le_of_ble_eq_true rfl) ?_
  rintro G rfl rfl rfl C F
  have hf := e
  clear e
  unfold f_X0_blow at hf
  show zV G 2 0 [(0, .ref h), (1, .int a1)] [] (HW (gk G) h r fl row flow)
  refine z_aload_n 0 C dX0_blow_0 rfl ?_
  refine gf_X0_11 0 C dX0_blow_1 rfl rfl ?_
  refine z_bipush (v := 47) C dX0_blow_4 kb_47 ?_
  refine z_iload_n 1 C dX0_blow_6 rfl ?_
  refine z_iadd C dX0_blow_7 ?_
  refine z_aload_n 0 C dX0_blow_8 rfl ?_
  refine gf_X0_11 0 C dX0_blow_9 rfl rfl ?_
  refine z_iconst (v := 0) C dX0_blow_12 kc_0 ?_
  refine z_iald 1 C dX0_blow_13 ix_0_125 rfl ?_
  obtain ⟨k1, h2, hf⟩ := gd_e hf
  obtain ⟨row3, e4, hf⟩ := nm_g hf
  refine z_iast (ws' := (HW (gk G) h r fl row3 flow)) 1 C dX0_blow_14 h2 rfl e4 rfl ?_
  refine z_aload_n 0 C dX0_blow_15 rfl ?_
  refine gf_X0_11 0 C dX0_blow_16 rfl rfl ?_
  refine z_iconst (v := 0) C dX0_blow_19 kc_0 ?_
  refine z_iald 1 C dX0_blow_20 ix_0_125 rfl ?_
  refine z_if_ne (tgt := 37) C dX0_blow_21 rfl (fun hc => ?_) (fun hc => ?_)
  · have hf := ifn hc hf
    exact tb_X0_blow_37 h r fl flow C F _ _ hf
  have hf := ifp hc hf
  refine z_aload_n 0 C dX0_blow_24 rfl ?_
  refine gf_X0_11 0 C dX0_blow_25 rfl rfl ?_
  refine z_bipush (v := 7) C dX0_blow_28 kb_7 ?_
  refine z_dup2 C dX0_blow_30 rfl rfl ?_
  refine z_iald 1 C dX0_blow_31 ix_7_125 rfl ?_
  refine z_iconst (v := 1) C dX0_blow_32 kc_1 ?_
  refine z_iload_n 1 C dX0_blow_33 rfl ?_
  refine z_ishl C dX0_blow_34 ?_
  refine z_ior C dX0_blow_35 ?_
  obtain ⟨row5, e6, hf⟩ := nm_g hf
  refine z_iast (ws' := (HW (gk G) h r fl row5 flow)) 1 C dX0_blow_36 ix_7_125 rfl e6 rfl ?_
  exact tb_X0_blow_37 h r fl flow C F _ _ hf
set_option maxHeartbeats 400000 in
set_option maxRecDepth 100000 in
theorem tb_X0_tick_56 {G : GT} (h : Nat) (r : Nat) (fl : Nat)  {v : Int32} {row' : zA} {flow' : zA} (C : zC G cX0_tick 3 RX0 (some .int) 3) (F : zF G (some (.int v)) (HW (gk G) h r fl row' flow')) : ∀ (n : Nat) (l1 : Int32) (l2 : Int32) (row : zA) (flow : zA), B_X0_tick_56 n l1 l2 row flow = some (v, row', flow') → zV G 3 56 [(0, .ref h), (1, .int l1), (2, .int l2)] [] (HW (gk G) h r fl row flow) := by
  intro n
  induction n with
  | zero => intro _ _ _ _ hf; rw [B_X0_tick_56] at hf; cases hf
  | succ n ih =>
    intro l1 l2 row flow hf
    rw [B_X0_tick_56] at hf
    refine z_iload_n 2 C dX0_tick_56 rfl ?_
    refine z_aload_n 0 C dX0_tick_57 rfl ?_
    refine gf_X0_11 0 C dX0_tick_58 rfl rfl ?_
    refine z_iconst (v := 4) C dX0_tick_61 kc_4 ?_
    refine z_iald 1 C dX0_tick_62 ix_4_125 rfl ?_
    refine z_icmp_ge (tgt := 85) C dX0_tick_63 rfl (fun hc => ?_) (fun hc => ?_)
    · have hf := ifp hc hf
      refine z_aload_n 0 C dX0_tick_85 rfl ?_
      refine gf_X0_11 0 C dX0_tick_86 rfl rfl ?_
      refine z_iconst (v := 3) C dX0_tick_89 kc_3 ?_
      refine z_dup2 C dX0_tick_90 rfl rfl ?_
      refine z_iald 1 C dX0_tick_91 ix_3_125 rfl ?_
      refine z_iconst (v := 1) C dX0_tick_92 kc_1 ?_
      refine z_iadd C dX0_tick_93 ?_
      obtain ⟨row1, e2, hf⟩ := nm_g hf
      refine z_iast (ws' := (HW (gk G) h r fl row1 flow)) 1 C dX0_tick_94 ix_3_125 rfl e2 rfl ?_
      refine z_iload_n 1 C dX0_tick_95 rfl ?_
      cases hf
      exact z_iret C dX0_tick_96 F
    have hf := ifn hc hf
    refine z_iload_n 1 C dX0_tick_66 rfl ?_
    refine z_iload_n 2 C dX0_tick_67 rfl ?_
    refine z_ishr C dX0_tick_68 ?_
    refine z_iconst (v := 1) C dX0_tick_69 kc_1 ?_
    refine z_iand C dX0_tick_70 ?_
    refine z_if_eq (tgt := 79) C dX0_tick_71 rfl (fun hc => ?_) (fun hc => ?_)
    · have hf := ifp hc hf
      obtain ⟨x3, e4, hf⟩ := nm_g hf
      refine z_iinc (ls' := [(2, _), (0, _), (1, _)]) 2 C dX0_tick_79 rfl kc_1 e4 (by decide) rfl ?_
      refine z_goto (tgt := 56) C dX0_tick_82 rfl ?_
      refine z_sub (ls' := [(0, .ref h), (1, .int l1), (2, .int x3)]) [1, 2, 0] rfl ?_
      exact ih _ _ _ _ hf
    have hf := ifn hc hf
    refine z_aload_n 0 C dX0_tick_74 rfl ?_
    refine z_iload_n 2 C dX0_tick_75 rfl ?_
    obtain ⟨row5, e6, hf⟩ := b1_e hf
    refine z_callVv (st := []) (ws2 := (HW (gk G) h r fl row5 flow)) [0, 1, 2] C dX0_tick_76 w_X0_80 (c_X0_blow h r fl l2 row flow e6) (by decide) rfl rfl rfl rfl rfl rfl rfl (Nat.le_of_ble_eq_true rfl) rfl ?_
    obtain ⟨x7, e8, hf⟩ := nm_g hf
    refine z_iinc (ls' := [(2, _), (0, _), (1, _)]) 2 C dX0_tick_79 rfl kc_1 e8 (by decide) rfl ?_
    refine z_goto (tgt := 56) C dX0_tick_82 rfl ?_
    refine z_sub (ls' := [(0, .ref h), (1, .int l1), (2, .int x7)]) [1, 2, 0] rfl ?_
    exact ih _ _ _ _ hf
set_option maxHeartbeats 400000 in
set_option maxRecDepth 100000 in
theorem tb_X0_tick_10 {G : GT} (h : Nat) (r : Nat) (fl : Nat)  {v : Int32} {row' : zA} {flow' : zA} (C : zC G cX0_tick 3 RX0 (some .int) 3) (F : zF G (some (.int v)) (HW (gk G) h r fl row' flow')) : ∀ (n : Nat) (l1 : Int32) (row : zA) (flow : zA), B_X0_tick_10 n l1 row flow = some (v, row', flow') → zV G 3 10 [(0, .ref h), (1, .int l1)] [] (HW (gk G) h r fl row flow) := by
  intro n
  induction n with
  | zero => intro _ _ _ hf; rw [B_X0_tick_10] at hf; cases hf
  | succ n ih =>
    intro l1 row flow hf
    rw [B_X0_tick_10] at hf
    refine z_iload_n 1 C dX0_tick_10 rfl ?_
    refine z_aload_n 0 C dX0_tick_11 rfl ?_
    refine gf_X0_11 0 C dX0_tick_12 rfl rfl ?_
    refine z_iconst (v := 4) C dX0_tick_15 kc_4 ?_
    refine z_iald 1 C dX0_tick_16 ix_4_125 rfl ?_
    refine z_icmp_ge (tgt := 45) C dX0_tick_17 rfl (fun hc => ?_) (fun hc => ?_)
    · have hf := ifp hc hf
      refine z_aload_n 0 C dX0_tick_45 rfl ?_
      refine z_aload_n 0 C dX0_tick_46 rfl ?_
      obtain ⟨v1, e2, hf⟩ := b1_e hf
      refine z_callV (st := [.ref h]) (ws2 := (HW (gk G) h r fl row flow)) [0, 1, 2] C dX0_tick_47 w_X0_74 (c_X0_molten h r fl row flow e2) (by decide) rfl rfl rfl rfl rfl rfl rfl (Nat.le_of_ble_eq_true rfl) rfl ?_
      obtain ⟨v3, e4, hf⟩ := b1_e hf
      refine z_callV (st := []) (ws2 := (HW (gk G) h r fl row flow)) [0, 1, 2] C dX0_tick_50 w_X0_77 (c_X0_nearestOf h r fl v1 row flow e4) (by decide) rfl rfl rfl rfl rfl rfl rfl (Nat.le_of_ble_eq_true rfl) rfl ?_
      refine z_istore_n (ls' := [(1, _), (0, _)]) C dX0_tick_53 (by decide) rfl ?_
      refine z_iconst (v := 0) C dX0_tick_54 kc_0 ?_
      refine z_istore_n (ls' := [(2, _), (1, _), (0, _)]) C dX0_tick_55 (by decide) rfl ?_
      refine z_sub (ls' := [(0, .ref h), (1, .int v3), (2, .int 0)]) [2, 1, 0] rfl ?_
      exact tb_X0_tick_56 h r fl C F _ _ _ _ _ hf
    have hf := ifn hc hf
    refine z_aload_n 0 C dX0_tick_20 rfl ?_
    refine z_iload_n 1 C dX0_tick_21 rfl ?_
    obtain ⟨v5, e6, hf⟩ := b1_e hf
    refine z_callV (st := []) (ws2 := (HW (gk G) h r fl row flow)) [0, 1, 2] C dX0_tick_22 w_X0_67 (c_X0_state h r fl l1 row flow e6) (by decide) rfl rfl rfl rfl rfl rfl rfl (Nat.le_of_ble_eq_true rfl) rfl ?_
    refine z_if_ne (tgt := 39) C dX0_tick_25 rfl (fun hc => ?_) (fun hc => ?_)
    · have hf := ifn hc hf
      obtain ⟨x7, e8, hf⟩ := nm_g hf
      refine z_iinc (ls' := [(1, _), (0, _)]) 1 C dX0_tick_39 rfl kc_1 e8 (by decide) rfl ?_
      refine z_goto (tgt := 10) C dX0_tick_42 rfl ?_
      refine z_sub (ls' := [(0, .ref h), (1, .int x7)]) [1, 0] rfl ?_
      exact ih _ _ _ hf
    have hf := ifp hc hf
    refine z_aload_n 0 C dX0_tick_28 rfl ?_
    refine z_iload_n 1 C dX0_tick_29 rfl ?_
    refine z_aload_n 0 C dX0_tick_30 rfl ?_
    refine gf_X0_15 0 C dX0_tick_31 rfl rfl ?_
    refine z_iload_n 1 C dX0_tick_34 rfl ?_
    obtain ⟨k9, h10, hf⟩ := gd_e hf
    refine z_iald 2 C dX0_tick_35 h10 rfl ?_
    obtain ⟨row11, e12, hf⟩ := b1_e hf
    refine z_callVv (st := []) (ws2 := (HW (gk G) h r fl row11 flow)) [0, 1, 2] C dX0_tick_36 w_X0_70 (c_X0_warm h r fl l1 (flow k9) row flow e12) (by decide) rfl rfl rfl rfl rfl rfl rfl (Nat.le_of_ble_eq_true rfl) rfl ?_
    obtain ⟨x13, e14, hf⟩ := nm_g hf
    refine z_iinc (ls' := [(1, _), (0, _)]) 1 C dX0_tick_39 rfl kc_1 e14 (by decide) rfl ?_
    refine z_goto (tgt := 10) C dX0_tick_42 rfl ?_
    refine z_sub (ls' := [(0, .ref h), (1, .int x13)]) [1, 0] rfl ?_
    exact ih _ _ _ hf
set_option maxHeartbeats 400000 in
set_option maxRecDepth 100000 in
theorem c_X0_tick {l : Launch} {D : va_G} {cs : ClassId × ClassId × ClassId} (h : Nat) (r : Nat) (fl : Nat)  (row : zA) (flow : zA) {v : Int32} {row' : zA} {flow' : zA} (e : f_X0_tick row flow = some (v, row', flow')) : zM l D cs yX0_tick cX0_tick 3 (some .int) 3 [.ref h] (HW cs h r fl row flow) v (HW cs h r fl row' flow') := by
  refine zM_of (show plainName RX0 = true by decide +kernel) (Nat.le_of_ble_eq_true rfl) ?_
  rintro G rfl rfl rfl C F
  have hf := e
  clear e
  unfold f_X0_tick at hf
  show zV G 3 0 [(0, .ref h)] [] (HW (gk G) h r fl row flow)
  refine z_aload_n 0 C dX0_tick_0 rfl ?_
  obtain ⟨flow1, e2, hf⟩ := b1_e hf
  refine z_callVv (st := []) (ws2 := (HW (gk G) h r fl row flow1)) [0, 1, 2] C dX0_tick_1 w_X0_61 (c_X0_addUpCurrents h r fl row flow e2) (by decide) rfl rfl rfl rfl rfl rfl rfl (Nat.le_of_ble_eq_true rfl) rfl ?_
  refine z_aload_n 0 C dX0_tick_4 rfl ?_
  obtain ⟨row3, e4, hf⟩ := b1_e hf
  refine z_callVv (st := []) (ws2 := (HW (gk G) h r fl row3 flow1)) [0, 1, 2] C dX0_tick_5 w_X0_64 (c_X0_burnArcs h r fl row flow1 e4) (by decide) rfl rfl rfl rfl rfl rfl rfl (Nat.le_of_ble_eq_true rfl) rfl ?_
  refine z_iconst (v := 0) C dX0_tick_8 kc_0 ?_
  refine z_istore_n (ls' := [(1, _), (0, _)]) C dX0_tick_9 (by decide) rfl ?_
  refine z_sub (ls' := [(0, .ref h), (1, .int 0)]) [1, 0] rfl ?_
  exact tb_X0_tick_10 h r fl C F _ _ _ _ hf
set_option maxHeartbeats 400000 in
set_option maxRecDepth 100000 in
theorem c_J6_bitCount_0f7a4 {l : Launch} {D : va_G} {cs : ClassId × ClassId × ClassId}  (a0 : Int32)  {v : Int32}  (e : f_J6_bitCount_0f7a4 a0 = some v) : zM l D cs yJ6_bitCount_0f7a4 cJ6_bitCount_0f7a4 1 (some .int) 0 [.int a0] ([] : va_W) v ([] : va_W) := by
  refine zM_of (show plainName RJ6 = true by decide +kernel) (Nat.le_of_ble_eq_true rfl) ?_
  rintro G rfl rfl rfl C F
  have hf := e
  clear e
  unfold f_J6_bitCount_0f7a4 at hf
  show zV G 1 0 [(0, .int a0)] [] ([] : va_W)
  refine z_iload_n 0 C dJ6_bitCount_0f7a4_0 rfl ?_
  refine z_iload_n 0 C dJ6_bitCount_0f7a4_1 rfl ?_
  refine z_iconst (v := 1) C dJ6_bitCount_0f7a4_2 kc_1 ?_
  refine z_iushr C dJ6_bitCount_0f7a4_3 ?_
  refine z_ldcw C dJ6_bitCount_0f7a4_4 tw_169 ?_
  refine z_iand C dJ6_bitCount_0f7a4_7 ?_
  refine z_isub C dJ6_bitCount_0f7a4_8 ?_
  obtain ⟨x1, e2, hf⟩ := nm_g hf
  refine z_top e2 ?_
  refine z_istore_n (ls' := [(0, _)]) C dJ6_bitCount_0f7a4_9 (by decide) rfl ?_
  refine z_iload_n 0 C dJ6_bitCount_0f7a4_10 rfl ?_
  refine z_ldcw C dJ6_bitCount_0f7a4_11 tw_170 ?_
  refine z_iand C dJ6_bitCount_0f7a4_14 ?_
  refine z_iload_n 0 C dJ6_bitCount_0f7a4_15 rfl ?_
  refine z_iconst (v := 2) C dJ6_bitCount_0f7a4_16 kc_2 ?_
  refine z_iushr C dJ6_bitCount_0f7a4_17 ?_
  refine z_ldcw C dJ6_bitCount_0f7a4_18 tw_170 ?_
  refine z_iand C dJ6_bitCount_0f7a4_21 ?_
  refine z_iadd C dJ6_bitCount_0f7a4_22 ?_
  obtain ⟨x3, e4, hf⟩ := nm_g hf
  refine z_top e4 ?_
  refine z_istore_n (ls' := [(0, _)]) C dJ6_bitCount_0f7a4_23 (by decide) rfl ?_
  refine z_iload_n 0 C dJ6_bitCount_0f7a4_24 rfl ?_
  refine z_iload_n 0 C dJ6_bitCount_0f7a4_25 rfl ?_
  refine z_iconst (v := 4) C dJ6_bitCount_0f7a4_26 kc_4 ?_
  refine z_iushr C dJ6_bitCount_0f7a4_27 ?_
  refine z_iadd C dJ6_bitCount_0f7a4_28 ?_
  refine z_ldcw C dJ6_bitCount_0f7a4_29 tw_171 ?_
  refine z_iand C dJ6_bitCount_0f7a4_32 ?_
  obtain ⟨x5, e6, hf⟩ := nm_g hf
  refine z_top e6 ?_
  refine z_istore_n (ls' := [(0, _)]) C dJ6_bitCount_0f7a4_33 (by decide) rfl ?_
  refine z_iload_n 0 C dJ6_bitCount_0f7a4_34 rfl ?_
  refine z_iload_n 0 C dJ6_bitCount_0f7a4_35 rfl ?_
  refine z_bipush (v := 8) C dJ6_bitCount_0f7a4_36 kb_8 ?_
  refine z_iushr C dJ6_bitCount_0f7a4_38 ?_
  refine z_iadd C dJ6_bitCount_0f7a4_39 ?_
  obtain ⟨x7, e8, hf⟩ := nm_g hf
  refine z_top e8 ?_
  refine z_istore_n (ls' := [(0, _)]) C dJ6_bitCount_0f7a4_40 (by decide) rfl ?_
  refine z_iload_n 0 C dJ6_bitCount_0f7a4_41 rfl ?_
  refine z_iload_n 0 C dJ6_bitCount_0f7a4_42 rfl ?_
  refine z_bipush (v := 16) C dJ6_bitCount_0f7a4_43 kb_16 ?_
  refine z_iushr C dJ6_bitCount_0f7a4_45 ?_
  refine z_iadd C dJ6_bitCount_0f7a4_46 ?_
  obtain ⟨x9, e10, hf⟩ := nm_g hf
  refine z_top e10 ?_
  refine z_istore_n (ls' := [(0, _)]) C dJ6_bitCount_0f7a4_47 (by decide) rfl ?_
  refine z_iload_n 0 C dJ6_bitCount_0f7a4_48 rfl ?_
  refine z_bipush (v := 63) C dJ6_bitCount_0f7a4_49 kb_63 ?_
  refine z_iand C dJ6_bitCount_0f7a4_51 ?_
  cases hf
  exact z_iret C dJ6_bitCount_0f7a4_52 F
set_option maxHeartbeats 400000 in
set_option maxRecDepth 100000 in
theorem tb_X0_letPass_35 {G : GT} (h : Nat) (r : Nat) (fl : Nat)  {v : Int32} {row' : zA} {flow' : zA} (C : zC G cX0_letPass 4 RX0 (some .int) 4) (F : zF G (some (.int v)) (HW (gk G) h r fl row' flow')) : ∀ (n : Nat) (l1 : Int32) (l2 : Int32) (l3 : Int32) (row : zA) (flow : zA), B_X0_letPass_35 n l1 l2 l3 row flow = some (v, row', flow') → zV G 4 35 [(0, .ref h), (1, .int l1), (2, .int l2), (3, .int l3)] [] (HW (gk G) h r fl row flow) := by
  intro n
  induction n with
  | zero => intro _ _ _ _ _ hf; rw [B_X0_letPass_35] at hf; cases hf
  | succ n ih =>
    intro l1 l2 l3 row flow hf
    rw [B_X0_letPass_35] at hf
    refine z_iload_n 3 C dX0_letPass_35 rfl ?_
    refine z_iload_n 1 C dX0_letPass_36 rfl ?_
    refine z_icmp_ge (tgt := 56) C dX0_letPass_37 rfl (fun hc => ?_) (fun hc => ?_)
    · have hf := ifp hc hf
      refine z_iload_n 2 C dX0_letPass_56 rfl ?_
      cases hf
      exact z_iret C dX0_letPass_57 F
    have hf := ifn hc hf
    refine z_iload_n 2 C dX0_letPass_40 rfl ?_
    refine z_aload_n 0 C dX0_letPass_41 rfl ?_
    obtain ⟨v1, row2, flow3, e4, hf⟩ := b3_e hf
    refine z_callV (st := [.int l2]) (ws2 := (HW (gk G) h r fl row2 flow3)) [0, 1, 2] C dX0_letPass_42 w_X0_45 (c_X0_tick h r fl row flow e4) (by decide) rfl rfl rfl rfl rfl rfl rfl (Nat.le_of_ble_eq_true rfl) rfl ?_
    obtain ⟨v5, e6, hf⟩ := b1_e hf
    refine z_callS (st := [.int l2]) (ws2 := (HW (gk G) h r fl row2 flow3)) [] C dX0_letPass_45 w_X0_49 (c_J6_bitCount_0f7a4 v1 e6) (by decide) rfl rfl rfl  rfl rfl (Nat.le_of_ble_eq_true rfl) rfl ?_
    refine z_iadd C dX0_letPass_48 ?_
    obtain ⟨x7, e8, hf⟩ := nm_g hf
    refine z_top e8 ?_
    refine z_istore_n (ls' := [(2, _), (0, _), (1, _), (3, _)]) C dX0_letPass_49 (by decide) rfl ?_
    obtain ⟨x9, e10, hf⟩ := nm_g hf
    refine z_iinc (ls' := [(3, _), (2, _), (0, _), (1, _)]) 3 C dX0_letPass_50 rfl kc_1 e10 (by decide) rfl ?_
    refine z_goto (tgt := 35) C dX0_letPass_53 rfl ?_
    refine z_sub (ls' := [(0, .ref h), (1, .int l1), (2, .int x7), (3, .int x9)]) [2, 3, 1, 0] rfl ?_
    exact ih _ _ _ _ _ hf
set_option maxHeartbeats 400000 in
set_option maxRecDepth 100000 in
theorem c_X0_letPass {l : Launch} {D : va_G} {cs : ClassId × ClassId × ClassId} (h : Nat) (r : Nat) (fl : Nat) (a1 : Int32) (row : zA) (flow : zA) {v : Int32} {row' : zA} {flow' : zA} (e : f_X0_letPass a1 row flow = some (v, row', flow')) : zM l D cs yX0_letPass cX0_letPass 4 (some .int) 4 [.ref h, .int a1] (HW cs h r fl row flow) v (HW cs h r fl row' flow') := by
  refine zM_of (show plainName RX0 = true by decide +kernel) (Nat.le_of_ble_eq_true rfl) ?_
  rintro G rfl rfl rfl C F
  have hf := e
  clear e
  unfold f_X0_letPass at hf
  show zV G 4 0 [(0, .ref h), (1, .int a1)] [] (HW (gk G) h r fl row flow)
  refine z_iload_n 1 C dX0_letPass_0 rfl ?_
  refine z_iconst (v := 1) C dX0_letPass_1 kc_1 ?_
  refine z_icmp_lt (tgt := 11) C dX0_letPass_2 rfl (fun hc => ?_) (fun hc => ?_)
  · have hf := ifp hc hf
    refine z_bipush (v := -2) C dX0_letPass_11 kb_m2 ?_
    cases hf
    exact z_iret C dX0_letPass_13 F
  have hf := ifn hc hf
  refine z_iload_n 1 C dX0_letPass_5 rfl ?_
  refine z_bipush (v := 99) C dX0_letPass_6 kb_99 ?_
  refine z_icmp_le (tgt := 14) C dX0_letPass_8 rfl (fun hc => ?_) (fun hc => ?_)
  · have hf := ifp hc hf
    refine z_aload_n 0 C dX0_letPass_14 rfl ?_
    refine gf_X0_11 0 C dX0_letPass_15 rfl rfl ?_
    refine z_iconst (v := 3) C dX0_letPass_18 kc_3 ?_
    refine z_iald 1 C dX0_letPass_19 ix_3_125 rfl ?_
    refine z_iload_n 1 C dX0_letPass_20 rfl ?_
    refine z_iadd C dX0_letPass_21 ?_
    refine z_sipush (v := 9999) C dX0_letPass_22 ks_9999 ?_
    refine z_icmp_le (tgt := 31) C dX0_letPass_25 rfl (fun hc => ?_) (fun hc => ?_)
    · have hf := ifp hc hf
      refine z_iconst (v := 0) C dX0_letPass_31 kc_0 ?_
      refine z_istore_n (ls' := [(2, _), (0, _), (1, _)]) C dX0_letPass_32 (by decide) rfl ?_
      refine z_iconst (v := 0) C dX0_letPass_33 kc_0 ?_
      refine z_istore_n (ls' := [(3, _), (2, _), (0, _), (1, _)]) C dX0_letPass_34 (by decide) rfl ?_
      refine z_sub (ls' := [(0, .ref h), (1, .int a1), (2, .int 0), (3, .int 0)]) [2, 3, 1, 0] rfl ?_
      exact tb_X0_letPass_35 h r fl C F _ _ _ _ _ _ hf
    have hf := ifn hc hf
    refine z_bipush (v := -5) C dX0_letPass_28 kb_m5 ?_
    cases hf
    exact z_iret C dX0_letPass_30 F
  have hf := ifn hc hf
  refine z_bipush (v := -2) C dX0_letPass_11 kb_m2 ?_
  cases hf
  exact z_iret C dX0_letPass_13 F
set_option maxHeartbeats 400000 in
set_option maxRecDepth 100000 in
theorem c_J7_rangeCheck_23922 {l : Launch} {D : va_G} {cs : ClassId × ClassId × ClassId}  (a0 : Int32) (a1 : Int32) (a2 : Int32)   (e : f_J7_rangeCheck_23922 a0 a1 a2 = some ()) : zMv l D cs yJ7_rangeCheck_23922 cJ7_rangeCheck_23922 3 none 0 [.int a0, .int a1, .int a2] ([] : va_W) ([] : va_W) := by
  refine zMv_of (show plainName RJ7 = true by decide +kernel) (Nat.le_of_ble_eq_true rfl) ?_
  rintro G rfl rfl rfl C F
  have hf := e
  clear e
  unfold f_J7_rangeCheck_23922 at hf
  show zV G 3 0 [(0, .int a0), (1, .int a1), (2, .int a2)] [] ([] : va_W)
  refine z_iload_n 1 C dJ7_rangeCheck_23922_0 rfl ?_
  refine z_iload_n 2 C dJ7_rangeCheck_23922_1 rfl ?_
  refine z_icmp_le (tgt := 46) C dJ7_rangeCheck_23922_2 rfl (fun hc => ?_) (fun hc => ?_)
  · have hf := ifp hc hf
    refine z_iload_n 1 C dJ7_rangeCheck_23922_46 rfl ?_
    refine z_if_ge (tgt := 59) C dJ7_rangeCheck_23922_47 rfl (fun hc => ?_) (fun hc => ?_)
    · have hf := ifp hc hf
      refine z_iload_n 2 C dJ7_rangeCheck_23922_59 rfl ?_
      refine z_iload_n 0 C dJ7_rangeCheck_23922_60 rfl ?_
      refine z_icmp_le (tgt := 73) C dJ7_rangeCheck_23922_61 rfl (fun hc => ?_) (fun hc => ?_)
      · have hf := ifp hc hf
        cases hf
        exact z_vret C dJ7_rangeCheck_23922_73 F
      have hf := ifn hc hf
      cases hf
    have hf := ifn hc hf
    cases hf
  have hf := ifn hc hf
  cases hf
set_option maxHeartbeats 400000 in
set_option maxRecDepth 100000 in
theorem tb_J7_fill_fda19_10 {G : GT} (ap : Nat) (sz : Nat)  {fa' : zA} (C : zC G cJ7_fill_fda19 5 RJ7 none 1) (F : zF G none ([(ap, aI (gk G) sz fa')] : va_W)) : ∀ (n : Nat) (l2 : Int32) (l3 : Int32) (l4 : Int32) (fa : zA), B_J7_fill_fda19_10 sz n l2 l3 l4 fa = some fa' → zV G 5 10 [(0, .ref ap), (2, .int l2), (3, .int l3), (4, .int l4)] [] ([(ap, aI (gk G) sz fa)] : va_W) := by
  intro n
  induction n with
  | zero => intro _ _ _ _ hf; rw [B_J7_fill_fda19_10] at hf; cases hf
  | succ n ih =>
    intro l2 l3 l4 fa hf
    rw [B_J7_fill_fda19_10] at hf
    refine z_iload 3 C dJ7_fill_fda19_10 rfl ?_
    refine z_iload_n 1 C dJ7_fill_fda19_12 rfl ?_
    refine z_icmp_ge (tgt := 27) C dJ7_fill_fda19_13 rfl (fun hc => ?_) (fun hc => ?_)
    · have hf := ifp hc hf
      cases hf
      exact z_vret C dJ7_fill_fda19_27 F
    have hf := ifn hc hf
    refine z_aload_n 0 C dJ7_fill_fda19_16 rfl ?_
    refine z_iload 3 C dJ7_fill_fda19_17 rfl ?_
    refine z_iload_n 2 C dJ7_fill_fda19_19 rfl ?_
    obtain ⟨k1, h2, hf⟩ := gd_e hf
    obtain ⟨fa3, e4, hf⟩ := nm_g hf
    refine z_iast (ws' := ([(ap, aI (gk G) sz fa3)] : va_W)) 0 C dJ7_fill_fda19_20 h2 rfl e4 rfl ?_
    obtain ⟨x5, e6, hf⟩ := nm_g hf
    refine z_iinc (ls' := [(4, _), (0, _), (2, _), (3, _)]) 3 C dJ7_fill_fda19_21 rfl kc_1 e6 (by decide) rfl ?_
    refine z_goto (tgt := 10) C dJ7_fill_fda19_24 rfl ?_
    refine z_sub (ls' := [(0, .ref ap), (2, .int l2), (3, .int l3), (4, .int x5)]) [1, 2, 3, 0] rfl ?_
    exact ih _ _ _ _ hf
set_option maxHeartbeats 400000 in
set_option maxRecDepth 100000 in
theorem c_J7_fill_fda19 {l : Launch} {D : va_G} {cs : ClassId × ClassId × ClassId} (ap : Nat) (sz : Nat) (a1 : Int32) (a2 : Int32) (a3 : Int32) (fa : zA) {fa' : zA} (e : f_J7_fill_fda19 sz a1 a2 a3 fa = some fa') : zMv l D cs yJ7_fill_fda19 cJ7_fill_fda19 5 none 1 [.ref ap, .int a1, .int a2, .int a3] ([(ap, aI cs sz fa)] : va_W) ([(ap, aI cs sz fa')] : va_W) := by
  refine zMv_of (show plainName RJ7 = true by decide +kernel) (Nat.le_of_ble_eq_true rfl) ?_
  rintro G rfl rfl rfl C F
  have hf := e
  clear e
  unfold f_J7_fill_fda19 at hf
  show zV G 5 0 [(0, .ref ap), (1, .int a1), (2, .int a2), (3, .int a3)] [] ([(ap, aI (gk G) sz fa)] : va_W)
  refine z_aload_n 0 C dJ7_fill_fda19_0 rfl ?_
  refine z_alen 0 C dJ7_fill_fda19_1 rfl rfl ?_
  refine z_iload_n 1 C dJ7_fill_fda19_2 rfl ?_
  refine z_iload_n 2 C dJ7_fill_fda19_3 rfl ?_
  obtain ⟨u1, e2, hf⟩ := b1_e hf
  refine z_callSv (st := []) (ws2 := ([(ap, aI (gk G) sz fa)] : va_W)) [] C dJ7_fill_fda19_4 w_J7_13 (c_J7_rangeCheck_23922 (Int32.ofNat sz) a1 a2 e2) (by decide) rfl rfl rfl  rfl rfl (Nat.le_of_ble_eq_true rfl) rfl ?_
  refine z_iload_n 1 C dJ7_fill_fda19_7 rfl ?_
  refine z_istore (ls' := [(4, _), (0, _), (1, _), (2, _), (3, _)]) C dJ7_fill_fda19_8 (by decide) rfl ?_
  refine z_sub (ls' := [(0, .ref ap), (2, .int a2), (3, .int a3), (4, .int a1)]) [1, 3, 4, 0] rfl ?_
  exact tb_J7_fill_fda19_10 ap sz C F _ _ _ _ _ hf
set_option maxHeartbeats 400000 in
set_option maxRecDepth 100000 in
theorem c_X0_leaveOnlyFault {l : Launch} {D : va_G} {cs : ClassId × ClassId × ClassId} (h : Nat) (r : Nat) (fl : Nat) (a1 : Int32) (a2 : Int32) (row : zA) (flow : zA) {row' : zA} (e : f_X0_leaveOnlyFault a1 a2 row = some row') : zMv l D cs yX0_leaveOnlyFault cX0_leaveOnlyFault 3 none 2 [.ref h, .int a1, .int a2] (HW cs h r fl row flow) (HW cs h r fl row' flow) := by
  refine zMv_of (show plainName RX0 = true by decide +kernel) (Nat.le_of_ble_eq_true rfl) ?_
  rintro G rfl rfl rfl C F
  have hf := e
  clear e
  unfold f_X0_leaveOnlyFault at hf
  show zV G 3 0 [(0, .ref h), (1, .int a1), (2, .int a2)] [] (HW (gk G) h r fl row flow)
  refine z_aload_n 0 C dX0_leaveOnlyFault_0 rfl ?_
  refine gf_X0_11 0 C dX0_leaveOnlyFault_1 rfl rfl ?_
  refine z_bipush (v := 57) C dX0_leaveOnlyFault_4 kb_57 ?_
  refine z_bipush (v := 67) C dX0_leaveOnlyFault_6 kb_67 ?_
  refine z_iconst (v := 0) C dX0_leaveOnlyFault_8 kc_0 ?_
  obtain ⟨row1, e2, hf⟩ := b1_e hf
  refine z_callSv (st := []) (ws2 := (HW (gk G) h r fl row1 flow)) [1] C dX0_leaveOnlyFault_9 w_X0_55 (c_J7_fill_fda19 r 125 57 67 0 row e2) (by decide) rfl rfl rfl  rfl rfl (Nat.le_of_ble_eq_true rfl) rfl ?_
  refine z_aload_n 0 C dX0_leaveOnlyFault_12 rfl ?_
  refine gf_X0_11 0 C dX0_leaveOnlyFault_13 rfl rfl ?_
  refine z_bipush (v := 97) C dX0_leaveOnlyFault_16 kb_97 ?_
  refine z_iload_n 1 C dX0_leaveOnlyFault_18 rfl ?_
  obtain ⟨row3, e4, hf⟩ := nm_g hf
  refine z_iast (ws' := (HW (gk G) h r fl row3 flow)) 1 C dX0_leaveOnlyFault_19 ix_97_125 rfl e4 rfl ?_
  refine z_aload_n 0 C dX0_leaveOnlyFault_20 rfl ?_
  refine gf_X0_11 0 C dX0_leaveOnlyFault_21 rfl rfl ?_
  refine z_bipush (v := 111) C dX0_leaveOnlyFault_24 kb_111 ?_
  refine z_iload_n 2 C dX0_leaveOnlyFault_26 rfl ?_
  obtain ⟨row5, e6, hf⟩ := nm_g hf
  refine z_iast (ws' := (HW (gk G) h r fl row5 flow)) 1 C dX0_leaveOnlyFault_27 ix_111_125 rfl e6 rfl ?_
  refine z_aload_n 0 C dX0_leaveOnlyFault_28 rfl ?_
  refine gf_X0_11 0 C dX0_leaveOnlyFault_29 rfl rfl ?_
  refine z_iconst (v := 5) C dX0_leaveOnlyFault_32 kc_5 ?_
  refine z_iconst (v := 1) C dX0_leaveOnlyFault_33 kc_1 ?_
  obtain ⟨row7, e8, hf⟩ := nm_g hf
  refine z_iast (ws' := (HW (gk G) h r fl row7 flow)) 1 C dX0_leaveOnlyFault_34 ix_5_125 rfl e8 rfl ?_
  refine z_aload_n 0 C dX0_leaveOnlyFault_35 rfl ?_
  refine gf_X0_11 0 C dX0_leaveOnlyFault_36 rfl rfl ?_
  refine z_bipush (v := 6) C dX0_leaveOnlyFault_39 kb_6 ?_
  refine z_iconst (v := 1) C dX0_leaveOnlyFault_41 kc_1 ?_
  obtain ⟨row9, e10, hf⟩ := nm_g hf
  refine z_iast (ws' := (HW (gk G) h r fl row9 flow)) 1 C dX0_leaveOnlyFault_42 ix_6_125 rfl e10 rfl ?_
  cases hf
  exact z_vret C dX0_leaveOnlyFault_43 F
set_option maxHeartbeats 400000 in
set_option maxRecDepth 100000 in
theorem c_X0_current {l : Launch} {D : va_G} {cs : ClassId × ClassId × ClassId} (h : Nat) (r : Nat) (fl : Nat) (a1 : Int32) (row : zA) (flow : zA) {v : Int32} {flow' : zA} (e : f_X0_current a1 row flow = some (v, flow')) : zM l D cs yX0_current cX0_current 2 (some .int) 2 [.ref h, .int a1] (HW cs h r fl row flow) v (HW cs h r fl row flow') := by
  refine zM_of (show plainName RX0 = true by decide +kernel) (Nat.le_of_ble_eq_true rfl) ?_
  rintro G rfl rfl rfl C F
  have hf := e
  clear e
  unfold f_X0_current at hf
  show zV G 2 0 [(0, .ref h), (1, .int a1)] [] (HW (gk G) h r fl row flow)
  refine z_aload_n 0 C dX0_current_0 rfl ?_
  obtain ⟨flow1, e2, hf⟩ := b1_e hf
  refine z_callVv (st := []) (ws2 := (HW (gk G) h r fl row flow1)) [0, 1, 2] C dX0_current_1 w_X0_61 (c_X0_addUpCurrents h r fl row flow e2) (by decide) rfl rfl rfl rfl rfl rfl rfl (Nat.le_of_ble_eq_true rfl) rfl ?_
  refine z_aload_n 0 C dX0_current_4 rfl ?_
  refine gf_X0_15 0 C dX0_current_5 rfl rfl ?_
  refine z_iload_n 1 C dX0_current_8 rfl ?_
  obtain ⟨k3, h4, hf⟩ := gd_e hf
  refine z_iald 2 C dX0_current_9 h4 rfl ?_
  cases hf
  exact z_iret C dX0_current_10 F
set_option maxHeartbeats 400000 in
set_option maxRecDepth 100000 in
theorem tb_X0_boardsAhead_7 {G : GT} (h : Nat) (r : Nat) (fl : Nat) (row : zA) (flow : zA) {v : Int32}  (C : zC G cX0_boardsAhead 5 RX0 (some .int) 0) (F : zF G (some (.int v)) (HW (gk G) h r fl row flow)) : ∀ (n : Nat) (l2 : Int32) (l3 : Int32) (l4 : Int32), B_X0_boardsAhead_7 n l2 l3 l4 row = some v → zV G 5 7 [(0, .ref h), (2, .int l2), (3, .int l3), (4, .int l4)] [] (HW (gk G) h r fl row flow) := by
  intro n
  induction n with
  | zero => intro _ _ _ hf; rw [B_X0_boardsAhead_7] at hf; cases hf
  | succ n ih =>
    intro l2 l3 l4 hf
    rw [B_X0_boardsAhead_7] at hf
    refine z_iload 3 C dX0_boardsAhead_7 rfl ?_
    refine z_if_le (tgt := 41) C dX0_boardsAhead_9 rfl (fun hc => ?_) (fun hc => ?_)
    · have hf := ifp hc hf
      refine z_iload_n 1 C dX0_boardsAhead_41 rfl ?_
      cases hf
      exact z_iret C dX0_boardsAhead_42 F
    have hf := ifn hc hf
    refine z_iload 3 C dX0_boardsAhead_12 rfl ?_
    refine z_iload_n 2 C dX0_boardsAhead_14 rfl ?_
    refine z_icmp_eq (tgt := 21) C dX0_boardsAhead_15 rfl (fun hc => ?_) (fun hc => ?_)
    · have hf := ifp hc hf
      refine z_aload_n 0 C dX0_boardsAhead_21 rfl ?_
      refine gf_X0_11 0 C dX0_boardsAhead_22 rfl rfl ?_
      refine z_bipush (v := 17) C dX0_boardsAhead_25 kb_17 ?_
      refine z_iload 3 C dX0_boardsAhead_27 rfl ?_
      refine z_iadd C dX0_boardsAhead_29 ?_
      obtain ⟨k1, h2, hf⟩ := gd_e hf
      refine z_iald 1 C dX0_boardsAhead_30 h2 rfl ?_
      refine z_istore_n (ls' := [(3, _), (0, _), (2, _), (4, _)]) C dX0_boardsAhead_31 (by decide) rfl ?_
      obtain ⟨x3, e4, hf⟩ := nm_g hf
      refine z_iinc (ls' := [(2, _), (3, _), (0, _), (4, _)]) 2 C dX0_boardsAhead_32 rfl kc_1 e4 (by decide) rfl ?_
      obtain ⟨x5, e6, hf⟩ := nm_g hf
      refine z_iinc (ls' := [(4, _), (2, _), (3, _), (0, _)]) 3 C dX0_boardsAhead_35 rfl kc_m1 e6 (by decide) rfl ?_
      refine z_goto (tgt := 7) C dX0_boardsAhead_38 rfl ?_
      refine z_sub (ls' := [(0, .ref h), (2, .int x3), (3, .int (row k1)), (4, .int x5)]) [3, 1, 2, 0] rfl ?_
      exact ih _ _ _ hf
    have hf := ifn hc hf
    refine z_goto (tgt := 35) C dX0_boardsAhead_18 rfl ?_
    obtain ⟨x7, e8, hf⟩ := nm_g hf
    refine z_iinc (ls' := [(4, _), (0, _), (2, _), (3, _)]) 3 C dX0_boardsAhead_35 rfl kc_m1 e8 (by decide) rfl ?_
    refine z_goto (tgt := 7) C dX0_boardsAhead_38 rfl ?_
    refine z_sub (ls' := [(0, .ref h), (2, .int l2), (3, .int l3), (4, .int x7)]) [1, 2, 3, 0] rfl ?_
    exact ih _ _ _ hf
set_option maxHeartbeats 400000 in
set_option maxRecDepth 100000 in
theorem c_X0_boardsAhead {l : Launch} {D : va_G} {cs : ClassId × ClassId × ClassId} (h : Nat) (r : Nat) (fl : Nat) (a1 : Int32) (row : zA) (flow : zA) {v : Int32}  (e : f_X0_boardsAhead a1 row = some v) : zM l D cs yX0_boardsAhead cX0_boardsAhead 5 (some .int) 0 [.ref h, .int a1] (HW cs h r fl row flow) v (HW cs h r fl row flow) := by
  refine zM_of (show plainName RX0 = true by decide +kernel) (Nat.le_of_ble_eq_true rfl) ?_
  rintro G rfl rfl rfl C F
  have hf := e
  clear e
  unfold f_X0_boardsAhead at hf
  show zV G 5 0 [(0, .ref h), (1, .int a1)] [] (HW (gk G) h r fl row flow)
  refine z_iconst (v := 0) C dX0_boardsAhead_0 kc_0 ?_
  refine z_istore_n (ls' := [(2, _), (0, _), (1, _)]) C dX0_boardsAhead_1 (by decide) rfl ?_
  refine z_iload_n 2 C dX0_boardsAhead_2 rfl ?_
  refine z_istore_n (ls' := [(3, _), (2, _), (0, _), (1, _)]) C dX0_boardsAhead_3 (by decide) rfl ?_
  refine z_iload_n 3 C dX0_boardsAhead_4 rfl ?_
  refine z_istore (ls' := [(4, _), (3, _), (2, _), (0, _), (1, _)]) C dX0_boardsAhead_5 (by decide) rfl ?_
  refine z_sub (ls' := [(0, .ref h), (2, .int 0), (3, .int a1), (4, .int a1)]) [3, 2, 1, 0] rfl ?_
  exact tb_X0_boardsAhead_7 h r fl row flow C F _ _ _ _ hf
set_option maxHeartbeats 400000 in
set_option maxRecDepth 100000 in
theorem c_X0_aboutBoard {l : Launch} {D : va_G} {cs : ClassId × ClassId × ClassId} (h : Nat) (r : Nat) (fl : Nat) (a1 : Int32) (a2 : Int32) (row : zA) (flow : zA) {v : Int32} {flow' : zA} (e : f_X0_aboutBoard a1 a2 row flow = some (v, flow')) : zM l D cs yX0_aboutBoard cX0_aboutBoard 3 (some .int) 3 [.ref h, .int a1, .int a2] (HW cs h r fl row flow) v (HW cs h r fl row flow') := by
  refine zM_of (show plainName RX0 = true by decide +kernel) (Nat.le_of_ble_eq_true rfl) ?_
  rintro G rfl rfl rfl C F
  have hf := e
  clear e
  unfold f_X0_aboutBoard at hf
  show zV G 3 0 [(0, .ref h), (1, .int a1), (2, .int a2)] [] (HW (gk G) h r fl row flow)
  refine z_aload_n 0 C dX0_aboutBoard_0 rfl ?_
  refine z_iload_n 1 C dX0_aboutBoard_1 rfl ?_
  obtain ⟨v1, e2, hf⟩ := b1_e hf
  refine z_callV (st := []) (ws2 := (HW (gk G) h r fl row flow)) [0, 1, 2] C dX0_aboutBoard_2 w_X0_24 (c_X0_isBoard h r fl a1 row flow e2) (by decide) rfl rfl rfl rfl rfl rfl rfl (Nat.le_of_ble_eq_true rfl) rfl ?_
  refine z_if_ne (tgt := 10) C dX0_aboutBoard_5 rfl (fun hc => ?_) (fun hc => ?_)
  · have hf := ifn hc hf
    refine z_iload_n 2 C dX0_aboutBoard_10 rfl ?_
    by_cases hs3 : a2 = 0
    · have hf := ifp hs3 hf
      refine z_tabIn (tgt := 72) C dX0_aboutBoard_11 hs3 (by decide) (by decide) rfl rfl ?_
      refine z_iload_n 1 C dX0_aboutBoard_72 rfl ?_
      refine z_if_ne (tgt := 81) C dX0_aboutBoard_73 rfl (fun hc => ?_) (fun hc => ?_)
      · have hf := ifn hc hf
        refine z_aload_n 0 C dX0_aboutBoard_81 rfl ?_
        refine gf_X0_11 0 C dX0_aboutBoard_82 rfl rfl ?_
        refine z_bipush (v := 17) C dX0_aboutBoard_85 kb_17 ?_
        refine z_iload_n 1 C dX0_aboutBoard_87 rfl ?_
        refine z_iadd C dX0_aboutBoard_88 ?_
        obtain ⟨k4, h5, hf⟩ := gd_e hf
        refine z_iald 1 C dX0_aboutBoard_89 h5 rfl ?_
        cases hf
        exact z_iret C dX0_aboutBoard_90 F
      have hf := ifp hc hf
      refine z_bipush (v := -6) C dX0_aboutBoard_76 kb_m6 ?_
      refine z_goto (tgt := 90) C dX0_aboutBoard_78 rfl ?_
      cases hf
      exact z_iret C dX0_aboutBoard_90 F
    have hf := ifn hs3 hf
    by_cases hs6 : a2 = 1
    · have hf := ifp hs6 hf
      refine z_tabIn (tgt := 91) C dX0_aboutBoard_11 hs6 (by decide) (by decide) rfl rfl ?_
      refine z_aload_n 0 C dX0_aboutBoard_91 rfl ?_
      refine gf_X0_11 0 C dX0_aboutBoard_92 rfl rfl ?_
      refine z_bipush (v := 27) C dX0_aboutBoard_95 kb_27 ?_
      refine z_iload_n 1 C dX0_aboutBoard_97 rfl ?_
      refine z_iadd C dX0_aboutBoard_98 ?_
      obtain ⟨k7, h8, hf⟩ := gd_e hf
      refine z_iald 1 C dX0_aboutBoard_99 h8 rfl ?_
      cases hf
      exact z_iret C dX0_aboutBoard_100 F
    have hf := ifn hs6 hf
    by_cases hs9 : a2 = 2
    · have hf := ifp hs9 hf
      refine z_tabIn (tgt := 101) C dX0_aboutBoard_11 hs9 (by decide) (by decide) rfl rfl ?_
      refine z_aload_n 0 C dX0_aboutBoard_101 rfl ?_
      refine gf_X0_11 0 C dX0_aboutBoard_102 rfl rfl ?_
      refine z_bipush (v := 37) C dX0_aboutBoard_105 kb_37 ?_
      refine z_iload_n 1 C dX0_aboutBoard_107 rfl ?_
      refine z_iadd C dX0_aboutBoard_108 ?_
      obtain ⟨k10, h11, hf⟩ := gd_e hf
      refine z_iald 1 C dX0_aboutBoard_109 h11 rfl ?_
      cases hf
      exact z_iret C dX0_aboutBoard_110 F
    have hf := ifn hs9 hf
    by_cases hs12 : a2 = 3
    · have hf := ifp hs12 hf
      refine z_tabIn (tgt := 111) C dX0_aboutBoard_11 hs12 (by decide) (by decide) rfl rfl ?_
      refine z_aload_n 0 C dX0_aboutBoard_111 rfl ?_
      refine z_iload_n 1 C dX0_aboutBoard_112 rfl ?_
      obtain ⟨v13, e14, hf⟩ := b1_e hf
      refine z_callV (st := []) (ws2 := (HW (gk G) h r fl row flow)) [0, 1, 2] C dX0_aboutBoard_113 w_X0_67 (c_X0_state h r fl a1 row flow e14) (by decide) rfl rfl rfl rfl rfl rfl rfl (Nat.le_of_ble_eq_true rfl) rfl ?_
      cases hf
      exact z_iret C dX0_aboutBoard_116 F
    have hf := ifn hs12 hf
    by_cases hs15 : a2 = 4
    · have hf := ifp hs15 hf
      refine z_tabIn (tgt := 117) C dX0_aboutBoard_11 hs15 (by decide) (by decide) rfl rfl ?_
      refine z_aload_n 0 C dX0_aboutBoard_117 rfl ?_
      refine z_iload_n 1 C dX0_aboutBoard_118 rfl ?_
      obtain ⟨v16, flow17, e18, hf⟩ := b2_e hf
      refine z_callV (st := []) (ws2 := (HW (gk G) h r fl row flow17)) [0, 1, 2] C dX0_aboutBoard_119 w_X0_112 (c_X0_current h r fl a1 row flow e18) (by decide) rfl rfl rfl rfl rfl rfl rfl (Nat.le_of_ble_eq_true rfl) rfl ?_
      cases hf
      exact z_iret C dX0_aboutBoard_122 F
    have hf := ifn hs15 hf
    by_cases hs19 : a2 = 5
    · have hf := ifp hs19 hf
      refine z_tabIn (tgt := 123) C dX0_aboutBoard_11 hs19 (by decide) (by decide) rfl rfl ?_
      refine z_aload_n 0 C dX0_aboutBoard_123 rfl ?_
      refine gf_X0_11 0 C dX0_aboutBoard_124 rfl rfl ?_
      refine z_bipush (v := 57) C dX0_aboutBoard_127 kb_57 ?_
      refine z_iload_n 1 C dX0_aboutBoard_129 rfl ?_
      refine z_iadd C dX0_aboutBoard_130 ?_
      obtain ⟨k20, h21, hf⟩ := gd_e hf
      refine z_iald 1 C dX0_aboutBoard_131 h21 rfl ?_
      cases hf
      exact z_iret C dX0_aboutBoard_132 F
    have hf := ifn hs19 hf
    by_cases hs22 : a2 = 6
    · have hf := ifp hs22 hf
      refine z_tabIn (tgt := 133) C dX0_aboutBoard_11 hs22 (by decide) (by decide) rfl rfl ?_
      refine z_aload_n 0 C dX0_aboutBoard_133 rfl ?_
      refine z_iload_n 1 C dX0_aboutBoard_134 rfl ?_
      obtain ⟨v23, e24, hf⟩ := b1_e hf
      refine z_callV (st := []) (ws2 := (HW (gk G) h r fl row flow)) [0, 1, 2] C dX0_aboutBoard_135 w_X0_106 (c_X0_meltingHeat h r fl a1 row flow e24) (by decide) rfl rfl rfl rfl rfl rfl rfl (Nat.le_of_ble_eq_true rfl) rfl ?_
      cases hf
      exact z_iret C dX0_aboutBoard_138 F
    have hf := ifn hs22 hf
    by_cases hs25 : a2 = 7
    · have hf := ifp hs25 hf
      refine z_tabIn (tgt := 139) C dX0_aboutBoard_11 hs25 (by decide) (by decide) rfl rfl ?_
      refine z_aload_n 0 C dX0_aboutBoard_139 rfl ?_
      refine gf_X0_11 0 C dX0_aboutBoard_140 rfl rfl ?_
      refine z_bipush (v := 67) C dX0_aboutBoard_143 kb_67 ?_
      refine z_iload_n 1 C dX0_aboutBoard_145 rfl ?_
      refine z_iadd C dX0_aboutBoard_146 ?_
      obtain ⟨k26, h27, hf⟩ := gd_e hf
      refine z_iald 1 C dX0_aboutBoard_147 h27 rfl ?_
      cases hf
      exact z_iret C dX0_aboutBoard_148 F
    have hf := ifn hs25 hf
    by_cases hs28 : a2 = 8
    · have hf := ifp hs28 hf
      refine z_tabIn (tgt := 149) C dX0_aboutBoard_11 hs28 (by decide) (by decide) rfl rfl ?_
      refine z_aload_n 0 C dX0_aboutBoard_149 rfl ?_
      obtain ⟨v29, e30, hf⟩ := b1_e hf
      refine z_callV (st := []) (ws2 := (HW (gk G) h r fl row flow)) [0, 1, 2] C dX0_aboutBoard_150 w_X0_87 (c_X0_deadBoards h r fl row flow e30) (by decide) rfl rfl rfl rfl rfl rfl rfl (Nat.le_of_ble_eq_true rfl) rfl ?_
      refine z_iload_n 1 C dX0_aboutBoard_153 rfl ?_
      refine z_ishr C dX0_aboutBoard_154 ?_
      refine z_iconst (v := 1) C dX0_aboutBoard_155 kc_1 ?_
      refine z_iand C dX0_aboutBoard_156 ?_
      cases hf
      exact z_iret C dX0_aboutBoard_157 F
    have hf := ifn hs28 hf
    by_cases hs31 : a2 = 9
    · have hf := ifp hs31 hf
      refine z_tabIn (tgt := 158) C dX0_aboutBoard_11 hs31 (by decide) (by decide) rfl rfl ?_
      refine z_aload_n 0 C dX0_aboutBoard_158 rfl ?_
      refine z_iload_n 1 C dX0_aboutBoard_159 rfl ?_
      obtain ⟨v32, e33, hf⟩ := b1_e hf
      refine z_callV (st := []) (ws2 := (HW (gk G) h r fl row flow)) [0, 1, 2] C dX0_aboutBoard_160 w_X0_115 (c_X0_boardsAhead h r fl a1 row flow e33) (by decide) rfl rfl rfl rfl rfl rfl rfl (Nat.le_of_ble_eq_true rfl) rfl ?_
      cases hf
      exact z_iret C dX0_aboutBoard_163 F
    have hf := ifn hs31 hf
    by_cases hs34 : a2 = 10
    · have hf := ifp hs34 hf
      refine z_tabIn (tgt := 164) C dX0_aboutBoard_11 hs34 (by decide) (by decide) rfl rfl ?_
      refine z_aload_n 0 C dX0_aboutBoard_164 rfl ?_
      refine gf_X0_11 0 C dX0_aboutBoard_165 rfl rfl ?_
      refine z_bipush (v := 47) C dX0_aboutBoard_168 kb_47 ?_
      refine z_iload_n 1 C dX0_aboutBoard_170 rfl ?_
      refine z_iadd C dX0_aboutBoard_171 ?_
      obtain ⟨k35, h36, hf⟩ := gd_e hf
      refine z_iald 1 C dX0_aboutBoard_172 h36 rfl ?_
      cases hf
      exact z_iret C dX0_aboutBoard_173 F
    have hf := ifn hs34 hf
    by_cases hs37 : a2 = 11
    · have hf := ifp hs37 hf
      refine z_tabIn (tgt := 174) C dX0_aboutBoard_11 hs37 (by decide) (by decide) rfl rfl ?_
      refine z_aload_n 0 C dX0_aboutBoard_174 rfl ?_
      refine gf_X0_11 0 C dX0_aboutBoard_175 rfl rfl ?_
      refine z_bipush (v := 87) C dX0_aboutBoard_178 kb_87 ?_
      refine z_iload_n 1 C dX0_aboutBoard_180 rfl ?_
      refine z_iadd C dX0_aboutBoard_181 ?_
      obtain ⟨k38, h39, hf⟩ := gd_e hf
      refine z_iald 1 C dX0_aboutBoard_182 h39 rfl ?_
      cases hf
      exact z_iret C dX0_aboutBoard_183 F
    have hf := ifn hs37 hf
    refine z_tabOut (tgt := 184) C dX0_aboutBoard_11 (by have q0 := ti_ne (z := 0) (by decide) hs3; have q1 := ti_ne (z := 1) (by decide) hs6; have q2 := ti_ne (z := 2) (by decide) hs9; have q3 := ti_ne (z := 3) (by decide) hs12; have q4 := ti_ne (z := 4) (by decide) hs15; have q5 := ti_ne (z := 5) (by decide) hs19; have q6 := ti_ne (z := 6) (by decide) hs22; have q7 := ti_ne (z := 7) (by decide) hs25; have q8 := ti_ne (z := 8) (by decide) hs28; have q9 := ti_ne (z := 9) (by decide) hs31; have q10 := ti_ne (z := 10) (by decide) hs34; have q11 := ti_ne (z := 11) (by decide) hs37; omega) rfl ?_
    refine z_bipush (v := -2) C dX0_aboutBoard_184 kb_m2 ?_
    cases hf
    exact z_iret C dX0_aboutBoard_186 F
  have hf := ifp hc hf
  refine z_iconst (v := -1) C dX0_aboutBoard_8 kc_m1 ?_
  cases hf
  exact z_iret C dX0_aboutBoard_9 F
set_option maxHeartbeats 400000 in
set_option maxRecDepth 100000 in
theorem c_X0_allBoards {l : Launch} {D : va_G} {cs : ClassId × ClassId × ClassId} (h : Nat) (r : Nat) (fl : Nat)  (row : zA) (flow : zA) {v : Int32}  (e : f_X0_allBoards row = some v) : zM l D cs yX0_allBoards cX0_allBoards 1 (some .int) 0 [.ref h] (HW cs h r fl row flow) v (HW cs h r fl row flow) := by
  refine zM_of (show plainName RX0 = true by decide +kernel) (Nat.le_of_ble_eq_true rfl) ?_
  rintro G rfl rfl rfl C F
  have hf := e
  clear e
  unfold f_X0_allBoards at hf
  show zV G 1 0 [(0, .ref h)] [] (HW (gk G) h r fl row flow)
  refine z_iconst (v := 1) C dX0_allBoards_0 kc_1 ?_
  refine z_aload_n 0 C dX0_allBoards_1 rfl ?_
  refine gf_X0_11 0 C dX0_allBoards_2 rfl rfl ?_
  refine z_iconst (v := 4) C dX0_allBoards_5 kc_4 ?_
  refine z_iald 1 C dX0_allBoards_6 ix_4_125 rfl ?_
  refine z_ishl C dX0_allBoards_7 ?_
  refine z_iconst (v := 1) C dX0_allBoards_8 kc_1 ?_
  refine z_isub C dX0_allBoards_9 ?_
  cases hf
  exact z_iret C dX0_allBoards_10 F
set_option maxHeartbeats 400000 in
set_option maxRecDepth 100000 in
theorem tb_X0_workingLoadsAt_14 {G : GT} (h : Nat) (r : Nat) (fl : Nat) (row : zA) (flow : zA) {v : Int32}  (C : zC G cX0_workingLoadsAt 5 RX0 (some .int) 1) (F : zF G (some (.int v)) (HW (gk G) h r fl row flow)) : ∀ (n : Nat) (l2 : Int32) (l3 : Int32) (l4 : Int32), B_X0_workingLoadsAt_14 n l2 l3 l4 row = some v → zV G 5 14 [(0, .ref h), (2, .int l2), (3, .int l3), (4, .int l4)] [] (HW (gk G) h r fl row flow) := by
  intro n
  induction n with
  | zero => intro _ _ _ hf; rw [B_X0_workingLoadsAt_14] at hf; cases hf
  | succ n ih =>
    intro l2 l3 l4 hf
    rw [B_X0_workingLoadsAt_14] at hf
    refine z_iload 3 C dX0_workingLoadsAt_14 rfl ?_
    refine z_aload_n 0 C dX0_workingLoadsAt_16 rfl ?_
    refine gf_X0_11 0 C dX0_workingLoadsAt_17 rfl rfl ?_
    refine z_iconst (v := 5) C dX0_workingLoadsAt_20 kc_5 ?_
    refine z_iald 1 C dX0_workingLoadsAt_21 ix_5_125 rfl ?_
    refine z_icmp_ge (tgt := 55) C dX0_workingLoadsAt_22 rfl (fun hc => ?_) (fun hc => ?_)
    · have hf := ifp hc hf
      refine z_iload_n 2 C dX0_workingLoadsAt_55 rfl ?_
      refine z_aload_n 0 C dX0_workingLoadsAt_56 rfl ?_
      refine gf_X0_11 0 C dX0_workingLoadsAt_57 rfl rfl ?_
      refine z_bipush (v := 6) C dX0_workingLoadsAt_60 kb_6 ?_
      refine z_iald 1 C dX0_workingLoadsAt_62 ix_6_125 rfl ?_
      refine z_iand C dX0_workingLoadsAt_63 ?_
      cases hf
      exact z_iret C dX0_workingLoadsAt_64 F
    have hf := ifn hc hf
    refine z_iload_n 1 C dX0_workingLoadsAt_25 rfl ?_
    refine z_aload_n 0 C dX0_workingLoadsAt_26 rfl ?_
    refine gf_X0_11 0 C dX0_workingLoadsAt_27 rfl rfl ?_
    refine z_bipush (v := 97) C dX0_workingLoadsAt_30 kb_97 ?_
    refine z_iload 3 C dX0_workingLoadsAt_32 rfl ?_
    refine z_iadd C dX0_workingLoadsAt_34 ?_
    obtain ⟨k1, h2, hf⟩ := gd_e hf
    refine z_iald 1 C dX0_workingLoadsAt_35 h2 rfl ?_
    refine z_ishr C dX0_workingLoadsAt_36 ?_
    refine z_iconst (v := 1) C dX0_workingLoadsAt_37 kc_1 ?_
    refine z_iand C dX0_workingLoadsAt_38 ?_
    refine z_if_eq (tgt := 49) C dX0_workingLoadsAt_39 rfl (fun hc => ?_) (fun hc => ?_)
    · have hf := ifp hc hf
      obtain ⟨x3, e4, hf⟩ := nm_g hf
      refine z_iinc (ls' := [(4, _), (0, _), (2, _), (3, _)]) 3 C dX0_workingLoadsAt_49 rfl kc_1 e4 (by decide) rfl ?_
      refine z_goto (tgt := 14) C dX0_workingLoadsAt_52 rfl ?_
      refine z_sub (ls' := [(0, .ref h), (2, .int l2), (3, .int l3), (4, .int x3)]) [1, 2, 3, 0] rfl ?_
      exact ih _ _ _ hf
    have hf := ifn hc hf
    refine z_iload_n 2 C dX0_workingLoadsAt_42 rfl ?_
    refine z_iconst (v := 1) C dX0_workingLoadsAt_43 kc_1 ?_
    refine z_iload 3 C dX0_workingLoadsAt_44 rfl ?_
    refine z_ishl C dX0_workingLoadsAt_46 ?_
    refine z_ior C dX0_workingLoadsAt_47 ?_
    obtain ⟨x5, e6, hf⟩ := nm_g hf
    refine z_top e6 ?_
    refine z_istore_n (ls' := [(3, _), (0, _), (2, _), (4, _)]) C dX0_workingLoadsAt_48 (by decide) rfl ?_
    obtain ⟨x7, e8, hf⟩ := nm_g hf
    refine z_iinc (ls' := [(4, _), (3, _), (0, _), (2, _)]) 3 C dX0_workingLoadsAt_49 rfl kc_1 e8 (by decide) rfl ?_
    refine z_goto (tgt := 14) C dX0_workingLoadsAt_52 rfl ?_
    refine z_sub (ls' := [(0, .ref h), (2, .int l2), (3, .int x5), (4, .int x7)]) [2, 3, 1, 0] rfl ?_
    exact ih _ _ _ hf
set_option maxHeartbeats 400000 in
set_option maxRecDepth 100000 in
theorem c_X0_workingLoadsAt {l : Launch} {D : va_G} {cs : ClassId × ClassId × ClassId} (h : Nat) (r : Nat) (fl : Nat) (a1 : Int32) (row : zA) (flow : zA) {v : Int32}  (e : f_X0_workingLoadsAt a1 row = some v) : zM l D cs yX0_workingLoadsAt cX0_workingLoadsAt 5 (some .int) 1 [.ref h, .int a1] (HW cs h r fl row flow) v (HW cs h r fl row flow) := by
  refine zM_of (show plainName RX0 = true by decide +kernel) (Nat.le_of_ble_eq_true rfl) ?_
  rintro G rfl rfl rfl C F
  have hf := e
  clear e
  unfold f_X0_workingLoadsAt at hf
  show zV G 5 0 [(0, .ref h), (1, .int a1)] [] (HW (gk G) h r fl row flow)
  refine z_iload_n 1 C dX0_workingLoadsAt_0 rfl ?_
  refine z_aload_n 0 C dX0_workingLoadsAt_1 rfl ?_
  obtain ⟨v1, e2, hf⟩ := b1_e hf
  refine z_callV (st := [.int a1]) (ws2 := (HW (gk G) h r fl row flow)) [0, 1, 2] C dX0_workingLoadsAt_2 w_X0_87 (c_X0_deadBoards h r fl row flow e2) (by decide) rfl rfl rfl rfl rfl rfl rfl (Nat.le_of_ble_eq_true rfl) rfl ?_
  refine z_iconst (v := -1) C dX0_workingLoadsAt_5 kc_m1 ?_
  refine z_ixor C dX0_workingLoadsAt_6 ?_
  refine z_iand C dX0_workingLoadsAt_7 ?_
  obtain ⟨x3, e4, hf⟩ := nm_g hf
  refine z_top e4 ?_
  refine z_istore_n (ls' := [(2, _), (0, _), (1, _)]) C dX0_workingLoadsAt_8 (by decide) rfl ?_
  refine z_iconst (v := 0) C dX0_workingLoadsAt_9 kc_0 ?_
  refine z_istore_n (ls' := [(3, _), (2, _), (0, _), (1, _)]) C dX0_workingLoadsAt_10 (by decide) rfl ?_
  refine z_iconst (v := 0) C dX0_workingLoadsAt_11 kc_0 ?_
  refine z_istore (ls' := [(4, _), (3, _), (2, _), (0, _), (1, _)]) C dX0_workingLoadsAt_12 (by decide) rfl ?_
  refine z_sub (ls' := [(0, .ref h), (2, .int x3), (3, .int 0), (4, .int 0)]) [3, 2, 1, 0] rfl ?_
  exact tb_X0_workingLoadsAt_14 h r fl row flow C F _ _ _ _ hf
set_option maxHeartbeats 400000 in
set_option maxRecDepth 100000 in
theorem c_X0_aboutLoad {l : Launch} {D : va_G} {cs : ClassId × ClassId × ClassId} (h : Nat) (r : Nat) (fl : Nat) (a1 : Int32) (a2 : Int32) (row : zA) (flow : zA) {v : Int32}  (e : f_X0_aboutLoad a1 a2 row = some v) : zM l D cs yX0_aboutLoad cX0_aboutLoad 3 (some .int) 2 [.ref h, .int a1, .int a2] (HW cs h r fl row flow) v (HW cs h r fl row flow) := by
  refine zM_of (show plainName RX0 = true by decide +kernel) (Nat.le_of_ble_eq_true rfl) ?_
  rintro G rfl rfl rfl C F
  have hf := e
  clear e
  unfold f_X0_aboutLoad at hf
  show zV G 3 0 [(0, .ref h), (1, .int a1), (2, .int a2)] [] (HW (gk G) h r fl row flow)
  refine z_aload_n 0 C dX0_aboutLoad_0 rfl ?_
  refine z_iload_n 1 C dX0_aboutLoad_1 rfl ?_
  obtain ⟨v1, e2, hf⟩ := b1_e hf
  refine z_callV (st := []) (ws2 := (HW (gk G) h r fl row flow)) [0, 1, 2] C dX0_aboutLoad_2 w_X0_42 (c_X0_isLoad h r fl a1 row flow e2) (by decide) rfl rfl rfl rfl rfl rfl rfl (Nat.le_of_ble_eq_true rfl) rfl ?_
  refine z_if_ne (tgt := 10) C dX0_aboutLoad_5 rfl (fun hc => ?_) (fun hc => ?_)
  · have hf := ifn hc hf
    refine z_iload_n 2 C dX0_aboutLoad_10 rfl ?_
    by_cases hs3 : a2 = 0
    · have hf := ifp hs3 hf
      refine z_tabIn (tgt := 40) C dX0_aboutLoad_11 hs3 (by decide) (by decide) rfl rfl ?_
      refine z_aload_n 0 C dX0_aboutLoad_40 rfl ?_
      refine gf_X0_11 0 C dX0_aboutLoad_41 rfl rfl ?_
      refine z_bipush (v := 97) C dX0_aboutLoad_44 kb_97 ?_
      refine z_iload_n 1 C dX0_aboutLoad_46 rfl ?_
      refine z_iadd C dX0_aboutLoad_47 ?_
      obtain ⟨k4, h5, hf⟩ := gd_e hf
      refine z_iald 1 C dX0_aboutLoad_48 h5 rfl ?_
      cases hf
      exact z_iret C dX0_aboutLoad_49 F
    have hf := ifn hs3 hf
    by_cases hs6 : a2 = 1
    · have hf := ifp hs6 hf
      refine z_tabIn (tgt := 50) C dX0_aboutLoad_11 hs6 (by decide) (by decide) rfl rfl ?_
      refine z_aload_n 0 C dX0_aboutLoad_50 rfl ?_
      refine gf_X0_11 0 C dX0_aboutLoad_51 rfl rfl ?_
      refine z_bipush (v := 111) C dX0_aboutLoad_54 kb_111 ?_
      refine z_iload_n 1 C dX0_aboutLoad_56 rfl ?_
      refine z_iadd C dX0_aboutLoad_57 ?_
      obtain ⟨k7, h8, hf⟩ := gd_e hf
      refine z_iald 1 C dX0_aboutLoad_58 h8 rfl ?_
      cases hf
      exact z_iret C dX0_aboutLoad_59 F
    have hf := ifn hs6 hf
    by_cases hs9 : a2 = 2
    · have hf := ifp hs9 hf
      refine z_tabIn (tgt := 60) C dX0_aboutLoad_11 hs9 (by decide) (by decide) rfl rfl ?_
      refine z_aload_n 0 C dX0_aboutLoad_60 rfl ?_
      refine gf_X0_11 0 C dX0_aboutLoad_61 rfl rfl ?_
      refine z_bipush (v := 6) C dX0_aboutLoad_64 kb_6 ?_
      refine z_iald 1 C dX0_aboutLoad_66 ix_6_125 rfl ?_
      refine z_iload_n 1 C dX0_aboutLoad_67 rfl ?_
      refine z_ishr C dX0_aboutLoad_68 ?_
      refine z_iconst (v := 1) C dX0_aboutLoad_69 kc_1 ?_
      refine z_iand C dX0_aboutLoad_70 ?_
      cases hf
      exact z_iret C dX0_aboutLoad_71 F
    have hf := ifn hs9 hf
    by_cases hs10 : a2 = 3
    · have hf := ifp hs10 hf
      refine z_tabIn (tgt := 72) C dX0_aboutLoad_11 hs10 (by decide) (by decide) rfl rfl ?_
      refine z_aload_n 0 C dX0_aboutLoad_72 rfl ?_
      refine z_aload_n 0 C dX0_aboutLoad_73 rfl ?_
      obtain ⟨v11, e12, hf⟩ := b1_e hf
      refine z_callV (st := [.ref h]) (ws2 := (HW (gk G) h r fl row flow)) [0, 1, 2] C dX0_aboutLoad_74 w_X0_118 (c_X0_allBoards h r fl row flow e12) (by decide) rfl rfl rfl rfl rfl rfl rfl (Nat.le_of_ble_eq_true rfl) rfl ?_
      obtain ⟨v13, e14, hf⟩ := b1_e hf
      refine z_callV (st := []) (ws2 := (HW (gk G) h r fl row flow)) [0, 1, 2] C dX0_aboutLoad_77 w_X0_121 (c_X0_workingLoadsAt h r fl v11 row flow e14) (by decide) rfl rfl rfl rfl rfl rfl rfl (Nat.le_of_ble_eq_true rfl) rfl ?_
      refine z_iload_n 1 C dX0_aboutLoad_80 rfl ?_
      refine z_ishr C dX0_aboutLoad_81 ?_
      refine z_iconst (v := 1) C dX0_aboutLoad_82 kc_1 ?_
      refine z_iand C dX0_aboutLoad_83 ?_
      cases hf
      exact z_iret C dX0_aboutLoad_84 F
    have hf := ifn hs10 hf
    refine z_tabOut (tgt := 85) C dX0_aboutLoad_11 (by have q0 := ti_ne (z := 0) (by decide) hs3; have q1 := ti_ne (z := 1) (by decide) hs6; have q2 := ti_ne (z := 2) (by decide) hs9; have q3 := ti_ne (z := 3) (by decide) hs10; omega) rfl ?_
    refine z_bipush (v := -2) C dX0_aboutLoad_85 kb_m2 ?_
    cases hf
    exact z_iret C dX0_aboutLoad_87 F
  have hf := ifp hc hf
  refine z_iconst (v := -1) C dX0_aboutLoad_8 kc_m1 ?_
  cases hf
  exact z_iret C dX0_aboutLoad_9 F
set_option maxHeartbeats 400000 in
set_option maxRecDepth 100000 in
theorem tb_X0_burningBoards_4 {G : GT} (h : Nat) (r : Nat) (fl : Nat) (row : zA) (flow : zA) {v : Int32}  (C : zC G cX0_burningBoards 3 RX0 (some .int) 0) (F : zF G (some (.int v)) (HW (gk G) h r fl row flow)) : ∀ (n : Nat) (l1 : Int32) (l2 : Int32), B_X0_burningBoards_4 n l1 l2 row = some v → zV G 3 4 [(0, .ref h), (1, .int l1), (2, .int l2)] [] (HW (gk G) h r fl row flow) := by
  intro n
  induction n with
  | zero => intro _ _ hf; rw [B_X0_burningBoards_4] at hf; cases hf
  | succ n ih =>
    intro l1 l2 hf
    rw [B_X0_burningBoards_4] at hf
    refine z_iload_n 2 C dX0_burningBoards_4 rfl ?_
    refine z_aload_n 0 C dX0_burningBoards_5 rfl ?_
    refine gf_X0_11 0 C dX0_burningBoards_6 rfl rfl ?_
    refine z_iconst (v := 4) C dX0_burningBoards_9 kc_4 ?_
    refine z_iald 1 C dX0_burningBoards_10 ix_4_125 rfl ?_
    refine z_icmp_ge (tgt := 38) C dX0_burningBoards_11 rfl (fun hc => ?_) (fun hc => ?_)
    · have hf := ifp hc hf
      refine z_iload_n 1 C dX0_burningBoards_38 rfl ?_
      cases hf
      exact z_iret C dX0_burningBoards_39 F
    have hf := ifn hc hf
    refine z_aload_n 0 C dX0_burningBoards_14 rfl ?_
    refine gf_X0_11 0 C dX0_burningBoards_15 rfl rfl ?_
    refine z_bipush (v := 47) C dX0_burningBoards_18 kb_47 ?_
    refine z_iload_n 2 C dX0_burningBoards_20 rfl ?_
    refine z_iadd C dX0_burningBoards_21 ?_
    obtain ⟨k1, h2, hf⟩ := gd_e hf
    refine z_iald 1 C dX0_burningBoards_22 h2 rfl ?_
    refine z_if_le (tgt := 32) C dX0_burningBoards_23 rfl (fun hc => ?_) (fun hc => ?_)
    · have hf := ifp hc hf
      obtain ⟨x3, e4, hf⟩ := nm_g hf
      refine z_iinc (ls' := [(2, _), (0, _), (1, _)]) 2 C dX0_burningBoards_32 rfl kc_1 e4 (by decide) rfl ?_
      refine z_goto (tgt := 4) C dX0_burningBoards_35 rfl ?_
      refine z_sub (ls' := [(0, .ref h), (1, .int l1), (2, .int x3)]) [1, 2, 0] rfl ?_
      exact ih _ _ hf
    have hf := ifn hc hf
    refine z_iload_n 1 C dX0_burningBoards_26 rfl ?_
    refine z_iconst (v := 1) C dX0_burningBoards_27 kc_1 ?_
    refine z_iload_n 2 C dX0_burningBoards_28 rfl ?_
    refine z_ishl C dX0_burningBoards_29 ?_
    refine z_ior C dX0_burningBoards_30 ?_
    obtain ⟨x5, e6, hf⟩ := nm_g hf
    refine z_top e6 ?_
    refine z_istore_n (ls' := [(1, _), (0, _), (2, _)]) C dX0_burningBoards_31 (by decide) rfl ?_
    obtain ⟨x7, e8, hf⟩ := nm_g hf
    refine z_iinc (ls' := [(2, _), (1, _), (0, _)]) 2 C dX0_burningBoards_32 rfl kc_1 e8 (by decide) rfl ?_
    refine z_goto (tgt := 4) C dX0_burningBoards_35 rfl ?_
    refine z_sub (ls' := [(0, .ref h), (1, .int x5), (2, .int x7)]) [2, 1, 0] rfl ?_
    exact ih _ _ hf
set_option maxHeartbeats 400000 in
set_option maxRecDepth 100000 in
theorem c_X0_burningBoards {l : Launch} {D : va_G} {cs : ClassId × ClassId × ClassId} (h : Nat) (r : Nat) (fl : Nat)  (row : zA) (flow : zA) {v : Int32}  (e : f_X0_burningBoards row = some v) : zM l D cs yX0_burningBoards cX0_burningBoards 3 (some .int) 0 [.ref h] (HW cs h r fl row flow) v (HW cs h r fl row flow) := by
  refine zM_of (show plainName RX0 = true by decide +kernel) (Nat.le_of_ble_eq_true rfl) ?_
  rintro G rfl rfl rfl C F
  have hf := e
  clear e
  unfold f_X0_burningBoards at hf
  show zV G 3 0 [(0, .ref h)] [] (HW (gk G) h r fl row flow)
  refine z_iconst (v := 0) C dX0_burningBoards_0 kc_0 ?_
  refine z_istore_n (ls' := [(1, _), (0, _)]) C dX0_burningBoards_1 (by decide) rfl ?_
  refine z_iconst (v := 0) C dX0_burningBoards_2 kc_0 ?_
  refine z_istore_n (ls' := [(2, _), (1, _), (0, _)]) C dX0_burningBoards_3 (by decide) rfl ?_
  refine z_sub (ls' := [(0, .ref h), (1, .int 0), (2, .int 0)]) [2, 1, 0] rfl ?_
  exact tb_X0_burningBoards_4 h r fl row flow C F _ _ _ hf
set_option maxHeartbeats 400000 in
set_option maxRecDepth 100000 in
theorem c_X0_aboutHouse {l : Launch} {D : va_G} {cs : ClassId × ClassId × ClassId} (h : Nat) (r : Nat) (fl : Nat) (a1 : Int32) (row : zA) (flow : zA) {v : Int32} {flow' : zA} (e : f_X0_aboutHouse a1 row flow = some (v, flow')) : zM l D cs yX0_aboutHouse cX0_aboutHouse 2 (some .int) 3 [.ref h, .int a1] (HW cs h r fl row flow) v (HW cs h r fl row flow') := by
  refine zM_of (show plainName RX0 = true by decide +kernel) (Nat.le_of_ble_eq_true rfl) ?_
  rintro G rfl rfl rfl C F
  have hf := e
  clear e
  unfold f_X0_aboutHouse at hf
  show zV G 2 0 [(0, .ref h), (1, .int a1)] [] (HW (gk G) h r fl row flow)
  refine z_iload_n 1 C dX0_aboutHouse_0 rfl ?_
  by_cases hs1 : a1 = 0
  · have hf := ifp hs1 hf
    refine z_tabIn (tgt := 64) C dX0_aboutHouse_1 hs1 (by decide) (by decide) rfl rfl ?_
    refine z_aload_n 0 C dX0_aboutHouse_64 rfl ?_
    refine gf_X0_11 0 C dX0_aboutHouse_65 rfl rfl ?_
    refine z_iconst (v := 3) C dX0_aboutHouse_68 kc_3 ?_
    refine z_iald 1 C dX0_aboutHouse_69 ix_3_125 rfl ?_
    cases hf
    exact z_iret C dX0_aboutHouse_70 F
  have hf := ifn hs1 hf
  by_cases hs2 : a1 = 1
  · have hf := ifp hs2 hf
    refine z_tabIn (tgt := 71) C dX0_aboutHouse_1 hs2 (by decide) (by decide) rfl rfl ?_
    refine z_aload_n 0 C dX0_aboutHouse_71 rfl ?_
    refine gf_X0_11 0 C dX0_aboutHouse_72 rfl rfl ?_
    refine z_iconst (v := 4) C dX0_aboutHouse_75 kc_4 ?_
    refine z_iald 1 C dX0_aboutHouse_76 ix_4_125 rfl ?_
    cases hf
    exact z_iret C dX0_aboutHouse_77 F
  have hf := ifn hs2 hf
  by_cases hs3 : a1 = 2
  · have hf := ifp hs3 hf
    refine z_tabIn (tgt := 78) C dX0_aboutHouse_1 hs3 (by decide) (by decide) rfl rfl ?_
    refine z_aload_n 0 C dX0_aboutHouse_78 rfl ?_
    refine gf_X0_11 0 C dX0_aboutHouse_79 rfl rfl ?_
    refine z_iconst (v := 5) C dX0_aboutHouse_82 kc_5 ?_
    refine z_iald 1 C dX0_aboutHouse_83 ix_5_125 rfl ?_
    cases hf
    exact z_iret C dX0_aboutHouse_84 F
  have hf := ifn hs3 hf
  by_cases hs4 : a1 = 3
  · have hf := ifp hs4 hf
    refine z_tabIn (tgt := 85) C dX0_aboutHouse_1 hs4 (by decide) (by decide) rfl rfl ?_
    refine z_aload_n 0 C dX0_aboutHouse_85 rfl ?_
    obtain ⟨v5, e6, hf⟩ := b1_e hf
    refine z_callV (st := []) (ws2 := (HW (gk G) h r fl row flow)) [0, 1, 2] C dX0_aboutHouse_86 w_X0_87 (c_X0_deadBoards h r fl row flow e6) (by decide) rfl rfl rfl rfl rfl rfl rfl (Nat.le_of_ble_eq_true rfl) rfl ?_
    cases hf
    exact z_iret C dX0_aboutHouse_89 F
  have hf := ifn hs4 hf
  by_cases hs7 : a1 = 4
  · have hf := ifp hs7 hf
    refine z_tabIn (tgt := 90) C dX0_aboutHouse_1 hs7 (by decide) (by decide) rfl rfl ?_
    refine z_aload_n 0 C dX0_aboutHouse_90 rfl ?_
    refine z_aload_n 0 C dX0_aboutHouse_91 rfl ?_
    obtain ⟨v8, e9, hf⟩ := b1_e hf
    refine z_callV (st := [.ref h]) (ws2 := (HW (gk G) h r fl row flow)) [0, 1, 2] C dX0_aboutHouse_92 w_X0_118 (c_X0_allBoards h r fl row flow e9) (by decide) rfl rfl rfl rfl rfl rfl rfl (Nat.le_of_ble_eq_true rfl) rfl ?_
    obtain ⟨v10, e11, hf⟩ := b1_e hf
    refine z_callV (st := []) (ws2 := (HW (gk G) h r fl row flow)) [0, 1, 2] C dX0_aboutHouse_95 w_X0_121 (c_X0_workingLoadsAt h r fl v8 row flow e11) (by decide) rfl rfl rfl rfl rfl rfl rfl (Nat.le_of_ble_eq_true rfl) rfl ?_
    cases hf
    exact z_iret C dX0_aboutHouse_98 F
  have hf := ifn hs7 hf
  by_cases hs12 : a1 = 5
  · have hf := ifp hs12 hf
    refine z_tabIn (tgt := 99) C dX0_aboutHouse_1 hs12 (by decide) (by decide) rfl rfl ?_
    refine z_aload_n 0 C dX0_aboutHouse_99 rfl ?_
    refine gf_X0_11 0 C dX0_aboutHouse_100 rfl rfl ?_
    refine z_bipush (v := 7) C dX0_aboutHouse_103 kb_7 ?_
    refine z_iald 1 C dX0_aboutHouse_105 ix_7_125 rfl ?_
    cases hf
    exact z_iret C dX0_aboutHouse_106 F
  have hf := ifn hs12 hf
  by_cases hs13 : a1 = 6
  · have hf := ifp hs13 hf
    refine z_tabIn (tgt := 107) C dX0_aboutHouse_1 hs13 (by decide) (by decide) rfl rfl ?_
    refine z_aload_n 0 C dX0_aboutHouse_107 rfl ?_
    obtain ⟨v14, e15, hf⟩ := b1_e hf
    refine z_callV (st := []) (ws2 := (HW (gk G) h r fl row flow)) [0, 1, 2] C dX0_aboutHouse_108 w_X0_124 (c_X0_burningBoards h r fl row flow e15) (by decide) rfl rfl rfl rfl rfl rfl rfl (Nat.le_of_ble_eq_true rfl) rfl ?_
    cases hf
    exact z_iret C dX0_aboutHouse_111 F
  have hf := ifn hs13 hf
  by_cases hs16 : a1 = 7
  · have hf := ifp hs16 hf
    refine z_tabIn (tgt := 112) C dX0_aboutHouse_1 hs16 (by decide) (by decide) rfl rfl ?_
    refine z_aload_n 0 C dX0_aboutHouse_112 rfl ?_
    refine gf_X0_11 0 C dX0_aboutHouse_113 rfl rfl ?_
    refine z_bipush (v := 8) C dX0_aboutHouse_116 kb_8 ?_
    refine z_iald 1 C dX0_aboutHouse_118 ix_8_125 rfl ?_
    cases hf
    exact z_iret C dX0_aboutHouse_119 F
  have hf := ifn hs16 hf
  by_cases hs17 : a1 = 8
  · have hf := ifp hs17 hf
    refine z_tabIn (tgt := 120) C dX0_aboutHouse_1 hs17 (by decide) (by decide) rfl rfl ?_
    refine z_aload_n 0 C dX0_aboutHouse_120 rfl ?_
    refine z_iconst (v := 0) C dX0_aboutHouse_121 kc_0 ?_
    obtain ⟨v18, flow19, e20, hf⟩ := b2_e hf
    refine z_callV (st := []) (ws2 := (HW (gk G) h r fl row flow19)) [0, 1, 2] C dX0_aboutHouse_122 w_X0_112 (c_X0_current h r fl 0 row flow e20) (by decide) rfl rfl rfl rfl rfl rfl rfl (Nat.le_of_ble_eq_true rfl) rfl ?_
    cases hf
    exact z_iret C dX0_aboutHouse_125 F
  have hf := ifn hs17 hf
  by_cases hs21 : a1 = 9
  · have hf := ifp hs21 hf
    refine z_tabIn (tgt := 126) C dX0_aboutHouse_1 hs21 (by decide) (by decide) rfl rfl ?_
    refine z_aload_n 0 C dX0_aboutHouse_126 rfl ?_
    refine gf_X0_11 0 C dX0_aboutHouse_127 rfl rfl ?_
    refine z_iconst (v := 0) C dX0_aboutHouse_130 kc_0 ?_
    refine z_iald 1 C dX0_aboutHouse_131 ix_0_125 rfl ?_
    cases hf
    exact z_iret C dX0_aboutHouse_132 F
  have hf := ifn hs21 hf
  by_cases hs22 : a1 = 10
  · have hf := ifp hs22 hf
    refine z_tabIn (tgt := 133) C dX0_aboutHouse_1 hs22 (by decide) (by decide) rfl rfl ?_
    refine z_aload_n 0 C dX0_aboutHouse_133 rfl ?_
    refine gf_X0_11 0 C dX0_aboutHouse_134 rfl rfl ?_
    refine z_iconst (v := 1) C dX0_aboutHouse_137 kc_1 ?_
    refine z_iald 1 C dX0_aboutHouse_138 ix_1_125 rfl ?_
    cases hf
    exact z_iret C dX0_aboutHouse_139 F
  have hf := ifn hs22 hf
  by_cases hs23 : a1 = 11
  · have hf := ifp hs23 hf
    refine z_tabIn (tgt := 140) C dX0_aboutHouse_1 hs23 (by decide) (by decide) rfl rfl ?_
    refine z_aload_n 0 C dX0_aboutHouse_140 rfl ?_
    refine gf_X0_11 0 C dX0_aboutHouse_141 rfl rfl ?_
    refine z_iconst (v := 2) C dX0_aboutHouse_144 kc_2 ?_
    refine z_iald 1 C dX0_aboutHouse_145 ix_2_125 rfl ?_
    cases hf
    exact z_iret C dX0_aboutHouse_146 F
  have hf := ifn hs23 hf
  refine z_tabOut (tgt := 147) C dX0_aboutHouse_1 (by have q0 := ti_ne (z := 0) (by decide) hs1; have q1 := ti_ne (z := 1) (by decide) hs2; have q2 := ti_ne (z := 2) (by decide) hs3; have q3 := ti_ne (z := 3) (by decide) hs4; have q4 := ti_ne (z := 4) (by decide) hs7; have q5 := ti_ne (z := 5) (by decide) hs12; have q6 := ti_ne (z := 6) (by decide) hs13; have q7 := ti_ne (z := 7) (by decide) hs16; have q8 := ti_ne (z := 8) (by decide) hs17; have q9 := ti_ne (z := 9) (by decide) hs21; have q10 := ti_ne (z := 10) (by decide) hs22; have q11 := ti_ne (z := 11) (by decide) hs23; omega) rfl ?_
  refine z_bipush (v := -2) C dX0_aboutHouse_147 kb_m2 ?_
  cases hf
  exact z_iret C dX0_aboutHouse_149 F
set_option maxHeartbeats 400000 in
set_option maxRecDepth 100000 in
theorem c_X0_latestBlown {l : Launch} {D : va_G} {cs : ClassId × ClassId × ClassId} (h : Nat) (r : Nat) (fl : Nat) (a1 : Int32) (row : zA) (flow : zA) {v : Int32}  (e : f_X0_latestBlown a1 row = some v) : zM l D cs yX0_latestBlown cX0_latestBlown 2 (some .int) 0 [.ref h, .int a1] (HW cs h r fl row flow) v (HW cs h r fl row flow) := by
  refine zM_of (show plainName RX0 = true by decide +kernel) (Nat.le_of_ble_eq_true rfl) ?_
  rintro G rfl rfl rfl C F
  have hf := e
  clear e
  unfold f_X0_latestBlown at hf
  show zV G 2 0 [(0, .ref h), (1, .int a1)] [] (HW (gk G) h r fl row flow)
  refine z_iload_n 1 C dX0_latestBlown_0 rfl ?_
  refine z_if_lt (tgt := 21) C dX0_latestBlown_1 rfl (fun hc => ?_) (fun hc => ?_)
  · have hf := ifp hc hf
    refine z_iconst (v := -1) C dX0_latestBlown_21 kc_m1 ?_
    cases hf
    exact z_iret C dX0_latestBlown_22 F
  have hf := ifn hc hf
  refine z_iload_n 1 C dX0_latestBlown_4 rfl ?_
  refine z_bipush (v := 8) C dX0_latestBlown_5 kb_8 ?_
  refine z_icmp_ge (tgt := 21) C dX0_latestBlown_7 rfl (fun hc => ?_) (fun hc => ?_)
  · have hf := ifp hc hf
    refine z_iconst (v := -1) C dX0_latestBlown_21 kc_m1 ?_
    cases hf
    exact z_iret C dX0_latestBlown_22 F
  have hf := ifn hc hf
  refine z_iload_n 1 C dX0_latestBlown_10 rfl ?_
  refine z_aload_n 0 C dX0_latestBlown_11 rfl ?_
  refine gf_X0_11 0 C dX0_latestBlown_12 rfl rfl ?_
  refine z_bipush (v := 8) C dX0_latestBlown_15 kb_8 ?_
  refine z_iald 1 C dX0_latestBlown_17 ix_8_125 rfl ?_
  refine z_icmp_lt (tgt := 23) C dX0_latestBlown_18 rfl (fun hc => ?_) (fun hc => ?_)
  · have hf := ifp hc hf
    refine z_aload_n 0 C dX0_latestBlown_23 rfl ?_
    refine gf_X0_11 0 C dX0_latestBlown_24 rfl rfl ?_
    refine z_bipush (v := 9) C dX0_latestBlown_27 kb_9 ?_
    refine z_iload_n 1 C dX0_latestBlown_29 rfl ?_
    refine z_iadd C dX0_latestBlown_30 ?_
    obtain ⟨k1, h2, hf⟩ := gd_e hf
    refine z_iald 1 C dX0_latestBlown_31 h2 rfl ?_
    cases hf
    exact z_iret C dX0_latestBlown_32 F
  have hf := ifn hc hf
  refine z_iconst (v := -1) C dX0_latestBlown_21 kc_m1 ?_
  cases hf
  exact z_iret C dX0_latestBlown_22 F
end
section
set_option maxHeartbeats 400000 in
set_option maxRecDepth 100000 in
theorem c_X1_length {l : Launch} {D : va_G} {cs : ClassId × ClassId × ClassId} (h : Nat) (q : Nat)  (codes : zA) (pf : zA) {v : Int32}  (e : f_X1_length pf = some v) : zM l D cs yX1_length cX1_length 1 (some .int) 0 [.ref h] (PW cs h q codes pf) v (PW cs h q codes pf) := by
  refine zM_of (show plainName RX1 = true by decide +kernel) (Nat.le_of_ble_eq_true rfl) ?_
  rintro G rfl rfl rfl C F
  have hf := e
  clear e
  unfold f_X1_length at hf
  show zV G 1 0 [(0, .ref h)] [] (PW (gk G) h q codes pf)
  refine z_aload_n 0 C dX1_length_0 rfl ?_
  refine gf_X1_15 0 C dX1_length_1 rfl rfl ?_
  cases hf
  exact z_iret C dX1_length_4 F
set_option maxHeartbeats 400000 in
set_option maxRecDepth 100000 in
theorem c_X2_noteState {l : Launch} {D : va_G} {cs : ClassId × ClassId × ClassId} (ad : Nat → Nat)  (nr : zA) (nf : zA) (tr : zA) (tf : zA) (co : zA) (pf : zA) (hi : Nat → zA) (sl : Nat → zA) (sv : zA) (ff : zA) {hi' : Nat → zA} (e : f_X2_noteState nr hi ff = some hi') : zMv l D cs yX2_noteState cX2_noteState 1 none 2 [.ref (ad 0)] (FW cs ad nr nf tr tf co pf hi sl sv ff) (FW cs ad nr nf tr tf co pf hi' sl sv ff) := by
  refine zMv_of (show plainName RX2 = true by decide +kernel) (Nat.le_of_ble_eq_true rfl) ?_
  rintro G rfl rfl rfl C F
  have hf := e
  clear e
  unfold f_X2_noteState at hf
  show zV G 1 0 [(0, .ref (ad 0))] [] (FW (gk G) ad nr nf tr tf co pf hi sl sv ff)
  refine z_aload_n 0 C dX2_noteState_0 rfl ?_
  refine gf_X2_12 0 C dX2_noteState_1 rfl rfl ?_
  refine z_aload_n 0 C dX2_noteState_4 rfl ?_
  refine gf_X2_28 0 C dX2_noteState_5 rfl rfl ?_
  refine z_aload_n 0 C dX2_noteState_8 rfl ?_
  refine gf_X2_38 0 C dX2_noteState_9 rfl rfl ?_
  obtain ⟨k1, h2, hf⟩ := gd_e hf
  refine z_aald 9 C dX2_noteState_12 h2 rfl ?_
  rcases zlt7 (zin_lt h2) with rfl | rfl | rfl | rfl | rfl | rfl | rfl
  · refine z_st (st' := [.ref (ad 10), .ref (ad 1)]) rfl ?_
    obtain ⟨hi3, e4, hf⟩ := b1_e hf
    refine z_callVv (st := []) (ws2 := (FW (gk G) ad nr nf tr tf co pf (va_up hi 0 hi3) sl sv ff)) [1, 2, 3, 10] C dX2_noteState_13 w_X2_147 (c_X0_writeTo (ad 1) (ad 2) (ad 3) (ad 10) nr nf (hi 0) e4) (by decide) rfl rfl rfl rfl rfl rfl rfl (Nat.le_of_ble_eq_true rfl) rfl ?_
    cases hf
    exact z_vret C dX2_noteState_16 F
  · refine z_st (st' := [.ref (ad 11), .ref (ad 1)]) rfl ?_
    obtain ⟨hi3, e4, hf⟩ := b1_e hf
    refine z_callVv (st := []) (ws2 := (FW (gk G) ad nr nf tr tf co pf (va_up hi 1 hi3) sl sv ff)) [1, 2, 3, 11] C dX2_noteState_13 w_X2_147 (c_X0_writeTo (ad 1) (ad 2) (ad 3) (ad 11) nr nf (hi 1) e4) (by decide) rfl rfl rfl rfl rfl rfl rfl (Nat.le_of_ble_eq_true rfl) rfl ?_
    cases hf
    exact z_vret C dX2_noteState_16 F
  · refine z_st (st' := [.ref (ad 12), .ref (ad 1)]) rfl ?_
    obtain ⟨hi3, e4, hf⟩ := b1_e hf
    refine z_callVv (st := []) (ws2 := (FW (gk G) ad nr nf tr tf co pf (va_up hi 2 hi3) sl sv ff)) [1, 2, 3, 12] C dX2_noteState_13 w_X2_147 (c_X0_writeTo (ad 1) (ad 2) (ad 3) (ad 12) nr nf (hi 2) e4) (by decide) rfl rfl rfl rfl rfl rfl rfl (Nat.le_of_ble_eq_true rfl) rfl ?_
    cases hf
    exact z_vret C dX2_noteState_16 F
  · refine z_st (st' := [.ref (ad 13), .ref (ad 1)]) rfl ?_
    obtain ⟨hi3, e4, hf⟩ := b1_e hf
    refine z_callVv (st := []) (ws2 := (FW (gk G) ad nr nf tr tf co pf (va_up hi 3 hi3) sl sv ff)) [1, 2, 3, 13] C dX2_noteState_13 w_X2_147 (c_X0_writeTo (ad 1) (ad 2) (ad 3) (ad 13) nr nf (hi 3) e4) (by decide) rfl rfl rfl rfl rfl rfl rfl (Nat.le_of_ble_eq_true rfl) rfl ?_
    cases hf
    exact z_vret C dX2_noteState_16 F
  · refine z_st (st' := [.ref (ad 14), .ref (ad 1)]) rfl ?_
    obtain ⟨hi3, e4, hf⟩ := b1_e hf
    refine z_callVv (st := []) (ws2 := (FW (gk G) ad nr nf tr tf co pf (va_up hi 4 hi3) sl sv ff)) [1, 2, 3, 14] C dX2_noteState_13 w_X2_147 (c_X0_writeTo (ad 1) (ad 2) (ad 3) (ad 14) nr nf (hi 4) e4) (by decide) rfl rfl rfl rfl rfl rfl rfl (Nat.le_of_ble_eq_true rfl) rfl ?_
    cases hf
    exact z_vret C dX2_noteState_16 F
  · refine z_st (st' := [.ref (ad 15), .ref (ad 1)]) rfl ?_
    obtain ⟨hi3, e4, hf⟩ := b1_e hf
    refine z_callVv (st := []) (ws2 := (FW (gk G) ad nr nf tr tf co pf (va_up hi 5 hi3) sl sv ff)) [1, 2, 3, 15] C dX2_noteState_13 w_X2_147 (c_X0_writeTo (ad 1) (ad 2) (ad 3) (ad 15) nr nf (hi 5) e4) (by decide) rfl rfl rfl rfl rfl rfl rfl (Nat.le_of_ble_eq_true rfl) rfl ?_
    cases hf
    exact z_vret C dX2_noteState_16 F
  · refine z_st (st' := [.ref (ad 16), .ref (ad 1)]) rfl ?_
    obtain ⟨hi3, e4, hf⟩ := b1_e hf
    refine z_callVv (st := []) (ws2 := (FW (gk G) ad nr nf tr tf co pf (va_up hi 6 hi3) sl sv ff)) [1, 2, 3, 16] C dX2_noteState_13 w_X2_147 (c_X0_writeTo (ad 1) (ad 2) (ad 3) (ad 16) nr nf (hi 6) e4) (by decide) rfl rfl rfl rfl rfl rfl rfl (Nat.le_of_ble_eq_true rfl) rfl ?_
    cases hf
    exact z_vret C dX2_noteState_16 F
set_option maxHeartbeats 400000 in
set_option maxRecDepth 100000 in
theorem c_X2_keepUnlessError {l : Launch} {D : va_G} {cs : ClassId × ClassId × ClassId} (ad : Nat → Nat) (a1 : Int32) (nr : zA) (nf : zA) (tr : zA) (tf : zA) (co : zA) (pf : zA) (hi : Nat → zA) (sl : Nat → zA) (sv : zA) (ff : zA) {v : Int32} {ff' : zA} (e : f_X2_keepUnlessError a1 ff = some (v, ff')) : zM l D cs yX2_keepUnlessError cX2_keepUnlessError 2 (some .int) 1 [.ref (ad 0), .int a1] (FW cs ad nr nf tr tf co pf hi sl sv ff) v (FW cs ad nr nf tr tf co pf hi sl sv ff') := by
  refine zM_of (show plainName RX2 = true by decide +kernel) (Nat.le_of_ble_eq_true rfl) ?_
  rintro G rfl rfl rfl C F
  have hf := e
  clear e
  unfold f_X2_keepUnlessError at hf
  show zV G 2 0 [(0, .ref (ad 0)), (1, .int a1)] [] (FW (gk G) ad nr nf tr tf co pf hi sl sv ff)
  refine z_iload_n 1 C dX2_keepUnlessError_0 rfl ?_
  refine z_if_ge (tgt := 6) C dX2_keepUnlessError_1 rfl (fun hc => ?_) (fun hc => ?_)
  · have hf := ifp hc hf
    refine z_aload_n 0 C dX2_keepUnlessError_6 rfl ?_
    refine z_aload_n 0 C dX2_keepUnlessError_7 rfl ?_
    refine gf_X2_38 0 C dX2_keepUnlessError_8 rfl rfl ?_
    refine z_iconst (v := 1) C dX2_keepUnlessError_11 kc_1 ?_
    refine z_iadd C dX2_keepUnlessError_12 ?_
    refine z_bipush (v := 7) C dX2_keepUnlessError_13 kb_7 ?_
    refine z_irem C dX2_keepUnlessError_15 (by decide) ?_
    obtain ⟨ff1, e2, hf⟩ := nm_g hf
    refine pf_X2_38 (ws' := (FW (gk G) ad nr nf tr tf co pf hi sl sv ff1)) 0 C dX2_keepUnlessError_16 rfl (Nat.le_of_ble_eq_true rfl) (by subst e2; rfl) ?_
    refine z_aload_n 0 C dX2_keepUnlessError_19 rfl ?_
    refine z_bipush (v := 6) C dX2_keepUnlessError_20 kb_6 ?_
    refine z_aload_n 0 C dX2_keepUnlessError_22 rfl ?_
    refine gf_X2_42 0 C dX2_keepUnlessError_23 rfl rfl ?_
    refine z_iconst (v := 1) C dX2_keepUnlessError_26 kc_1 ?_
    refine z_iadd C dX2_keepUnlessError_27 ?_
    refine z_mmin C dX2_keepUnlessError_28 wm_X2_150 (by decide) (Nat.le_of_ble_eq_true rfl) ?_
    obtain ⟨ff3, e4, hf⟩ := nm_g hf
    refine pf_X2_42 (ws' := (FW (gk G) ad nr nf tr tf co pf hi sl sv ff3)) 0 C dX2_keepUnlessError_31 rfl (Nat.le_of_ble_eq_true rfl) (by subst e4; rfl) ?_
    refine z_iload_n 1 C dX2_keepUnlessError_34 rfl ?_
    cases hf
    exact z_iret C dX2_keepUnlessError_35 F
  have hf := ifn hc hf
  refine z_iload_n 1 C dX2_keepUnlessError_4 rfl ?_
  cases hf
  exact z_iret C dX2_keepUnlessError_5 F
set_option maxHeartbeats 400000 in
set_option maxRecDepth 100000 in
theorem c_X2_set {l : Launch} {D : va_G} {cs : ClassId × ClassId × ClassId} (ad : Nat → Nat) (a1 : Int32) (a2 : Int32) (nr : zA) (nf : zA) (tr : zA) (tf : zA) (co : zA) (pf : zA) (hi : Nat → zA) (sl : Nat → zA) (sv : zA) (ff : zA) {v : Int32} {nr' : zA} {hi' : Nat → zA} {ff' : zA} (e : f_X2_set a1 a2 nr hi ff = some (v, nr', hi', ff')) : zM l D cs yX2_set cX2_set 3 (some .int) 3 [.ref (ad 0), .int a1, .int a2] (FW cs ad nr nf tr tf co pf hi sl sv ff) v (FW cs ad nr' nf tr tf co pf hi' sl sv ff') := by
  refine zM_of (show plainName RX2 = true by decide +kernel) (Nat.le_of_ble_eq_true rfl) ?_
  rintro G rfl rfl rfl C F
  have hf := e
  clear e
  unfold f_X2_set at hf
  show zV G 3 0 [(0, .ref (ad 0)), (1, .int a1), (2, .int a2)] [] (FW (gk G) ad nr nf tr tf co pf hi sl sv ff)
  refine z_aload_n 0 C dX2_set_0 rfl ?_
  obtain ⟨hi1, e2, hf⟩ := b1_e hf
  refine z_callVvs (st := []) C dX2_set_1 w_X2_45 (c_X2_noteState ad nr nf tr tf co pf hi sl sv ff e2) (by decide) (FWf _ _ _ _ _ _ _ _ _ _ _ _ _ _ _ _ _ _ _ _ _ _) rfl rfl rfl rfl (Nat.le_of_ble_eq_true rfl) ?_
  refine z_aload_n 0 C dX2_set_4 rfl ?_
  refine z_aload_n 0 C dX2_set_5 rfl ?_
  refine gf_X2_12 0 C dX2_set_6 rfl rfl ?_
  refine z_iload_n 1 C dX2_set_9 rfl ?_
  refine z_iload_n 2 C dX2_set_10 rfl ?_
  obtain ⟨v3, nr4, e5, hf⟩ := b2_e hf
  refine z_callV (st := [.ref (ad 0)]) (ws2 := (FW (gk G) ad nr4 nf tr tf co pf hi1 sl sv ff)) [1, 2, 3] C dX2_set_11 w_X2_48 (c_X0_changeSetting (ad 1) (ad 2) (ad 3) a1 a2 nr nf e5) (by decide) rfl rfl rfl rfl rfl rfl rfl (Nat.le_of_ble_eq_true rfl) rfl ?_
  obtain ⟨v6, ff7, e8, hf⟩ := b2_e hf
  refine z_callVs (st := []) C dX2_set_14 w_X2_52 (c_X2_keepUnlessError ad v3 nr4 nf tr tf co pf hi1 sl sv ff e8) (by decide) (FWf _ _ _ _ _ _ _ _ _ _ _ _ _ _ _ _ _ _ _ _ _ _) rfl rfl rfl rfl (Nat.le_of_ble_eq_true rfl) ?_
  cases hf
  exact z_iret C dX2_set_17 F
set_option maxHeartbeats 400000 in
set_option maxRecDepth 100000 in
theorem c_X2_board {l : Launch} {D : va_G} {cs : ClassId × ClassId × ClassId} (ad : Nat → Nat) (a1 : Int32) (a2 : Int32) (a3 : Int32) (nr : zA) (nf : zA) (tr : zA) (tf : zA) (co : zA) (pf : zA) (hi : Nat → zA) (sl : Nat → zA) (sv : zA) (ff : zA) {v : Int32} {nr' : zA} {hi' : Nat → zA} {ff' : zA} (e : f_X2_board a1 a2 a3 nr hi ff = some (v, nr', hi', ff')) : zM l D cs yX2_board cX2_board 4 (some .int) 3 [.ref (ad 0), .int a1, .int a2, .int a3] (FW cs ad nr nf tr tf co pf hi sl sv ff) v (FW cs ad nr' nf tr tf co pf hi' sl sv ff') := by
  refine zM_of (show plainName RX2 = true by decide +kernel) (Nat.le_of_ble_eq_true rfl) ?_
  rintro G rfl rfl rfl C F
  have hf := e
  clear e
  unfold f_X2_board at hf
  show zV G 4 0 [(0, .ref (ad 0)), (1, .int a1), (2, .int a2), (3, .int a3)] [] (FW (gk G) ad nr nf tr tf co pf hi sl sv ff)
  refine z_aload_n 0 C dX2_board_0 rfl ?_
  obtain ⟨hi1, e2, hf⟩ := b1_e hf
  refine z_callVvs (st := []) C dX2_board_1 w_X2_45 (c_X2_noteState ad nr nf tr tf co pf hi sl sv ff e2) (by decide) (FWf _ _ _ _ _ _ _ _ _ _ _ _ _ _ _ _ _ _ _ _ _ _) rfl rfl rfl rfl (Nat.le_of_ble_eq_true rfl) ?_
  refine z_aload_n 0 C dX2_board_4 rfl ?_
  refine z_aload_n 0 C dX2_board_5 rfl ?_
  refine gf_X2_12 0 C dX2_board_6 rfl rfl ?_
  refine z_iload_n 1 C dX2_board_9 rfl ?_
  refine z_iload_n 2 C dX2_board_10 rfl ?_
  refine z_iload_n 3 C dX2_board_11 rfl ?_
  obtain ⟨v3, nr4, e5, hf⟩ := b2_e hf
  refine z_callV (st := [.ref (ad 0)]) (ws2 := (FW (gk G) ad nr4 nf tr tf co pf hi1 sl sv ff)) [1, 2, 3] C dX2_board_12 w_X2_56 (c_X0_addBoard (ad 1) (ad 2) (ad 3) a1 a2 a3 nr nf e5) (by decide) rfl rfl rfl rfl rfl rfl rfl (Nat.le_of_ble_eq_true rfl) rfl ?_
  obtain ⟨v6, ff7, e8, hf⟩ := b2_e hf
  refine z_callVs (st := []) C dX2_board_15 w_X2_52 (c_X2_keepUnlessError ad v3 nr4 nf tr tf co pf hi1 sl sv ff e8) (by decide) (FWf _ _ _ _ _ _ _ _ _ _ _ _ _ _ _ _ _ _ _ _ _ _) rfl rfl rfl rfl (Nat.le_of_ble_eq_true rfl) ?_
  cases hf
  exact z_iret C dX2_board_18 F
set_option maxHeartbeats 400000 in
set_option maxRecDepth 100000 in
theorem c_X2_load {l : Launch} {D : va_G} {cs : ClassId × ClassId × ClassId} (ad : Nat → Nat) (a1 : Int32) (a2 : Int32) (nr : zA) (nf : zA) (tr : zA) (tf : zA) (co : zA) (pf : zA) (hi : Nat → zA) (sl : Nat → zA) (sv : zA) (ff : zA) {v : Int32} {nr' : zA} {hi' : Nat → zA} {ff' : zA} (e : f_X2_load a1 a2 nr hi ff = some (v, nr', hi', ff')) : zM l D cs yX2_load cX2_load 3 (some .int) 3 [.ref (ad 0), .int a1, .int a2] (FW cs ad nr nf tr tf co pf hi sl sv ff) v (FW cs ad nr' nf tr tf co pf hi' sl sv ff') := by
  refine zM_of (show plainName RX2 = true by decide +kernel) (Nat.le_of_ble_eq_true rfl) ?_
  rintro G rfl rfl rfl C F
  have hf := e
  clear e
  unfold f_X2_load at hf
  show zV G 3 0 [(0, .ref (ad 0)), (1, .int a1), (2, .int a2)] [] (FW (gk G) ad nr nf tr tf co pf hi sl sv ff)
  refine z_aload_n 0 C dX2_load_0 rfl ?_
  obtain ⟨hi1, e2, hf⟩ := b1_e hf
  refine z_callVvs (st := []) C dX2_load_1 w_X2_45 (c_X2_noteState ad nr nf tr tf co pf hi sl sv ff e2) (by decide) (FWf _ _ _ _ _ _ _ _ _ _ _ _ _ _ _ _ _ _ _ _ _ _) rfl rfl rfl rfl (Nat.le_of_ble_eq_true rfl) ?_
  refine z_aload_n 0 C dX2_load_4 rfl ?_
  refine z_aload_n 0 C dX2_load_5 rfl ?_
  refine gf_X2_12 0 C dX2_load_6 rfl rfl ?_
  refine z_iload_n 1 C dX2_load_9 rfl ?_
  refine z_iload_n 2 C dX2_load_10 rfl ?_
  obtain ⟨v3, nr4, e5, hf⟩ := b2_e hf
  refine z_callV (st := [.ref (ad 0)]) (ws2 := (FW (gk G) ad nr4 nf tr tf co pf hi1 sl sv ff)) [1, 2, 3] C dX2_load_11 w_X2_60 (c_X0_addLoad (ad 1) (ad 2) (ad 3) a1 a2 nr nf e5) (by decide) rfl rfl rfl rfl rfl rfl rfl (Nat.le_of_ble_eq_true rfl) rfl ?_
  obtain ⟨v6, ff7, e8, hf⟩ := b2_e hf
  refine z_callVs (st := []) C dX2_load_14 w_X2_52 (c_X2_keepUnlessError ad v3 nr4 nf tr tf co pf hi1 sl sv ff e8) (by decide) (FWf _ _ _ _ _ _ _ _ _ _ _ _ _ _ _ _ _ _ _ _ _ _) rfl rfl rfl rfl (Nat.le_of_ble_eq_true rfl) ?_
  cases hf
  exact z_iret C dX2_load_17 F
set_option maxHeartbeats 400000 in
set_option maxRecDepth 100000 in
theorem c_X2_turn {l : Launch} {D : va_G} {cs : ClassId × ClassId × ClassId} (ad : Nat → Nat) (a1 : Int32) (nr : zA) (nf : zA) (tr : zA) (tf : zA) (co : zA) (pf : zA) (hi : Nat → zA) (sl : Nat → zA) (sv : zA) (ff : zA) {v : Int32} {nr' : zA} {hi' : Nat → zA} {ff' : zA} (e : f_X2_turn a1 nr hi ff = some (v, nr', hi', ff')) : zM l D cs yX2_turn cX2_turn 2 (some .int) 3 [.ref (ad 0), .int a1] (FW cs ad nr nf tr tf co pf hi sl sv ff) v (FW cs ad nr' nf tr tf co pf hi' sl sv ff') := by
  refine zM_of (show plainName RX2 = true by decide +kernel) (Nat.le_of_ble_eq_true rfl) ?_
  rintro G rfl rfl rfl C F
  have hf := e
  clear e
  unfold f_X2_turn at hf
  show zV G 2 0 [(0, .ref (ad 0)), (1, .int a1)] [] (FW (gk G) ad nr nf tr tf co pf hi sl sv ff)
  refine z_aload_n 0 C dX2_turn_0 rfl ?_
  obtain ⟨hi1, e2, hf⟩ := b1_e hf
  refine z_callVvs (st := []) C dX2_turn_1 w_X2_45 (c_X2_noteState ad nr nf tr tf co pf hi sl sv ff e2) (by decide) (FWf _ _ _ _ _ _ _ _ _ _ _ _ _ _ _ _ _ _ _ _ _ _) rfl rfl rfl rfl (Nat.le_of_ble_eq_true rfl) ?_
  refine z_aload_n 0 C dX2_turn_4 rfl ?_
  refine z_aload_n 0 C dX2_turn_5 rfl ?_
  refine gf_X2_12 0 C dX2_turn_6 rfl rfl ?_
  refine z_iload_n 1 C dX2_turn_9 rfl ?_
  obtain ⟨v3, nr4, e5, hf⟩ := b2_e hf
  refine z_callV (st := [.ref (ad 0)]) (ws2 := (FW (gk G) ad nr4 nf tr tf co pf hi1 sl sv ff)) [1, 2, 3] C dX2_turn_10 w_X2_63 (c_X0_switchLoad (ad 1) (ad 2) (ad 3) a1 nr nf e5) (by decide) rfl rfl rfl rfl rfl rfl rfl (Nat.le_of_ble_eq_true rfl) rfl ?_
  obtain ⟨v6, ff7, e8, hf⟩ := b2_e hf
  refine z_callVs (st := []) C dX2_turn_13 w_X2_52 (c_X2_keepUnlessError ad v3 nr4 nf tr tf co pf hi1 sl sv ff e8) (by decide) (FWf _ _ _ _ _ _ _ _ _ _ _ _ _ _ _ _ _ _ _ _ _ _) rfl rfl rfl rfl (Nat.le_of_ble_eq_true rfl) ?_
  cases hf
  exact z_iret C dX2_turn_16 F
set_option maxHeartbeats 400000 in
set_option maxRecDepth 100000 in
theorem c_X2_fuse {l : Launch} {D : va_G} {cs : ClassId × ClassId × ClassId} (ad : Nat → Nat) (a1 : Int32) (a2 : Int32) (a3 : Int32) (nr : zA) (nf : zA) (tr : zA) (tf : zA) (co : zA) (pf : zA) (hi : Nat → zA) (sl : Nat → zA) (sv : zA) (ff : zA) {v : Int32} {nr' : zA} {hi' : Nat → zA} {ff' : zA} (e : f_X2_fuse a1 a2 a3 nr hi ff = some (v, nr', hi', ff')) : zM l D cs yX2_fuse cX2_fuse 4 (some .int) 3 [.ref (ad 0), .int a1, .int a2, .int a3] (FW cs ad nr nf tr tf co pf hi sl sv ff) v (FW cs ad nr' nf tr tf co pf hi' sl sv ff') := by
  refine zM_of (show plainName RX2 = true by decide +kernel) (Nat.le_of_ble_eq_true rfl) ?_
  rintro G rfl rfl rfl C F
  have hf := e
  clear e
  unfold f_X2_fuse at hf
  show zV G 4 0 [(0, .ref (ad 0)), (1, .int a1), (2, .int a2), (3, .int a3)] [] (FW (gk G) ad nr nf tr tf co pf hi sl sv ff)
  refine z_aload_n 0 C dX2_fuse_0 rfl ?_
  obtain ⟨hi1, e2, hf⟩ := b1_e hf
  refine z_callVvs (st := []) C dX2_fuse_1 w_X2_45 (c_X2_noteState ad nr nf tr tf co pf hi sl sv ff e2) (by decide) (FWf _ _ _ _ _ _ _ _ _ _ _ _ _ _ _ _ _ _ _ _ _ _) rfl rfl rfl rfl (Nat.le_of_ble_eq_true rfl) ?_
  refine z_aload_n 0 C dX2_fuse_4 rfl ?_
  refine z_aload_n 0 C dX2_fuse_5 rfl ?_
  refine gf_X2_12 0 C dX2_fuse_6 rfl rfl ?_
  refine z_iload_n 1 C dX2_fuse_9 rfl ?_
  refine z_iload_n 2 C dX2_fuse_10 rfl ?_
  refine z_iload_n 3 C dX2_fuse_11 rfl ?_
  obtain ⟨v3, nr4, e5, hf⟩ := b2_e hf
  refine z_callV (st := [.ref (ad 0)]) (ws2 := (FW (gk G) ad nr4 nf tr tf co pf hi1 sl sv ff)) [1, 2, 3] C dX2_fuse_12 w_X2_66 (c_X0_changeFuse (ad 1) (ad 2) (ad 3) a1 a2 a3 nr nf e5) (by decide) rfl rfl rfl rfl rfl rfl rfl (Nat.le_of_ble_eq_true rfl) rfl ?_
  obtain ⟨v6, ff7, e8, hf⟩ := b2_e hf
  refine z_callVs (st := []) C dX2_fuse_15 w_X2_52 (c_X2_keepUnlessError ad v3 nr4 nf tr tf co pf hi1 sl sv ff e8) (by decide) (FWf _ _ _ _ _ _ _ _ _ _ _ _ _ _ _ _ _ _ _ _ _ _) rfl rfl rfl rfl (Nat.le_of_ble_eq_true rfl) ?_
  cases hf
  exact z_iret C dX2_fuse_18 F
set_option maxHeartbeats 400000 in
set_option maxRecDepth 100000 in
theorem c_X2_pass {l : Launch} {D : va_G} {cs : ClassId × ClassId × ClassId} (ad : Nat → Nat) (a1 : Int32) (nr : zA) (nf : zA) (tr : zA) (tf : zA) (co : zA) (pf : zA) (hi : Nat → zA) (sl : Nat → zA) (sv : zA) (ff : zA) {v : Int32} {nr' : zA} {nf' : zA} {hi' : Nat → zA} {ff' : zA} (e : f_X2_pass a1 nr nf hi ff = some (v, nr', nf', hi', ff')) : zM l D cs yX2_pass cX2_pass 2 (some .int) 5 [.ref (ad 0), .int a1] (FW cs ad nr nf tr tf co pf hi sl sv ff) v (FW cs ad nr' nf' tr tf co pf hi' sl sv ff') := by
  refine zM_of (show plainName RX2 = true by decide +kernel) (Nat.le_of_ble_eq_true rfl) ?_
  rintro G rfl rfl rfl C F
  have hf := e
  clear e
  unfold f_X2_pass at hf
  show zV G 2 0 [(0, .ref (ad 0)), (1, .int a1)] [] (FW (gk G) ad nr nf tr tf co pf hi sl sv ff)
  refine z_aload_n 0 C dX2_pass_0 rfl ?_
  obtain ⟨hi1, e2, hf⟩ := b1_e hf
  refine z_callVvs (st := []) C dX2_pass_1 w_X2_45 (c_X2_noteState ad nr nf tr tf co pf hi sl sv ff e2) (by decide) (FWf _ _ _ _ _ _ _ _ _ _ _ _ _ _ _ _ _ _ _ _ _ _) rfl rfl rfl rfl (Nat.le_of_ble_eq_true rfl) ?_
  refine z_aload_n 0 C dX2_pass_4 rfl ?_
  refine z_aload_n 0 C dX2_pass_5 rfl ?_
  refine gf_X2_12 0 C dX2_pass_6 rfl rfl ?_
  refine z_iload_n 1 C dX2_pass_9 rfl ?_
  obtain ⟨v3, nr4, nf5, e6, hf⟩ := b3_e hf
  refine z_callV (st := [.ref (ad 0)]) (ws2 := (FW (gk G) ad nr4 nf5 tr tf co pf hi1 sl sv ff)) [1, 2, 3] C dX2_pass_10 w_X2_69 (c_X0_letPass (ad 1) (ad 2) (ad 3) a1 nr nf e6) (by decide) rfl rfl rfl rfl rfl rfl rfl (Nat.le_of_ble_eq_true rfl) rfl ?_
  obtain ⟨v7, ff8, e9, hf⟩ := b2_e hf
  refine z_callVs (st := []) C dX2_pass_13 w_X2_52 (c_X2_keepUnlessError ad v3 nr4 nf5 tr tf co pf hi1 sl sv ff e9) (by decide) (FWf _ _ _ _ _ _ _ _ _ _ _ _ _ _ _ _ _ _ _ _ _ _) rfl rfl rfl rfl (Nat.le_of_ble_eq_true rfl) ?_
  cases hf
  exact z_iret C dX2_pass_16 F
set_option maxHeartbeats 400000 in
set_option maxRecDepth 100000 in
theorem c_X2_of {l : Launch} {D : va_G} {cs : ClassId × ClassId × ClassId} (ad : Nat → Nat) (a1 : Int32) (a2 : Int32) (nr : zA) (nf : zA) (tr : zA) (tf : zA) (co : zA) (pf : zA) (hi : Nat → zA) (sl : Nat → zA) (sv : zA) (ff : zA) {v : Int32} {nf' : zA} (e : f_X2_of a1 a2 nr nf = some (v, nf')) : zM l D cs yX2_of cX2_of 3 (some .int) 4 [.ref (ad 0), .int a1, .int a2] (FW cs ad nr nf tr tf co pf hi sl sv ff) v (FW cs ad nr nf' tr tf co pf hi sl sv ff) := by
  refine zM_of (show plainName RX2 = true by decide +kernel) (Nat.le_of_ble_eq_true rfl) ?_
  rintro G rfl rfl rfl C F
  have hf := e
  clear e
  unfold f_X2_of at hf
  show zV G 3 0 [(0, .ref (ad 0)), (1, .int a1), (2, .int a2)] [] (FW (gk G) ad nr nf tr tf co pf hi sl sv ff)
  refine z_aload_n 0 C dX2_of_0 rfl ?_
  refine gf_X2_12 0 C dX2_of_1 rfl rfl ?_
  refine z_iload_n 1 C dX2_of_4 rfl ?_
  obtain ⟨v1, e2, hf⟩ := b1_e hf
  refine z_callV (st := []) (ws2 := (FW (gk G) ad nr nf tr tf co pf hi sl sv ff)) [1, 2, 3] C dX2_of_5 w_X2_72 (c_X0_isBoard (ad 1) (ad 2) (ad 3) a1 nr nf e2) (by decide) rfl rfl rfl rfl rfl rfl rfl (Nat.le_of_ble_eq_true rfl) rfl ?_
  refine z_if_ne (tgt := 13) C dX2_of_8 rfl (fun hc => ?_) (fun hc => ?_)
  · have hf := ifn hc hf
    refine z_aload_n 0 C dX2_of_13 rfl ?_
    refine gf_X2_12 0 C dX2_of_14 rfl rfl ?_
    refine z_iload_n 1 C dX2_of_17 rfl ?_
    refine z_iload_n 2 C dX2_of_18 rfl ?_
    obtain ⟨v3, nf4, e5, hf⟩ := b2_e hf
    refine z_callV (st := []) (ws2 := (FW (gk G) ad nr nf4 tr tf co pf hi sl sv ff)) [1, 2, 3] C dX2_of_19 w_X2_76 (c_X0_aboutBoard (ad 1) (ad 2) (ad 3) a1 a2 nr nf e5) (by decide) rfl rfl rfl rfl rfl rfl rfl (Nat.le_of_ble_eq_true rfl) rfl ?_
    cases hf
    exact z_iret C dX2_of_22 F
  have hf := ifp hc hf
  refine z_iconst (v := -1) C dX2_of_11 kc_m1 ?_
  cases hf
  exact z_iret C dX2_of_12 F
set_option maxHeartbeats 400000 in
set_option maxRecDepth 100000 in
theorem c_X2_ofLoad {l : Launch} {D : va_G} {cs : ClassId × ClassId × ClassId} (ad : Nat → Nat) (a1 : Int32) (a2 : Int32) (nr : zA) (nf : zA) (tr : zA) (tf : zA) (co : zA) (pf : zA) (hi : Nat → zA) (sl : Nat → zA) (sv : zA) (ff : zA) {v : Int32}  (e : f_X2_ofLoad a1 a2 nr = some v) : zM l D cs yX2_ofLoad cX2_ofLoad 3 (some .int) 3 [.ref (ad 0), .int a1, .int a2] (FW cs ad nr nf tr tf co pf hi sl sv ff) v (FW cs ad nr nf tr tf co pf hi sl sv ff) := by
  refine zM_of (show plainName RX2 = true by decide +kernel) (Nat.le_of_ble_eq_true rfl) ?_
  rintro G rfl rfl rfl C F
  have hf := e
  clear e
  unfold f_X2_ofLoad at hf
  show zV G 3 0 [(0, .ref (ad 0)), (1, .int a1), (2, .int a2)] [] (FW (gk G) ad nr nf tr tf co pf hi sl sv ff)
  refine z_aload_n 0 C dX2_ofLoad_0 rfl ?_
  refine gf_X2_12 0 C dX2_ofLoad_1 rfl rfl ?_
  refine z_iload_n 1 C dX2_ofLoad_4 rfl ?_
  obtain ⟨v1, e2, hf⟩ := b1_e hf
  refine z_callV (st := []) (ws2 := (FW (gk G) ad nr nf tr tf co pf hi sl sv ff)) [1, 2, 3] C dX2_ofLoad_5 w_X2_79 (c_X0_isLoad (ad 1) (ad 2) (ad 3) a1 nr nf e2) (by decide) rfl rfl rfl rfl rfl rfl rfl (Nat.le_of_ble_eq_true rfl) rfl ?_
  refine z_if_ne (tgt := 13) C dX2_ofLoad_8 rfl (fun hc => ?_) (fun hc => ?_)
  · have hf := ifn hc hf
    refine z_aload_n 0 C dX2_ofLoad_13 rfl ?_
    refine gf_X2_12 0 C dX2_ofLoad_14 rfl rfl ?_
    refine z_iload_n 1 C dX2_ofLoad_17 rfl ?_
    refine z_iload_n 2 C dX2_ofLoad_18 rfl ?_
    obtain ⟨v3, e4, hf⟩ := b1_e hf
    refine z_callV (st := []) (ws2 := (FW (gk G) ad nr nf tr tf co pf hi sl sv ff)) [1, 2, 3] C dX2_ofLoad_19 w_X2_82 (c_X0_aboutLoad (ad 1) (ad 2) (ad 3) a1 a2 nr nf e4) (by decide) rfl rfl rfl rfl rfl rfl rfl (Nat.le_of_ble_eq_true rfl) rfl ?_
    cases hf
    exact z_iret C dX2_ofLoad_22 F
  have hf := ifp hc hf
  refine z_iconst (v := -1) C dX2_ofLoad_11 kc_m1 ?_
  cases hf
  exact z_iret C dX2_ofLoad_12 F
set_option maxHeartbeats 400000 in
set_option maxRecDepth 100000 in
theorem c_X2_fed {l : Launch} {D : va_G} {cs : ClassId × ClassId × ClassId} (ad : Nat → Nat) (a1 : Int32) (nr : zA) (nf : zA) (tr : zA) (tf : zA) (co : zA) (pf : zA) (hi : Nat → zA) (sl : Nat → zA) (sv : zA) (ff : zA) {v : Int32}  (e : f_X2_fed a1 nr = some v) : zM l D cs yX2_fed cX2_fed 2 (some .int) 2 [.ref (ad 0), .int a1] (FW cs ad nr nf tr tf co pf hi sl sv ff) v (FW cs ad nr nf tr tf co pf hi sl sv ff) := by
  refine zM_of (show plainName RX2 = true by decide +kernel) (Nat.le_of_ble_eq_true rfl) ?_
  rintro G rfl rfl rfl C F
  have hf := e
  clear e
  unfold f_X2_fed at hf
  show zV G 2 0 [(0, .ref (ad 0)), (1, .int a1)] [] (FW (gk G) ad nr nf tr tf co pf hi sl sv ff)
  refine z_aload_n 0 C dX2_fed_0 rfl ?_
  refine gf_X2_12 0 C dX2_fed_1 rfl rfl ?_
  refine z_iload_n 1 C dX2_fed_4 rfl ?_
  obtain ⟨v1, e2, hf⟩ := b1_e hf
  refine z_callV (st := []) (ws2 := (FW (gk G) ad nr nf tr tf co pf hi sl sv ff)) [1, 2, 3] C dX2_fed_5 w_X2_72 (c_X0_isBoard (ad 1) (ad 2) (ad 3) a1 nr nf e2) (by decide) rfl rfl rfl rfl rfl rfl rfl (Nat.le_of_ble_eq_true rfl) rfl ?_
  refine z_if_ne (tgt := 13) C dX2_fed_8 rfl (fun hc => ?_) (fun hc => ?_)
  · have hf := ifn hc hf
    refine z_aload_n 0 C dX2_fed_13 rfl ?_
    refine gf_X2_12 0 C dX2_fed_14 rfl rfl ?_
    refine z_iload_n 1 C dX2_fed_17 rfl ?_
    obtain ⟨v3, e4, hf⟩ := b1_e hf
    refine z_callV (st := []) (ws2 := (FW (gk G) ad nr nf tr tf co pf hi sl sv ff)) [1, 2, 3] C dX2_fed_18 w_X2_85 (c_X0_fedThrough (ad 1) (ad 2) (ad 3) a1 nr nf e4) (by decide) rfl rfl rfl rfl rfl rfl rfl (Nat.le_of_ble_eq_true rfl) rfl ?_
    cases hf
    exact z_iret C dX2_fed_21 F
  have hf := ifp hc hf
  refine z_iconst (v := -1) C dX2_fed_11 kc_m1 ?_
  cases hf
  exact z_iret C dX2_fed_12 F
set_option maxHeartbeats 400000 in
set_option maxRecDepth 100000 in
theorem c_X2_blown {l : Launch} {D : va_G} {cs : ClassId × ClassId × ClassId} (ad : Nat → Nat) (a1 : Int32) (nr : zA) (nf : zA) (tr : zA) (tf : zA) (co : zA) (pf : zA) (hi : Nat → zA) (sl : Nat → zA) (sv : zA) (ff : zA) {v : Int32}  (e : f_X2_blown a1 nr = some v) : zM l D cs yX2_blown cX2_blown 2 (some .int) 1 [.ref (ad 0), .int a1] (FW cs ad nr nf tr tf co pf hi sl sv ff) v (FW cs ad nr nf tr tf co pf hi sl sv ff) := by
  refine zM_of (show plainName RX2 = true by decide +kernel) (Nat.le_of_ble_eq_true rfl) ?_
  rintro G rfl rfl rfl C F
  have hf := e
  clear e
  unfold f_X2_blown at hf
  show zV G 2 0 [(0, .ref (ad 0)), (1, .int a1)] [] (FW (gk G) ad nr nf tr tf co pf hi sl sv ff)
  refine z_aload_n 0 C dX2_blown_0 rfl ?_
  refine gf_X2_12 0 C dX2_blown_1 rfl rfl ?_
  refine z_iload_n 1 C dX2_blown_4 rfl ?_
  obtain ⟨v1, e2, hf⟩ := b1_e hf
  refine z_callV (st := []) (ws2 := (FW (gk G) ad nr nf tr tf co pf hi sl sv ff)) [1, 2, 3] C dX2_blown_5 w_X2_88 (c_X0_latestBlown (ad 1) (ad 2) (ad 3) a1 nr nf e2) (by decide) rfl rfl rfl rfl rfl rfl rfl (Nat.le_of_ble_eq_true rfl) rfl ?_
  cases hf
  exact z_iret C dX2_blown_8 F
set_option maxHeartbeats 400000 in
set_option maxRecDepth 100000 in
theorem c_X2_count {l : Launch} {D : va_G} {cs : ClassId × ClassId × ClassId} (ad : Nat → Nat) (a1 : Int32) (nr : zA) (nf : zA) (tr : zA) (tf : zA) (co : zA) (pf : zA) (hi : Nat → zA) (sl : Nat → zA) (sv : zA) (ff : zA) {v : Int32} {nf' : zA} (e : f_X2_count a1 nr nf pf ff = some (v, nf')) : zM l D cs yX2_count cX2_count 2 (some .int) 4 [.ref (ad 0), .int a1] (FW cs ad nr nf tr tf co pf hi sl sv ff) v (FW cs ad nr nf' tr tf co pf hi sl sv ff) := by
  refine zM_of (show plainName RX2 = true by decide +kernel) (Nat.le_of_ble_eq_true rfl) ?_
  rintro G rfl rfl rfl C F
  have hf := e
  clear e
  unfold f_X2_count at hf
  show zV G 2 0 [(0, .ref (ad 0)), (1, .int a1)] [] (FW (gk G) ad nr nf tr tf co pf hi sl sv ff)
  refine z_iload_n 1 C dX2_count_0 rfl ?_
  refine z_bipush (v := 12) C dX2_count_1 kb_12 ?_
  refine z_icmp_ne (tgt := 14) C dX2_count_3 rfl (fun hc => ?_) (fun hc => ?_)
  · have hf := ifn hc hf
    refine z_iload_n 1 C dX2_count_14 rfl ?_
    refine z_bipush (v := 13) C dX2_count_15 kb_13 ?_
    refine z_icmp_ne (tgt := 25) C dX2_count_17 rfl (fun hc => ?_) (fun hc => ?_)
    · have hf := ifn hc hf
      refine z_aload_n 0 C dX2_count_25 rfl ?_
      refine gf_X2_12 0 C dX2_count_26 rfl rfl ?_
      refine z_iload_n 1 C dX2_count_29 rfl ?_
      obtain ⟨v1, nf2, e3, hf⟩ := b2_e hf
      refine z_callV (st := []) (ws2 := (FW (gk G) ad nr nf2 tr tf co pf hi sl sv ff)) [1, 2, 3] C dX2_count_30 w_X2_95 (c_X0_aboutHouse (ad 1) (ad 2) (ad 3) a1 nr nf e3) (by decide) rfl rfl rfl rfl rfl rfl rfl (Nat.le_of_ble_eq_true rfl) rfl ?_
      cases hf
      exact z_iret C dX2_count_33 F
    have hf := ifp hc hf
    refine z_aload_n 0 C dX2_count_20 rfl ?_
    refine gf_X2_42 0 C dX2_count_21 rfl rfl ?_
    cases hf
    exact z_iret C dX2_count_24 F
  have hf := ifp hc hf
  refine z_aload_n 0 C dX2_count_6 rfl ?_
  refine gf_X2_22 0 C dX2_count_7 rfl rfl ?_
  obtain ⟨v4, e5, hf⟩ := b1_e hf
  refine z_callV (st := []) (ws2 := (FW (gk G) ad nr nf tr tf co pf hi sl sv ff)) [7, 8] C dX2_count_10 w_X2_91 (c_X1_length (ad 7) (ad 8) co pf e5) (by decide) rfl rfl rfl rfl rfl rfl rfl (Nat.le_of_ble_eq_true rfl) rfl ?_
  cases hf
  exact z_iret C dX2_count_13 F
set_option maxHeartbeats 400000 in
set_option maxRecDepth 100000 in
theorem c_X2_isTrialQuestion {l : Launch} {D : va_G} {cs : ClassId × ClassId × ClassId}  (a0 : Int32)  {v : Int32}  (e : f_X2_isTrialQuestion a0 = some v) : zM l D cs yX2_isTrialQuestion cX2_isTrialQuestion 1 (some .boolean) 0 [.int a0] ([] : va_W) v ([] : va_W) := by
  refine zM_of (show plainName RX2 = true by decide +kernel) (Nat.le_of_ble_eq_true rfl) ?_
  rintro G rfl rfl rfl C F
  have hf := e
  clear e
  unfold f_X2_isTrialQuestion at hf
  show zV G 1 0 [(0, .int a0)] [] ([] : va_W)
  refine z_iload_n 0 C dX2_isTrialQuestion_0 rfl ?_
  refine z_if_eq (tgt := 9) C dX2_isTrialQuestion_1 rfl (fun hc => ?_) (fun hc => ?_)
  · have hf := ifp hc hf
    refine z_iconst (v := 1) C dX2_isTrialQuestion_9 kc_1 ?_
    refine z_goto (tgt := 14) C dX2_isTrialQuestion_10 rfl ?_
    cases hf
    exact z_zret C dX2_isTrialQuestion_14 rfl F
  have hf := ifn hc hf
  refine z_iload_n 0 C dX2_isTrialQuestion_4 rfl ?_
  refine z_iconst (v := 1) C dX2_isTrialQuestion_5 kc_1 ?_
  refine z_icmp_ne (tgt := 13) C dX2_isTrialQuestion_6 rfl (fun hc => ?_) (fun hc => ?_)
  · have hf := ifn hc hf
    refine z_iconst (v := 0) C dX2_isTrialQuestion_13 kc_0 ?_
    cases hf
    exact z_zret C dX2_isTrialQuestion_14 rfl F
  have hf := ifp hc hf
  refine z_iconst (v := 1) C dX2_isTrialQuestion_9 kc_1 ?_
  refine z_goto (tgt := 14) C dX2_isTrialQuestion_10 rfl ?_
  cases hf
  exact z_zret C dX2_isTrialQuestion_14 rfl F
set_option maxHeartbeats 400000 in
set_option maxRecDepth 100000 in
theorem tb_X2_lowest_2 {G : GT}   {v : Int32}  (C : zC G cX2_lowest 2 RX2 (some .int) 0) (F : zF G (some (.int v)) ([] : va_W)) : ∀ (n : Nat) (l0 : Int32) (l1 : Int32), B_X2_lowest_2 n l0 l1 = some v → zV G 2 2 [(0, .int l0), (1, .int l1)] [] ([] : va_W) := by
  intro n
  induction n with
  | zero => intro _ _ hf; rw [B_X2_lowest_2] at hf; cases hf
  | succ n ih =>
    intro l0 l1 hf
    rw [B_X2_lowest_2] at hf
    refine z_iload_n 1 C dX2_lowest_2 rfl ?_
    refine z_bipush (v := 9) C dX2_lowest_3 kb_9 ?_
    refine z_icmp_ge (tgt := 22) C dX2_lowest_5 rfl (fun hc => ?_) (fun hc => ?_)
    · have hf := ifp hc hf
      refine z_iload_n 1 C dX2_lowest_22 rfl ?_
      cases hf
      exact z_iret C dX2_lowest_23 F
    have hf := ifn hc hf
    refine z_iload_n 0 C dX2_lowest_8 rfl ?_
    refine z_iload_n 1 C dX2_lowest_9 rfl ?_
    refine z_ishr C dX2_lowest_10 ?_
    refine z_iconst (v := 1) C dX2_lowest_11 kc_1 ?_
    refine z_iand C dX2_lowest_12 ?_
    refine z_if_ne (tgt := 22) C dX2_lowest_13 rfl (fun hc => ?_) (fun hc => ?_)
    · have hf := ifn hc hf
      refine z_iload_n 1 C dX2_lowest_22 rfl ?_
      cases hf
      exact z_iret C dX2_lowest_23 F
    have hf := ifp hc hf
    obtain ⟨x1, e2, hf⟩ := nm_g hf
    refine z_iinc (ls' := [(1, _), (0, _)]) 1 C dX2_lowest_16 rfl kc_1 e2 (by decide) rfl ?_
    refine z_goto (tgt := 2) C dX2_lowest_19 rfl ?_
    refine z_sub (ls' := [(0, .int l0), (1, .int x1)]) [1, 0] rfl ?_
    exact ih _ _ hf
set_option maxHeartbeats 400000 in
set_option maxRecDepth 100000 in
theorem c_X2_lowest {l : Launch} {D : va_G} {cs : ClassId × ClassId × ClassId}  (a0 : Int32)  {v : Int32}  (e : f_X2_lowest a0 = some v) : zM l D cs yX2_lowest cX2_lowest 2 (some .int) 0 [.int a0] ([] : va_W) v ([] : va_W) := by
  refine zM_of (show plainName RX2 = true by decide +kernel) (Nat.le_of_ble_eq_true rfl) ?_
  rintro G rfl rfl rfl C F
  have hf := e
  clear e
  unfold f_X2_lowest at hf
  show zV G 2 0 [(0, .int a0)] [] ([] : va_W)
  refine z_iconst (v := 0) C dX2_lowest_0 kc_0 ?_
  refine z_istore_n (ls' := [(1, _), (0, _)]) C dX2_lowest_1 (by decide) rfl ?_
  refine z_sub (ls' := [(0, .int a0), (1, .int 0)]) [1, 0] rfl ?_
  exact tb_X2_lowest_2  C F _ _ _ hf
set_option maxHeartbeats 400000 in
set_option maxRecDepth 100000 in
theorem tb_X2_firstBlow_2 {G : GT} (ad : Nat → Nat) (nr : zA) (nf : zA) (co : zA) (pf : zA) (hi : Nat → zA) (sl : Nat → zA) (sv : zA) (ff : zA) {v : Int32} {tr' : zA} {tf' : zA} (C : zC G cX2_firstBlow 4 RX2 (some .int) 4) (F : zF G (some (.int v)) (FW (gk G) ad nr nf tr' tf' co pf hi sl sv ff)) : ∀ (n : Nat) (l1 : Int32) (l2 : Int32) (tr : zA) (tf : zA), B_X2_firstBlow_2 n l1 l2 tr tf = some (v, tr', tf') → zV G 4 2 [(0, .ref (ad 0)), (1, .int l1), (2, .int l2)] [] (FW (gk G) ad nr nf tr tf co pf hi sl sv ff) := by
  intro n
  induction n with
  | zero => intro _ _ _ _ hf; rw [B_X2_firstBlow_2] at hf; cases hf
  | succ n ih =>
    intro l1 l2 tr tf hf
    rw [B_X2_firstBlow_2] at hf
    refine z_iload_n 2 C dX2_firstBlow_2 rfl ?_
    refine z_sipush (v := 200) C dX2_firstBlow_3 ks_200 ?_
    refine z_icmp_gt (tgt := 40) C dX2_firstBlow_6 rfl (fun hc => ?_) (fun hc => ?_)
    · have hf := ifp hc hf
      refine z_bipush (v := -6) C dX2_firstBlow_40 kb_m6 ?_
      cases hf
      exact z_iret C dX2_firstBlow_42 F
    have hf := ifn hc hf
    refine z_aload_n 0 C dX2_firstBlow_9 rfl ?_
    refine gf_X2_16 0 C dX2_firstBlow_10 rfl rfl ?_
    obtain ⟨v1, tr2, tf3, e4, hf⟩ := b3_e hf
    refine z_callV (st := []) (ws2 := (FW (gk G) ad nr nf tr2 tf3 co pf hi sl sv ff)) [4, 5, 6] C dX2_firstBlow_13 w_X2_159 (c_X0_tick (ad 4) (ad 5) (ad 6) tr tf e4) (by decide) rfl rfl rfl rfl rfl rfl rfl (Nat.le_of_ble_eq_true rfl) rfl ?_
    refine z_istore_n (ls' := [(3, _), (0, _), (1, _), (2, _)]) C dX2_firstBlow_16 (by decide) rfl ?_
    refine z_iload_n 0 C dX2_firstBlow_17 rfl ?_
    refine z_if_eq (tgt := 34) C dX2_firstBlow_18 rfl (fun hc => ?_) (fun hc => ?_)
    · have hf := ifp hc hf
      obtain ⟨x5, e6, hf⟩ := nm_g hf
      refine z_iinc (ls' := [(2, _), (3, _), (0, _), (1, _)]) 3 C dX2_firstBlow_34 rfl kc_1 e6 (by decide) rfl ?_
      refine z_goto (tgt := 2) C dX2_firstBlow_37 rfl ?_
      refine z_sub (ls' := [(0, .ref (ad 0)), (1, .int l1), (2, .int x5)]) [2, 3, 0] rfl ?_
      exact ih _ _ _ _ hf
    have hf := ifn hc hf
    refine z_iload_n 2 C dX2_firstBlow_21 rfl ?_
    refine z_if_ne (tgt := 29) C dX2_firstBlow_22 rfl (fun hc => ?_) (fun hc => ?_)
    · have hf := ifn hc hf
      refine z_iload_n 0 C dX2_firstBlow_29 rfl ?_
      obtain ⟨v7, e8, hf⟩ := b1_e hf
      refine z_callS (st := []) (ws2 := (FW (gk G) ad nr nf tr2 tf3 co pf hi sl sv ff)) [] C dX2_firstBlow_30 w_X2_162 (c_X2_lowest v1 e8) (by decide) rfl rfl rfl  rfl rfl (Nat.le_of_ble_eq_true rfl) rfl ?_
      cases hf
      exact z_iret C dX2_firstBlow_33 F
    have hf := ifp hc hf
    refine z_iload_n 3 C dX2_firstBlow_25 rfl ?_
    refine z_goto (tgt := 33) C dX2_firstBlow_26 rfl ?_
    cases hf
    exact z_iret C dX2_firstBlow_33 F
set_option maxHeartbeats 400000 in
set_option maxRecDepth 100000 in
theorem c_X2_firstBlow {l : Launch} {D : va_G} {cs : ClassId × ClassId × ClassId} (ad : Nat → Nat) (a1 : Int32) (nr : zA) (nf : zA) (tr : zA) (tf : zA) (co : zA) (pf : zA) (hi : Nat → zA) (sl : Nat → zA) (sv : zA) (ff : zA) {v : Int32} {tr' : zA} {tf' : zA} (e : f_X2_firstBlow a1 tr tf = some (v, tr', tf')) : zM l D cs yX2_firstBlow cX2_firstBlow 4 (some .int) 4 [.ref (ad 0), .int a1] (FW cs ad nr nf tr tf co pf hi sl sv ff) v (FW cs ad nr nf tr' tf' co pf hi sl sv ff) := by
  refine zM_of (show plainName RX2 = true by decide +kernel) (Nat.le_of_ble_eq_true rfl) ?_
  rintro G rfl rfl rfl C F
  have hf := e
  clear e
  unfold f_X2_firstBlow at hf
  show zV G 4 0 [(0, .ref (ad 0)), (1, .int a1)] [] (FW (gk G) ad nr nf tr tf co pf hi sl sv ff)
  refine z_iconst (v := 1) C dX2_firstBlow_0 kc_1 ?_
  refine z_istore_n (ls' := [(2, _), (0, _), (1, _)]) C dX2_firstBlow_1 (by decide) rfl ?_
  refine z_sub (ls' := [(0, .ref (ad 0)), (1, .int a1), (2, .int 1)]) [1, 2, 0] rfl ?_
  exact tb_X2_firstBlow_2 ad nr nf co pf hi sl sv ff C F _ _ _ _ _ hf
set_option maxHeartbeats 400000 in
set_option maxRecDepth 100000 in
theorem c_X2_next {l : Launch} {D : va_G} {cs : ClassId × ClassId × ClassId} (ad : Nat → Nat) (a1 : Int32) (nr : zA) (nf : zA) (tr : zA) (tf : zA) (co : zA) (pf : zA) (hi : Nat → zA) (sl : Nat → zA) (sv : zA) (ff : zA) {v : Int32} {tr' : zA} {tf' : zA} (e : f_X2_next a1 nr tr tf = some (v, tr', tf')) : zM l D cs yX2_next cX2_next 2 (some .int) 5 [.ref (ad 0), .int a1] (FW cs ad nr nf tr tf co pf hi sl sv ff) v (FW cs ad nr nf tr' tf' co pf hi sl sv ff) := by
  refine zM_of (show plainName RX2 = true by decide +kernel) (Nat.le_of_ble_eq_true rfl) ?_
  rintro G rfl rfl rfl C F
  have hf := e
  clear e
  unfold f_X2_next at hf
  show zV G 2 0 [(0, .ref (ad 0)), (1, .int a1)] [] (FW (gk G) ad nr nf tr tf co pf hi sl sv ff)
  refine z_iload_n 1 C dX2_next_0 rfl ?_
  obtain ⟨v1, e2, hf⟩ := b1_e hf
  refine z_callS (st := []) (ws2 := (FW (gk G) ad nr nf tr tf co pf hi sl sv ff)) [] C dX2_next_1 w_X2_98 (c_X2_isTrialQuestion a1 e2) (by decide) rfl rfl rfl  rfl rfl (Nat.le_of_ble_eq_true rfl) rfl ?_
  refine z_if_ne (tgt := 10) C dX2_next_4 rfl (fun hc => ?_) (fun hc => ?_)
  · have hf := ifn hc hf
    refine z_aload_n 0 C dX2_next_10 rfl ?_
    refine gf_X2_16 0 C dX2_next_11 rfl rfl ?_
    refine z_aload_n 0 C dX2_next_14 rfl ?_
    refine gf_X2_12 0 C dX2_next_15 rfl rfl ?_
    obtain ⟨tr3, e4, hf⟩ := b1_e hf
    refine z_callVv (st := []) (ws2 := (FW (gk G) ad nr nf tr3 tf co pf hi sl sv ff)) [4, 5, 6, 1, 2, 3] C dX2_next_18 w_X2_101 (c_X0_copyFrom (ad 4) (ad 5) (ad 6) (ad 1) (ad 2) (ad 3) tr tf nr nf e4) (by decide) rfl rfl rfl rfl rfl rfl rfl (Nat.le_of_ble_eq_true rfl) rfl ?_
    refine z_aload_n 0 C dX2_next_21 rfl ?_
    refine z_iload_n 1 C dX2_next_22 rfl ?_
    obtain ⟨v5, tr6, tf7, e8, hf⟩ := b3_e hf
    refine z_callVs (st := []) C dX2_next_23 w_X2_105 (c_X2_firstBlow ad a1 nr nf tr3 tf co pf hi sl sv ff e8) (by decide) (FWf _ _ _ _ _ _ _ _ _ _ _ _ _ _ _ _ _ _ _ _ _ _) rfl rfl rfl rfl (Nat.le_of_ble_eq_true rfl) ?_
    cases hf
    exact z_iret C dX2_next_26 F
  have hf := ifp hc hf
  refine z_bipush (v := -2) C dX2_next_7 kb_m2 ?_
  cases hf
  exact z_iret C dX2_next_9 F
set_option maxHeartbeats 400000 in
set_option maxRecDepth 100000 in
theorem c_X2_tryFault {l : Launch} {D : va_G} {cs : ClassId × ClassId × ClassId} (ad : Nat → Nat) (a1 : Int32) (a2 : Int32) (a3 : Int32) (nr : zA) (nf : zA) (tr : zA) (tf : zA) (co : zA) (pf : zA) (hi : Nat → zA) (sl : Nat → zA) (sv : zA) (ff : zA) {v : Int32} {tr' : zA} {tf' : zA} (e : f_X2_tryFault a1 a2 a3 nr tr tf = some (v, tr', tf')) : zM l D cs yX2_tryFault cX2_tryFault 4 (some .int) 5 [.ref (ad 0), .int a1, .int a2, .int a3] (FW cs ad nr nf tr tf co pf hi sl sv ff) v (FW cs ad nr nf tr' tf' co pf hi sl sv ff) := by
  refine zM_of (show plainName RX2 = true by decide +kernel) (Nat.le_of_ble_eq_true rfl) ?_
  rintro G rfl rfl rfl C F
  have hf := e
  clear e
  unfold f_X2_tryFault at hf
  show zV G 4 0 [(0, .ref (ad 0)), (1, .int a1), (2, .int a2), (3, .int a3)] [] (FW (gk G) ad nr nf tr tf co pf hi sl sv ff)
  refine z_aload_n 0 C dX2_tryFault_0 rfl ?_
  refine gf_X2_16 0 C dX2_tryFault_1 rfl rfl ?_
  refine z_aload_n 0 C dX2_tryFault_4 rfl ?_
  refine gf_X2_12 0 C dX2_tryFault_5 rfl rfl ?_
  obtain ⟨tr1, e2, hf⟩ := b1_e hf
  refine z_callVv (st := []) (ws2 := (FW (gk G) ad nr nf tr1 tf co pf hi sl sv ff)) [4, 5, 6, 1, 2, 3] C dX2_tryFault_8 w_X2_101 (c_X0_copyFrom (ad 4) (ad 5) (ad 6) (ad 1) (ad 2) (ad 3) tr tf nr nf e2) (by decide) rfl rfl rfl rfl rfl rfl rfl (Nat.le_of_ble_eq_true rfl) rfl ?_
  refine z_aload_n 0 C dX2_tryFault_11 rfl ?_
  refine gf_X2_16 0 C dX2_tryFault_12 rfl rfl ?_
  refine z_iload_n 1 C dX2_tryFault_15 rfl ?_
  refine z_iload_n 2 C dX2_tryFault_16 rfl ?_
  obtain ⟨tr3, e4, hf⟩ := b1_e hf
  refine z_callVv (st := []) (ws2 := (FW (gk G) ad nr nf tr3 tf co pf hi sl sv ff)) [4, 5, 6] C dX2_tryFault_17 w_X2_155 (c_X0_leaveOnlyFault (ad 4) (ad 5) (ad 6) a1 a2 tr1 tf e4) (by decide) rfl rfl rfl rfl rfl rfl rfl (Nat.le_of_ble_eq_true rfl) rfl ?_
  refine z_aload_n 0 C dX2_tryFault_20 rfl ?_
  refine z_iload_n 3 C dX2_tryFault_21 rfl ?_
  obtain ⟨v5, tr6, tf7, e8, hf⟩ := b3_e hf
  refine z_callVs (st := []) C dX2_tryFault_22 w_X2_105 (c_X2_firstBlow ad a3 nr nf tr3 tf co pf hi sl sv ff e8) (by decide) (FWf _ _ _ _ _ _ _ _ _ _ _ _ _ _ _ _ _ _ _ _ _ _) rfl rfl rfl rfl (Nat.le_of_ble_eq_true rfl) ?_
  cases hf
  exact z_iret C dX2_tryFault_25 F
set_option maxHeartbeats 400000 in
set_option maxRecDepth 100000 in
theorem c_X2_test {l : Launch} {D : va_G} {cs : ClassId × ClassId × ClassId} (ad : Nat → Nat) (a1 : Int32) (a2 : Int32) (a3 : Int32) (nr : zA) (nf : zA) (tr : zA) (tf : zA) (co : zA) (pf : zA) (hi : Nat → zA) (sl : Nat → zA) (sv : zA) (ff : zA) {v : Int32} {tr' : zA} {tf' : zA} (e : f_X2_test a1 a2 a3 nr tr tf = some (v, tr', tf')) : zM l D cs yX2_test cX2_test 4 (some .int) 6 [.ref (ad 0), .int a1, .int a2, .int a3] (FW cs ad nr nf tr tf co pf hi sl sv ff) v (FW cs ad nr nf tr' tf' co pf hi sl sv ff) := by
  refine zM_of (show plainName RX2 = true by decide +kernel) (Nat.le_of_ble_eq_true rfl) ?_
  rintro G rfl rfl rfl C F
  have hf := e
  clear e
  unfold f_X2_test at hf
  show zV G 4 0 [(0, .ref (ad 0)), (1, .int a1), (2, .int a2), (3, .int a3)] [] (FW (gk G) ad nr nf tr tf co pf hi sl sv ff)
  refine z_aload_n 0 C dX2_test_0 rfl ?_
  refine gf_X2_12 0 C dX2_test_1 rfl rfl ?_
  refine z_iload_n 1 C dX2_test_4 rfl ?_
  obtain ⟨v1, e2, hf⟩ := b1_e hf
  refine z_callV (st := []) (ws2 := (FW (gk G) ad nr nf tr tf co pf hi sl sv ff)) [1, 2, 3] C dX2_test_5 w_X2_72 (c_X0_isBoard (ad 1) (ad 2) (ad 3) a1 nr nf e2) (by decide) rfl rfl rfl rfl rfl rfl rfl (Nat.le_of_ble_eq_true rfl) rfl ?_
  refine z_if_ne (tgt := 13) C dX2_test_8 rfl (fun hc => ?_) (fun hc => ?_)
  · have hf := ifn hc hf
    refine z_iload_n 2 C dX2_test_13 rfl ?_
    refine z_iconst (v := 1) C dX2_test_14 kc_1 ?_
    refine z_icmp_lt (tgt := 32) C dX2_test_15 rfl (fun hc => ?_) (fun hc => ?_)
    · have hf := ifp hc hf
      refine z_bipush (v := -2) C dX2_test_32 kb_m2 ?_
      cases hf
      exact z_iret C dX2_test_34 F
    have hf := ifn hc hf
    refine z_iload_n 2 C dX2_test_18 rfl ?_
    refine z_sipush (v := 9999) C dX2_test_19 ks_9999 ?_
    refine z_icmp_gt (tgt := 32) C dX2_test_22 rfl (fun hc => ?_) (fun hc => ?_)
    · have hf := ifp hc hf
      refine z_bipush (v := -2) C dX2_test_32 kb_m2 ?_
      cases hf
      exact z_iret C dX2_test_34 F
    have hf := ifn hc hf
    refine z_iload_n 3 C dX2_test_25 rfl ?_
    obtain ⟨v3, e4, hf⟩ := b1_e hf
    refine z_callS (st := []) (ws2 := (FW (gk G) ad nr nf tr tf co pf hi sl sv ff)) [] C dX2_test_26 w_X2_98 (c_X2_isTrialQuestion a3 e4) (by decide) rfl rfl rfl  rfl rfl (Nat.le_of_ble_eq_true rfl) rfl ?_
    refine z_if_ne (tgt := 35) C dX2_test_29 rfl (fun hc => ?_) (fun hc => ?_)
    · have hf := ifn hc hf
      refine z_aload_n 0 C dX2_test_35 rfl ?_
      refine z_iload_n 1 C dX2_test_36 rfl ?_
      refine z_iload_n 2 C dX2_test_37 rfl ?_
      refine z_iload_n 3 C dX2_test_38 rfl ?_
      obtain ⟨v5, tr6, tf7, e8, hf⟩ := b3_e hf
      refine z_callVs (st := []) C dX2_test_39 w_X2_108 (c_X2_tryFault ad a1 a2 a3 nr nf tr tf co pf hi sl sv ff e8) (by decide) (FWf _ _ _ _ _ _ _ _ _ _ _ _ _ _ _ _ _ _ _ _ _ _) rfl rfl rfl rfl (Nat.le_of_ble_eq_true rfl) ?_
      cases hf
      exact z_iret C dX2_test_42 F
    have hf := ifp hc hf
    refine z_bipush (v := -2) C dX2_test_32 kb_m2 ?_
    cases hf
    exact z_iret C dX2_test_34 F
  have hf := ifp hc hf
  refine z_iconst (v := -1) C dX2_test_11 kc_m1 ?_
  cases hf
  exact z_iret C dX2_test_12 F
set_option maxHeartbeats 400000 in
set_option maxRecDepth 100000 in
theorem tb_X2_unfair_18 {G : GT} (ad : Nat → Nat) (nr : zA) (nf : zA) (co : zA) (pf : zA) (hi : Nat → zA) (sl : Nat → zA) (sv : zA) (ff : zA) {v : Int32} {tr' : zA} {tf' : zA} (C : zC G cX2_unfair 5 RX2 (some .int) 6) (F : zF G (some (.int v)) (FW (gk G) ad nr nf tr' tf' co pf hi sl sv ff)) : ∀ (n : Nat) (l1 : Int32) (l2 : Int32) (l3 : Int32) (tr : zA) (tf : zA), B_X2_unfair_18 n l1 l2 l3 nr tr tf = some (v, tr', tf') → zV G 5 18 [(0, .ref (ad 0)), (1, .int l1), (2, .int l2), (3, .int l3)] [] (FW (gk G) ad nr nf tr tf co pf hi sl sv ff) := by
  intro n
  induction n with
  | zero => intro _ _ _ _ _ hf; rw [B_X2_unfair_18] at hf; cases hf
  | succ n ih =>
    intro l1 l2 l3 tr tf hf
    rw [B_X2_unfair_18] at hf
    refine z_iload_n 3 C dX2_unfair_18 rfl ?_
    refine z_aload_n 0 C dX2_unfair_19 rfl ?_
    refine gf_X2_12 0 C dX2_unfair_20 rfl rfl ?_
    obtain ⟨v1, e2, hf⟩ := b1_e hf
    refine z_callV (st := [.int l3]) (ws2 := (FW (gk G) ad nr nf tr tf co pf hi sl sv ff)) [1, 2, 3] C dX2_unfair_23 w_X2_111 (c_X0_boards (ad 1) (ad 2) (ad 3) nr nf e2) (by decide) rfl rfl rfl rfl rfl rfl rfl (Nat.le_of_ble_eq_true rfl) rfl ?_
    refine z_icmp_ge (tgt := 72) C dX2_unfair_26 rfl (fun hc => ?_) (fun hc => ?_)
    · have hf := ifp hc hf
      refine z_iload_n 2 C dX2_unfair_72 rfl ?_
      cases hf
      exact z_iret C dX2_unfair_73 F
    have hf := ifn hc hf
    refine z_aload_n 0 C dX2_unfair_29 rfl ?_
    refine z_iload_n 3 C dX2_unfair_30 rfl ?_
    refine z_iload_n 1 C dX2_unfair_31 rfl ?_
    refine z_aload_n 0 C dX2_unfair_32 rfl ?_
    refine gf_X2_12 0 C dX2_unfair_33 rfl rfl ?_
    refine z_iload_n 3 C dX2_unfair_36 rfl ?_
    obtain ⟨v3, e4, hf⟩ := b1_e hf
    refine z_callV (st := [.int l1, .int l3, .ref (ad 0)]) (ws2 := (FW (gk G) ad nr nf tr tf co pf hi sl sv ff)) [1, 2, 3] C dX2_unfair_37 w_X2_114 (c_X0_rating (ad 1) (ad 2) (ad 3) l3 nr nf e4) (by decide) rfl rfl rfl rfl rfl rfl rfl (Nat.le_of_ble_eq_true rfl) rfl ?_
    refine z_imul C dX2_unfair_40 ?_
    refine z_iconst (v := 1) C dX2_unfair_41 kc_1 ?_
    obtain ⟨v5, tr6, tf7, e8, hf⟩ := b3_e hf
    refine z_callVs (st := []) C dX2_unfair_42 w_X2_108 (c_X2_tryFault ad l3 (l1 * v3) 1 nr nf tr tf co pf hi sl sv ff e8) (by decide) (FWf _ _ _ _ _ _ _ _ _ _ _ _ _ _ _ _ _ _ _ _ _ _) rfl rfl rfl rfl (Nat.le_of_ble_eq_true rfl) ?_
    refine z_istore (ls' := [(4, _), (0, _), (1, _), (2, _), (3, _)]) C dX2_unfair_45 (by decide) rfl ?_
    refine z_iload 0 C dX2_unfair_47 rfl ?_
    refine z_bipush (v := -6) C dX2_unfair_49 kb_m6 ?_
    refine z_icmp_eq (tgt := 66) C dX2_unfair_51 rfl (fun hc => ?_) (fun hc => ?_)
    · have hf := ifp hc hf
      obtain ⟨x9, e10, hf⟩ := nm_g hf
      refine z_iinc (ls' := [(3, _), (4, _), (0, _), (1, _), (2, _)]) 4 C dX2_unfair_66 rfl kc_1 e10 (by decide) rfl ?_
      refine z_goto (tgt := 18) C dX2_unfair_69 rfl ?_
      refine z_sub (ls' := [(0, .ref (ad 0)), (1, .int l1), (2, .int l2), (3, .int x9)]) [2, 3, 4, 0] rfl ?_
      exact ih _ _ _ _ _ hf
    have hf := ifn hc hf
    refine z_iload 0 C dX2_unfair_54 rfl ?_
    refine z_iload_n 4 C dX2_unfair_56 rfl ?_
    refine z_icmp_eq (tgt := 66) C dX2_unfair_57 rfl (fun hc => ?_) (fun hc => ?_)
    · have hf := ifp hc hf
      obtain ⟨x11, e12, hf⟩ := nm_g hf
      refine z_iinc (ls' := [(3, _), (4, _), (0, _), (1, _), (2, _)]) 4 C dX2_unfair_66 rfl kc_1 e12 (by decide) rfl ?_
      refine z_goto (tgt := 18) C dX2_unfair_69 rfl ?_
      refine z_sub (ls' := [(0, .ref (ad 0)), (1, .int l1), (2, .int l2), (3, .int x11)]) [2, 3, 4, 0] rfl ?_
      exact ih _ _ _ _ _ hf
    have hf := ifn hc hf
    refine z_iload_n 3 C dX2_unfair_60 rfl ?_
    refine z_iconst (v := 1) C dX2_unfair_61 kc_1 ?_
    refine z_iload_n 4 C dX2_unfair_62 rfl ?_
    refine z_ishl C dX2_unfair_63 ?_
    refine z_ior C dX2_unfair_64 ?_
    obtain ⟨x13, e14, hf⟩ := nm_g hf
    refine z_top e14 ?_
    refine z_istore_n (ls' := [(2, _), (4, _), (0, _), (1, _), (3, _)]) C dX2_unfair_65 (by decide) rfl ?_
    obtain ⟨x15, e16, hf⟩ := nm_g hf
    refine z_iinc (ls' := [(3, _), (2, _), (4, _), (0, _), (1, _)]) 4 C dX2_unfair_66 rfl kc_1 e16 (by decide) rfl ?_
    refine z_goto (tgt := 18) C dX2_unfair_69 rfl ?_
    refine z_sub (ls' := [(0, .ref (ad 0)), (1, .int l1), (2, .int x13), (3, .int x15)]) [3, 4, 1, 0] rfl ?_
    exact ih _ _ _ _ _ hf
set_option maxHeartbeats 400000 in
set_option maxRecDepth 100000 in
theorem c_X2_unfair {l : Launch} {D : va_G} {cs : ClassId × ClassId × ClassId} (ad : Nat → Nat) (a1 : Int32) (nr : zA) (nf : zA) (tr : zA) (tf : zA) (co : zA) (pf : zA) (hi : Nat → zA) (sl : Nat → zA) (sv : zA) (ff : zA) {v : Int32} {tr' : zA} {tf' : zA} (e : f_X2_unfair a1 nr tr tf = some (v, tr', tf')) : zM l D cs yX2_unfair cX2_unfair 5 (some .int) 6 [.ref (ad 0), .int a1] (FW cs ad nr nf tr tf co pf hi sl sv ff) v (FW cs ad nr nf tr' tf' co pf hi sl sv ff) := by
  refine zM_of (show plainName RX2 = true by decide +kernel) (Nat.le_of_ble_eq_true rfl) ?_
  rintro G rfl rfl rfl C F
  have hf := e
  clear e
  unfold f_X2_unfair at hf
  show zV G 5 0 [(0, .ref (ad 0)), (1, .int a1)] [] (FW (gk G) ad nr nf tr tf co pf hi sl sv ff)
  refine z_iload_n 1 C dX2_unfair_0 rfl ?_
  refine z_iconst (v := 2) C dX2_unfair_1 kc_2 ?_
  refine z_icmp_lt (tgt := 11) C dX2_unfair_2 rfl (fun hc => ?_) (fun hc => ?_)
  · have hf := ifp hc hf
    refine z_bipush (v := -2) C dX2_unfair_11 kb_m2 ?_
    cases hf
    exact z_iret C dX2_unfair_13 F
  have hf := ifn hc hf
  refine z_iload_n 1 C dX2_unfair_5 rfl ?_
  refine z_bipush (v := 20) C dX2_unfair_6 kb_20 ?_
  refine z_icmp_le (tgt := 14) C dX2_unfair_8 rfl (fun hc => ?_) (fun hc => ?_)
  · have hf := ifp hc hf
    refine z_iconst (v := 0) C dX2_unfair_14 kc_0 ?_
    refine z_istore_n (ls' := [(2, _), (0, _), (1, _)]) C dX2_unfair_15 (by decide) rfl ?_
    refine z_iconst (v := 0) C dX2_unfair_16 kc_0 ?_
    refine z_istore_n (ls' := [(3, _), (2, _), (0, _), (1, _)]) C dX2_unfair_17 (by decide) rfl ?_
    refine z_sub (ls' := [(0, .ref (ad 0)), (1, .int a1), (2, .int 0), (3, .int 0)]) [2, 3, 1, 0] rfl ?_
    exact tb_X2_unfair_18 ad nr nf co pf hi sl sv ff C F _ _ _ _ _ _ hf
  have hf := ifn hc hf
  refine z_bipush (v := -2) C dX2_unfair_11 kb_m2 ?_
  cases hf
  exact z_iret C dX2_unfair_13 F
set_option maxHeartbeats 400000 in
set_option maxRecDepth 100000 in
theorem c_X2_ifOpen {l : Launch} {D : va_G} {cs : ClassId × ClassId × ClassId} (ad : Nat → Nat) (a1 : Int32) (nr : zA) (nf : zA) (tr : zA) (tf : zA) (co : zA) (pf : zA) (hi : Nat → zA) (sl : Nat → zA) (sv : zA) (ff : zA) {v : Int32}  (e : f_X2_ifOpen a1 nr = some v) : zM l D cs yX2_ifOpen cX2_ifOpen 2 (some .int) 2 [.ref (ad 0), .int a1] (FW cs ad nr nf tr tf co pf hi sl sv ff) v (FW cs ad nr nf tr tf co pf hi sl sv ff) := by
  refine zM_of (show plainName RX2 = true by decide +kernel) (Nat.le_of_ble_eq_true rfl) ?_
  rintro G rfl rfl rfl C F
  have hf := e
  clear e
  unfold f_X2_ifOpen at hf
  show zV G 2 0 [(0, .ref (ad 0)), (1, .int a1)] [] (FW (gk G) ad nr nf tr tf co pf hi sl sv ff)
  refine z_aload_n 0 C dX2_ifOpen_0 rfl ?_
  refine gf_X2_12 0 C dX2_ifOpen_1 rfl rfl ?_
  refine z_iload_n 1 C dX2_ifOpen_4 rfl ?_
  obtain ⟨v1, e2, hf⟩ := b1_e hf
  refine z_callV (st := []) (ws2 := (FW (gk G) ad nr nf tr tf co pf hi sl sv ff)) [1, 2, 3] C dX2_ifOpen_5 w_X2_72 (c_X0_isBoard (ad 1) (ad 2) (ad 3) a1 nr nf e2) (by decide) rfl rfl rfl rfl rfl rfl rfl (Nat.le_of_ble_eq_true rfl) rfl ?_
  refine z_if_ne (tgt := 13) C dX2_ifOpen_8 rfl (fun hc => ?_) (fun hc => ?_)
  · have hf := ifn hc hf
    refine z_aload_n 0 C dX2_ifOpen_13 rfl ?_
    refine gf_X2_12 0 C dX2_ifOpen_14 rfl rfl ?_
    refine z_aload_n 0 C dX2_ifOpen_17 rfl ?_
    refine gf_X2_12 0 C dX2_ifOpen_18 rfl rfl ?_
    refine z_iload_n 1 C dX2_ifOpen_21 rfl ?_
    obtain ⟨v3, e4, hf⟩ := b1_e hf
    refine z_callV (st := [.ref (ad 1)]) (ws2 := (FW (gk G) ad nr nf tr tf co pf hi sl sv ff)) [1, 2, 3] C dX2_ifOpen_22 w_X2_85 (c_X0_fedThrough (ad 1) (ad 2) (ad 3) a1 nr nf e4) (by decide) rfl rfl rfl rfl rfl rfl rfl (Nat.le_of_ble_eq_true rfl) rfl ?_
    obtain ⟨v5, e6, hf⟩ := b1_e hf
    refine z_callV (st := []) (ws2 := (FW (gk G) ad nr nf tr tf co pf hi sl sv ff)) [1, 2, 3] C dX2_ifOpen_25 w_X2_117 (c_X0_workingLoadsAt (ad 1) (ad 2) (ad 3) v3 nr nf e6) (by decide) rfl rfl rfl rfl rfl rfl rfl (Nat.le_of_ble_eq_true rfl) rfl ?_
    cases hf
    exact z_iret C dX2_ifOpen_28 F
  have hf := ifp hc hf
  refine z_iconst (v := -1) C dX2_ifOpen_11 kc_m1 ?_
  cases hf
  exact z_iret C dX2_ifOpen_12 F
set_option maxHeartbeats 400000 in
set_option maxRecDepth 100000 in
theorem c_X2_undo {l : Launch} {D : va_G} {cs : ClassId × ClassId × ClassId} (ad : Nat → Nat)  (nr : zA) (nf : zA) (tr : zA) (tf : zA) (co : zA) (pf : zA) (hi : Nat → zA) (sl : Nat → zA) (sv : zA) (ff : zA) {v : Int32} {nr' : zA} {ff' : zA} (e : f_X2_undo nr hi ff = some (v, nr', ff')) : zM l D cs yX2_undo cX2_undo 1 (some .int) 2 [.ref (ad 0)] (FW cs ad nr nf tr tf co pf hi sl sv ff) v (FW cs ad nr' nf tr tf co pf hi sl sv ff') := by
  refine zM_of (show plainName RX2 = true by decide +kernel) (Nat.le_of_ble_eq_true rfl) ?_
  rintro G rfl rfl rfl C F
  have hf := e
  clear e
  unfold f_X2_undo at hf
  show zV G 1 0 [(0, .ref (ad 0))] [] (FW (gk G) ad nr nf tr tf co pf hi sl sv ff)
  refine z_aload_n 0 C dX2_undo_0 rfl ?_
  refine gf_X2_42 0 C dX2_undo_1 rfl rfl ?_
  refine z_if_ne (tgt := 10) C dX2_undo_4 rfl (fun hc => ?_) (fun hc => ?_)
  · have hf := ifn hc hf
    refine z_aload_n 0 C dX2_undo_10 rfl ?_
    refine z_dup C dX2_undo_11 rfl ?_
    refine gf_X2_42 0 C dX2_undo_12 rfl rfl ?_
    refine z_iconst (v := 1) C dX2_undo_15 kc_1 ?_
    refine z_isub C dX2_undo_16 ?_
    obtain ⟨ff1, e2, hf⟩ := nm_g hf
    refine pf_X2_42 (ws' := (FW (gk G) ad nr nf tr tf co pf hi sl sv ff1)) 0 C dX2_undo_17 rfl (Nat.le_of_ble_eq_true rfl) (by subst e2; rfl) ?_
    refine z_aload_n 0 C dX2_undo_20 rfl ?_
    refine z_aload_n 0 C dX2_undo_21 rfl ?_
    refine gf_X2_38 0 C dX2_undo_22 rfl rfl ?_
    refine z_bipush (v := 7) C dX2_undo_25 kb_7 ?_
    refine z_iadd C dX2_undo_27 ?_
    refine z_iconst (v := 1) C dX2_undo_28 kc_1 ?_
    refine z_isub C dX2_undo_29 ?_
    refine z_bipush (v := 7) C dX2_undo_30 kb_7 ?_
    refine z_irem C dX2_undo_32 (by decide) ?_
    obtain ⟨ff3, e4, hf⟩ := nm_g hf
    refine pf_X2_38 (ws' := (FW (gk G) ad nr nf tr tf co pf hi sl sv ff3)) 0 C dX2_undo_33 rfl (Nat.le_of_ble_eq_true rfl) (by subst e4; rfl) ?_
    refine z_aload_n 0 C dX2_undo_36 rfl ?_
    refine gf_X2_12 0 C dX2_undo_37 rfl rfl ?_
    refine z_aload_n 0 C dX2_undo_40 rfl ?_
    refine gf_X2_28 0 C dX2_undo_41 rfl rfl ?_
    refine z_aload_n 0 C dX2_undo_44 rfl ?_
    refine gf_X2_38 0 C dX2_undo_45 rfl rfl ?_
    obtain ⟨k5, h6, hf⟩ := gd_e hf
    refine z_aald 9 C dX2_undo_48 h6 rfl ?_
    rcases zlt7 (zin_lt h6) with rfl | rfl | rfl | rfl | rfl | rfl | rfl
    · refine z_st (st' := [.ref (ad 10), .ref (ad 1)]) rfl ?_
      obtain ⟨nr7, e8, hf⟩ := b1_e hf
      refine z_callVv (st := []) (ws2 := (FW (gk G) ad nr7 nf tr tf co pf hi sl sv ff3)) [1, 2, 3, 10] C dX2_undo_49 w_X2_140 (c_X0_readFrom (ad 1) (ad 2) (ad 3) (ad 10) nr nf (hi 0) e8) (by decide) rfl rfl rfl rfl rfl rfl rfl (Nat.le_of_ble_eq_true rfl) rfl ?_
      refine z_aload_n 0 C dX2_undo_52 rfl ?_
      refine gf_X2_42 0 C dX2_undo_53 rfl rfl ?_
      cases hf
      exact z_iret C dX2_undo_56 F
    · refine z_st (st' := [.ref (ad 11), .ref (ad 1)]) rfl ?_
      obtain ⟨nr7, e8, hf⟩ := b1_e hf
      refine z_callVv (st := []) (ws2 := (FW (gk G) ad nr7 nf tr tf co pf hi sl sv ff3)) [1, 2, 3, 11] C dX2_undo_49 w_X2_140 (c_X0_readFrom (ad 1) (ad 2) (ad 3) (ad 11) nr nf (hi 1) e8) (by decide) rfl rfl rfl rfl rfl rfl rfl (Nat.le_of_ble_eq_true rfl) rfl ?_
      refine z_aload_n 0 C dX2_undo_52 rfl ?_
      refine gf_X2_42 0 C dX2_undo_53 rfl rfl ?_
      cases hf
      exact z_iret C dX2_undo_56 F
    · refine z_st (st' := [.ref (ad 12), .ref (ad 1)]) rfl ?_
      obtain ⟨nr7, e8, hf⟩ := b1_e hf
      refine z_callVv (st := []) (ws2 := (FW (gk G) ad nr7 nf tr tf co pf hi sl sv ff3)) [1, 2, 3, 12] C dX2_undo_49 w_X2_140 (c_X0_readFrom (ad 1) (ad 2) (ad 3) (ad 12) nr nf (hi 2) e8) (by decide) rfl rfl rfl rfl rfl rfl rfl (Nat.le_of_ble_eq_true rfl) rfl ?_
      refine z_aload_n 0 C dX2_undo_52 rfl ?_
      refine gf_X2_42 0 C dX2_undo_53 rfl rfl ?_
      cases hf
      exact z_iret C dX2_undo_56 F
    · refine z_st (st' := [.ref (ad 13), .ref (ad 1)]) rfl ?_
      obtain ⟨nr7, e8, hf⟩ := b1_e hf
      refine z_callVv (st := []) (ws2 := (FW (gk G) ad nr7 nf tr tf co pf hi sl sv ff3)) [1, 2, 3, 13] C dX2_undo_49 w_X2_140 (c_X0_readFrom (ad 1) (ad 2) (ad 3) (ad 13) nr nf (hi 3) e8) (by decide) rfl rfl rfl rfl rfl rfl rfl (Nat.le_of_ble_eq_true rfl) rfl ?_
      refine z_aload_n 0 C dX2_undo_52 rfl ?_
      refine gf_X2_42 0 C dX2_undo_53 rfl rfl ?_
      cases hf
      exact z_iret C dX2_undo_56 F
    · refine z_st (st' := [.ref (ad 14), .ref (ad 1)]) rfl ?_
      obtain ⟨nr7, e8, hf⟩ := b1_e hf
      refine z_callVv (st := []) (ws2 := (FW (gk G) ad nr7 nf tr tf co pf hi sl sv ff3)) [1, 2, 3, 14] C dX2_undo_49 w_X2_140 (c_X0_readFrom (ad 1) (ad 2) (ad 3) (ad 14) nr nf (hi 4) e8) (by decide) rfl rfl rfl rfl rfl rfl rfl (Nat.le_of_ble_eq_true rfl) rfl ?_
      refine z_aload_n 0 C dX2_undo_52 rfl ?_
      refine gf_X2_42 0 C dX2_undo_53 rfl rfl ?_
      cases hf
      exact z_iret C dX2_undo_56 F
    · refine z_st (st' := [.ref (ad 15), .ref (ad 1)]) rfl ?_
      obtain ⟨nr7, e8, hf⟩ := b1_e hf
      refine z_callVv (st := []) (ws2 := (FW (gk G) ad nr7 nf tr tf co pf hi sl sv ff3)) [1, 2, 3, 15] C dX2_undo_49 w_X2_140 (c_X0_readFrom (ad 1) (ad 2) (ad 3) (ad 15) nr nf (hi 5) e8) (by decide) rfl rfl rfl rfl rfl rfl rfl (Nat.le_of_ble_eq_true rfl) rfl ?_
      refine z_aload_n 0 C dX2_undo_52 rfl ?_
      refine gf_X2_42 0 C dX2_undo_53 rfl rfl ?_
      cases hf
      exact z_iret C dX2_undo_56 F
    · refine z_st (st' := [.ref (ad 16), .ref (ad 1)]) rfl ?_
      obtain ⟨nr7, e8, hf⟩ := b1_e hf
      refine z_callVv (st := []) (ws2 := (FW (gk G) ad nr7 nf tr tf co pf hi sl sv ff3)) [1, 2, 3, 16] C dX2_undo_49 w_X2_140 (c_X0_readFrom (ad 1) (ad 2) (ad 3) (ad 16) nr nf (hi 6) e8) (by decide) rfl rfl rfl rfl rfl rfl rfl (Nat.le_of_ble_eq_true rfl) rfl ?_
      refine z_aload_n 0 C dX2_undo_52 rfl ?_
      refine gf_X2_42 0 C dX2_undo_53 rfl rfl ?_
      cases hf
      exact z_iret C dX2_undo_56 F
  have hf := ifp hc hf
  refine z_bipush (v := -5) C dX2_undo_7 kb_m5 ?_
  cases hf
  exact z_iret C dX2_undo_9 F
set_option maxHeartbeats 400000 in
set_option maxRecDepth 100000 in
theorem c_X2_isSlot {l : Launch} {D : va_G} {cs : ClassId × ClassId × ClassId}  (a0 : Int32)  {v : Int32}  (e : f_X2_isSlot a0 = some v) : zM l D cs yX2_isSlot cX2_isSlot 1 (some .boolean) 0 [.int a0] ([] : va_W) v ([] : va_W) := by
  refine zM_of (show plainName RX2 = true by decide +kernel) (Nat.le_of_ble_eq_true rfl) ?_
  rintro G rfl rfl rfl C F
  have hf := e
  clear e
  unfold f_X2_isSlot at hf
  show zV G 1 0 [(0, .int a0)] [] ([] : va_W)
  refine z_iload_n 0 C dX2_isSlot_0 rfl ?_
  refine z_if_lt (tgt := 13) C dX2_isSlot_1 rfl (fun hc => ?_) (fun hc => ?_)
  · have hf := ifp hc hf
    refine z_iconst (v := 0) C dX2_isSlot_13 kc_0 ?_
    cases hf
    exact z_zret C dX2_isSlot_14 rfl F
  have hf := ifn hc hf
  refine z_iload_n 0 C dX2_isSlot_4 rfl ?_
  refine z_iconst (v := 2) C dX2_isSlot_5 kc_2 ?_
  refine z_icmp_ge (tgt := 13) C dX2_isSlot_6 rfl (fun hc => ?_) (fun hc => ?_)
  · have hf := ifp hc hf
    refine z_iconst (v := 0) C dX2_isSlot_13 kc_0 ?_
    cases hf
    exact z_zret C dX2_isSlot_14 rfl F
  have hf := ifn hc hf
  refine z_iconst (v := 1) C dX2_isSlot_9 kc_1 ?_
  refine z_goto (tgt := 14) C dX2_isSlot_10 rfl ?_
  cases hf
  exact z_zret C dX2_isSlot_14 rfl F
set_option maxHeartbeats 400000 in
set_option maxRecDepth 100000 in
theorem c_X2_save {l : Launch} {D : va_G} {cs : ClassId × ClassId × ClassId} (ad : Nat → Nat) (a1 : Int32) (nr : zA) (nf : zA) (tr : zA) (tf : zA) (co : zA) (pf : zA) (hi : Nat → zA) (sl : Nat → zA) (sv : zA) (ff : zA) {v : Int32} {sl' : Nat → zA} {sv' : zA} (e : f_X2_save a1 nr sl sv = some (v, sl', sv')) : zM l D cs yX2_save cX2_save 2 (some .int) 2 [.ref (ad 0), .int a1] (FW cs ad nr nf tr tf co pf hi sl sv ff) v (FW cs ad nr nf tr tf co pf hi sl' sv' ff) := by
  refine zM_of (show plainName RX2 = true by decide +kernel) (Nat.le_of_ble_eq_true rfl) ?_
  rintro G rfl rfl rfl C F
  have hf := e
  clear e
  unfold f_X2_save at hf
  show zV G 2 0 [(0, .ref (ad 0)), (1, .int a1)] [] (FW (gk G) ad nr nf tr tf co pf hi sl sv ff)
  refine z_iload_n 1 C dX2_save_0 rfl ?_
  obtain ⟨v1, e2, hf⟩ := b1_e hf
  refine z_callS (st := []) (ws2 := (FW (gk G) ad nr nf tr tf co pf hi sl sv ff)) [] C dX2_save_1 w_X2_144 (c_X2_isSlot a1 e2) (by decide) rfl rfl rfl  rfl rfl (Nat.le_of_ble_eq_true rfl) rfl ?_
  refine z_if_ne (tgt := 10) C dX2_save_4 rfl (fun hc => ?_) (fun hc => ?_)
  · have hf := ifn hc hf
    refine z_aload_n 0 C dX2_save_10 rfl ?_
    refine gf_X2_12 0 C dX2_save_11 rfl rfl ?_
    refine z_aload_n 0 C dX2_save_14 rfl ?_
    refine gf_X2_31 0 C dX2_save_15 rfl rfl ?_
    refine z_iload_n 1 C dX2_save_18 rfl ?_
    obtain ⟨k3, h4, hf⟩ := gd_e hf
    refine z_aald 17 C dX2_save_19 h4 rfl ?_
    rcases zlt2 (zin_lt h4) with rfl | rfl
    · refine z_st (st' := [.ref (ad 18), .ref (ad 1)]) rfl ?_
      obtain ⟨sl5, e6, hf⟩ := b1_e hf
      refine z_callVv (st := []) (ws2 := (FW (gk G) ad nr nf tr tf co pf hi (va_up sl 0 sl5) sv ff)) [1, 2, 3, 18] C dX2_save_20 w_X2_147 (c_X0_writeTo (ad 1) (ad 2) (ad 3) (ad 18) nr nf (sl 0) e6) (by decide) rfl rfl rfl rfl rfl rfl rfl (Nat.le_of_ble_eq_true rfl) rfl ?_
      refine z_aload_n 0 C dX2_save_23 rfl ?_
      refine gf_X2_34 0 C dX2_save_24 rfl rfl ?_
      refine z_iload_n 1 C dX2_save_27 rfl ?_
      refine z_iconst (v := 1) C dX2_save_28 kc_1 ?_
      obtain ⟨sv7, e8, hf⟩ := nm_g hf
      refine z_zast (ws' := (FW (gk G) ad nr nf tr tf co pf hi (va_up sl 0 sl5) sv7 ff)) 20 C dX2_save_29 h4 rfl e8 rfl ?_
      refine z_aload_n 0 C dX2_save_30 rfl ?_
      refine gf_X2_12 0 C dX2_save_31 rfl rfl ?_
      obtain ⟨v9, e10, hf⟩ := b1_e hf
      refine z_callV (st := []) (ws2 := (FW (gk G) ad nr nf tr tf co pf hi (va_up sl 0 sl5) sv7 ff)) [1, 2, 3] C dX2_save_34 w_X2_111 (c_X0_boards (ad 1) (ad 2) (ad 3) nr nf e10) (by decide) rfl rfl rfl rfl rfl rfl rfl (Nat.le_of_ble_eq_true rfl) rfl ?_
      cases hf
      exact z_iret C dX2_save_37 F
    · refine z_st (st' := [.ref (ad 19), .ref (ad 1)]) rfl ?_
      obtain ⟨sl5, e6, hf⟩ := b1_e hf
      refine z_callVv (st := []) (ws2 := (FW (gk G) ad nr nf tr tf co pf hi (va_up sl 1 sl5) sv ff)) [1, 2, 3, 19] C dX2_save_20 w_X2_147 (c_X0_writeTo (ad 1) (ad 2) (ad 3) (ad 19) nr nf (sl 1) e6) (by decide) rfl rfl rfl rfl rfl rfl rfl (Nat.le_of_ble_eq_true rfl) rfl ?_
      refine z_aload_n 0 C dX2_save_23 rfl ?_
      refine gf_X2_34 0 C dX2_save_24 rfl rfl ?_
      refine z_iload_n 1 C dX2_save_27 rfl ?_
      refine z_iconst (v := 1) C dX2_save_28 kc_1 ?_
      obtain ⟨sv7, e8, hf⟩ := nm_g hf
      refine z_zast (ws' := (FW (gk G) ad nr nf tr tf co pf hi (va_up sl 1 sl5) sv7 ff)) 20 C dX2_save_29 h4 rfl e8 rfl ?_
      refine z_aload_n 0 C dX2_save_30 rfl ?_
      refine gf_X2_12 0 C dX2_save_31 rfl rfl ?_
      obtain ⟨v9, e10, hf⟩ := b1_e hf
      refine z_callV (st := []) (ws2 := (FW (gk G) ad nr nf tr tf co pf hi (va_up sl 1 sl5) sv7 ff)) [1, 2, 3] C dX2_save_34 w_X2_111 (c_X0_boards (ad 1) (ad 2) (ad 3) nr nf e10) (by decide) rfl rfl rfl rfl rfl rfl rfl (Nat.le_of_ble_eq_true rfl) rfl ?_
      cases hf
      exact z_iret C dX2_save_37 F
  have hf := ifp hc hf
  refine z_bipush (v := -2) C dX2_save_7 kb_m2 ?_
  cases hf
  exact z_iret C dX2_save_9 F
set_option maxHeartbeats 400000 in
set_option maxRecDepth 100000 in
theorem c_X2_restore {l : Launch} {D : va_G} {cs : ClassId × ClassId × ClassId} (ad : Nat → Nat) (a1 : Int32) (nr : zA) (nf : zA) (tr : zA) (tf : zA) (co : zA) (pf : zA) (hi : Nat → zA) (sl : Nat → zA) (sv : zA) (ff : zA) {v : Int32} {nr' : zA} {hi' : Nat → zA} {ff' : zA} (e : f_X2_restore a1 nr hi sl sv ff = some (v, nr', hi', ff')) : zM l D cs yX2_restore cX2_restore 2 (some .int) 3 [.ref (ad 0), .int a1] (FW cs ad nr nf tr tf co pf hi sl sv ff) v (FW cs ad nr' nf tr tf co pf hi' sl sv ff') := by
  refine zM_of (show plainName RX2 = true by decide +kernel) (Nat.le_of_ble_eq_true rfl) ?_
  rintro G rfl rfl rfl C F
  have hf := e
  clear e
  unfold f_X2_restore at hf
  show zV G 2 0 [(0, .ref (ad 0)), (1, .int a1)] [] (FW (gk G) ad nr nf tr tf co pf hi sl sv ff)
  refine z_iload_n 1 C dX2_restore_0 rfl ?_
  obtain ⟨v1, e2, hf⟩ := b1_e hf
  refine z_callS (st := []) (ws2 := (FW (gk G) ad nr nf tr tf co pf hi sl sv ff)) [] C dX2_restore_1 w_X2_144 (c_X2_isSlot a1 e2) (by decide) rfl rfl rfl  rfl rfl (Nat.le_of_ble_eq_true rfl) rfl ?_
  refine z_if_ne (tgt := 10) C dX2_restore_4 rfl (fun hc => ?_) (fun hc => ?_)
  · have hf := ifn hc hf
    refine z_aload_n 0 C dX2_restore_10 rfl ?_
    refine gf_X2_34 0 C dX2_restore_11 rfl rfl ?_
    refine z_iload_n 1 C dX2_restore_14 rfl ?_
    obtain ⟨k3, h4, hf⟩ := gd_e hf
    refine z_zald 20 C dX2_restore_15 h4 rfl ?_
    refine z_if_ne (tgt := 22) C dX2_restore_16 rfl (fun hc => ?_) (fun hc => ?_)
    · have hf := ifn hc hf
      refine z_aload_n 0 C dX2_restore_22 rfl ?_
      obtain ⟨hi5, e6, hf⟩ := b1_e hf
      refine z_callVvs (st := []) C dX2_restore_23 w_X2_45 (c_X2_noteState ad nr nf tr tf co pf hi sl sv ff e6) (by decide) (FWf _ _ _ _ _ _ _ _ _ _ _ _ _ _ _ _ _ _ _ _ _ _) rfl rfl rfl rfl (Nat.le_of_ble_eq_true rfl) ?_
      refine z_aload_n 0 C dX2_restore_26 rfl ?_
      refine gf_X2_12 0 C dX2_restore_27 rfl rfl ?_
      refine z_aload_n 0 C dX2_restore_30 rfl ?_
      refine gf_X2_31 0 C dX2_restore_31 rfl rfl ?_
      refine z_iload_n 1 C dX2_restore_34 rfl ?_
      refine z_aald 17 C dX2_restore_35 h4 rfl ?_
      rcases zlt2 (zin_lt h4) with rfl | rfl
      · refine z_st (st' := [.ref (ad 18), .ref (ad 1)]) rfl ?_
        obtain ⟨nr7, e8, hf⟩ := b1_e hf
        refine z_callVv (st := []) (ws2 := (FW (gk G) ad nr7 nf tr tf co pf hi5 sl sv ff)) [1, 2, 3, 18] C dX2_restore_36 w_X2_140 (c_X0_readFrom (ad 1) (ad 2) (ad 3) (ad 18) nr nf (sl 0) e8) (by decide) rfl rfl rfl rfl rfl rfl rfl (Nat.le_of_ble_eq_true rfl) rfl ?_
        refine z_aload_n 0 C dX2_restore_39 rfl ?_
        refine z_aload_n 0 C dX2_restore_40 rfl ?_
        refine gf_X2_12 0 C dX2_restore_41 rfl rfl ?_
        obtain ⟨v9, e10, hf⟩ := b1_e hf
        refine z_callV (st := [.ref (ad 0)]) (ws2 := (FW (gk G) ad nr7 nf tr tf co pf hi5 sl sv ff)) [1, 2, 3] C dX2_restore_44 w_X2_111 (c_X0_boards (ad 1) (ad 2) (ad 3) nr7 nf e10) (by decide) rfl rfl rfl rfl rfl rfl rfl (Nat.le_of_ble_eq_true rfl) rfl ?_
        obtain ⟨v11, ff12, e13, hf⟩ := b2_e hf
        refine z_callVs (st := []) C dX2_restore_47 w_X2_52 (c_X2_keepUnlessError ad v9 nr7 nf tr tf co pf hi5 sl sv ff e13) (by decide) (FWf _ _ _ _ _ _ _ _ _ _ _ _ _ _ _ _ _ _ _ _ _ _) rfl rfl rfl rfl (Nat.le_of_ble_eq_true rfl) ?_
        cases hf
        exact z_iret C dX2_restore_50 F
      · refine z_st (st' := [.ref (ad 19), .ref (ad 1)]) rfl ?_
        obtain ⟨nr7, e8, hf⟩ := b1_e hf
        refine z_callVv (st := []) (ws2 := (FW (gk G) ad nr7 nf tr tf co pf hi5 sl sv ff)) [1, 2, 3, 19] C dX2_restore_36 w_X2_140 (c_X0_readFrom (ad 1) (ad 2) (ad 3) (ad 19) nr nf (sl 1) e8) (by decide) rfl rfl rfl rfl rfl rfl rfl (Nat.le_of_ble_eq_true rfl) rfl ?_
        refine z_aload_n 0 C dX2_restore_39 rfl ?_
        refine z_aload_n 0 C dX2_restore_40 rfl ?_
        refine gf_X2_12 0 C dX2_restore_41 rfl rfl ?_
        obtain ⟨v9, e10, hf⟩ := b1_e hf
        refine z_callV (st := [.ref (ad 0)]) (ws2 := (FW (gk G) ad nr7 nf tr tf co pf hi5 sl sv ff)) [1, 2, 3] C dX2_restore_44 w_X2_111 (c_X0_boards (ad 1) (ad 2) (ad 3) nr7 nf e10) (by decide) rfl rfl rfl rfl rfl rfl rfl (Nat.le_of_ble_eq_true rfl) rfl ?_
        obtain ⟨v11, ff12, e13, hf⟩ := b2_e hf
        refine z_callVs (st := []) C dX2_restore_47 w_X2_52 (c_X2_keepUnlessError ad v9 nr7 nf tr tf co pf hi5 sl sv ff e13) (by decide) (FWf _ _ _ _ _ _ _ _ _ _ _ _ _ _ _ _ _ _ _ _ _ _) rfl rfl rfl rfl (Nat.le_of_ble_eq_true rfl) ?_
        cases hf
        exact z_iret C dX2_restore_50 F
    have hf := ifp hc hf
    refine z_bipush (v := -5) C dX2_restore_19 kb_m5 ?_
    cases hf
    exact z_iret C dX2_restore_21 F
  have hf := ifp hc hf
  refine z_bipush (v := -2) C dX2_restore_7 kb_m2 ?_
  cases hf
  exact z_iret C dX2_restore_9 F
end
section
/-! THE CLAIM OUT OF ONE WALK OF THE LAW'S BODY. Your part is whole_start (and what it stands on); all else here is the same for every law, but numbers. -/
def R_law : String := "FuseBoardsLaw"
def lw_P (b : Addr) (xs : List Int32) (args : Array Value) (s : State) : Prop := args = #[.ref b] ∧ s.IntsAt b xs ∧ xs.length ≤ 260 ∧ (Jvm.Cond.and given_1 narrow_1).before args s = true
def lw_Q (_ : Array Value) (s : State) (o : Outcome) (t : State) : Prop := o = .returned (some (.int 1)) ∧ Framed s o t [] 600000 7302250
def lw_Z (below : List Frame) (a : Array Value) (s : State) : State → Prop := fun t => ∃ o, t.status = .running ∧ Ended t below o ∧ lw_Q a s o t
/-- the law's own end, with 1 on the stack, nothing written that was there before, its room as the claim has it -/
theorem lw_ret {p : Program} {l : Launch} {e : Env} {s : State} {m : MethodId} {below : List Frame} {meth : Method} {c : Code} {b : Nat} (hx : p.tables.exec = Jvm.exec) (hb : c.code = code) (hr : meth.sig.returnType = ret) (hlocks : meth.locks = false) {pc : Nat} {H : Heap} {ls : Array Slot} (hdg : decode code pc = .ok (.ireturn, 1)) : W p l e room_1 s m #[Value.ref b] below meth c H [] 600000 7302250 (lw_Z below #[Value.ref b] s) (F0 m pc ls [.int 1]) := by
  intro T hT X
  obtain ⟨fs, hret, hrun, hended, hW, hframe⟩ := X.leave (v := some (.int 1)) (hlocks := hlocks) (fun h => by rw [hr] at h; cases h)
  have hmeth' : T.vm.method? m = some meth := X.method'
  refine ⟨T.setFrames fs, ?_, .returned (some (.int 1)), hrun, hended, rfl, ⟨_, rfl⟩, hW, hframe⟩
  jvm_step X.here [X.here.top, hx, hb, hdg, hmeth', hr, ret, narrow_b1]
  (try refine ⟨rfl, ?_⟩); (try refine ⟨rfl, ?_⟩)
  first | (intro acts; rw [hret _ acts rfl rfl rfl]) | rw [hret _ _ rfl rfl rfl]
  exact Steps.refl _
/-- what holds at the law's entry: the machine, the code, the tables' words (any of lw_tbl by 'hts w (by decide +kernel)'), the script of L ints xs at the cell b, what the Statement gives of the start (any of its parts by flat_of_before) -/
def lw_At (p : Program) (s : State) (m : MethodId) (meth : Method) (c : Code) (b L : Nat) (xs : Nat → Int32) : Prop :=
  p.tables.exec = Jvm.exec ∧ c.code = code ∧ meth.sig.returnType = ret ∧ c.maxLocals = 10 ∧ s.vm.findClass R_law = some m.cls ∧ (∀ w ∈ lw_tbl, w.before #[Value.ref b] s = true) ∧ va_X b L xs s s.heap ∧ b < s.heap.size ∧ meth.locks = false ∧ (Jvm.Cond.and given_1 narrow_1).before #[Value.ref b] s = true
end
section
/-! The law's own frame: the script, a word of it, the end -/
def lX (G : GT) (b L : Nat) (xs : zA) : Prop := va_X b L xs (gs G) (gs G).heap ∧ b < (gs G).heap.size ∧ ¬ gA G b
def lF (G : GT) (b L : Nat) (xs : zA) (v : Int32) : Prop := lX G b L xs ∧ v = 1 ∧ gR G = room_1 ∧ ga G = #[Value.ref b] ∧ gN G = (600000, 7302250) ∧ gZ G = lw_Z (gb G) #[Value.ref b] (gs G) ∧ ∀ q : Nat, gA G q → (gs G).heap.size ≤ q
theorem y_zret {G : GT} {b L d pc nL : Nat} {xs : zA} {own : String} {v : Int32} {ls : List (Nat × Value)} {ws : va_W} (C : zC G cL_law nL own (some .boolean) d) (hd : decode cL_law pc = .ok (.ireturn, 1)) (_ : narrow .boolean (.int v) = .int v) (F : lF G b L xs v) : zV G nL pc ls [.int v] ws := by
  intro H locs la hP hD hS hl
  obtain ⟨hX, hv, hR, ha, hN, hZ, hfr⟩ := F
  subst hv
  rw [hR, ha, hN, hZ]
  exact va_forget (fun q hq => hfr _ (hS.2.2 q hq)) (lw_ret C.1.1 C.1.2.1 C.2.2.2.2.1 C.2.2.2.1 hd)
def zBX (D : va_G) (cs : ClassId × ClassId × ClassId) (b L : Nat) (xs : zA) (sz : Nat) (U : State) : Prop := zB D cs [] sz U ∧ va_X b L xs U U.heap ∧ b < sz
def zMX (l : Launch) (D : va_G) (cs : ClassId × ClassId × ClassId) (b L : Nat) (xs : zA) (a rv : Int32) : Prop :=
  ∀ sz : Nat, Met l yL_cell (.code yL_cell cL_cell 2 (some .int) :: lw_tg) (Rmd 0) (va_Pc [.ref b, .int a] (zBX D cs b L xs sz)) (va_Qi (fun v (_ : Unit) => v = rv) (fun _ t => va_P D vwCl [] t.heap) (va_A [] sz)) 0 0 (va_A [] sz)
theorem zBX_blind {D : va_G} {cs : ClassId × ClassId × ClassId} {b L : Nat} {xs : zA} {sz : Nat} {As : List Value} : FrameBlind (va_Pc As (zBX D cs b L xs sz)) := fun a U g mk q => by
  obtain ⟨q0, ⟨q1, q2, q3, q4, q5⟩, q6, q7⟩ := q
  exact ⟨q0, ⟨q1, q2, va_K.moved (u := U) (U := U.calling g mk a) (Vm.Alike.refl U.vm) q3, q4, zSt.moved (u := U) (U := U.calling g mk a) (Vm.Alike.refl U.vm) q5⟩, va_X.moved (u := U) (U := U.calling g mk a) (Vm.Alike.refl U.vm) q6, q7⟩
theorem z_slen {G : GT} {cc : ByteArray} {nL b L d pc : Nat} {xs : zA} {own : String} {ret : Option FieldType} {ls : List (Nat × Value)} {st : List Value} {ws : va_W} (C : zC G cc nL own ret d) (X : lX G b L xs) (hd : decode cc pc = .ok (.arraylength, 1)) (k : zV G nL (pc + 1) ls (.int (nI L) :: st) ws) : zV G nL pc ls (.ref b :: st) ws := fun H locs la hP hD hS hl => va_slen C.1.1 C.1.2.1 X.1 X.2.1 X.2.2 hS hd (k H locs la hP hD hS hl)
theorem z_sld {G : GT} {cc : ByteArray} {nL b L d pc j : Nat} {xs : zA} {own : String} {ret : Option FieldType} {ls : List (Nat × Value)} {st : List Value} {ws : va_W} {i : Int32} (C : zC G cc nL own ret d) (X : lX G b L xs) (hi : zin i L j) (hd : decode cc pc = .ok (.iaload, 1)) (k : zV G nL (pc + 1) ls (.int (xs j) :: st) ws) : zV G nL pc ls (.int i :: .ref b :: st) ws := by
  obtain ⟨h1, rfl⟩ := hi
  exact fun H locs la hP hD hS hl => va_sld C.1.1 C.1.2.1 X.1 X.2.1 X.2.2 hS h1 hd (k H locs la hP hD hS hl)
theorem c_L_cell {l : Launch} {D : va_G} {cs : ClassId × ClassId × ClassId} {b L : Nat} {xs : zA} {a v : Int32} (e : cellf L xs a = some v) : zMX l D cs b L xs a v := by
  intro sz
  refine Met.ofW (cc := cL_cell) (maxL := 2) (ret := some .int) (by decide +kernel) rfl ?_
  intro p e' s m args below meth c s₁ B hml hv
  obtain ⟨rfl, ⟨hsz, hP, hK, hD0, hSt⟩, hX, hb⟩ := hv
  subst hsz
  have hts := atoms_spec (ws := .code yL_cell cL_cell 2 (some .int) :: lw_tg) B.pre
  have hl := lv_entry [.ref b, .int a] (n := 2) (Nat.le_of_ble_eq_true rfl)
  rw [lg_entry_eq]
  have key : ∀ G : GT, zC G cL_cell 2 RL (some .int) 0 → lX G b L xs → zF G (some (.int v)) [] → zV G 2 0 [(0, .ref b), (1, .int a)] [] [] := by
    intro G C X F
    refine z_iload_n 1 C dL_cell_0 rfl ?_
    refine z_aload_n 0 C dL_cell_1 rfl ?_
    refine z_slen C X dL_cell_2 ?_
    unfold cellf at e
    refine z_icmp_ge (tgt := 12) C dL_cell_3 rfl (fun hc => ?_) (fun hc => ?_)
    · rw [if_pos hc] at e
      cases e
      refine z_ldc C dL_cell_12 tw_1 ?_
      refine z_iload_n 1 C dL_cell_14 rfl ?_
      refine z_iconst (v := 1) C dL_cell_15 (by decide) ?_
      refine z_iadd C dL_cell_16 ?_
      refine z_imul C dL_cell_17 ?_
      refine z_ldc C dL_cell_18 tw_2 ?_
      refine z_iadd C dL_cell_20 ?_
      exact z_iret C dL_cell_21 F
    · rw [if_neg hc] at e
      obtain ⟨j, hj, e⟩ := gd_e e
      cases e
      refine z_aload_n 0 C dL_cell_6 rfl ?_
      refine z_iload_n 1 C dL_cell_7 rfl ?_
      refine z_sld C X hj dL_cell_8 ?_
      refine z_goto (tgt := 21) C dL_cell_9 rfl ?_
      exact z_iret C dL_cell_21 F
  exact key (p, l, e', Rmd 0, s, m, [.ref b, .int a].toArray, below, meth, c, D, cs, va_A [] s.heap.size, va_Qi (fun z (_ : Unit) => z = v) (fun _ t => va_P D vwCl [] t.heap) (va_A [] s.heap.size), (0, 0), MQ below (va_Qi (fun z (_ : Unit) => z = v) (fun _ t => va_P D vwCl [] t.heap) (va_A [] s.heap.size)) [.ref b, .int a].toArray s 0 0 (va_A [] s.heap.size))
    ⟨⟨B.exec, B.bytes, hml, findClass_of_methodNamed B.named, fun w hw => hts w (List.mem_cons_of_mem _ hw)⟩, hK, ⟨Nat.le_refl _, Nat.le_refl _, Nat.zero_le _, Nat.zero_le _⟩, B.notSynchronized, B.returns, fun q h => Or.inr h, hSt⟩
    ⟨hX, hb, fun h => by
      rcases h with ⟨k, q, h⟩ | h
      · simp at h
      · exact absurd hb (Nat.not_lt.mpr h)⟩
    ⟨⟨rfl, rfl⟩, fun H locs t hP2 hS2 ht => ⟨⟨v, (), rfl, rfl, by show va_P D vwCl [] t.heap; rw [ht]; exact hP2⟩, va_S.F hS2 ht⟩⟩ s.heap [] _ hP (hD0.self) va_S.rf hl
theorem z_callX {G : GT} {cc : ByteArray} {nL b L d pc index : Nat} {xs : zA} {a rv : Int32} {own : String} {ret : Option FieldType} {ls : List (Nat × Value)} {st stk : List Value} {ws : va_W} (C : zC G cc nL own ret (d + 1)) (X : lX G b L xs) (hd : decode cc pc = .ok (.invokestatic index, 3)) (w : zWS own index yL_cell cL_cell 2 (some .int) 2) (e : cellf L xs a = some rv) (hst : stk = .int a :: .ref b :: st) (hcat : (st.map fun v => v.category).sum ≤ 8)
    (kk : zV G nL (pc + 3) ls (.int rv :: st) ws) : zV G nL pc ls stk ws := by
  intro H locs la hP hD hS hl
  subst hst
  have hC : ([] : List Nat).map (fun i => ws[i]?) = ([] : va_W).map some := rfl
  have hPc := hP.sub [] (zfm hC)
  have hDc := hD.sub [] rfl hC
  have hFc := va_free hD hS C.2.2.2.2.2.1 [] hC
  have hb : b < H.size := Nat.lt_of_lt_of_le X.2.1 hS.1
  have hXH : va_X b L xs (gs G) H := X.1.kept (hS.2.1 b X.2.1 X.2.2)
  refine va_calli (va_runS (As := [.ref b, .int a]) (rest := st) C.1 (c_L_cell (l := gl G) (D := gD G) (cs := gk G) (b := b) e H.size) ⟨zCB ⟨C.2.2.1.1, C.2.2.1.2.1⟩ C.1.2.2.2.2 w.1 (Nat.succ_pos d), C.1.2.2.2.2 _ w.2⟩ ⟨zBX_blind, fun U hU hW => ⟨rfl, ⟨by rw [hU], by rw [hU]; exact hPc, va_K.moved hW.alike C.2.1, hDc.weaken (fun _ _ _ _ => trivial), by rw [hU]; exact ((C.2.2.2.2.2.2.kept (fun q h1 h2 => hS.2.1 q h1 h2)).narrow hFc).moved hW.alike⟩, by rw [hU]; exact hXH.moved hW.alike, hb⟩⟩ rfl rfl hl.1 rfl (lv_room hcat) hd ⟨C.2.2.1.2.2.1, C.2.2.1.2.2.2⟩) hS (fun q _ h => hFc q h) hFc (fun r u t H1 locs1 ht hvm hw hB hz1 hk1 hS1 => ?_)
  rw [ht] at hB
  obtain ⟨hP1, hD1⟩ := zput_P (w1 := []) hP hD hC rfl hk1 hB
  cases hw
  exact kk H1 locs1 la hP1 hD1 hS1 hl
end
