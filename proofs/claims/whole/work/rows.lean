section
-- ===== PART A: goes FIRST, ahead of the names: the tables' words, and 'selects' of the private methods out of them =====
/-- a private method of a class that the tables say can be made, by its rows of tables_1 -/
def lw_okq (q : MethodName × Nat) : Prop := (q.1.cls ≠ "java/lang/invoke/MethodHandle" ∧ q.1.cls ≠ "java/lang/invoke/VarHandle") ∧ Cond.instantiable q.1.cls q.2 ∈ tables_1 ∧ Cond.privateMethod q.1 ∈ tables_1 ∧ Cond.instanceMethod q.1 ∈ tables_1
theorem lw_p0 : lw_okq (⟨"ShadowLatches", "recordState", "()V"⟩, 7) := ⟨⟨by decide +kernel, by decide +kernel⟩, List.mem_of_getElem? (i := 9) (by decide +kernel), List.mem_of_getElem? (i := 166) (by decide +kernel), List.mem_of_getElem? (i := 167) (by decide +kernel)⟩
theorem lw_p1 : lw_okq (⟨"ShadowLatches", "dropOldestState", "()V"⟩, 7) := ⟨⟨by decide +kernel, by decide +kernel⟩, List.mem_of_getElem? (i := 9) (by decide +kernel), List.mem_of_getElem? (i := 170) (by decide +kernel), List.mem_of_getElem? (i := 171) (by decide +kernel)⟩
theorem lw_p2 : lw_okq (⟨"ShadowLatches", "isPath", "(I)Z"⟩, 7) := ⟨⟨by decide +kernel, by decide +kernel⟩, List.mem_of_getElem? (i := 9) (by decide +kernel), List.mem_of_getElem? (i := 185) (by decide +kernel), List.mem_of_getElem? (i := 186) (by decide +kernel)⟩
theorem lw_p3 : lw_okq (⟨"ShadowLatches$Circuit", "runOneCycle", "()V"⟩, 19) := ⟨⟨by decide +kernel, by decide +kernel⟩, List.mem_of_getElem? (i := 17) (by decide +kernel), List.mem_of_getElem? (i := 242) (by decide +kernel), List.mem_of_getElem? (i := 243) (by decide +kernel)⟩
theorem lw_p4 : lw_okq (⟨"ShadowLatches$Circuit", "countUses", "(I)V"⟩, 19) := ⟨⟨by decide +kernel, by decide +kernel⟩, List.mem_of_getElem? (i := 17) (by decide +kernel), List.mem_of_getElem? (i := 260) (by decide +kernel), List.mem_of_getElem? (i := 261) (by decide +kernel)⟩
theorem lw_p5 : lw_okq (⟨"ShadowLatches$Circuit", "spendCycle", "(I)V"⟩, 19) := ⟨⟨by decide +kernel, by decide +kernel⟩, List.mem_of_getElem? (i := 17) (by decide +kernel), List.mem_of_getElem? (i := 265) (by decide +kernel), List.mem_of_getElem? (i := 266) (by decide +kernel)⟩
theorem lw_p6 : lw_okq (⟨"ShadowLatches$Circuit", "changeHeat", "(I)V"⟩, 19) := ⟨⟨by decide +kernel, by decide +kernel⟩, List.mem_of_getElem? (i := 17) (by decide +kernel), List.mem_of_getElem? (i := 272) (by decide +kernel), List.mem_of_getElem? (i := 273) (by decide +kernel)⟩
theorem lw_p7 : lw_okq (⟨"ShadowLatches$Circuit", "complain", "()V"⟩, 19) := ⟨⟨by decide +kernel, by decide +kernel⟩, List.mem_of_getElem? (i := 17) (by decide +kernel), List.mem_of_getElem? (i := 276) (by decide +kernel), List.mem_of_getElem? (i := 277) (by decide +kernel)⟩
theorem lw_p8 : lw_okq (⟨"ShadowLatches$Circuit", "lookAtWindow", "()V"⟩, 19) := ⟨⟨by decide +kernel, by decide +kernel⟩, List.mem_of_getElem? (i := 17) (by decide +kernel), List.mem_of_getElem? (i := 280) (by decide +kernel), List.mem_of_getElem? (i := 281) (by decide +kernel)⟩
theorem lw_p9 : lw_okq (⟨"ShadowLatches", "tryCycles", "(II)V"⟩, 7) := ⟨⟨by decide +kernel, by decide +kernel⟩, List.mem_of_getElem? (i := 9) (by decide +kernel), List.mem_of_getElem? (i := 343) (by decide +kernel), List.mem_of_getElem? (i := 344) (by decide +kernel)⟩
theorem lw_p10 : lw_okq (⟨"ShadowLatchesModel", "remember", "()V"⟩, 12) := ⟨⟨by decide +kernel, by decide +kernel⟩, List.mem_of_getElem? (i := 361) (by decide +kernel), List.mem_of_getElem? (i := 416) (by decide +kernel), List.mem_of_getElem? (i := 417) (by decide +kernel)⟩
theorem lw_p11 : lw_okq (⟨"ShadowLatchesModel", "acted", "(I)I"⟩, 12) := ⟨⟨by decide +kernel, by decide +kernel⟩, List.mem_of_getElem? (i := 361) (by decide +kernel), List.mem_of_getElem? (i := 423) (by decide +kernel), List.mem_of_getElem? (i := 424) (by decide +kernel)⟩
theorem lw_p12 : lw_okq (⟨"ShadowLatchesModel", "isPath", "(I)Z"⟩, 12) := ⟨⟨by decide +kernel, by decide +kernel⟩, List.mem_of_getElem? (i := 361) (by decide +kernel), List.mem_of_getElem? (i := 431) (by decide +kernel), List.mem_of_getElem? (i := 432) (by decide +kernel)⟩
theorem lw_p13 : lw_okq (⟨"ShadowLatchesModel", "sets", "(II)I"⟩, 12) := ⟨⟨by decide +kernel, by decide +kernel⟩, List.mem_of_getElem? (i := 361) (by decide +kernel), List.mem_of_getElem? (i := 435) (by decide +kernel), List.mem_of_getElem? (i := 436) (by decide +kernel)⟩
theorem lw_p14 : lw_okq (⟨"ShadowLatchesModel", "begins", "(I)V"⟩, 12) := ⟨⟨by decide +kernel, by decide +kernel⟩, List.mem_of_getElem? (i := 361) (by decide +kernel), List.mem_of_getElem? (i := 448) (by decide +kernel), List.mem_of_getElem? (i := 449) (by decide +kernel)⟩
theorem lw_p15 : lw_okq (⟨"ShadowLatchesModel", "fault", "()I"⟩, 12) := ⟨⟨by decide +kernel, by decide +kernel⟩, List.mem_of_getElem? (i := 361) (by decide +kernel), List.mem_of_getElem? (i := 464) (by decide +kernel), List.mem_of_getElem? (i := 465) (by decide +kernel)⟩
def lw_privs_1 : List (MethodName × Nat) := [(⟨"ShadowLatches", "recordState", "()V"⟩, 7), (⟨"ShadowLatches", "dropOldestState", "()V"⟩, 7), (⟨"ShadowLatches", "isPath", "(I)Z"⟩, 7), (⟨"ShadowLatches$Circuit", "runOneCycle", "()V"⟩, 19), (⟨"ShadowLatches$Circuit", "countUses", "(I)V"⟩, 19), (⟨"ShadowLatches$Circuit", "spendCycle", "(I)V"⟩, 19), (⟨"ShadowLatches$Circuit", "changeHeat", "(I)V"⟩, 19), (⟨"ShadowLatches$Circuit", "complain", "()V"⟩, 19), (⟨"ShadowLatches$Circuit", "lookAtWindow", "()V"⟩, 19), (⟨"ShadowLatches", "tryCycles", "(II)V"⟩, 7), (⟨"ShadowLatchesModel", "remember", "()V"⟩, 12), (⟨"ShadowLatchesModel", "acted", "(I)I"⟩, 12), (⟨"ShadowLatchesModel", "isPath", "(I)Z"⟩, 12), (⟨"ShadowLatchesModel", "sets", "(II)I"⟩, 12), (⟨"ShadowLatchesModel", "begins", "(I)V"⟩, 12), (⟨"ShadowLatchesModel", "fault", "()I"⟩, 12)]
theorem lw_r1 : ∀ q ∈ lw_privs_1, lw_okq q := List.forall_mem_cons.mpr ⟨lw_p0, List.forall_mem_cons.mpr ⟨lw_p1, List.forall_mem_cons.mpr ⟨lw_p2, List.forall_mem_cons.mpr ⟨lw_p3, List.forall_mem_cons.mpr ⟨lw_p4, List.forall_mem_cons.mpr ⟨lw_p5, List.forall_mem_cons.mpr ⟨lw_p6, List.forall_mem_cons.mpr ⟨lw_p7, List.forall_mem_cons.mpr ⟨lw_p8, List.forall_mem_cons.mpr ⟨lw_p9, List.forall_mem_cons.mpr ⟨lw_p10, List.forall_mem_cons.mpr ⟨lw_p11, List.forall_mem_cons.mpr ⟨lw_p12, List.forall_mem_cons.mpr ⟨lw_p13, List.forall_mem_cons.mpr ⟨lw_p14, List.forall_mem_cons.mpr ⟨lw_p15, fun _ h => absurd h List.not_mem_nil⟩⟩⟩⟩⟩⟩⟩⟩⟩⟩⟩⟩⟩⟩⟩⟩
theorem lw_p16 : lw_okq (⟨"ShadowLatchesModel", "readsSet", "()Z"⟩, 12) := ⟨⟨by decide +kernel, by decide +kernel⟩, List.mem_of_getElem? (i := 361) (by decide +kernel), List.mem_of_getElem? (i := 468) (by decide +kernel), List.mem_of_getElem? (i := 469) (by decide +kernel)⟩
theorem lw_p17 : lw_okq (⟨"ShadowLatchesModel", "takes", "(I)Z"⟩, 12) := ⟨⟨by decide +kernel, by decide +kernel⟩, List.mem_of_getElem? (i := 361) (by decide +kernel), List.mem_of_getElem? (i := 472) (by decide +kernel), List.mem_of_getElem? (i := 473) (by decide +kernel)⟩
theorem lw_p18 : lw_okq (⟨"ShadowLatchesModel", "isHere", "(II)Z"⟩, 12) := ⟨⟨by decide +kernel, by decide +kernel⟩, List.mem_of_getElem? (i := 361) (by decide +kernel), List.mem_of_getElem? (i := 476) (by decide +kernel), List.mem_of_getElem? (i := 477) (by decide +kernel)⟩
theorem lw_p19 : lw_okq (⟨"ShadowLatchesModel", "cycles", "()V"⟩, 12) := ⟨⟨by decide +kernel, by decide +kernel⟩, List.mem_of_getElem? (i := 361) (by decide +kernel), List.mem_of_getElem? (i := 510) (by decide +kernel), List.mem_of_getElem? (i := 511) (by decide +kernel)⟩
theorem lw_p20 : lw_okq (⟨"ShadowLatchesModel", "worstOf", "(I)I"⟩, 12) := ⟨⟨by decide +kernel, by decide +kernel⟩, List.mem_of_getElem? (i := 361) (by decide +kernel), List.mem_of_getElem? (i := 514) (by decide +kernel), List.mem_of_getElem? (i := 515) (by decide +kernel)⟩
theorem lw_p21 : lw_okq (⟨"ShadowLatchesModel", "stateWith", "(II)I"⟩, 12) := ⟨⟨by decide +kernel, by decide +kernel⟩, List.mem_of_getElem? (i := 361) (by decide +kernel), List.mem_of_getElem? (i := 521) (by decide +kernel), List.mem_of_getElem? (i := 522) (by decide +kernel)⟩
theorem lw_p22 : lw_okq (⟨"ShadowLatchesModel", "delayWith", "(III)I"⟩, 12) := ⟨⟨by decide +kernel, by decide +kernel⟩, List.mem_of_getElem? (i := 361) (by decide +kernel), List.mem_of_getElem? (i := 525) (by decide +kernel), List.mem_of_getElem? (i := 526) (by decide +kernel)⟩
theorem lw_p23 : lw_okq (⟨"ShadowLatchesModel", "spends", "(I)V"⟩, 12) := ⟨⟨by decide +kernel, by decide +kernel⟩, List.mem_of_getElem? (i := 361) (by decide +kernel), List.mem_of_getElem? (i := 529) (by decide +kernel), List.mem_of_getElem? (i := 530) (by decide +kernel)⟩
theorem lw_p24 : lw_okq (⟨"ShadowLatchesModel", "looks", "()V"⟩, 12) := ⟨⟨by decide +kernel, by decide +kernel⟩, List.mem_of_getElem? (i := 361) (by decide +kernel), List.mem_of_getElem? (i := 533) (by decide +kernel), List.mem_of_getElem? (i := 534) (by decide +kernel)⟩
theorem lw_p25 : lw_okq (⟨"ShadowLatchesModel", "setsWith", "(I)I"⟩, 12) := ⟨⟨by decide +kernel, by decide +kernel⟩, List.mem_of_getElem? (i := 361) (by decide +kernel), List.mem_of_getElem? (i := 553) (by decide +kernel), List.mem_of_getElem? (i := 554) (by decide +kernel)⟩
theorem lw_p26 : lw_okq (⟨"ShadowLatchesModel", "areWell", "(II)Z"⟩, 12) := ⟨⟨by decide +kernel, by decide +kernel⟩, List.mem_of_getElem? (i := 361) (by decide +kernel), List.mem_of_getElem? (i := 570) (by decide +kernel), List.mem_of_getElem? (i := 571) (by decide +kernel)⟩
theorem lw_p27 : lw_okq (⟨"ShadowLatchesModel", "brings", "(III)I"⟩, 12) := ⟨⟨by decide +kernel, by decide +kernel⟩, List.mem_of_getElem? (i := 361) (by decide +kernel), List.mem_of_getElem? (i := 579) (by decide +kernel), List.mem_of_getElem? (i := 580) (by decide +kernel)⟩
theorem lw_p28 : lw_okq (⟨"ShadowLatchesModel", "energySince", "([I)I"⟩, 12) := ⟨⟨by decide +kernel, by decide +kernel⟩, List.mem_of_getElem? (i := 361) (by decide +kernel), List.mem_of_getElem? (i := 583) (by decide +kernel), List.mem_of_getElem? (i := 584) (by decide +kernel)⟩
theorem lw_p29 : lw_okq (⟨"ShadowLatchesModel", "pathsThat", "(I)I"⟩, 12) := ⟨⟨by decide +kernel, by decide +kernel⟩, List.mem_of_getElem? (i := 361) (by decide +kernel), List.mem_of_getElem? (i := 598) (by decide +kernel), List.mem_of_getElem? (i := 599) (by decide +kernel)⟩
def lw_privs_2 : List (MethodName × Nat) := [(⟨"ShadowLatchesModel", "readsSet", "()Z"⟩, 12), (⟨"ShadowLatchesModel", "takes", "(I)Z"⟩, 12), (⟨"ShadowLatchesModel", "isHere", "(II)Z"⟩, 12), (⟨"ShadowLatchesModel", "cycles", "()V"⟩, 12), (⟨"ShadowLatchesModel", "worstOf", "(I)I"⟩, 12), (⟨"ShadowLatchesModel", "stateWith", "(II)I"⟩, 12), (⟨"ShadowLatchesModel", "delayWith", "(III)I"⟩, 12), (⟨"ShadowLatchesModel", "spends", "(I)V"⟩, 12), (⟨"ShadowLatchesModel", "looks", "()V"⟩, 12), (⟨"ShadowLatchesModel", "setsWith", "(I)I"⟩, 12), (⟨"ShadowLatchesModel", "areWell", "(II)Z"⟩, 12), (⟨"ShadowLatchesModel", "brings", "(III)I"⟩, 12), (⟨"ShadowLatchesModel", "energySince", "([I)I"⟩, 12), (⟨"ShadowLatchesModel", "pathsThat", "(I)I"⟩, 12)]
theorem lw_r2 : ∀ q ∈ lw_privs_2, lw_okq q := List.forall_mem_cons.mpr ⟨lw_p16, List.forall_mem_cons.mpr ⟨lw_p17, List.forall_mem_cons.mpr ⟨lw_p18, List.forall_mem_cons.mpr ⟨lw_p19, List.forall_mem_cons.mpr ⟨lw_p20, List.forall_mem_cons.mpr ⟨lw_p21, List.forall_mem_cons.mpr ⟨lw_p22, List.forall_mem_cons.mpr ⟨lw_p23, List.forall_mem_cons.mpr ⟨lw_p24, List.forall_mem_cons.mpr ⟨lw_p25, List.forall_mem_cons.mpr ⟨lw_p26, List.forall_mem_cons.mpr ⟨lw_p27, List.forall_mem_cons.mpr ⟨lw_p28, List.forall_mem_cons.mpr ⟨lw_p29, fun _ h => absurd h List.not_mem_nil⟩⟩⟩⟩⟩⟩⟩⟩⟩⟩⟩⟩⟩⟩
def lw_privs : List (MethodName × Nat) := lw_privs_1 ++ (lw_privs_2)
def lw_tbl : List Cond := k2_sels lw_privs ++ tables_1
theorem lw_privs_ok : ∀ q ∈ lw_privs, lw_okq q := by
  show ∀ q ∈ lw_privs_1 ++ (lw_privs_2), lw_okq q
  exact List.forall_mem_append.mpr ⟨lw_r1, lw_r2⟩
end
section
def RX0 : String := "ShadowLatches$Circuit"
def TX0 : u_T := fun k => match k with
  | 0 => ("ShadowLatches$Circuit", "lengths", "[I", true)
  | 1 => ("ShadowLatches$Circuit", "uses", "[I", true)
  | 2 => ("ShadowLatches$Circuit", "paths", "I", false)
  | 3 => ("ShadowLatches$Circuit", "sets", "[I", true)
  | 4 => ("ShadowLatches$Circuit", "setCount", "I", false)
  | 5 => ("ShadowLatches$Circuit", "place", "I", false)
  | 6 => ("ShadowLatches$Circuit", "settings", "[I", true)
  | 7 => ("ShadowLatches$Circuit", "voltage", "I", false)
  | 8 => ("ShadowLatches$Circuit", "heat", "I", false)
  | 9 => ("ShadowLatches$Circuit", "governed", "Z", false)
  | 10 => ("ShadowLatches$Circuit", "windowCycles", "I", false)
  | 11 => ("ShadowLatches$Circuit", "windowComplaints", "I", false)
  | 12 => ("ShadowLatches$Circuit", "spent", "I", false)
  | 13 => ("ShadowLatches$Circuit", "work", "I", false)
  | 14 => ("ShadowLatches$Circuit", "complaints", "I", false)
  | 15 => ("ShadowLatches$Circuit", "lost", "I", false)
  | 16 => ("ShadowLatches$Circuit", "energy", "J", false)
  | 17 => ("ShadowLatches$Circuit", "stepsUp", "I", false)
  | _ => ("ShadowLatches$Circuit", "stepsDown", "I", false)
def tyX0 : Nat → FieldType := fun k => match k with
  | 0 => .array .int
  | 1 => .array .int
  | 2 => .int
  | 3 => .array .int
  | 4 => .int
  | 5 => .int
  | 6 => .array .int
  | 7 => .int
  | 8 => .int
  | 9 => .boolean
  | 10 => .int
  | 11 => .int
  | 12 => .int
  | 13 => .int
  | 14 => .int
  | 15 => .int
  | 16 => .long
  | 17 => .int
  | _ => .int
abbrev wsX00 : List Cond := u_ws RX0 TX0 19
theorem nmX0 : ∀ a, a < 19 → ∀ b, b < 19 → a ≠ b → (TX0 a).2.1 ≠ (TX0 b).2.1 := by decide +kernel
theorem tyX0_ok : ∀ k, k < 19 → parseFieldDescriptor (TX0 k).2.2.1 = some (tyX0 k) := by decide +kernel
abbrev cX0_init : ByteArray := prog_2_method_1_code
def yX0_init : MethodName := ⟨RX0, "<init>", "()V"⟩
abbrev cX0_copyFrom : ByteArray := prog_2_method_2_code
def yX0_copyFrom : MethodName := ⟨RX0, "copyFrom", "(LShadowLatches$Circuit;)V"⟩
abbrev cX0_beginWorkload : ByteArray := prog_2_method_3_code
def yX0_beginWorkload : MethodName := ⟨RX0, "beginWorkload", "(I)V"⟩
abbrev cX0_beginWindow : ByteArray := prog_2_method_4_code
def yX0_beginWindow : MethodName := ⟨RX0, "beginWindow", "()V"⟩
abbrev cX0_delayOf : ByteArray := prog_2_method_5_code
def yX0_delayOf : MethodName := ⟨RX0, "delayOf", "(III)I"⟩
abbrev cX0_delayNow : ByteArray := prog_2_method_6_code
def yX0_delayNow : MethodName := ⟨RX0, "delayNow", "(I)I"⟩
abbrev cX0_judge : ByteArray := prog_2_method_7_code
def yX0_judge : MethodName := ⟨RX0, "judge", "(I)I"⟩
abbrev cX0_pathsJudged : ByteArray := prog_2_method_8_code
def yX0_pathsJudged : MethodName := ⟨RX0, "pathsJudged", "(I)I"⟩
abbrev cX0_setsWith : ByteArray := prog_2_method_9_code
def yX0_setsWith : MethodName := ⟨RX0, "setsWith", "(I)I"⟩
abbrev cX0_longestOf : ByteArray := prog_2_method_10_code
def yX0_longestOf : MethodName := ⟨RX0, "longestOf", "(I)I"⟩
abbrev cX0_longestInWorkload : ByteArray := prog_2_method_11_code
def yX0_longestInWorkload : MethodName := ⟨RX0, "longestInWorkload", "()I"⟩
abbrev cX0_runCycles : ByteArray := prog_2_method_12_code
def yX0_runCycles : MethodName := ⟨RX0, "runCycles", "(I)V"⟩
abbrev cX0_runOneCycle : ByteArray := prog_2_method_13_code
def yX0_runOneCycle : MethodName := ⟨RX0, "runOneCycle", "()V"⟩
abbrev cX0_countUses : ByteArray := prog_2_method_14_code
def yX0_countUses : MethodName := ⟨RX0, "countUses", "(I)V"⟩
abbrev cX0_complain : ByteArray := prog_2_method_15_code
def yX0_complain : MethodName := ⟨RX0, "complain", "()V"⟩
abbrev cX0_spendCycle : ByteArray := prog_2_method_16_code
def yX0_spendCycle : MethodName := ⟨RX0, "spendCycle", "(I)V"⟩
abbrev cX0_changeHeat : ByteArray := prog_2_method_17_code
def yX0_changeHeat : MethodName := ⟨RX0, "changeHeat", "(I)V"⟩
abbrev cX0_lookAtWindow : ByteArray := prog_2_method_18_code
def yX0_lookAtWindow : MethodName := ⟨RX0, "lookAtWindow", "()V"⟩
def RX1 : String := "ShadowLatches$WorkloadText"
def TX1 : u_T := fun k => match k with
  | 0 => ("ShadowLatches$WorkloadText", "characters", "[C", true)
  | 1 => ("ShadowLatches$WorkloadText", "length", "I", false)
  | 2 => ("ShadowLatches$WorkloadText", "sets", "[I", true)
  | _ => ("ShadowLatches$WorkloadText", "setCount", "I", false)
def tyX1 : Nat → FieldType := fun k => match k with
  | 0 => .array .char
  | 1 => .int
  | 2 => .array .int
  | _ => .int
abbrev wsX10 : List Cond := u_ws RX1 TX1 4
theorem nmX1 : ∀ a, a < 4 → ∀ b, b < 4 → a ≠ b → (TX1 a).2.1 ≠ (TX1 b).2.1 := by decide +kernel
theorem tyX1_ok : ∀ k, k < 4 → parseFieldDescriptor (TX1 k).2.2.1 = some (tyX1 k) := by decide +kernel
abbrev cX1_init : ByteArray := prog_3_method_1_code
def yX1_init : MethodName := ⟨RX1, "<init>", "()V"⟩
abbrev cX1_append : ByteArray := prog_3_method_2_code
def yX1_append : MethodName := ⟨RX1, "append", "(C)Z"⟩
abbrev cX1_read : ByteArray := prog_3_method_3_code
def yX1_read : MethodName := ⟨RX1, "read", "()I"⟩
def RX2 : String := "ShadowLatches"
def TX2 : u_T := fun k => match k with
  | 0 => ("ShadowLatches", "now", "LShadowLatches$Circuit;", true)
  | 1 => ("ShadowLatches", "kept", "LShadowLatches$Circuit;", true)
  | 2 => ("ShadowLatches", "trial", "LShadowLatches$Circuit;", true)
  | 3 => ("ShadowLatches", "history", "[LShadowLatches$Circuit;", true)
  | 4 => ("ShadowLatches", "text", "LShadowLatches$WorkloadText;", true)
  | 5 => ("ShadowLatches", "states", "I", false)
  | _ => ("ShadowLatches", "hasKept", "Z", false)
def tyX2 : Nat → FieldType := fun k => match k with
  | 0 => .object "ShadowLatches$Circuit"
  | 1 => .object "ShadowLatches$Circuit"
  | 2 => .object "ShadowLatches$Circuit"
  | 3 => .array (.object "ShadowLatches$Circuit")
  | 4 => .object "ShadowLatches$WorkloadText"
  | 5 => .int
  | _ => .boolean
abbrev wsX20 : List Cond := u_ws RX2 TX2 7
theorem nmX2 : ∀ a, a < 7 → ∀ b, b < 7 → a ≠ b → (TX2 a).2.1 ≠ (TX2 b).2.1 := by decide +kernel
theorem tyX2_ok : ∀ k, k < 7 → parseFieldDescriptor (TX2 k).2.2.1 = some (tyX2 k) := by decide +kernel
abbrev cX2_init : ByteArray := prog_1_method_1_code
def yX2_init : MethodName := ⟨RX2, "<init>", "()V"⟩
abbrev cX2_addPath : ByteArray := prog_1_method_2_code
def yX2_addPath : MethodName := ⟨RX2, "addPath", "(I)I"⟩
abbrev cX2_setLength : ByteArray := prog_1_method_3_code
def yX2_setLength : MethodName := ⟨RX2, "setLength", "(II)I"⟩
abbrev cX2_takeWorkload : ByteArray := prog_1_method_4_code
def yX2_takeWorkload : MethodName := ⟨RX2, "takeWorkload", "()I"⟩
abbrev cX2_layWorkload : ByteArray := prog_1_method_5_code
def yX2_layWorkload : MethodName := ⟨RX2, "layWorkload", "(II)I"⟩
abbrev cX2_setVoltage : ByteArray := prog_1_method_6_code
def yX2_setVoltage : MethodName := ⟨RX2, "setVoltage", "(I)I"⟩
abbrev cX2_govern : ByteArray := prog_1_method_7_code
def yX2_govern : MethodName := ⟨RX2, "govern", "(Z)I"⟩
abbrev cX2_set : ByteArray := prog_1_method_8_code
def yX2_set : MethodName := ⟨RX2, "set", "(II)I"⟩
abbrev cX2_run : ByteArray := prog_1_method_9_code
def yX2_run : MethodName := ⟨RX2, "run", "(I)I"⟩
abbrev cX2_type : ByteArray := prog_1_method_10_code
def yX2_type : MethodName := ⟨RX2, "type", "(C)I"⟩
abbrev cX2_clearText : ByteArray := prog_1_method_11_code
def yX2_clearText : MethodName := ⟨RX2, "clearText", "()I"⟩
abbrev cX2_undo : ByteArray := prog_1_method_12_code
def yX2_undo : MethodName := ⟨RX2, "undo", "()I"⟩
abbrev cX2_keep : ByteArray := prog_1_method_13_code
def yX2_keep : MethodName := ⟨RX2, "keep", "()I"⟩
abbrev cX2_restore : ByteArray := prog_1_method_14_code
def yX2_restore : MethodName := ⟨RX2, "restore", "()I"⟩
abbrev cX2_path : ByteArray := prog_1_method_15_code
def yX2_path : MethodName := ⟨RX2, "path", "(II)I"⟩
abbrev cX2_delay : ByteArray := prog_1_method_16_code
def yX2_delay : MethodName := ⟨RX2, "delay", "(III)I"⟩
abbrev cX2_workload : ByteArray := prog_1_method_17_code
def yX2_workload : MethodName := ⟨RX2, "workload", "(I)I"⟩
abbrev cX2_least : ByteArray := prog_1_method_18_code
def yX2_least : MethodName := ⟨RX2, "least", "(Z)I"⟩
abbrev cX2_would : ByteArray := prog_1_method_19_code
def yX2_would : MethodName := ⟨RX2, "would", "(III)I"⟩
abbrev cX2_best : ByteArray := prog_1_method_20_code
def yX2_best : MethodName := ⟨RX2, "best", "(I)I"⟩
abbrev cX2_count : ByteArray := prog_1_method_21_code
def yX2_count : MethodName := ⟨RX2, "count", "(I)I"⟩
abbrev cX2_isWithin : ByteArray := prog_1_method_22_code
def yX2_isWithin : MethodName := ⟨RX2, "isWithin", "(III)Z"⟩
abbrev cX2_isLength : ByteArray := prog_1_method_23_code
def yX2_isLength : MethodName := ⟨RX2, "isLength", "(I)Z"⟩
abbrev cX2_isVoltage : ByteArray := prog_1_method_24_code
def yX2_isVoltage : MethodName := ⟨RX2, "isVoltage", "(I)Z"⟩
abbrev cX2_isPath : ByteArray := prog_1_method_25_code
def yX2_isPath : MethodName := ⟨RX2, "isPath", "(I)Z"⟩
abbrev cX2_recordState : ByteArray := prog_1_method_26_code
def yX2_recordState : MethodName := ⟨RX2, "recordState", "()V"⟩
abbrev cX2_dropOldestState : ByteArray := prog_1_method_27_code
def yX2_dropOldestState : MethodName := ⟨RX2, "dropOldestState", "()V"⟩
abbrev cX2_tryCycles : ByteArray := prog_1_method_28_code
def yX2_tryCycles : MethodName := ⟨RX2, "tryCycles", "(II)V"⟩
def RX3 : String := "ShadowLatchesModel"
def TX3 : u_T := fun k => match k with
  | 0 => ("ShadowLatchesModel", "all", "[I", true)
  | 1 => ("ShadowLatchesModel", "kept", "[I", true)
  | 2 => ("ShadowLatchesModel", "tried", "[I", true)
  | 3 => ("ShadowLatchesModel", "history", "[I", true)
  | 4 => ("ShadowLatchesModel", "historyLong", "I", false)
  | 5 => ("ShadowLatchesModel", "snapshot", "[I", true)
  | 6 => ("ShadowLatchesModel", "isTaken", "I", false)
  | 7 => ("ShadowLatchesModel", "text", "[I", true)
  | 8 => ("ShadowLatchesModel", "textLong", "I", false)
  | 9 => ("ShadowLatchesModel", "spot", "I", false)
  | 10 => ("ShadowLatchesModel", "read", "[I", true)
  | _ => ("ShadowLatchesModel", "readMany", "I", false)
def tyX3 : Nat → FieldType := fun k => match k with
  | 0 => .array .int
  | 1 => .array .int
  | 2 => .array .int
  | 3 => .array .int
  | 4 => .int
  | 5 => .array .int
  | 6 => .int
  | 7 => .array .int
  | 8 => .int
  | 9 => .int
  | 10 => .array .int
  | _ => .int
abbrev wsX30 : List Cond := u_ws RX3 TX3 12
theorem nmX3 : ∀ a, a < 12 → ∀ b, b < 12 → a ≠ b → (TX3 a).2.1 ≠ (TX3 b).2.1 := by decide +kernel
theorem tyX3_ok : ∀ k, k < 12 → parseFieldDescriptor (TX3 k).2.2.1 = some (tyX3 k) := by decide +kernel
abbrev cX3_init : ByteArray := prog_5_method_1_code
def yX3_init : MethodName := ⟨RX3, "<init>", "()V"⟩
abbrev cX3_in : ByteArray := prog_5_method_3_code
def yX3_in : MethodName := ⟨RX3, "in", "(JJJ)Z"⟩
abbrev cX3_copy : ByteArray := prog_5_method_4_code
def yX3_copy : MethodName := ⟨RX3, "copy", "([I[I)V"⟩
abbrev cX3_remember : ByteArray := prog_5_method_5_code
def yX3_remember : MethodName := ⟨RX3, "remember", "()V"⟩
abbrev cX3_acted : ByteArray := prog_5_method_6_code
def yX3_acted : MethodName := ⟨RX3, "acted", "(I)I"⟩
abbrev cX3_isPath : ByteArray := prog_5_method_7_code
def yX3_isPath : MethodName := ⟨RX3, "isPath", "(I)Z"⟩
abbrev cX3_has : ByteArray := prog_5_method_8_code
def yX3_has : MethodName := ⟨RX3, "has", "(II)Z"⟩
abbrev cX3_delayWith : ByteArray := prog_5_method_9_code
def yX3_delayWith : MethodName := ⟨RX3, "delayWith", "(III)I"⟩
abbrev cX3_stateWith : ByteArray := prog_5_method_10_code
def yX3_stateWith : MethodName := ⟨RX3, "stateWith", "(II)I"⟩
abbrev cX3_worstOf : ByteArray := prog_5_method_11_code
def yX3_worstOf : MethodName := ⟨RX3, "worstOf", "(I)I"⟩
abbrev cX3_many : ByteArray := prog_5_method_12_code
def yX3_many : MethodName := ⟨RX3, "many", "(I)I"⟩
abbrev cX3_spends : ByteArray := prog_5_method_13_code
def yX3_spends : MethodName := ⟨RX3, "spends", "(I)V"⟩
abbrev cX3_looks : ByteArray := prog_5_method_14_code
def yX3_looks : MethodName := ⟨RX3, "looks", "()V"⟩
abbrev cX3_cycles : ByteArray := prog_5_method_15_code
def yX3_cycles : MethodName := ⟨RX3, "cycles", "()V"⟩
abbrev cX3_isLength : ByteArray := prog_5_method_16_code
def yX3_isLength : MethodName := ⟨RX3, "isLength", "(I)Z"⟩
abbrev cX3_addPath : ByteArray := prog_5_method_17_code
def yX3_addPath : MethodName := ⟨RX3, "addPath", "(I)I"⟩
abbrev cX3_sets : ByteArray := prog_5_method_18_code
def yX3_sets : MethodName := ⟨RX3, "sets", "(II)I"⟩
abbrev cX3_setLength : ByteArray := prog_5_method_19_code
def yX3_setLength : MethodName := ⟨RX3, "setLength", "(II)I"⟩
abbrev cX3_begins : ByteArray := prog_5_method_20_code
def yX3_begins : MethodName := ⟨RX3, "begins", "(I)V"⟩
abbrev cX3_layWorkload : ByteArray := prog_5_method_21_code
def yX3_layWorkload : MethodName := ⟨RX3, "layWorkload", "(II)I"⟩
abbrev cX3_type : ByteArray := prog_5_method_22_code
def yX3_type : MethodName := ⟨RX3, "type", "(C)I"⟩
abbrev cX3_clearText : ByteArray := prog_5_method_23_code
def yX3_clearText : MethodName := ⟨RX3, "clearText", "()I"⟩
abbrev cX3_isHere : ByteArray := prog_5_method_24_code
def yX3_isHere : MethodName := ⟨RX3, "isHere", "(II)Z"⟩
abbrev cX3_takes : ByteArray := prog_5_method_25_code
def yX3_takes : MethodName := ⟨RX3, "takes", "(I)Z"⟩
abbrev cX3_readsSet : ByteArray := prog_5_method_26_code
def yX3_readsSet : MethodName := ⟨RX3, "readsSet", "()Z"⟩
abbrev cX3_fault : ByteArray := prog_5_method_27_code
def yX3_fault : MethodName := ⟨RX3, "fault", "()I"⟩
abbrev cX3_takeWorkload : ByteArray := prog_5_method_28_code
def yX3_takeWorkload : MethodName := ⟨RX3, "takeWorkload", "()I"⟩
abbrev cX3_isVoltage : ByteArray := prog_5_method_29_code
def yX3_isVoltage : MethodName := ⟨RX3, "isVoltage", "(I)Z"⟩
abbrev cX3_setVoltage : ByteArray := prog_5_method_30_code
def yX3_setVoltage : MethodName := ⟨RX3, "setVoltage", "(I)I"⟩
abbrev cX3_govern : ByteArray := prog_5_method_31_code
def yX3_govern : MethodName := ⟨RX3, "govern", "(Z)I"⟩
abbrev cX3_isSetting : ByteArray := prog_5_method_32_code
def yX3_isSetting : MethodName := ⟨RX3, "isSetting", "(II)Z"⟩
abbrev cX3_set : ByteArray := prog_5_method_33_code
def yX3_set : MethodName := ⟨RX3, "set", "(II)I"⟩
abbrev cX3_run : ByteArray := prog_5_method_34_code
def yX3_run : MethodName := ⟨RX3, "run", "(I)I"⟩
abbrev cX3_undo : ByteArray := prog_5_method_35_code
def yX3_undo : MethodName := ⟨RX3, "undo", "()I"⟩
abbrev cX3_keep : ByteArray := prog_5_method_36_code
def yX3_keep : MethodName := ⟨RX3, "keep", "()I"⟩
abbrev cX3_restore : ByteArray := prog_5_method_37_code
def yX3_restore : MethodName := ⟨RX3, "restore", "()I"⟩
abbrev cX3_setsWith : ByteArray := prog_5_method_38_code
def yX3_setsWith : MethodName := ⟨RX3, "setsWith", "(I)I"⟩
abbrev cX3_path : ByteArray := prog_5_method_39_code
def yX3_path : MethodName := ⟨RX3, "path", "(II)I"⟩
abbrev cX3_delay : ByteArray := prog_5_method_40_code
def yX3_delay : MethodName := ⟨RX3, "delay", "(III)I"⟩
abbrev cX3_workload : ByteArray := prog_5_method_41_code
def yX3_workload : MethodName := ⟨RX3, "workload", "(I)I"⟩
abbrev cX3_areWell : ByteArray := prog_5_method_42_code
def yX3_areWell : MethodName := ⟨RX3, "areWell", "(II)Z"⟩
abbrev cX3_least : ByteArray := prog_5_method_43_code
def yX3_least : MethodName := ⟨RX3, "least", "(Z)I"⟩
abbrev cX3_energySince : ByteArray := prog_5_method_44_code
def yX3_energySince : MethodName := ⟨RX3, "energySince", "([I)I"⟩
abbrev cX3_brings : ByteArray := prog_5_method_45_code
def yX3_brings : MethodName := ⟨RX3, "brings", "(III)I"⟩
abbrev cX3_would : ByteArray := prog_5_method_46_code
def yX3_would : MethodName := ⟨RX3, "would", "(III)I"⟩
abbrev cX3_best : ByteArray := prog_5_method_47_code
def yX3_best : MethodName := ⟨RX3, "best", "(I)I"⟩
abbrev cX3_pathsThat : ByteArray := prog_5_method_48_code
def yX3_pathsThat : MethodName := ⟨RX3, "pathsThat", "(I)I"⟩
abbrev cX3_count : ByteArray := prog_5_method_49_code
def yX3_count : MethodName := ⟨RX3, "count", "(I)I"⟩
def RJx8e188 : String := "java/lang/Cloneable"
def TJx8e188 : u_T := fun k => match k with
  | _ => ("", "", "", false)
def tyJx8e188 : Nat → FieldType := fun k => match k with
  | _ => .int
def RJ6 : String := "java/lang/Integer"
def TJ6 : u_T := fun k => match k with
  | _ => ("", "", "", false)
def tyJ6 : Nat → FieldType := fun k => match k with
  | _ => .int
abbrev cJ6_bitCount_0f7a4 : ByteArray := prog_7_method_49_code
def yJ6_bitCount_0f7a4 : MethodName := ⟨RJ6, "bitCount", "(I)I"⟩
def RJ9 : String := "java/lang/Math"
def TJ9 : u_T := fun k => match k with
  | _ => ("", "", "", false)
def tyJ9 : Nat → FieldType := fun k => match k with
  | _ => .int
abbrev cJ9_max_7cf53 : ByteArray := prog_8_method_65_code
def yJ9_max_7cf53 : MethodName := ⟨RJ9, "max", "(II)I"⟩
abbrev cJ9_min_7cf53 : ByteArray := prog_8_method_69_code
def yJ9_min_7cf53 : MethodName := ⟨RJ9, "min", "(II)I"⟩
def RJ10 : String := "java/lang/System"
def TJ10 : u_T := fun k => match k with
  | _ => ("", "", "", false)
def tyJ10 : Nat → FieldType := fun k => match k with
  | _ => .int
def RL : String := "ShadowLatchesLaw"
abbrev cL_law : ByteArray := code
def yL_law : MethodName := ⟨RL, "law", "([I)Z"⟩
abbrev vwCl : List vw_C := [(RX0, TX0, 19), (RX1, TX1, 4), (RX2, TX2, 7), (RX3, TX3, 12)]
end
section
theorem ws_all_good {w : Cond} {l : List Cond} (i : Nat) (h : l[i]? = some w) (hl : ∀ w ∈ l, w ∈ lw_tbl) (g : goodWord w = true) : w ∈ lw_tbl.filter goodWord := List.mem_filter.mpr ⟨hl w (List.mem_of_getElem? h), g⟩
def WS : List Cond := lw_tbl.filter goodWord
theorem WS_tbl : ∀ w ∈ WS, w ∈ lw_tbl := fun w h => (List.mem_filter.mp h).1
theorem WS_good : ∀ w ∈ WS, goodWord w = true := fun w h => (List.mem_filter.mp h).2
theorem tb1 : ∀ w ∈ tables_1_1, w ∈ lw_tbl := fun _ h => List.mem_append_right _ (List.mem_append_left _ h)
theorem tb2 : ∀ w ∈ tables_1_2, w ∈ lw_tbl := fun _ h => List.mem_append_right _ (List.mem_append_right _ (List.mem_append_left _ h))
theorem tb3 : ∀ w ∈ tables_1_3, w ∈ lw_tbl := fun _ h => List.mem_append_right _ (List.mem_append_right _ (List.mem_append_right _ h))
theorem tb0 : ∀ w ∈ k2_sels lw_privs, w ∈ lw_tbl := fun _ h => List.mem_append_left _ h
theorem wd1_0 : Cond.initialized "ShadowLatchesLaw" ∈ WS := ws_all_good (l := tables_1_1) 0 (by decide +kernel) tb1 (by decide +kernel)
theorem wd1_1 : Cond.initialized "ShadowLatches" ∈ WS := ws_all_good (l := tables_1_1) 1 (by decide +kernel) tb1 (by decide +kernel)
theorem wd1_2 : Cond.initialized "ShadowLatches$Circuit" ∈ WS := ws_all_good (l := tables_1_1) 2 (by decide +kernel) tb1 (by decide +kernel)
theorem wd1_3 : Cond.initialized "ShadowLatches$WorkloadText" ∈ WS := ws_all_good (l := tables_1_1) 3 (by decide +kernel) tb1 (by decide +kernel)
theorem wd1_4 : Cond.initialized "ShadowLatchesModel" ∈ WS := ws_all_good (l := tables_1_1) 4 (by decide +kernel) tb1 (by decide +kernel)
theorem wd1_5 : Cond.initialized "java/lang/System" ∈ WS := ws_all_good (l := tables_1_1) 5 (by decide +kernel) tb1 (by decide +kernel)
theorem wd1_6 : Cond.initialized "java/lang/Integer" ∈ WS := ws_all_good (l := tables_1_1) 6 (by decide +kernel) tb1 (by decide +kernel)
theorem wd1_7 : Cond.initialized "java/lang/Math" ∈ WS := ws_all_good (l := tables_1_1) 7 (by decide +kernel) tb1 (by decide +kernel)
theorem wd1_8 : Cond.classLink "ShadowLatchesLaw" (7 : Nat) "ShadowLatches" ∈ WS := ws_all_good (l := tables_1_1) 8 (by decide +kernel) tb1 (by decide +kernel)
theorem wd1_9 : Cond.instantiable "ShadowLatches" (7 : Nat) ∈ WS := ws_all_good (l := tables_1_1) 9 (by decide +kernel) tb1 (by decide +kernel)
theorem wd1_10 : Cond.methodLink "ShadowLatchesLaw" (9 : Nat) ({ cls := "ShadowLatches", name := "<init>", desc := "()V" } : MethodName) ∈ WS := ws_all_good (l := tables_1_1) 10 (by decide +kernel) tb1 (by decide +kernel)
theorem wd1_11 : Cond.instanceMethod ({ cls := "ShadowLatches", name := "<init>", desc := "()V" } : MethodName) ∈ WS := ws_all_good (l := tables_1_1) 11 (by decide +kernel) tb1 (by decide +kernel)
theorem wd1_12 : Cond.code ({ cls := "ShadowLatches", name := "<init>", desc := "()V" } : MethodName) prog_1_method_1_code (2 : Nat) (Option.none : Option FieldType) ∈ WS := ws_all_good (l := tables_1_1) 12 (by decide +kernel) tb1 (by decide +kernel)
theorem wd1_13 : Cond.methodLink "ShadowLatches" (1 : Nat) ({ cls := "java/lang/Object", name := "<init>", desc := "()V" } : MethodName) ∈ WS := ws_all_good (l := tables_1_1) 13 (by decide +kernel) tb1 (by decide +kernel)
theorem wd1_14 : Cond.instanceMethod ({ cls := "java/lang/Object", name := "<init>", desc := "()V" } : MethodName) ∈ WS := ws_all_good (l := tables_1_1) 14 (by decide +kernel) tb1 (by decide +kernel)
theorem wd1_15 : Cond.code ({ cls := "java/lang/Object", name := "<init>", desc := "()V" } : MethodName) object_method_1_code (1 : Nat) (Option.none : Option FieldType) ∈ WS := ws_all_good (l := tables_1_1) 15 (by decide +kernel) tb1 (by decide +kernel)
theorem wd1_16 : Cond.classLink "ShadowLatches" (7 : Nat) "ShadowLatches$Circuit" ∈ WS := ws_all_good (l := tables_1_1) 16 (by decide +kernel) tb1 (by decide +kernel)
theorem wd1_17 : Cond.instantiable "ShadowLatches$Circuit" (19 : Nat) ∈ WS := ws_all_good (l := tables_1_1) 17 (by decide +kernel) tb1 (by decide +kernel)
theorem wd1_18 : Cond.methodLink "ShadowLatches" (9 : Nat) ({ cls := "ShadowLatches$Circuit", name := "<init>", desc := "()V" } : MethodName) ∈ WS := ws_all_good (l := tables_1_1) 18 (by decide +kernel) tb1 (by decide +kernel)
theorem wd1_19 : Cond.instanceMethod ({ cls := "ShadowLatches$Circuit", name := "<init>", desc := "()V" } : MethodName) ∈ WS := ws_all_good (l := tables_1_1) 19 (by decide +kernel) tb1 (by decide +kernel)
theorem wd1_20 : Cond.code ({ cls := "ShadowLatches$Circuit", name := "<init>", desc := "()V" } : MethodName) prog_2_method_1_code (1 : Nat) (Option.none : Option FieldType) ∈ WS := ws_all_good (l := tables_1_1) 20 (by decide +kernel) tb1 (by decide +kernel)
theorem wd1_21 : Cond.methodLink "ShadowLatches$Circuit" (1 : Nat) ({ cls := "java/lang/Object", name := "<init>", desc := "()V" } : MethodName) ∈ WS := ws_all_good (l := tables_1_1) 21 (by decide +kernel) tb1 (by decide +kernel)
theorem wd1_22 : Cond.fieldLink "ShadowLatches$Circuit" (19 : Nat) "ShadowLatches$Circuit" "FIRST_SETTINGS" "[I" ∈ WS := ws_all_good (l := tables_1_1) 22 (by decide +kernel) tb1 (by decide +kernel)
theorem wd1_24 : Cond.methodLink "ShadowLatches$Circuit" (22 : Nat) ({ cls := "[I", name := "clone", desc := "()Ljava/lang/Object;" } : MethodName) ∈ WS := ws_all_good (l := tables_1_1) 24 (by decide +kernel) tb1 (by decide +kernel)
theorem wd1_25 : Cond.sameMethod "[I" "java/lang/Object" "clone" "()Ljava/lang/Object;" ∈ WS := ws_all_good (l := tables_1_1) 25 (by decide +kernel) tb1 (by decide +kernel)
theorem wd1_26 : Cond.native ({ cls := "java/lang/Object", name := "clone", desc := "()Ljava/lang/Object;" } : MethodName) ∈ WS := ws_all_good (l := tables_1_1) 26 (by decide +kernel) tb1 (by decide +kernel)
theorem wd1_27 : Cond.instanceMethod ({ cls := "java/lang/Object", name := "clone", desc := "()Ljava/lang/Object;" } : MethodName) ∈ WS := ws_all_good (l := tables_1_1) 27 (by decide +kernel) tb1 (by decide +kernel)
theorem wd1_28 : Cond.selects "[I" ({ cls := "[I", name := "clone", desc := "()Ljava/lang/Object;" } : MethodName) ({ cls := "java/lang/Object", name := "clone", desc := "()Ljava/lang/Object;" } : MethodName) ∈ WS := ws_all_good (l := tables_1_1) 28 (by decide +kernel) tb1 (by decide +kernel)
theorem wq1_29 : Cond.castable "[I" "java/lang/Cloneable" ∈ lw_tbl := tb1 _ (List.mem_of_getElem? (i := 29) (by decide +kernel))
theorem wd1_30 : Cond.classLink "ShadowLatches$Circuit" (23 : Nat) "[I" ∈ WS := ws_all_good (l := tables_1_1) 30 (by decide +kernel) tb1 (by decide +kernel)
theorem wd1_31 : Cond.fieldLink "ShadowLatches$Circuit" (9 : Nat) "ShadowLatches$Circuit" "lengths" "[I" ∈ WS := ws_all_good (l := tables_1_1) 31 (by decide +kernel) tb1 (by decide +kernel)
theorem wd1_32 : Cond.fieldLink "ShadowLatches" (44 : Nat) "ShadowLatches$Circuit" "lengths" "[I" ∈ WS := ws_all_good (l := tables_1_1) 32 (by decide +kernel) tb1 (by decide +kernel)
theorem wd1_33 : Cond.fieldLink "ShadowLatches$Circuit" (13 : Nat) "ShadowLatches$Circuit" "uses" "[I" ∈ WS := ws_all_good (l := tables_1_1) 33 (by decide +kernel) tb1 (by decide +kernel)
theorem wd1_34 : Cond.fieldLink "ShadowLatches" (127 : Nat) "ShadowLatches$Circuit" "uses" "[I" ∈ WS := ws_all_good (l := tables_1_1) 34 (by decide +kernel) tb1 (by decide +kernel)
theorem wd1_35 : Cond.fieldLink "ShadowLatches$Circuit" (30 : Nat) "ShadowLatches$Circuit" "paths" "I" ∈ WS := ws_all_good (l := tables_1_1) 35 (by decide +kernel) tb1 (by decide +kernel)
theorem wd1_36 : Cond.fieldLink "ShadowLatches" (37 : Nat) "ShadowLatches$Circuit" "paths" "I" ∈ WS := ws_all_good (l := tables_1_1) 36 (by decide +kernel) tb1 (by decide +kernel)
theorem wd1_37 : Cond.fieldLink "ShadowLatches$Circuit" (16 : Nat) "ShadowLatches$Circuit" "sets" "[I" ∈ WS := ws_all_good (l := tables_1_1) 37 (by decide +kernel) tb1 (by decide +kernel)
theorem wd1_38 : Cond.fieldLink "ShadowLatches" (61 : Nat) "ShadowLatches$Circuit" "sets" "[I" ∈ WS := ws_all_good (l := tables_1_1) 38 (by decide +kernel) tb1 (by decide +kernel)
theorem wd1_39 : Cond.fieldLink "ShadowLatches$Circuit" (34 : Nat) "ShadowLatches$Circuit" "setCount" "I" ∈ WS := ws_all_good (l := tables_1_1) 39 (by decide +kernel) tb1 (by decide +kernel)
theorem wd1_40 : Cond.fieldLink "ShadowLatches" (137 : Nat) "ShadowLatches$Circuit" "setCount" "I" ∈ WS := ws_all_good (l := tables_1_1) 40 (by decide +kernel) tb1 (by decide +kernel)
theorem wd1_41 : Cond.fieldLink "ShadowLatches$Circuit" (49 : Nat) "ShadowLatches$Circuit" "place" "I" ∈ WS := ws_all_good (l := tables_1_1) 41 (by decide +kernel) tb1 (by decide +kernel)
theorem wd1_42 : Cond.fieldLink "ShadowLatches" (169 : Nat) "ShadowLatches$Circuit" "place" "I" ∈ WS := ws_all_good (l := tables_1_1) 42 (by decide +kernel) tb1 (by decide +kernel)
theorem wd1_43 : Cond.fieldLink "ShadowLatches$Circuit" (27 : Nat) "ShadowLatches$Circuit" "settings" "[I" ∈ WS := ws_all_good (l := tables_1_1) 43 (by decide +kernel) tb1 (by decide +kernel)
theorem wd1_44 : Cond.fieldLink "ShadowLatches" (95 : Nat) "ShadowLatches$Circuit" "settings" "[I" ∈ WS := ws_all_good (l := tables_1_1) 44 (by decide +kernel) tb1 (by decide +kernel)
theorem wd1_45 : Cond.fieldLink "ShadowLatches$Circuit" (37 : Nat) "ShadowLatches$Circuit" "voltage" "I" ∈ WS := ws_all_good (l := tables_1_1) 45 (by decide +kernel) tb1 (by decide +kernel)
theorem wd1_46 : Cond.fieldLink "ShadowLatches" (79 : Nat) "ShadowLatches$Circuit" "voltage" "I" ∈ WS := ws_all_good (l := tables_1_1) 46 (by decide +kernel) tb1 (by decide +kernel)
theorem wd1_47 : Cond.fieldLink "ShadowLatches$Circuit" (40 : Nat) "ShadowLatches$Circuit" "heat" "I" ∈ WS := ws_all_good (l := tables_1_1) 47 (by decide +kernel) tb1 (by decide +kernel)
theorem wd1_48 : Cond.fieldLink "ShadowLatches" (141 : Nat) "ShadowLatches$Circuit" "heat" "I" ∈ WS := ws_all_good (l := tables_1_1) 48 (by decide +kernel) tb1 (by decide +kernel)
theorem wd1_49 : Cond.fieldLink "ShadowLatches$Circuit" (52 : Nat) "ShadowLatches$Circuit" "governed" "Z" ∈ WS := ws_all_good (l := tables_1_1) 49 (by decide +kernel) tb1 (by decide +kernel)
theorem wd1_50 : Cond.fieldLink "ShadowLatches" (82 : Nat) "ShadowLatches$Circuit" "governed" "Z" ∈ WS := ws_all_good (l := tables_1_1) 50 (by decide +kernel) tb1 (by decide +kernel)
theorem wd1_51 : Cond.fieldLink "ShadowLatches$Circuit" (56 : Nat) "ShadowLatches$Circuit" "windowCycles" "I" ∈ WS := ws_all_good (l := tables_1_1) 51 (by decide +kernel) tb1 (by decide +kernel)
theorem wd1_52 : Cond.fieldLink "ShadowLatches" (163 : Nat) "ShadowLatches$Circuit" "windowCycles" "I" ∈ WS := ws_all_good (l := tables_1_1) 52 (by decide +kernel) tb1 (by decide +kernel)
theorem wd1_53 : Cond.fieldLink "ShadowLatches$Circuit" (59 : Nat) "ShadowLatches$Circuit" "windowComplaints" "I" ∈ WS := ws_all_good (l := tables_1_1) 53 (by decide +kernel) tb1 (by decide +kernel)
theorem wd1_54 : Cond.fieldLink "ShadowLatches" (166 : Nat) "ShadowLatches$Circuit" "windowComplaints" "I" ∈ WS := ws_all_good (l := tables_1_1) 54 (by decide +kernel) tb1 (by decide +kernel)
theorem wd1_55 : Cond.fieldLink "ShadowLatches$Circuit" (62 : Nat) "ShadowLatches$Circuit" "spent" "I" ∈ WS := ws_all_good (l := tables_1_1) 55 (by decide +kernel) tb1 (by decide +kernel)
theorem wd1_56 : Cond.fieldLink "ShadowLatches" (155 : Nat) "ShadowLatches$Circuit" "spent" "I" ∈ WS := ws_all_good (l := tables_1_1) 56 (by decide +kernel) tb1 (by decide +kernel)
theorem wd1_57 : Cond.fieldLink "ShadowLatches$Circuit" (65 : Nat) "ShadowLatches$Circuit" "work" "I" ∈ WS := ws_all_good (l := tables_1_1) 57 (by decide +kernel) tb1 (by decide +kernel)
theorem wd1_58 : Cond.fieldLink "ShadowLatches" (158 : Nat) "ShadowLatches$Circuit" "work" "I" ∈ WS := ws_all_good (l := tables_1_1) 58 (by decide +kernel) tb1 (by decide +kernel)
theorem wd1_59 : Cond.fieldLink "ShadowLatches$Circuit" (68 : Nat) "ShadowLatches$Circuit" "complaints" "I" ∈ WS := ws_all_good (l := tables_1_1) 59 (by decide +kernel) tb1 (by decide +kernel)
theorem wd1_60 : Cond.fieldLink "ShadowLatches" (98 : Nat) "ShadowLatches$Circuit" "complaints" "I" ∈ WS := ws_all_good (l := tables_1_1) 60 (by decide +kernel) tb1 (by decide +kernel)
theorem wd1_61 : Cond.fieldLink "ShadowLatches$Circuit" (71 : Nat) "ShadowLatches$Circuit" "lost" "I" ∈ WS := ws_all_good (l := tables_1_1) 61 (by decide +kernel) tb1 (by decide +kernel)
theorem wd1_62 : Cond.fieldLink "ShadowLatches" (148 : Nat) "ShadowLatches$Circuit" "lost" "I" ∈ WS := ws_all_good (l := tables_1_1) 62 (by decide +kernel) tb1 (by decide +kernel)
theorem wd1_63 : Cond.fieldLink "ShadowLatches$Circuit" (74 : Nat) "ShadowLatches$Circuit" "energy" "J" ∈ WS := ws_all_good (l := tables_1_1) 63 (by decide +kernel) tb1 (by decide +kernel)
theorem wd1_64 : Cond.fieldLink "ShadowLatches" (151 : Nat) "ShadowLatches$Circuit" "energy" "J" ∈ WS := ws_all_good (l := tables_1_1) 64 (by decide +kernel) tb1 (by decide +kernel)
theorem wd1_65 : Cond.fieldLink "ShadowLatches$Circuit" (78 : Nat) "ShadowLatches$Circuit" "stepsUp" "I" ∈ WS := ws_all_good (l := tables_1_1) 65 (by decide +kernel) tb1 (by decide +kernel)
theorem wd1_66 : Cond.fieldLink "ShadowLatches" (175 : Nat) "ShadowLatches$Circuit" "stepsUp" "I" ∈ WS := ws_all_good (l := tables_1_1) 66 (by decide +kernel) tb1 (by decide +kernel)
theorem wd1_67 : Cond.fieldLink "ShadowLatches$Circuit" (81 : Nat) "ShadowLatches$Circuit" "stepsDown" "I" ∈ WS := ws_all_good (l := tables_1_1) 67 (by decide +kernel) tb1 (by decide +kernel)
theorem wd1_68 : Cond.fieldLink "ShadowLatches" (178 : Nat) "ShadowLatches$Circuit" "stepsDown" "I" ∈ WS := ws_all_good (l := tables_1_1) 68 (by decide +kernel) tb1 (by decide +kernel)
theorem wd1_69 : Cond.laysFinal "ShadowLatches$Circuit" "ShadowLatches$Circuit" "lengths" "[I" ∈ WS := ws_all_good (l := tables_1_1) 69 (by decide +kernel) tb1 (by decide +kernel)
theorem wd1_70 : Cond.soleField "ShadowLatches$Circuit" "lengths" ∈ WS := ws_all_good (l := tables_1_1) 70 (by decide +kernel) tb1 (by decide +kernel)
theorem wd1_71 : Cond.laysFinal "ShadowLatches$Circuit" "ShadowLatches$Circuit" "uses" "[I" ∈ WS := ws_all_good (l := tables_1_1) 71 (by decide +kernel) tb1 (by decide +kernel)
theorem wd1_72 : Cond.soleField "ShadowLatches$Circuit" "uses" ∈ WS := ws_all_good (l := tables_1_1) 72 (by decide +kernel) tb1 (by decide +kernel)
theorem wd1_73 : Cond.lays "ShadowLatches$Circuit" "ShadowLatches$Circuit" "paths" "I" ∈ WS := ws_all_good (l := tables_1_1) 73 (by decide +kernel) tb1 (by decide +kernel)
theorem wd1_74 : Cond.soleField "ShadowLatches$Circuit" "paths" ∈ WS := ws_all_good (l := tables_1_1) 74 (by decide +kernel) tb1 (by decide +kernel)
theorem wd1_75 : Cond.laysFinal "ShadowLatches$Circuit" "ShadowLatches$Circuit" "sets" "[I" ∈ WS := ws_all_good (l := tables_1_1) 75 (by decide +kernel) tb1 (by decide +kernel)
theorem wd1_76 : Cond.soleField "ShadowLatches$Circuit" "sets" ∈ WS := ws_all_good (l := tables_1_1) 76 (by decide +kernel) tb1 (by decide +kernel)
theorem wd1_77 : Cond.lays "ShadowLatches$Circuit" "ShadowLatches$Circuit" "setCount" "I" ∈ WS := ws_all_good (l := tables_1_1) 77 (by decide +kernel) tb1 (by decide +kernel)
theorem wd1_78 : Cond.soleField "ShadowLatches$Circuit" "setCount" ∈ WS := ws_all_good (l := tables_1_1) 78 (by decide +kernel) tb1 (by decide +kernel)
theorem wd1_79 : Cond.lays "ShadowLatches$Circuit" "ShadowLatches$Circuit" "place" "I" ∈ WS := ws_all_good (l := tables_1_1) 79 (by decide +kernel) tb1 (by decide +kernel)
theorem wd1_80 : Cond.soleField "ShadowLatches$Circuit" "place" ∈ WS := ws_all_good (l := tables_1_1) 80 (by decide +kernel) tb1 (by decide +kernel)
theorem wd1_81 : Cond.laysFinal "ShadowLatches$Circuit" "ShadowLatches$Circuit" "settings" "[I" ∈ WS := ws_all_good (l := tables_1_1) 81 (by decide +kernel) tb1 (by decide +kernel)
theorem wd1_82 : Cond.soleField "ShadowLatches$Circuit" "settings" ∈ WS := ws_all_good (l := tables_1_1) 82 (by decide +kernel) tb1 (by decide +kernel)
theorem wd1_83 : Cond.lays "ShadowLatches$Circuit" "ShadowLatches$Circuit" "voltage" "I" ∈ WS := ws_all_good (l := tables_1_1) 83 (by decide +kernel) tb1 (by decide +kernel)
theorem wd1_84 : Cond.soleField "ShadowLatches$Circuit" "voltage" ∈ WS := ws_all_good (l := tables_1_1) 84 (by decide +kernel) tb1 (by decide +kernel)
theorem wd1_85 : Cond.lays "ShadowLatches$Circuit" "ShadowLatches$Circuit" "heat" "I" ∈ WS := ws_all_good (l := tables_1_1) 85 (by decide +kernel) tb1 (by decide +kernel)
theorem wd1_86 : Cond.soleField "ShadowLatches$Circuit" "heat" ∈ WS := ws_all_good (l := tables_1_1) 86 (by decide +kernel) tb1 (by decide +kernel)
theorem wd1_87 : Cond.lays "ShadowLatches$Circuit" "ShadowLatches$Circuit" "governed" "Z" ∈ WS := ws_all_good (l := tables_1_1) 87 (by decide +kernel) tb1 (by decide +kernel)
theorem wd1_88 : Cond.soleField "ShadowLatches$Circuit" "governed" ∈ WS := ws_all_good (l := tables_1_1) 88 (by decide +kernel) tb1 (by decide +kernel)
theorem wd1_89 : Cond.lays "ShadowLatches$Circuit" "ShadowLatches$Circuit" "windowCycles" "I" ∈ WS := ws_all_good (l := tables_1_1) 89 (by decide +kernel) tb1 (by decide +kernel)
theorem wd1_90 : Cond.soleField "ShadowLatches$Circuit" "windowCycles" ∈ WS := ws_all_good (l := tables_1_1) 90 (by decide +kernel) tb1 (by decide +kernel)
theorem wd1_91 : Cond.lays "ShadowLatches$Circuit" "ShadowLatches$Circuit" "windowComplaints" "I" ∈ WS := ws_all_good (l := tables_1_1) 91 (by decide +kernel) tb1 (by decide +kernel)
theorem wd1_92 : Cond.soleField "ShadowLatches$Circuit" "windowComplaints" ∈ WS := ws_all_good (l := tables_1_1) 92 (by decide +kernel) tb1 (by decide +kernel)
theorem wd1_93 : Cond.lays "ShadowLatches$Circuit" "ShadowLatches$Circuit" "spent" "I" ∈ WS := ws_all_good (l := tables_1_1) 93 (by decide +kernel) tb1 (by decide +kernel)
theorem wd1_94 : Cond.soleField "ShadowLatches$Circuit" "spent" ∈ WS := ws_all_good (l := tables_1_1) 94 (by decide +kernel) tb1 (by decide +kernel)
theorem wd1_95 : Cond.lays "ShadowLatches$Circuit" "ShadowLatches$Circuit" "work" "I" ∈ WS := ws_all_good (l := tables_1_1) 95 (by decide +kernel) tb1 (by decide +kernel)
theorem wd1_96 : Cond.soleField "ShadowLatches$Circuit" "work" ∈ WS := ws_all_good (l := tables_1_1) 96 (by decide +kernel) tb1 (by decide +kernel)
theorem wd1_97 : Cond.lays "ShadowLatches$Circuit" "ShadowLatches$Circuit" "complaints" "I" ∈ WS := ws_all_good (l := tables_1_1) 97 (by decide +kernel) tb1 (by decide +kernel)
theorem wd1_98 : Cond.soleField "ShadowLatches$Circuit" "complaints" ∈ WS := ws_all_good (l := tables_1_1) 98 (by decide +kernel) tb1 (by decide +kernel)
theorem wd1_99 : Cond.lays "ShadowLatches$Circuit" "ShadowLatches$Circuit" "lost" "I" ∈ WS := ws_all_good (l := tables_1_1) 99 (by decide +kernel) tb1 (by decide +kernel)
theorem wd1_100 : Cond.soleField "ShadowLatches$Circuit" "lost" ∈ WS := ws_all_good (l := tables_1_1) 100 (by decide +kernel) tb1 (by decide +kernel)
theorem wd1_101 : Cond.lays "ShadowLatches$Circuit" "ShadowLatches$Circuit" "energy" "J" ∈ WS := ws_all_good (l := tables_1_1) 101 (by decide +kernel) tb1 (by decide +kernel)
theorem wd1_102 : Cond.soleField "ShadowLatches$Circuit" "energy" ∈ WS := ws_all_good (l := tables_1_1) 102 (by decide +kernel) tb1 (by decide +kernel)
theorem wd1_103 : Cond.lays "ShadowLatches$Circuit" "ShadowLatches$Circuit" "stepsUp" "I" ∈ WS := ws_all_good (l := tables_1_1) 103 (by decide +kernel) tb1 (by decide +kernel)
theorem wd1_104 : Cond.soleField "ShadowLatches$Circuit" "stepsUp" ∈ WS := ws_all_good (l := tables_1_1) 104 (by decide +kernel) tb1 (by decide +kernel)
theorem wd1_105 : Cond.lays "ShadowLatches$Circuit" "ShadowLatches$Circuit" "stepsDown" "I" ∈ WS := ws_all_good (l := tables_1_1) 105 (by decide +kernel) tb1 (by decide +kernel)
theorem wd1_106 : Cond.soleField "ShadowLatches$Circuit" "stepsDown" ∈ WS := ws_all_good (l := tables_1_1) 106 (by decide +kernel) tb1 (by decide +kernel)
theorem wd1_107 : Cond.superclass "ShadowLatches$Circuit" "java/lang/Object" ∈ WS := ws_all_good (l := tables_1_1) 107 (by decide +kernel) tb1 (by decide +kernel)
theorem wd1_108 : Cond.arrayClass FieldType.int ∈ WS := ws_all_good (l := tables_1_1) 108 (by decide +kernel) tb1 (by decide +kernel)
theorem wq1_109 : Cond.arrayOver (FieldType.object "ShadowLatches$Circuit") ∈ lw_tbl := tb1 _ (List.mem_of_getElem? (i := 109) (by decide +kernel))
theorem wd1_110 : Cond.classLink "ShadowLatches" (26 : Nat) "ShadowLatches$WorkloadText" ∈ WS := ws_all_good (l := tables_1_1) 110 (by decide +kernel) tb1 (by decide +kernel)
theorem wd1_111 : Cond.instantiable "ShadowLatches$WorkloadText" (4 : Nat) ∈ WS := ws_all_good (l := tables_1_1) 111 (by decide +kernel) tb1 (by decide +kernel)
theorem wd1_112 : Cond.methodLink "ShadowLatches" (28 : Nat) ({ cls := "ShadowLatches$WorkloadText", name := "<init>", desc := "()V" } : MethodName) ∈ WS := ws_all_good (l := tables_1_1) 112 (by decide +kernel) tb1 (by decide +kernel)
theorem wd1_113 : Cond.instanceMethod ({ cls := "ShadowLatches$WorkloadText", name := "<init>", desc := "()V" } : MethodName) ∈ WS := ws_all_good (l := tables_1_1) 113 (by decide +kernel) tb1 (by decide +kernel)
theorem wd1_114 : Cond.code ({ cls := "ShadowLatches$WorkloadText", name := "<init>", desc := "()V" } : MethodName) prog_3_method_1_code (1 : Nat) (Option.none : Option FieldType) ∈ WS := ws_all_good (l := tables_1_1) 114 (by decide +kernel) tb1 (by decide +kernel)
theorem wd1_115 : Cond.methodLink "ShadowLatches$WorkloadText" (1 : Nat) ({ cls := "java/lang/Object", name := "<init>", desc := "()V" } : MethodName) ∈ WS := ws_all_good (l := tables_1_1) 115 (by decide +kernel) tb1 (by decide +kernel)
theorem wd1_116 : Cond.fieldLink "ShadowLatches$WorkloadText" (9 : Nat) "ShadowLatches$WorkloadText" "characters" "[C" ∈ WS := ws_all_good (l := tables_1_1) 116 (by decide +kernel) tb1 (by decide +kernel)
theorem wd1_117 : Cond.fieldLink "ShadowLatches$WorkloadText" (19 : Nat) "ShadowLatches$WorkloadText" "length" "I" ∈ WS := ws_all_good (l := tables_1_1) 117 (by decide +kernel) tb1 (by decide +kernel)
theorem wd1_118 : Cond.fieldLink "ShadowLatches" (108 : Nat) "ShadowLatches$WorkloadText" "length" "I" ∈ WS := ws_all_good (l := tables_1_1) 118 (by decide +kernel) tb1 (by decide +kernel)
theorem wd1_119 : Cond.fieldLink "ShadowLatches$WorkloadText" (15 : Nat) "ShadowLatches$WorkloadText" "sets" "[I" ∈ WS := ws_all_good (l := tables_1_1) 119 (by decide +kernel) tb1 (by decide +kernel)
theorem wd1_120 : Cond.fieldLink "ShadowLatches" (58 : Nat) "ShadowLatches$WorkloadText" "sets" "[I" ∈ WS := ws_all_good (l := tables_1_1) 120 (by decide +kernel) tb1 (by decide +kernel)
theorem wd1_121 : Cond.fieldLink "ShadowLatches$WorkloadText" (23 : Nat) "ShadowLatches$WorkloadText" "setCount" "I" ∈ WS := ws_all_good (l := tables_1_1) 121 (by decide +kernel) tb1 (by decide +kernel)
theorem wd1_122 : Cond.fieldLink "ShadowLatches" (55 : Nat) "ShadowLatches$WorkloadText" "setCount" "I" ∈ WS := ws_all_good (l := tables_1_1) 122 (by decide +kernel) tb1 (by decide +kernel)
theorem wd1_123 : Cond.laysFinal "ShadowLatches$WorkloadText" "ShadowLatches$WorkloadText" "characters" "[C" ∈ WS := ws_all_good (l := tables_1_1) 123 (by decide +kernel) tb1 (by decide +kernel)
theorem wd1_124 : Cond.soleField "ShadowLatches$WorkloadText" "characters" ∈ WS := ws_all_good (l := tables_1_1) 124 (by decide +kernel) tb1 (by decide +kernel)
theorem wd1_125 : Cond.lays "ShadowLatches$WorkloadText" "ShadowLatches$WorkloadText" "length" "I" ∈ WS := ws_all_good (l := tables_1_1) 125 (by decide +kernel) tb1 (by decide +kernel)
theorem wd1_126 : Cond.soleField "ShadowLatches$WorkloadText" "length" ∈ WS := ws_all_good (l := tables_1_1) 126 (by decide +kernel) tb1 (by decide +kernel)
theorem wd1_127 : Cond.laysFinal "ShadowLatches$WorkloadText" "ShadowLatches$WorkloadText" "sets" "[I" ∈ WS := ws_all_good (l := tables_1_1) 127 (by decide +kernel) tb1 (by decide +kernel)
theorem wd1_128 : Cond.soleField "ShadowLatches$WorkloadText" "sets" ∈ WS := ws_all_good (l := tables_1_1) 128 (by decide +kernel) tb1 (by decide +kernel)
theorem wd1_129 : Cond.lays "ShadowLatches$WorkloadText" "ShadowLatches$WorkloadText" "setCount" "I" ∈ WS := ws_all_good (l := tables_1_1) 129 (by decide +kernel) tb1 (by decide +kernel)
theorem wd1_130 : Cond.soleField "ShadowLatches$WorkloadText" "setCount" ∈ WS := ws_all_good (l := tables_1_1) 130 (by decide +kernel) tb1 (by decide +kernel)
theorem wd1_131 : Cond.superclass "ShadowLatches$WorkloadText" "java/lang/Object" ∈ WS := ws_all_good (l := tables_1_1) 131 (by decide +kernel) tb1 (by decide +kernel)
theorem wd1_132 : Cond.arrayClass FieldType.char ∈ WS := ws_all_good (l := tables_1_1) 132 (by decide +kernel) tb1 (by decide +kernel)
theorem wd1_133 : Cond.fieldLink "ShadowLatches" (10 : Nat) "ShadowLatches" "now" "LShadowLatches$Circuit;" ∈ WS := ws_all_good (l := tables_1_1) 133 (by decide +kernel) tb1 (by decide +kernel)
theorem wd1_134 : Cond.fieldLink "ShadowLatches" (16 : Nat) "ShadowLatches" "kept" "LShadowLatches$Circuit;" ∈ WS := ws_all_good (l := tables_1_1) 134 (by decide +kernel) tb1 (by decide +kernel)
theorem wd1_135 : Cond.fieldLink "ShadowLatches" (19 : Nat) "ShadowLatches" "trial" "LShadowLatches$Circuit;" ∈ WS := ws_all_good (l := tables_1_1) 135 (by decide +kernel) tb1 (by decide +kernel)
theorem wd1_136 : Cond.fieldLink "ShadowLatches" (22 : Nat) "ShadowLatches" "history" "[LShadowLatches$Circuit;" ∈ WS := ws_all_good (l := tables_1_1) 136 (by decide +kernel) tb1 (by decide +kernel)
theorem wd1_137 : Cond.fieldLink "ShadowLatches" (29 : Nat) "ShadowLatches" "text" "LShadowLatches$WorkloadText;" ∈ WS := ws_all_good (l := tables_1_1) 137 (by decide +kernel) tb1 (by decide +kernel)
theorem wd1_138 : Cond.fieldLink "ShadowLatches" (111 : Nat) "ShadowLatches" "states" "I" ∈ WS := ws_all_good (l := tables_1_1) 138 (by decide +kernel) tb1 (by decide +kernel)
theorem wd1_139 : Cond.fieldLink "ShadowLatches" (118 : Nat) "ShadowLatches" "hasKept" "Z" ∈ WS := ws_all_good (l := tables_1_1) 139 (by decide +kernel) tb1 (by decide +kernel)
theorem wd1_140 : Cond.laysFinal "ShadowLatches" "ShadowLatches" "now" "LShadowLatches$Circuit;" ∈ WS := ws_all_good (l := tables_1_1) 140 (by decide +kernel) tb1 (by decide +kernel)
theorem wd1_141 : Cond.soleField "ShadowLatches" "now" ∈ WS := ws_all_good (l := tables_1_1) 141 (by decide +kernel) tb1 (by decide +kernel)
theorem wd1_142 : Cond.laysFinal "ShadowLatches" "ShadowLatches" "kept" "LShadowLatches$Circuit;" ∈ WS := ws_all_good (l := tables_1_1) 142 (by decide +kernel) tb1 (by decide +kernel)
theorem wd1_143 : Cond.soleField "ShadowLatches" "kept" ∈ WS := ws_all_good (l := tables_1_1) 143 (by decide +kernel) tb1 (by decide +kernel)
theorem wd1_144 : Cond.laysFinal "ShadowLatches" "ShadowLatches" "trial" "LShadowLatches$Circuit;" ∈ WS := ws_all_good (l := tables_1_1) 144 (by decide +kernel) tb1 (by decide +kernel)
theorem wd1_145 : Cond.soleField "ShadowLatches" "trial" ∈ WS := ws_all_good (l := tables_1_1) 145 (by decide +kernel) tb1 (by decide +kernel)
theorem wd1_146 : Cond.laysFinal "ShadowLatches" "ShadowLatches" "history" "[LShadowLatches$Circuit;" ∈ WS := ws_all_good (l := tables_1_1) 146 (by decide +kernel) tb1 (by decide +kernel)
theorem wd1_147 : Cond.soleField "ShadowLatches" "history" ∈ WS := ws_all_good (l := tables_1_1) 147 (by decide +kernel) tb1 (by decide +kernel)
theorem wd1_148 : Cond.laysFinal "ShadowLatches" "ShadowLatches" "text" "LShadowLatches$WorkloadText;" ∈ WS := ws_all_good (l := tables_1_1) 148 (by decide +kernel) tb1 (by decide +kernel)
theorem wd1_149 : Cond.soleField "ShadowLatches" "text" ∈ WS := ws_all_good (l := tables_1_1) 149 (by decide +kernel) tb1 (by decide +kernel)
theorem wd1_150 : Cond.lays "ShadowLatches" "ShadowLatches" "states" "I" ∈ WS := ws_all_good (l := tables_1_1) 150 (by decide +kernel) tb1 (by decide +kernel)
theorem wd1_151 : Cond.soleField "ShadowLatches" "states" ∈ WS := ws_all_good (l := tables_1_1) 151 (by decide +kernel) tb1 (by decide +kernel)
theorem wd1_152 : Cond.lays "ShadowLatches" "ShadowLatches" "hasKept" "Z" ∈ WS := ws_all_good (l := tables_1_1) 152 (by decide +kernel) tb1 (by decide +kernel)
theorem wd1_153 : Cond.soleField "ShadowLatches" "hasKept" ∈ WS := ws_all_good (l := tables_1_1) 153 (by decide +kernel) tb1 (by decide +kernel)
theorem wd1_154 : Cond.superclass "ShadowLatches" "java/lang/Object" ∈ WS := ws_all_good (l := tables_1_1) 154 (by decide +kernel) tb1 (by decide +kernel)
theorem wd1_155 : Cond.methodLink "ShadowLatchesLaw" (13 : Nat) ({ cls := "ShadowLatches", name := "addPath", desc := "(I)I" } : MethodName) ∈ WS := ws_all_good (l := tables_1_1) 155 (by decide +kernel) tb1 (by decide +kernel)
theorem wd1_156 : Cond.instanceMethod ({ cls := "ShadowLatches", name := "addPath", desc := "(I)I" } : MethodName) ∈ WS := ws_all_good (l := tables_1_1) 156 (by decide +kernel) tb1 (by decide +kernel)
theorem wd1_157 : Cond.selects "ShadowLatches" ({ cls := "ShadowLatches", name := "addPath", desc := "(I)I" } : MethodName) ({ cls := "ShadowLatches", name := "addPath", desc := "(I)I" } : MethodName) ∈ WS := ws_all_good (l := tables_1_1) 157 (by decide +kernel) tb1 (by decide +kernel)
theorem wd1_158 : Cond.code ({ cls := "ShadowLatches", name := "addPath", desc := "(I)I" } : MethodName) prog_1_method_2_code (3 : Nat) (Option.some FieldType.int) ∈ WS := ws_all_good (l := tables_1_1) 158 (by decide +kernel) tb1 (by decide +kernel)
theorem wd1_159 : Cond.methodLink "ShadowLatches" (33 : Nat) ({ cls := "ShadowLatches", name := "isLength", desc := "(I)Z" } : MethodName) ∈ WS := ws_all_good (l := tables_1_1) 159 (by decide +kernel) tb1 (by decide +kernel)
theorem wd1_160 : Cond.static ({ cls := "ShadowLatches", name := "isLength", desc := "(I)Z" } : MethodName) ∈ WS := ws_all_good (l := tables_1_1) 160 (by decide +kernel) tb1 (by decide +kernel)
theorem wd1_161 : Cond.code ({ cls := "ShadowLatches", name := "isLength", desc := "(I)Z" } : MethodName) prog_1_method_23_code (1 : Nat) (Option.some FieldType.boolean) ∈ WS := ws_all_good (l := tables_1_1) 161 (by decide +kernel) tb1 (by decide +kernel)
theorem wd1_162 : Cond.methodLink "ShadowLatches" (66 : Nat) ({ cls := "ShadowLatches", name := "isWithin", desc := "(III)Z" } : MethodName) ∈ WS := ws_all_good (l := tables_1_1) 162 (by decide +kernel) tb1 (by decide +kernel)
theorem wd1_163 : Cond.static ({ cls := "ShadowLatches", name := "isWithin", desc := "(III)Z" } : MethodName) ∈ WS := ws_all_good (l := tables_1_1) 163 (by decide +kernel) tb1 (by decide +kernel)
theorem wd1_164 : Cond.code ({ cls := "ShadowLatches", name := "isWithin", desc := "(III)Z" } : MethodName) prog_1_method_22_code (3 : Nat) (Option.some FieldType.boolean) ∈ WS := ws_all_good (l := tables_1_1) 164 (by decide +kernel) tb1 (by decide +kernel)
theorem wd1_165 : Cond.methodLink "ShadowLatches" (41 : Nat) ({ cls := "ShadowLatches", name := "recordState", desc := "()V" } : MethodName) ∈ WS := ws_all_good (l := tables_1_1) 165 (by decide +kernel) tb1 (by decide +kernel)
theorem wd1_167 : Cond.instanceMethod ({ cls := "ShadowLatches", name := "recordState", desc := "()V" } : MethodName) ∈ WS := ws_all_good (l := tables_1_1) 167 (by decide +kernel) tb1 (by decide +kernel)
theorem wd1_168 : Cond.code ({ cls := "ShadowLatches", name := "recordState", desc := "()V" } : MethodName) prog_1_method_26_code (1 : Nat) (Option.none : Option FieldType) ∈ WS := ws_all_good (l := tables_1_1) 168 (by decide +kernel) tb1 (by decide +kernel)
theorem wd1_169 : Cond.methodLink "ShadowLatches" (181 : Nat) ({ cls := "ShadowLatches", name := "dropOldestState", desc := "()V" } : MethodName) ∈ WS := ws_all_good (l := tables_1_1) 169 (by decide +kernel) tb1 (by decide +kernel)
theorem wd1_171 : Cond.instanceMethod ({ cls := "ShadowLatches", name := "dropOldestState", desc := "()V" } : MethodName) ∈ WS := ws_all_good (l := tables_1_1) 171 (by decide +kernel) tb1 (by decide +kernel)
theorem wd1_172 : Cond.code ({ cls := "ShadowLatches", name := "dropOldestState", desc := "()V" } : MethodName) prog_1_method_27_code (3 : Nat) (Option.none : Option FieldType) ∈ WS := ws_all_good (l := tables_1_1) 172 (by decide +kernel) tb1 (by decide +kernel)
theorem wd1_173 : Cond.methodLink "ShadowLatches" (114 : Nat) ({ cls := "ShadowLatches$Circuit", name := "copyFrom", desc := "(LShadowLatches$Circuit;)V" } : MethodName) ∈ WS := ws_all_good (l := tables_1_1) 173 (by decide +kernel) tb1 (by decide +kernel)
theorem wd1_174 : Cond.instanceMethod ({ cls := "ShadowLatches$Circuit", name := "copyFrom", desc := "(LShadowLatches$Circuit;)V" } : MethodName) ∈ WS := ws_all_good (l := tables_1_1) 174 (by decide +kernel) tb1 (by decide +kernel)
theorem wd1_175 : Cond.selects "ShadowLatches$Circuit" ({ cls := "ShadowLatches$Circuit", name := "copyFrom", desc := "(LShadowLatches$Circuit;)V" } : MethodName) ({ cls := "ShadowLatches$Circuit", name := "copyFrom", desc := "(LShadowLatches$Circuit;)V" } : MethodName) ∈ WS := ws_all_good (l := tables_1_1) 175 (by decide +kernel) tb1 (by decide +kernel)
theorem wd1_176 : Cond.code ({ cls := "ShadowLatches$Circuit", name := "copyFrom", desc := "(LShadowLatches$Circuit;)V" } : MethodName) prog_2_method_2_code (2 : Nat) (Option.none : Option FieldType) ∈ WS := ws_all_good (l := tables_1_1) 176 (by decide +kernel) tb1 (by decide +kernel)
theorem wd1_177 : Cond.methodLink "ShadowLatches$Circuit" (43 : Nat) ({ cls := "java/lang/System", name := "arraycopy", desc := "(Ljava/lang/Object;ILjava/lang/Object;II)V" } : MethodName) ∈ WS := ws_all_good (l := tables_1_1) 177 (by decide +kernel) tb1 (by decide +kernel)
theorem wd1_178 : Cond.static ({ cls := "java/lang/System", name := "arraycopy", desc := "(Ljava/lang/Object;ILjava/lang/Object;II)V" } : MethodName) ∈ WS := ws_all_good (l := tables_1_1) 178 (by decide +kernel) tb1 (by decide +kernel)
theorem wd1_179 : Cond.native ({ cls := "java/lang/System", name := "arraycopy", desc := "(Ljava/lang/Object;ILjava/lang/Object;II)V" } : MethodName) ∈ WS := ws_all_good (l := tables_1_1) 179 (by decide +kernel) tb1 (by decide +kernel)
theorem wd1_180 : Cond.methodLink "ShadowLatchesLaw" (18 : Nat) ({ cls := "ShadowLatches", name := "setLength", desc := "(II)I" } : MethodName) ∈ WS := ws_all_good (l := tables_1_1) 180 (by decide +kernel) tb1 (by decide +kernel)
theorem wd1_181 : Cond.instanceMethod ({ cls := "ShadowLatches", name := "setLength", desc := "(II)I" } : MethodName) ∈ WS := ws_all_good (l := tables_1_1) 181 (by decide +kernel) tb1 (by decide +kernel)
theorem wd1_182 : Cond.selects "ShadowLatches" ({ cls := "ShadowLatches", name := "setLength", desc := "(II)I" } : MethodName) ({ cls := "ShadowLatches", name := "setLength", desc := "(II)I" } : MethodName) ∈ WS := ws_all_good (l := tables_1_1) 182 (by decide +kernel) tb1 (by decide +kernel)
theorem wd1_183 : Cond.code ({ cls := "ShadowLatches", name := "setLength", desc := "(II)I" } : MethodName) prog_1_method_3_code (4 : Nat) (Option.some FieldType.int) ∈ WS := ws_all_good (l := tables_1_1) 183 (by decide +kernel) tb1 (by decide +kernel)
theorem wd1_184 : Cond.methodLink "ShadowLatches" (48 : Nat) ({ cls := "ShadowLatches", name := "isPath", desc := "(I)Z" } : MethodName) ∈ WS := ws_all_good (l := tables_1_1) 184 (by decide +kernel) tb1 (by decide +kernel)
theorem wd1_186 : Cond.instanceMethod ({ cls := "ShadowLatches", name := "isPath", desc := "(I)Z" } : MethodName) ∈ WS := ws_all_good (l := tables_1_1) 186 (by decide +kernel) tb1 (by decide +kernel)
theorem wd1_187 : Cond.code ({ cls := "ShadowLatches", name := "isPath", desc := "(I)Z" } : MethodName) prog_1_method_25_code (2 : Nat) (Option.some FieldType.boolean) ∈ WS := ws_all_good (l := tables_1_1) 187 (by decide +kernel) tb1 (by decide +kernel)
theorem wd1_188 : Cond.methodLink "ShadowLatchesLaw" (23 : Nat) ({ cls := "ShadowLatches", name := "takeWorkload", desc := "()I" } : MethodName) ∈ WS := ws_all_good (l := tables_1_1) 188 (by decide +kernel) tb1 (by decide +kernel)
theorem wd1_189 : Cond.instanceMethod ({ cls := "ShadowLatches", name := "takeWorkload", desc := "()I" } : MethodName) ∈ WS := ws_all_good (l := tables_1_1) 189 (by decide +kernel) tb1 (by decide +kernel)
theorem wd1_190 : Cond.selects "ShadowLatches" ({ cls := "ShadowLatches", name := "takeWorkload", desc := "()I" } : MethodName) ({ cls := "ShadowLatches", name := "takeWorkload", desc := "()I" } : MethodName) ∈ WS := ws_all_good (l := tables_1_1) 190 (by decide +kernel) tb1 (by decide +kernel)
theorem wd1_191 : Cond.code ({ cls := "ShadowLatches", name := "takeWorkload", desc := "()I" } : MethodName) prog_1_method_4_code (3 : Nat) (Option.some FieldType.int) ∈ WS := ws_all_good (l := tables_1_1) 191 (by decide +kernel) tb1 (by decide +kernel)
theorem wd1_192 : Cond.methodLink "ShadowLatches" (51 : Nat) ({ cls := "ShadowLatches$WorkloadText", name := "read", desc := "()I" } : MethodName) ∈ WS := ws_all_good (l := tables_1_1) 192 (by decide +kernel) tb1 (by decide +kernel)
theorem wd1_193 : Cond.instanceMethod ({ cls := "ShadowLatches$WorkloadText", name := "read", desc := "()I" } : MethodName) ∈ WS := ws_all_good (l := tables_1_1) 193 (by decide +kernel) tb1 (by decide +kernel)
theorem wd1_194 : Cond.selects "ShadowLatches$WorkloadText" ({ cls := "ShadowLatches$WorkloadText", name := "read", desc := "()I" } : MethodName) ({ cls := "ShadowLatches$WorkloadText", name := "read", desc := "()I" } : MethodName) ∈ WS := ws_all_good (l := tables_1_1) 194 (by decide +kernel) tb1 (by decide +kernel)
theorem wd1_195 : Cond.code ({ cls := "ShadowLatches$WorkloadText", name := "read", desc := "()I" } : MethodName) prog_3_method_3_code (4 : Nat) (Option.some FieldType.int) ∈ WS := ws_all_good (l := tables_1_1) 195 (by decide +kernel) tb1 (by decide +kernel)
theorem wd1_196 : Cond.methodLink "ShadowLatches" (62 : Nat) ({ cls := "ShadowLatches$Circuit", name := "beginWorkload", desc := "(I)V" } : MethodName) ∈ WS := ws_all_good (l := tables_1_1) 196 (by decide +kernel) tb1 (by decide +kernel)
theorem wd1_197 : Cond.instanceMethod ({ cls := "ShadowLatches$Circuit", name := "beginWorkload", desc := "(I)V" } : MethodName) ∈ WS := ws_all_good (l := tables_1_1) 197 (by decide +kernel) tb1 (by decide +kernel)
theorem wd1_198 : Cond.selects "ShadowLatches$Circuit" ({ cls := "ShadowLatches$Circuit", name := "beginWorkload", desc := "(I)V" } : MethodName) ({ cls := "ShadowLatches$Circuit", name := "beginWorkload", desc := "(I)V" } : MethodName) ∈ WS := ws_all_good (l := tables_1_1) 198 (by decide +kernel) tb1 (by decide +kernel)
theorem wd1_199 : Cond.code ({ cls := "ShadowLatches$Circuit", name := "beginWorkload", desc := "(I)V" } : MethodName) prog_2_method_3_code (2 : Nat) (Option.none : Option FieldType) ∈ WS := ws_all_good (l := tables_1_1) 199 (by decide +kernel) tb1 (by decide +kernel)
theorem wd1_200 : Cond.methodLink "ShadowLatchesLaw" (28 : Nat) ({ cls := "ShadowLatches", name := "layWorkload", desc := "(II)I" } : MethodName) ∈ WS := ws_all_good (l := tables_1_1) 200 (by decide +kernel) tb1 (by decide +kernel)
theorem wd1_201 : Cond.instanceMethod ({ cls := "ShadowLatches", name := "layWorkload", desc := "(II)I" } : MethodName) ∈ WS := ws_all_good (l := tables_1_1) 201 (by decide +kernel) tb1 (by decide +kernel)
theorem wd1_202 : Cond.selects "ShadowLatches" ({ cls := "ShadowLatches", name := "layWorkload", desc := "(II)I" } : MethodName) ({ cls := "ShadowLatches", name := "layWorkload", desc := "(II)I" } : MethodName) ∈ WS := ws_all_good (l := tables_1_1) 202 (by decide +kernel) tb1 (by decide +kernel)
theorem wd1_203 : Cond.code ({ cls := "ShadowLatches", name := "layWorkload", desc := "(II)I" } : MethodName) prog_1_method_5_code (6 : Nat) (Option.some FieldType.int) ∈ WS := ws_all_good (l := tables_1_1) 203 (by decide +kernel) tb1 (by decide +kernel)
theorem wd1_204 : Cond.methodLink "ShadowLatches" (70 : Nat) ({ cls := "java/lang/Integer", name := "bitCount", desc := "(I)I" } : MethodName) ∈ WS := ws_all_good (l := tables_1_1) 204 (by decide +kernel) tb1 (by decide +kernel)
theorem wd1_205 : Cond.static ({ cls := "java/lang/Integer", name := "bitCount", desc := "(I)I" } : MethodName) ∈ WS := ws_all_good (l := tables_1_1) 205 (by decide +kernel) tb1 (by decide +kernel)
theorem wd1_206 : Cond.code ({ cls := "java/lang/Integer", name := "bitCount", desc := "(I)I" } : MethodName) prog_7_method_49_code (1 : Nat) (Option.some FieldType.int) ∈ WS := ws_all_good (l := tables_1_1) 206 (by decide +kernel) tb1 (by decide +kernel)
theorem wd1_207 : Cond.constant "java/lang/Integer" (265 : Nat) (1431655765 : Int32) ∈ WS := ws_all_good (l := tables_1_1) 207 (by decide +kernel) tb1 (by decide +kernel)
theorem wd1_208 : Cond.constant "java/lang/Integer" (266 : Nat) (858993459 : Int32) ∈ WS := ws_all_good (l := tables_1_1) 208 (by decide +kernel) tb1 (by decide +kernel)
theorem wd1_209 : Cond.constant "java/lang/Integer" (267 : Nat) (252645135 : Int32) ∈ WS := ws_all_good (l := tables_1_1) 209 (by decide +kernel) tb1 (by decide +kernel)
theorem wd1_210 : Cond.methodLink "ShadowLatchesLaw" (32 : Nat) ({ cls := "ShadowLatches", name := "setVoltage", desc := "(I)I" } : MethodName) ∈ WS := ws_all_good (l := tables_1_1) 210 (by decide +kernel) tb1 (by decide +kernel)
theorem wd1_211 : Cond.instanceMethod ({ cls := "ShadowLatches", name := "setVoltage", desc := "(I)I" } : MethodName) ∈ WS := ws_all_good (l := tables_1_1) 211 (by decide +kernel) tb1 (by decide +kernel)
theorem wd1_212 : Cond.selects "ShadowLatches" ({ cls := "ShadowLatches", name := "setVoltage", desc := "(I)I" } : MethodName) ({ cls := "ShadowLatches", name := "setVoltage", desc := "(I)I" } : MethodName) ∈ WS := ws_all_good (l := tables_1_1) 212 (by decide +kernel) tb1 (by decide +kernel)
theorem wd1_213 : Cond.code ({ cls := "ShadowLatches", name := "setVoltage", desc := "(I)I" } : MethodName) prog_1_method_6_code (3 : Nat) (Option.some FieldType.int) ∈ WS := ws_all_good (l := tables_1_1) 213 (by decide +kernel) tb1 (by decide +kernel)
theorem wd1_214 : Cond.methodLink "ShadowLatches" (76 : Nat) ({ cls := "ShadowLatches", name := "isVoltage", desc := "(I)Z" } : MethodName) ∈ WS := ws_all_good (l := tables_1_1) 214 (by decide +kernel) tb1 (by decide +kernel)
theorem wd1_215 : Cond.static ({ cls := "ShadowLatches", name := "isVoltage", desc := "(I)Z" } : MethodName) ∈ WS := ws_all_good (l := tables_1_1) 215 (by decide +kernel) tb1 (by decide +kernel)
theorem wd1_216 : Cond.code ({ cls := "ShadowLatches", name := "isVoltage", desc := "(I)Z" } : MethodName) prog_1_method_24_code (1 : Nat) (Option.some FieldType.boolean) ∈ WS := ws_all_good (l := tables_1_1) 216 (by decide +kernel) tb1 (by decide +kernel)
theorem wd1_217 : Cond.methodLink "ShadowLatchesLaw" (36 : Nat) ({ cls := "ShadowLatches", name := "govern", desc := "(Z)I" } : MethodName) ∈ WS := ws_all_good (l := tables_1_1) 217 (by decide +kernel) tb1 (by decide +kernel)
theorem wd1_218 : Cond.instanceMethod ({ cls := "ShadowLatches", name := "govern", desc := "(Z)I" } : MethodName) ∈ WS := ws_all_good (l := tables_1_1) 218 (by decide +kernel) tb1 (by decide +kernel)
theorem wd1_219 : Cond.selects "ShadowLatches" ({ cls := "ShadowLatches", name := "govern", desc := "(Z)I" } : MethodName) ({ cls := "ShadowLatches", name := "govern", desc := "(Z)I" } : MethodName) ∈ WS := ws_all_good (l := tables_1_1) 219 (by decide +kernel) tb1 (by decide +kernel)
theorem wd1_220 : Cond.code ({ cls := "ShadowLatches", name := "govern", desc := "(Z)I" } : MethodName) prog_1_method_7_code (2 : Nat) (Option.some FieldType.int) ∈ WS := ws_all_good (l := tables_1_1) 220 (by decide +kernel) tb1 (by decide +kernel)
theorem wd1_221 : Cond.methodLink "ShadowLatches" (86 : Nat) ({ cls := "ShadowLatches$Circuit", name := "beginWindow", desc := "()V" } : MethodName) ∈ WS := ws_all_good (l := tables_1_1) 221 (by decide +kernel) tb1 (by decide +kernel)
theorem wd1_222 : Cond.instanceMethod ({ cls := "ShadowLatches$Circuit", name := "beginWindow", desc := "()V" } : MethodName) ∈ WS := ws_all_good (l := tables_1_1) 222 (by decide +kernel) tb1 (by decide +kernel)
theorem wd1_223 : Cond.selects "ShadowLatches$Circuit" ({ cls := "ShadowLatches$Circuit", name := "beginWindow", desc := "()V" } : MethodName) ({ cls := "ShadowLatches$Circuit", name := "beginWindow", desc := "()V" } : MethodName) ∈ WS := ws_all_good (l := tables_1_1) 223 (by decide +kernel) tb1 (by decide +kernel)
theorem wd1_224 : Cond.code ({ cls := "ShadowLatches$Circuit", name := "beginWindow", desc := "()V" } : MethodName) prog_2_method_4_code (1 : Nat) (Option.none : Option FieldType) ∈ WS := ws_all_good (l := tables_1_1) 224 (by decide +kernel) tb1 (by decide +kernel)
theorem wd1_225 : Cond.methodLink "ShadowLatchesLaw" (41 : Nat) ({ cls := "ShadowLatches", name := "set", desc := "(II)I" } : MethodName) ∈ WS := ws_all_good (l := tables_1_1) 225 (by decide +kernel) tb1 (by decide +kernel)
theorem wd1_226 : Cond.instanceMethod ({ cls := "ShadowLatches", name := "set", desc := "(II)I" } : MethodName) ∈ WS := ws_all_good (l := tables_1_1) 226 (by decide +kernel) tb1 (by decide +kernel)
theorem wd1_227 : Cond.selects "ShadowLatches" ({ cls := "ShadowLatches", name := "set", desc := "(II)I" } : MethodName) ({ cls := "ShadowLatches", name := "set", desc := "(II)I" } : MethodName) ∈ WS := ws_all_good (l := tables_1_1) 227 (by decide +kernel) tb1 (by decide +kernel)
theorem wd1_228 : Cond.code ({ cls := "ShadowLatches", name := "set", desc := "(II)I" } : MethodName) prog_1_method_8_code (4 : Nat) (Option.some FieldType.int) ∈ WS := ws_all_good (l := tables_1_1) 228 (by decide +kernel) tb1 (by decide +kernel)
theorem wd1_229 : Cond.fieldLink "ShadowLatches" (89 : Nat) "ShadowLatches$Circuit" "LEAST_SETTINGS" "[I" ∈ WS := ws_all_good (l := tables_1_1) 229 (by decide +kernel) tb1 (by decide +kernel)
theorem wd1_231 : Cond.fieldLink "ShadowLatches" (92 : Nat) "ShadowLatches$Circuit" "MOST_SETTINGS" "[I" ∈ WS := ws_all_good (l := tables_1_1) 231 (by decide +kernel) tb1 (by decide +kernel)
theorem wd1_233 : Cond.methodLink "ShadowLatchesLaw" (45 : Nat) ({ cls := "ShadowLatches", name := "run", desc := "(I)I" } : MethodName) ∈ WS := ws_all_good (l := tables_1_1) 233 (by decide +kernel) tb1 (by decide +kernel)
theorem wd1_234 : Cond.instanceMethod ({ cls := "ShadowLatches", name := "run", desc := "(I)I" } : MethodName) ∈ WS := ws_all_good (l := tables_1_1) 234 (by decide +kernel) tb1 (by decide +kernel)
theorem wd1_235 : Cond.selects "ShadowLatches" ({ cls := "ShadowLatches", name := "run", desc := "(I)I" } : MethodName) ({ cls := "ShadowLatches", name := "run", desc := "(I)I" } : MethodName) ∈ WS := ws_all_good (l := tables_1_1) 235 (by decide +kernel) tb1 (by decide +kernel)
theorem wd1_236 : Cond.code ({ cls := "ShadowLatches", name := "run", desc := "(I)I" } : MethodName) prog_1_method_9_code (3 : Nat) (Option.some FieldType.int) ∈ WS := ws_all_good (l := tables_1_1) 236 (by decide +kernel) tb1 (by decide +kernel)
theorem wd1_237 : Cond.methodLink "ShadowLatches" (101 : Nat) ({ cls := "ShadowLatches$Circuit", name := "runCycles", desc := "(I)V" } : MethodName) ∈ WS := ws_all_good (l := tables_1_1) 237 (by decide +kernel) tb1 (by decide +kernel)
theorem wd1_238 : Cond.instanceMethod ({ cls := "ShadowLatches$Circuit", name := "runCycles", desc := "(I)V" } : MethodName) ∈ WS := ws_all_good (l := tables_1_1) 238 (by decide +kernel) tb1 (by decide +kernel)
theorem wd1_239 : Cond.selects "ShadowLatches$Circuit" ({ cls := "ShadowLatches$Circuit", name := "runCycles", desc := "(I)V" } : MethodName) ({ cls := "ShadowLatches$Circuit", name := "runCycles", desc := "(I)V" } : MethodName) ∈ WS := ws_all_good (l := tables_1_1) 239 (by decide +kernel) tb1 (by decide +kernel)
theorem wd2_0 : Cond.code ({ cls := "ShadowLatches$Circuit", name := "runCycles", desc := "(I)V" } : MethodName) prog_2_method_12_code (3 : Nat) (Option.none : Option FieldType) ∈ WS := ws_all_good (l := tables_1_2) 0 (by decide +kernel) tb2 (by decide +kernel)
theorem wd2_1 : Cond.methodLink "ShadowLatches$Circuit" (104 : Nat) ({ cls := "ShadowLatches$Circuit", name := "runOneCycle", desc := "()V" } : MethodName) ∈ WS := ws_all_good (l := tables_1_2) 1 (by decide +kernel) tb2 (by decide +kernel)
theorem wd2_3 : Cond.instanceMethod ({ cls := "ShadowLatches$Circuit", name := "runOneCycle", desc := "()V" } : MethodName) ∈ WS := ws_all_good (l := tables_1_2) 3 (by decide +kernel) tb2 (by decide +kernel)
theorem wd2_4 : Cond.code ({ cls := "ShadowLatches$Circuit", name := "runOneCycle", desc := "()V" } : MethodName) prog_2_method_13_code (3 : Nat) (Option.none : Option FieldType) ∈ WS := ws_all_good (l := tables_1_2) 4 (by decide +kernel) tb2 (by decide +kernel)
theorem wd2_5 : Cond.methodLink "ShadowLatches$Circuit" (101 : Nat) ({ cls := "ShadowLatches$Circuit", name := "longestOf", desc := "(I)I" } : MethodName) ∈ WS := ws_all_good (l := tables_1_2) 5 (by decide +kernel) tb2 (by decide +kernel)
theorem wd2_6 : Cond.instanceMethod ({ cls := "ShadowLatches$Circuit", name := "longestOf", desc := "(I)I" } : MethodName) ∈ WS := ws_all_good (l := tables_1_2) 6 (by decide +kernel) tb2 (by decide +kernel)
theorem wd2_7 : Cond.selects "ShadowLatches$Circuit" ({ cls := "ShadowLatches$Circuit", name := "longestOf", desc := "(I)I" } : MethodName) ({ cls := "ShadowLatches$Circuit", name := "longestOf", desc := "(I)I" } : MethodName) ∈ WS := ws_all_good (l := tables_1_2) 7 (by decide +kernel) tb2 (by decide +kernel)
theorem wd2_8 : Cond.code ({ cls := "ShadowLatches$Circuit", name := "longestOf", desc := "(I)I" } : MethodName) prog_2_method_10_code (4 : Nat) (Option.some FieldType.int) ∈ WS := ws_all_good (l := tables_1_2) 8 (by decide +kernel) tb2 (by decide +kernel)
theorem wd2_9 : Cond.methodLink "ShadowLatches$Circuit" (95 : Nat) ({ cls := "java/lang/Math", name := "max", desc := "(II)I" } : MethodName) ∈ WS := ws_all_good (l := tables_1_2) 9 (by decide +kernel) tb2 (by decide +kernel)
theorem wd2_10 : Cond.static ({ cls := "java/lang/Math", name := "max", desc := "(II)I" } : MethodName) ∈ WS := ws_all_good (l := tables_1_2) 10 (by decide +kernel) tb2 (by decide +kernel)
theorem wd2_11 : Cond.code ({ cls := "java/lang/Math", name := "max", desc := "(II)I" } : MethodName) prog_8_method_65_code (2 : Nat) (Option.some FieldType.int) ∈ WS := ws_all_good (l := tables_1_2) 11 (by decide +kernel) tb2 (by decide +kernel)
theorem wd2_12 : Cond.methodLink "ShadowLatches$Circuit" (84 : Nat) ({ cls := "ShadowLatches$Circuit", name := "delayOf", desc := "(III)I" } : MethodName) ∈ WS := ws_all_good (l := tables_1_2) 12 (by decide +kernel) tb2 (by decide +kernel)
theorem wd2_13 : Cond.static ({ cls := "ShadowLatches$Circuit", name := "delayOf", desc := "(III)I" } : MethodName) ∈ WS := ws_all_good (l := tables_1_2) 13 (by decide +kernel) tb2 (by decide +kernel)
theorem wd2_14 : Cond.code ({ cls := "ShadowLatches$Circuit", name := "delayOf", desc := "(III)I" } : MethodName) prog_2_method_5_code (4 : Nat) (Option.some FieldType.int) ∈ WS := ws_all_good (l := tables_1_2) 14 (by decide +kernel) tb2 (by decide +kernel)
theorem wd2_15 : Cond.methodLink "ShadowLatches$Circuit" (92 : Nat) ({ cls := "ShadowLatches$Circuit", name := "judge", desc := "(I)I" } : MethodName) ∈ WS := ws_all_good (l := tables_1_2) 15 (by decide +kernel) tb2 (by decide +kernel)
theorem wd2_16 : Cond.instanceMethod ({ cls := "ShadowLatches$Circuit", name := "judge", desc := "(I)I" } : MethodName) ∈ WS := ws_all_good (l := tables_1_2) 16 (by decide +kernel) tb2 (by decide +kernel)
theorem wd2_17 : Cond.selects "ShadowLatches$Circuit" ({ cls := "ShadowLatches$Circuit", name := "judge", desc := "(I)I" } : MethodName) ({ cls := "ShadowLatches$Circuit", name := "judge", desc := "(I)I" } : MethodName) ∈ WS := ws_all_good (l := tables_1_2) 17 (by decide +kernel) tb2 (by decide +kernel)
theorem wd2_18 : Cond.code ({ cls := "ShadowLatches$Circuit", name := "judge", desc := "(I)I" } : MethodName) prog_2_method_7_code (2 : Nat) (Option.some FieldType.int) ∈ WS := ws_all_good (l := tables_1_2) 18 (by decide +kernel) tb2 (by decide +kernel)
theorem wd2_19 : Cond.methodLink "ShadowLatches$Circuit" (110 : Nat) ({ cls := "ShadowLatches$Circuit", name := "countUses", desc := "(I)V" } : MethodName) ∈ WS := ws_all_good (l := tables_1_2) 19 (by decide +kernel) tb2 (by decide +kernel)
theorem wd2_21 : Cond.instanceMethod ({ cls := "ShadowLatches$Circuit", name := "countUses", desc := "(I)V" } : MethodName) ∈ WS := ws_all_good (l := tables_1_2) 21 (by decide +kernel) tb2 (by decide +kernel)
theorem wd2_22 : Cond.code ({ cls := "ShadowLatches$Circuit", name := "countUses", desc := "(I)V" } : MethodName) prog_2_method_14_code (3 : Nat) (Option.none : Option FieldType) ∈ WS := ws_all_good (l := tables_1_2) 22 (by decide +kernel) tb2 (by decide +kernel)
theorem wd2_23 : Cond.methodLink "ShadowLatches$Circuit" (114 : Nat) ({ cls := "java/lang/Integer", name := "bitCount", desc := "(I)I" } : MethodName) ∈ WS := ws_all_good (l := tables_1_2) 23 (by decide +kernel) tb2 (by decide +kernel)
theorem wd2_24 : Cond.methodLink "ShadowLatches$Circuit" (119 : Nat) ({ cls := "ShadowLatches$Circuit", name := "spendCycle", desc := "(I)V" } : MethodName) ∈ WS := ws_all_good (l := tables_1_2) 24 (by decide +kernel) tb2 (by decide +kernel)
theorem wd2_26 : Cond.instanceMethod ({ cls := "ShadowLatches$Circuit", name := "spendCycle", desc := "(I)V" } : MethodName) ∈ WS := ws_all_good (l := tables_1_2) 26 (by decide +kernel) tb2 (by decide +kernel)
theorem wd2_27 : Cond.code ({ cls := "ShadowLatches$Circuit", name := "spendCycle", desc := "(I)V" } : MethodName) prog_2_method_16_code (2 : Nat) (Option.none : Option FieldType) ∈ WS := ws_all_good (l := tables_1_2) 27 (by decide +kernel) tb2 (by decide +kernel)
theorem wd2_28 : Cond.methodLink "ShadowLatches$Circuit" (125 : Nat) ({ cls := "java/lang/Math", name := "min", desc := "(II)I" } : MethodName) ∈ WS := ws_all_good (l := tables_1_2) 28 (by decide +kernel) tb2 (by decide +kernel)
theorem wd2_29 : Cond.static ({ cls := "java/lang/Math", name := "min", desc := "(II)I" } : MethodName) ∈ WS := ws_all_good (l := tables_1_2) 29 (by decide +kernel) tb2 (by decide +kernel)
theorem wd2_30 : Cond.code ({ cls := "java/lang/Math", name := "min", desc := "(II)I" } : MethodName) prog_8_method_69_code (2 : Nat) (Option.some FieldType.int) ∈ WS := ws_all_good (l := tables_1_2) 30 (by decide +kernel) tb2 (by decide +kernel)
theorem wd2_31 : Cond.methodLink "ShadowLatches$Circuit" (128 : Nat) ({ cls := "ShadowLatches$Circuit", name := "changeHeat", desc := "(I)V" } : MethodName) ∈ WS := ws_all_good (l := tables_1_2) 31 (by decide +kernel) tb2 (by decide +kernel)
theorem wd2_33 : Cond.instanceMethod ({ cls := "ShadowLatches$Circuit", name := "changeHeat", desc := "(I)V" } : MethodName) ∈ WS := ws_all_good (l := tables_1_2) 33 (by decide +kernel) tb2 (by decide +kernel)
theorem wd2_34 : Cond.code ({ cls := "ShadowLatches$Circuit", name := "changeHeat", desc := "(I)V" } : MethodName) prog_2_method_17_code (2 : Nat) (Option.none : Option FieldType) ∈ WS := ws_all_good (l := tables_1_2) 34 (by decide +kernel) tb2 (by decide +kernel)
theorem wd2_35 : Cond.methodLink "ShadowLatches$Circuit" (122 : Nat) ({ cls := "ShadowLatches$Circuit", name := "complain", desc := "()V" } : MethodName) ∈ WS := ws_all_good (l := tables_1_2) 35 (by decide +kernel) tb2 (by decide +kernel)
theorem wd2_37 : Cond.instanceMethod ({ cls := "ShadowLatches$Circuit", name := "complain", desc := "()V" } : MethodName) ∈ WS := ws_all_good (l := tables_1_2) 37 (by decide +kernel) tb2 (by decide +kernel)
theorem wd2_38 : Cond.code ({ cls := "ShadowLatches$Circuit", name := "complain", desc := "()V" } : MethodName) prog_2_method_15_code (2 : Nat) (Option.none : Option FieldType) ∈ WS := ws_all_good (l := tables_1_2) 38 (by decide +kernel) tb2 (by decide +kernel)
theorem wd2_39 : Cond.methodLink "ShadowLatches$Circuit" (107 : Nat) ({ cls := "ShadowLatches$Circuit", name := "lookAtWindow", desc := "()V" } : MethodName) ∈ WS := ws_all_good (l := tables_1_2) 39 (by decide +kernel) tb2 (by decide +kernel)
theorem wd2_41 : Cond.instanceMethod ({ cls := "ShadowLatches$Circuit", name := "lookAtWindow", desc := "()V" } : MethodName) ∈ WS := ws_all_good (l := tables_1_2) 41 (by decide +kernel) tb2 (by decide +kernel)
theorem wd2_42 : Cond.code ({ cls := "ShadowLatches$Circuit", name := "lookAtWindow", desc := "()V" } : MethodName) prog_2_method_18_code (3 : Nat) (Option.none : Option FieldType) ∈ WS := ws_all_good (l := tables_1_2) 42 (by decide +kernel) tb2 (by decide +kernel)
theorem wd2_43 : Cond.methodLink "ShadowLatches$Circuit" (131 : Nat) ({ cls := "ShadowLatches$Circuit", name := "beginWindow", desc := "()V" } : MethodName) ∈ WS := ws_all_good (l := tables_1_2) 43 (by decide +kernel) tb2 (by decide +kernel)
theorem wd2_44 : Cond.methodLink "ShadowLatchesLaw" (49 : Nat) ({ cls := "ShadowLatches", name := "type", desc := "(C)I" } : MethodName) ∈ WS := ws_all_good (l := tables_1_2) 44 (by decide +kernel) tb2 (by decide +kernel)
theorem wd2_45 : Cond.instanceMethod ({ cls := "ShadowLatches", name := "type", desc := "(C)I" } : MethodName) ∈ WS := ws_all_good (l := tables_1_2) 45 (by decide +kernel) tb2 (by decide +kernel)
theorem wd2_46 : Cond.selects "ShadowLatches" ({ cls := "ShadowLatches", name := "type", desc := "(C)I" } : MethodName) ({ cls := "ShadowLatches", name := "type", desc := "(C)I" } : MethodName) ∈ WS := ws_all_good (l := tables_1_2) 46 (by decide +kernel) tb2 (by decide +kernel)
theorem wd2_47 : Cond.code ({ cls := "ShadowLatches", name := "type", desc := "(C)I" } : MethodName) prog_1_method_10_code (2 : Nat) (Option.some FieldType.int) ∈ WS := ws_all_good (l := tables_1_2) 47 (by decide +kernel) tb2 (by decide +kernel)
theorem wd2_48 : Cond.methodLink "ShadowLatches" (104 : Nat) ({ cls := "ShadowLatches$WorkloadText", name := "append", desc := "(C)Z" } : MethodName) ∈ WS := ws_all_good (l := tables_1_2) 48 (by decide +kernel) tb2 (by decide +kernel)
theorem wd2_49 : Cond.instanceMethod ({ cls := "ShadowLatches$WorkloadText", name := "append", desc := "(C)Z" } : MethodName) ∈ WS := ws_all_good (l := tables_1_2) 49 (by decide +kernel) tb2 (by decide +kernel)
theorem wd2_50 : Cond.selects "ShadowLatches$WorkloadText" ({ cls := "ShadowLatches$WorkloadText", name := "append", desc := "(C)Z" } : MethodName) ({ cls := "ShadowLatches$WorkloadText", name := "append", desc := "(C)Z" } : MethodName) ∈ WS := ws_all_good (l := tables_1_2) 50 (by decide +kernel) tb2 (by decide +kernel)
theorem wd2_51 : Cond.code ({ cls := "ShadowLatches$WorkloadText", name := "append", desc := "(C)Z" } : MethodName) prog_3_method_2_code (2 : Nat) (Option.some FieldType.boolean) ∈ WS := ws_all_good (l := tables_1_2) 51 (by decide +kernel) tb2 (by decide +kernel)
theorem wd2_52 : Cond.methodLink "ShadowLatchesLaw" (54 : Nat) ({ cls := "ShadowLatches", name := "clearText", desc := "()I" } : MethodName) ∈ WS := ws_all_good (l := tables_1_2) 52 (by decide +kernel) tb2 (by decide +kernel)
theorem wd2_53 : Cond.instanceMethod ({ cls := "ShadowLatches", name := "clearText", desc := "()I" } : MethodName) ∈ WS := ws_all_good (l := tables_1_2) 53 (by decide +kernel) tb2 (by decide +kernel)
theorem wd2_54 : Cond.selects "ShadowLatches" ({ cls := "ShadowLatches", name := "clearText", desc := "()I" } : MethodName) ({ cls := "ShadowLatches", name := "clearText", desc := "()I" } : MethodName) ∈ WS := ws_all_good (l := tables_1_2) 54 (by decide +kernel) tb2 (by decide +kernel)
theorem wd2_55 : Cond.code ({ cls := "ShadowLatches", name := "clearText", desc := "()I" } : MethodName) prog_1_method_11_code (2 : Nat) (Option.some FieldType.int) ∈ WS := ws_all_good (l := tables_1_2) 55 (by decide +kernel) tb2 (by decide +kernel)
theorem wd2_56 : Cond.methodLink "ShadowLatchesLaw" (58 : Nat) ({ cls := "ShadowLatches", name := "undo", desc := "()I" } : MethodName) ∈ WS := ws_all_good (l := tables_1_2) 56 (by decide +kernel) tb2 (by decide +kernel)
theorem wd2_57 : Cond.instanceMethod ({ cls := "ShadowLatches", name := "undo", desc := "()I" } : MethodName) ∈ WS := ws_all_good (l := tables_1_2) 57 (by decide +kernel) tb2 (by decide +kernel)
theorem wd2_58 : Cond.selects "ShadowLatches" ({ cls := "ShadowLatches", name := "undo", desc := "()I" } : MethodName) ({ cls := "ShadowLatches", name := "undo", desc := "()I" } : MethodName) ∈ WS := ws_all_good (l := tables_1_2) 58 (by decide +kernel) tb2 (by decide +kernel)
theorem wd2_59 : Cond.code ({ cls := "ShadowLatches", name := "undo", desc := "()I" } : MethodName) prog_1_method_12_code (1 : Nat) (Option.some FieldType.int) ∈ WS := ws_all_good (l := tables_1_2) 59 (by decide +kernel) tb2 (by decide +kernel)
theorem wd2_60 : Cond.methodLink "ShadowLatchesLaw" (62 : Nat) ({ cls := "ShadowLatches", name := "keep", desc := "()I" } : MethodName) ∈ WS := ws_all_good (l := tables_1_2) 60 (by decide +kernel) tb2 (by decide +kernel)
theorem wd2_61 : Cond.instanceMethod ({ cls := "ShadowLatches", name := "keep", desc := "()I" } : MethodName) ∈ WS := ws_all_good (l := tables_1_2) 61 (by decide +kernel) tb2 (by decide +kernel)
theorem wd2_62 : Cond.selects "ShadowLatches" ({ cls := "ShadowLatches", name := "keep", desc := "()I" } : MethodName) ({ cls := "ShadowLatches", name := "keep", desc := "()I" } : MethodName) ∈ WS := ws_all_good (l := tables_1_2) 62 (by decide +kernel) tb2 (by decide +kernel)
theorem wd2_63 : Cond.code ({ cls := "ShadowLatches", name := "keep", desc := "()I" } : MethodName) prog_1_method_13_code (1 : Nat) (Option.some FieldType.int) ∈ WS := ws_all_good (l := tables_1_2) 63 (by decide +kernel) tb2 (by decide +kernel)
theorem wd2_64 : Cond.methodLink "ShadowLatchesLaw" (66 : Nat) ({ cls := "ShadowLatches", name := "restore", desc := "()I" } : MethodName) ∈ WS := ws_all_good (l := tables_1_2) 64 (by decide +kernel) tb2 (by decide +kernel)
theorem wd2_65 : Cond.instanceMethod ({ cls := "ShadowLatches", name := "restore", desc := "()I" } : MethodName) ∈ WS := ws_all_good (l := tables_1_2) 65 (by decide +kernel) tb2 (by decide +kernel)
theorem wd2_66 : Cond.selects "ShadowLatches" ({ cls := "ShadowLatches", name := "restore", desc := "()I" } : MethodName) ({ cls := "ShadowLatches", name := "restore", desc := "()I" } : MethodName) ∈ WS := ws_all_good (l := tables_1_2) 66 (by decide +kernel) tb2 (by decide +kernel)
theorem wd2_67 : Cond.code ({ cls := "ShadowLatches", name := "restore", desc := "()I" } : MethodName) prog_1_method_14_code (1 : Nat) (Option.some FieldType.int) ∈ WS := ws_all_good (l := tables_1_2) 67 (by decide +kernel) tb2 (by decide +kernel)
theorem wd2_68 : Cond.methodLink "ShadowLatchesLaw" (70 : Nat) ({ cls := "ShadowLatches", name := "path", desc := "(II)I" } : MethodName) ∈ WS := ws_all_good (l := tables_1_2) 68 (by decide +kernel) tb2 (by decide +kernel)
theorem wd2_69 : Cond.instanceMethod ({ cls := "ShadowLatches", name := "path", desc := "(II)I" } : MethodName) ∈ WS := ws_all_good (l := tables_1_2) 69 (by decide +kernel) tb2 (by decide +kernel)
theorem wd2_70 : Cond.selects "ShadowLatches" ({ cls := "ShadowLatches", name := "path", desc := "(II)I" } : MethodName) ({ cls := "ShadowLatches", name := "path", desc := "(II)I" } : MethodName) ∈ WS := ws_all_good (l := tables_1_2) 70 (by decide +kernel) tb2 (by decide +kernel)
theorem wd2_71 : Cond.code ({ cls := "ShadowLatches", name := "path", desc := "(II)I" } : MethodName) prog_1_method_15_code (3 : Nat) (Option.some FieldType.int) ∈ WS := ws_all_good (l := tables_1_2) 71 (by decide +kernel) tb2 (by decide +kernel)
theorem wd2_72 : Cond.methodLink "ShadowLatches" (121 : Nat) ({ cls := "ShadowLatches$Circuit", name := "delayNow", desc := "(I)I" } : MethodName) ∈ WS := ws_all_good (l := tables_1_2) 72 (by decide +kernel) tb2 (by decide +kernel)
theorem wd2_73 : Cond.instanceMethod ({ cls := "ShadowLatches$Circuit", name := "delayNow", desc := "(I)I" } : MethodName) ∈ WS := ws_all_good (l := tables_1_2) 73 (by decide +kernel) tb2 (by decide +kernel)
theorem wd2_74 : Cond.selects "ShadowLatches$Circuit" ({ cls := "ShadowLatches$Circuit", name := "delayNow", desc := "(I)I" } : MethodName) ({ cls := "ShadowLatches$Circuit", name := "delayNow", desc := "(I)I" } : MethodName) ∈ WS := ws_all_good (l := tables_1_2) 74 (by decide +kernel) tb2 (by decide +kernel)
theorem wd2_75 : Cond.code ({ cls := "ShadowLatches$Circuit", name := "delayNow", desc := "(I)I" } : MethodName) prog_2_method_6_code (2 : Nat) (Option.some FieldType.int) ∈ WS := ws_all_good (l := tables_1_2) 75 (by decide +kernel) tb2 (by decide +kernel)
theorem wd2_76 : Cond.methodLink "ShadowLatches" (124 : Nat) ({ cls := "ShadowLatches$Circuit", name := "judge", desc := "(I)I" } : MethodName) ∈ WS := ws_all_good (l := tables_1_2) 76 (by decide +kernel) tb2 (by decide +kernel)
theorem wd2_77 : Cond.methodLink "ShadowLatches" (130 : Nat) ({ cls := "ShadowLatches$Circuit", name := "setsWith", desc := "(I)I" } : MethodName) ∈ WS := ws_all_good (l := tables_1_2) 77 (by decide +kernel) tb2 (by decide +kernel)
theorem wd2_78 : Cond.instanceMethod ({ cls := "ShadowLatches$Circuit", name := "setsWith", desc := "(I)I" } : MethodName) ∈ WS := ws_all_good (l := tables_1_2) 78 (by decide +kernel) tb2 (by decide +kernel)
theorem wd2_79 : Cond.selects "ShadowLatches$Circuit" ({ cls := "ShadowLatches$Circuit", name := "setsWith", desc := "(I)I" } : MethodName) ({ cls := "ShadowLatches$Circuit", name := "setsWith", desc := "(I)I" } : MethodName) ∈ WS := ws_all_good (l := tables_1_2) 79 (by decide +kernel) tb2 (by decide +kernel)
theorem wd2_80 : Cond.code ({ cls := "ShadowLatches$Circuit", name := "setsWith", desc := "(I)I" } : MethodName) prog_2_method_9_code (4 : Nat) (Option.some FieldType.int) ∈ WS := ws_all_good (l := tables_1_2) 80 (by decide +kernel) tb2 (by decide +kernel)
theorem wd2_81 : Cond.methodLink "ShadowLatchesLaw" (74 : Nat) ({ cls := "ShadowLatches", name := "delay", desc := "(III)I" } : MethodName) ∈ WS := ws_all_good (l := tables_1_2) 81 (by decide +kernel) tb2 (by decide +kernel)
theorem wd2_82 : Cond.instanceMethod ({ cls := "ShadowLatches", name := "delay", desc := "(III)I" } : MethodName) ∈ WS := ws_all_good (l := tables_1_2) 82 (by decide +kernel) tb2 (by decide +kernel)
theorem wd2_83 : Cond.selects "ShadowLatches" ({ cls := "ShadowLatches", name := "delay", desc := "(III)I" } : MethodName) ({ cls := "ShadowLatches", name := "delay", desc := "(III)I" } : MethodName) ∈ WS := ws_all_good (l := tables_1_2) 83 (by decide +kernel) tb2 (by decide +kernel)
theorem wd2_84 : Cond.code ({ cls := "ShadowLatches", name := "delay", desc := "(III)I" } : MethodName) prog_1_method_16_code (4 : Nat) (Option.some FieldType.int) ∈ WS := ws_all_good (l := tables_1_2) 84 (by decide +kernel) tb2 (by decide +kernel)
theorem wd2_85 : Cond.methodLink "ShadowLatches" (133 : Nat) ({ cls := "ShadowLatches$Circuit", name := "delayOf", desc := "(III)I" } : MethodName) ∈ WS := ws_all_good (l := tables_1_2) 85 (by decide +kernel) tb2 (by decide +kernel)
theorem wd2_86 : Cond.methodLink "ShadowLatchesLaw" (79 : Nat) ({ cls := "ShadowLatches", name := "workload", desc := "(I)I" } : MethodName) ∈ WS := ws_all_good (l := tables_1_2) 86 (by decide +kernel) tb2 (by decide +kernel)
theorem wd2_87 : Cond.instanceMethod ({ cls := "ShadowLatches", name := "workload", desc := "(I)I" } : MethodName) ∈ WS := ws_all_good (l := tables_1_2) 87 (by decide +kernel) tb2 (by decide +kernel)
theorem wd2_88 : Cond.selects "ShadowLatches" ({ cls := "ShadowLatches", name := "workload", desc := "(I)I" } : MethodName) ({ cls := "ShadowLatches", name := "workload", desc := "(I)I" } : MethodName) ∈ WS := ws_all_good (l := tables_1_2) 88 (by decide +kernel) tb2 (by decide +kernel)
theorem wd2_89 : Cond.code ({ cls := "ShadowLatches", name := "workload", desc := "(I)I" } : MethodName) prog_1_method_17_code (2 : Nat) (Option.some FieldType.int) ∈ WS := ws_all_good (l := tables_1_2) 89 (by decide +kernel) tb2 (by decide +kernel)
theorem wd2_90 : Cond.methodLink "ShadowLatchesLaw" (83 : Nat) ({ cls := "ShadowLatches", name := "least", desc := "(Z)I" } : MethodName) ∈ WS := ws_all_good (l := tables_1_2) 90 (by decide +kernel) tb2 (by decide +kernel)
theorem wd2_91 : Cond.instanceMethod ({ cls := "ShadowLatches", name := "least", desc := "(Z)I" } : MethodName) ∈ WS := ws_all_good (l := tables_1_2) 91 (by decide +kernel) tb2 (by decide +kernel)
theorem wd2_92 : Cond.selects "ShadowLatches" ({ cls := "ShadowLatches", name := "least", desc := "(Z)I" } : MethodName) ({ cls := "ShadowLatches", name := "least", desc := "(Z)I" } : MethodName) ∈ WS := ws_all_good (l := tables_1_2) 92 (by decide +kernel) tb2 (by decide +kernel)
theorem wd2_93 : Cond.code ({ cls := "ShadowLatches", name := "least", desc := "(Z)I" } : MethodName) prog_1_method_18_code (5 : Nat) (Option.some FieldType.int) ∈ WS := ws_all_good (l := tables_1_2) 93 (by decide +kernel) tb2 (by decide +kernel)
theorem wd2_94 : Cond.methodLink "ShadowLatches" (138 : Nat) ({ cls := "ShadowLatches$Circuit", name := "longestInWorkload", desc := "()I" } : MethodName) ∈ WS := ws_all_good (l := tables_1_2) 94 (by decide +kernel) tb2 (by decide +kernel)
theorem wd2_95 : Cond.instanceMethod ({ cls := "ShadowLatches$Circuit", name := "longestInWorkload", desc := "()I" } : MethodName) ∈ WS := ws_all_good (l := tables_1_2) 95 (by decide +kernel) tb2 (by decide +kernel)
theorem wd2_96 : Cond.selects "ShadowLatches$Circuit" ({ cls := "ShadowLatches$Circuit", name := "longestInWorkload", desc := "()I" } : MethodName) ({ cls := "ShadowLatches$Circuit", name := "longestInWorkload", desc := "()I" } : MethodName) ∈ WS := ws_all_good (l := tables_1_2) 96 (by decide +kernel) tb2 (by decide +kernel)
theorem wd2_97 : Cond.code ({ cls := "ShadowLatches$Circuit", name := "longestInWorkload", desc := "()I" } : MethodName) prog_2_method_11_code (3 : Nat) (Option.some FieldType.int) ∈ WS := ws_all_good (l := tables_1_2) 97 (by decide +kernel) tb2 (by decide +kernel)
theorem wd2_98 : Cond.methodLink "ShadowLatchesLaw" (87 : Nat) ({ cls := "ShadowLatches", name := "would", desc := "(III)I" } : MethodName) ∈ WS := ws_all_good (l := tables_1_2) 98 (by decide +kernel) tb2 (by decide +kernel)
theorem wd2_99 : Cond.instanceMethod ({ cls := "ShadowLatches", name := "would", desc := "(III)I" } : MethodName) ∈ WS := ws_all_good (l := tables_1_2) 99 (by decide +kernel) tb2 (by decide +kernel)
theorem wd2_100 : Cond.selects "ShadowLatches" ({ cls := "ShadowLatches", name := "would", desc := "(III)I" } : MethodName) ({ cls := "ShadowLatches", name := "would", desc := "(III)I" } : MethodName) ∈ WS := ws_all_good (l := tables_1_2) 100 (by decide +kernel) tb2 (by decide +kernel)
theorem wd2_101 : Cond.code ({ cls := "ShadowLatches", name := "would", desc := "(III)I" } : MethodName) prog_1_method_19_code (4 : Nat) (Option.some FieldType.int) ∈ WS := ws_all_good (l := tables_1_2) 101 (by decide +kernel) tb2 (by decide +kernel)
theorem wd2_102 : Cond.methodLink "ShadowLatches" (144 : Nat) ({ cls := "ShadowLatches", name := "tryCycles", desc := "(II)V" } : MethodName) ∈ WS := ws_all_good (l := tables_1_2) 102 (by decide +kernel) tb2 (by decide +kernel)
theorem wd2_104 : Cond.instanceMethod ({ cls := "ShadowLatches", name := "tryCycles", desc := "(II)V" } : MethodName) ∈ WS := ws_all_good (l := tables_1_2) 104 (by decide +kernel) tb2 (by decide +kernel)
theorem wd2_105 : Cond.code ({ cls := "ShadowLatches", name := "tryCycles", desc := "(II)V" } : MethodName) prog_1_method_28_code (3 : Nat) (Option.none : Option FieldType) ∈ WS := ws_all_good (l := tables_1_2) 105 (by decide +kernel) tb2 (by decide +kernel)
theorem wd2_106 : Cond.methodLink "ShadowLatchesLaw" (91 : Nat) ({ cls := "ShadowLatches", name := "best", desc := "(I)I" } : MethodName) ∈ WS := ws_all_good (l := tables_1_2) 106 (by decide +kernel) tb2 (by decide +kernel)
theorem wd2_107 : Cond.instanceMethod ({ cls := "ShadowLatches", name := "best", desc := "(I)I" } : MethodName) ∈ WS := ws_all_good (l := tables_1_2) 107 (by decide +kernel) tb2 (by decide +kernel)
theorem wd2_108 : Cond.selects "ShadowLatches" ({ cls := "ShadowLatches", name := "best", desc := "(I)I" } : MethodName) ({ cls := "ShadowLatches", name := "best", desc := "(I)I" } : MethodName) ∈ WS := ws_all_good (l := tables_1_2) 108 (by decide +kernel) tb2 (by decide +kernel)
theorem wd2_109 : Cond.code ({ cls := "ShadowLatches", name := "best", desc := "(I)I" } : MethodName) prog_1_method_20_code (8 : Nat) (Option.some FieldType.int) ∈ WS := ws_all_good (l := tables_1_2) 109 (by decide +kernel) tb2 (by decide +kernel)
theorem wd2_110 : Cond.methodLink "ShadowLatchesLaw" (95 : Nat) ({ cls := "ShadowLatches", name := "count", desc := "(I)I" } : MethodName) ∈ WS := ws_all_good (l := tables_1_2) 110 (by decide +kernel) tb2 (by decide +kernel)
theorem wd2_111 : Cond.instanceMethod ({ cls := "ShadowLatches", name := "count", desc := "(I)I" } : MethodName) ∈ WS := ws_all_good (l := tables_1_2) 111 (by decide +kernel) tb2 (by decide +kernel)
theorem wd2_112 : Cond.selects "ShadowLatches" ({ cls := "ShadowLatches", name := "count", desc := "(I)I" } : MethodName) ({ cls := "ShadowLatches", name := "count", desc := "(I)I" } : MethodName) ∈ WS := ws_all_good (l := tables_1_2) 112 (by decide +kernel) tb2 (by decide +kernel)
theorem wd2_113 : Cond.code ({ cls := "ShadowLatches", name := "count", desc := "(I)I" } : MethodName) prog_1_method_21_code (2 : Nat) (Option.some FieldType.int) ∈ WS := ws_all_good (l := tables_1_2) 113 (by decide +kernel) tb2 (by decide +kernel)
theorem wd2_114 : Cond.constantLong "ShadowLatches" (161 : Nat) (1000 : Int64) ∈ WS := ws_all_good (l := tables_1_2) 114 (by decide +kernel) tb2 (by decide +kernel)
theorem wd2_115 : Cond.methodLink "ShadowLatches" (172 : Nat) ({ cls := "ShadowLatches$Circuit", name := "pathsJudged", desc := "(I)I" } : MethodName) ∈ WS := ws_all_good (l := tables_1_2) 115 (by decide +kernel) tb2 (by decide +kernel)
theorem wd2_116 : Cond.instanceMethod ({ cls := "ShadowLatches$Circuit", name := "pathsJudged", desc := "(I)I" } : MethodName) ∈ WS := ws_all_good (l := tables_1_2) 116 (by decide +kernel) tb2 (by decide +kernel)
theorem wd2_117 : Cond.selects "ShadowLatches$Circuit" ({ cls := "ShadowLatches$Circuit", name := "pathsJudged", desc := "(I)I" } : MethodName) ({ cls := "ShadowLatches$Circuit", name := "pathsJudged", desc := "(I)I" } : MethodName) ∈ WS := ws_all_good (l := tables_1_2) 117 (by decide +kernel) tb2 (by decide +kernel)
theorem wd2_118 : Cond.code ({ cls := "ShadowLatches$Circuit", name := "pathsJudged", desc := "(I)I" } : MethodName) prog_2_method_8_code (4 : Nat) (Option.some FieldType.int) ∈ WS := ws_all_good (l := tables_1_2) 118 (by decide +kernel) tb2 (by decide +kernel)
theorem wd2_119 : Cond.methodLink "ShadowLatches$Circuit" (88 : Nat) ({ cls := "ShadowLatches$Circuit", name := "delayNow", desc := "(I)I" } : MethodName) ∈ WS := ws_all_good (l := tables_1_2) 119 (by decide +kernel) tb2 (by decide +kernel)
theorem wd2_120 : Cond.classLink "ShadowLatchesLaw" (10 : Nat) "ShadowLatchesModel" ∈ WS := ws_all_good (l := tables_1_2) 120 (by decide +kernel) tb2 (by decide +kernel)
theorem wd2_121 : Cond.instantiable "ShadowLatchesModel" (12 : Nat) ∈ WS := ws_all_good (l := tables_1_2) 121 (by decide +kernel) tb2 (by decide +kernel)
theorem wd2_122 : Cond.methodLink "ShadowLatchesLaw" (12 : Nat) ({ cls := "ShadowLatchesModel", name := "<init>", desc := "()V" } : MethodName) ∈ WS := ws_all_good (l := tables_1_2) 122 (by decide +kernel) tb2 (by decide +kernel)
theorem wd2_123 : Cond.instanceMethod ({ cls := "ShadowLatchesModel", name := "<init>", desc := "()V" } : MethodName) ∈ WS := ws_all_good (l := tables_1_2) 123 (by decide +kernel) tb2 (by decide +kernel)
theorem wd2_124 : Cond.code ({ cls := "ShadowLatchesModel", name := "<init>", desc := "()V" } : MethodName) prog_5_method_1_code (1 : Nat) (Option.none : Option FieldType) ∈ WS := ws_all_good (l := tables_1_2) 124 (by decide +kernel) tb2 (by decide +kernel)
theorem wd2_125 : Cond.methodLink "ShadowLatchesModel" (1 : Nat) ({ cls := "java/lang/Object", name := "<init>", desc := "()V" } : MethodName) ∈ WS := ws_all_good (l := tables_1_2) 125 (by decide +kernel) tb2 (by decide +kernel)
theorem wd2_126 : Cond.fieldLink "ShadowLatchesModel" (7 : Nat) "ShadowLatchesModel" "all" "[I" ∈ WS := ws_all_good (l := tables_1_2) 126 (by decide +kernel) tb2 (by decide +kernel)
theorem wd2_127 : Cond.fieldLink "ShadowLatchesModel" (13 : Nat) "ShadowLatchesModel" "kept" "[I" ∈ WS := ws_all_good (l := tables_1_2) 127 (by decide +kernel) tb2 (by decide +kernel)
theorem wd2_128 : Cond.fieldLink "ShadowLatchesModel" (16 : Nat) "ShadowLatchesModel" "tried" "[I" ∈ WS := ws_all_good (l := tables_1_2) 128 (by decide +kernel) tb2 (by decide +kernel)
theorem wd2_129 : Cond.fieldLink "ShadowLatchesModel" (19 : Nat) "ShadowLatchesModel" "history" "[I" ∈ WS := ws_all_good (l := tables_1_2) 129 (by decide +kernel) tb2 (by decide +kernel)
theorem wd2_130 : Cond.fieldLink "ShadowLatchesModel" (35 : Nat) "ShadowLatchesModel" "historyLong" "I" ∈ WS := ws_all_good (l := tables_1_2) 130 (by decide +kernel) tb2 (by decide +kernel)
theorem wd2_131 : Cond.fieldLink "ShadowLatchesModel" (22 : Nat) "ShadowLatchesModel" "snapshot" "[I" ∈ WS := ws_all_good (l := tables_1_2) 131 (by decide +kernel) tb2 (by decide +kernel)
theorem wd2_132 : Cond.fieldLink "ShadowLatchesModel" (144 : Nat) "ShadowLatchesModel" "isTaken" "I" ∈ WS := ws_all_good (l := tables_1_2) 132 (by decide +kernel) tb2 (by decide +kernel)
theorem wd2_133 : Cond.fieldLink "ShadowLatchesModel" (25 : Nat) "ShadowLatchesModel" "text" "[I" ∈ WS := ws_all_good (l := tables_1_2) 133 (by decide +kernel) tb2 (by decide +kernel)
theorem wd2_134 : Cond.fieldLink "ShadowLatchesModel" (96 : Nat) "ShadowLatchesModel" "textLong" "I" ∈ WS := ws_all_good (l := tables_1_2) 134 (by decide +kernel) tb2 (by decide +kernel)
theorem wd2_135 : Cond.fieldLink "ShadowLatchesModel" (99 : Nat) "ShadowLatchesModel" "spot" "I" ∈ WS := ws_all_good (l := tables_1_2) 135 (by decide +kernel) tb2 (by decide +kernel)
theorem wd2_136 : Cond.fieldLink "ShadowLatchesModel" (28 : Nat) "ShadowLatchesModel" "read" "[I" ∈ WS := ws_all_good (l := tables_1_2) 136 (by decide +kernel) tb2 (by decide +kernel)
theorem wd2_137 : Cond.fieldLink "ShadowLatchesModel" (108 : Nat) "ShadowLatchesModel" "readMany" "I" ∈ WS := ws_all_good (l := tables_1_2) 137 (by decide +kernel) tb2 (by decide +kernel)
theorem wd2_138 : Cond.laysFinal "ShadowLatchesModel" "ShadowLatchesModel" "all" "[I" ∈ WS := ws_all_good (l := tables_1_2) 138 (by decide +kernel) tb2 (by decide +kernel)
theorem wd2_139 : Cond.soleField "ShadowLatchesModel" "all" ∈ WS := ws_all_good (l := tables_1_2) 139 (by decide +kernel) tb2 (by decide +kernel)
theorem wd2_140 : Cond.laysFinal "ShadowLatchesModel" "ShadowLatchesModel" "kept" "[I" ∈ WS := ws_all_good (l := tables_1_2) 140 (by decide +kernel) tb2 (by decide +kernel)
theorem wd2_141 : Cond.soleField "ShadowLatchesModel" "kept" ∈ WS := ws_all_good (l := tables_1_2) 141 (by decide +kernel) tb2 (by decide +kernel)
theorem wd2_142 : Cond.laysFinal "ShadowLatchesModel" "ShadowLatchesModel" "tried" "[I" ∈ WS := ws_all_good (l := tables_1_2) 142 (by decide +kernel) tb2 (by decide +kernel)
theorem wd2_143 : Cond.soleField "ShadowLatchesModel" "tried" ∈ WS := ws_all_good (l := tables_1_2) 143 (by decide +kernel) tb2 (by decide +kernel)
theorem wd2_144 : Cond.laysFinal "ShadowLatchesModel" "ShadowLatchesModel" "history" "[I" ∈ WS := ws_all_good (l := tables_1_2) 144 (by decide +kernel) tb2 (by decide +kernel)
theorem wd2_145 : Cond.soleField "ShadowLatchesModel" "history" ∈ WS := ws_all_good (l := tables_1_2) 145 (by decide +kernel) tb2 (by decide +kernel)
theorem wd2_146 : Cond.lays "ShadowLatchesModel" "ShadowLatchesModel" "historyLong" "I" ∈ WS := ws_all_good (l := tables_1_2) 146 (by decide +kernel) tb2 (by decide +kernel)
theorem wd2_147 : Cond.soleField "ShadowLatchesModel" "historyLong" ∈ WS := ws_all_good (l := tables_1_2) 147 (by decide +kernel) tb2 (by decide +kernel)
theorem wd2_148 : Cond.laysFinal "ShadowLatchesModel" "ShadowLatchesModel" "snapshot" "[I" ∈ WS := ws_all_good (l := tables_1_2) 148 (by decide +kernel) tb2 (by decide +kernel)
theorem wd2_149 : Cond.soleField "ShadowLatchesModel" "snapshot" ∈ WS := ws_all_good (l := tables_1_2) 149 (by decide +kernel) tb2 (by decide +kernel)
theorem wd2_150 : Cond.lays "ShadowLatchesModel" "ShadowLatchesModel" "isTaken" "I" ∈ WS := ws_all_good (l := tables_1_2) 150 (by decide +kernel) tb2 (by decide +kernel)
theorem wd2_151 : Cond.soleField "ShadowLatchesModel" "isTaken" ∈ WS := ws_all_good (l := tables_1_2) 151 (by decide +kernel) tb2 (by decide +kernel)
theorem wd2_152 : Cond.laysFinal "ShadowLatchesModel" "ShadowLatchesModel" "text" "[I" ∈ WS := ws_all_good (l := tables_1_2) 152 (by decide +kernel) tb2 (by decide +kernel)
theorem wd2_153 : Cond.soleField "ShadowLatchesModel" "text" ∈ WS := ws_all_good (l := tables_1_2) 153 (by decide +kernel) tb2 (by decide +kernel)
theorem wd2_154 : Cond.lays "ShadowLatchesModel" "ShadowLatchesModel" "textLong" "I" ∈ WS := ws_all_good (l := tables_1_2) 154 (by decide +kernel) tb2 (by decide +kernel)
theorem wd2_155 : Cond.soleField "ShadowLatchesModel" "textLong" ∈ WS := ws_all_good (l := tables_1_2) 155 (by decide +kernel) tb2 (by decide +kernel)
theorem wd2_156 : Cond.lays "ShadowLatchesModel" "ShadowLatchesModel" "spot" "I" ∈ WS := ws_all_good (l := tables_1_2) 156 (by decide +kernel) tb2 (by decide +kernel)
theorem wd2_157 : Cond.soleField "ShadowLatchesModel" "spot" ∈ WS := ws_all_good (l := tables_1_2) 157 (by decide +kernel) tb2 (by decide +kernel)
theorem wd2_158 : Cond.laysFinal "ShadowLatchesModel" "ShadowLatchesModel" "read" "[I" ∈ WS := ws_all_good (l := tables_1_2) 158 (by decide +kernel) tb2 (by decide +kernel)
theorem wd2_159 : Cond.soleField "ShadowLatchesModel" "read" ∈ WS := ws_all_good (l := tables_1_2) 159 (by decide +kernel) tb2 (by decide +kernel)
theorem wd2_160 : Cond.lays "ShadowLatchesModel" "ShadowLatchesModel" "readMany" "I" ∈ WS := ws_all_good (l := tables_1_2) 160 (by decide +kernel) tb2 (by decide +kernel)
theorem wd2_161 : Cond.soleField "ShadowLatchesModel" "readMany" ∈ WS := ws_all_good (l := tables_1_2) 161 (by decide +kernel) tb2 (by decide +kernel)
theorem wd2_162 : Cond.superclass "ShadowLatchesModel" "java/lang/Object" ∈ WS := ws_all_good (l := tables_1_2) 162 (by decide +kernel) tb2 (by decide +kernel)
theorem wd2_163 : Cond.methodLink "ShadowLatchesLaw" (17 : Nat) ({ cls := "ShadowLatchesModel", name := "addPath", desc := "(I)I" } : MethodName) ∈ WS := ws_all_good (l := tables_1_2) 163 (by decide +kernel) tb2 (by decide +kernel)
theorem wd2_164 : Cond.instanceMethod ({ cls := "ShadowLatchesModel", name := "addPath", desc := "(I)I" } : MethodName) ∈ WS := ws_all_good (l := tables_1_2) 164 (by decide +kernel) tb2 (by decide +kernel)
theorem wd2_165 : Cond.selects "ShadowLatchesModel" ({ cls := "ShadowLatchesModel", name := "addPath", desc := "(I)I" } : MethodName) ({ cls := "ShadowLatchesModel", name := "addPath", desc := "(I)I" } : MethodName) ∈ WS := ws_all_good (l := tables_1_2) 165 (by decide +kernel) tb2 (by decide +kernel)
theorem wd2_166 : Cond.code ({ cls := "ShadowLatchesModel", name := "addPath", desc := "(I)I" } : MethodName) prog_5_method_17_code (2 : Nat) (Option.some FieldType.int) ∈ WS := ws_all_good (l := tables_1_2) 166 (by decide +kernel) tb2 (by decide +kernel)
theorem wd2_167 : Cond.methodLink "ShadowLatchesModel" (73 : Nat) ({ cls := "ShadowLatchesModel", name := "isLength", desc := "(I)Z" } : MethodName) ∈ WS := ws_all_good (l := tables_1_2) 167 (by decide +kernel) tb2 (by decide +kernel)
theorem wd2_168 : Cond.static ({ cls := "ShadowLatchesModel", name := "isLength", desc := "(I)Z" } : MethodName) ∈ WS := ws_all_good (l := tables_1_2) 168 (by decide +kernel) tb2 (by decide +kernel)
theorem wd2_169 : Cond.code ({ cls := "ShadowLatchesModel", name := "isLength", desc := "(I)Z" } : MethodName) prog_5_method_16_code (1 : Nat) (Option.some FieldType.boolean) ∈ WS := ws_all_good (l := tables_1_2) 169 (by decide +kernel) tb2 (by decide +kernel)
theorem wd2_170 : Cond.constantLong "ShadowLatchesModel" (69 : Nat) (10 : Int64) ∈ WS := ws_all_good (l := tables_1_2) 170 (by decide +kernel) tb2 (by decide +kernel)
theorem wd2_171 : Cond.constantLong "ShadowLatchesModel" (71 : Nat) (400 : Int64) ∈ WS := ws_all_good (l := tables_1_2) 171 (by decide +kernel) tb2 (by decide +kernel)
theorem wd2_172 : Cond.methodLink "ShadowLatchesModel" (39 : Nat) ({ cls := "ShadowLatchesModel", name := "in", desc := "(JJJ)Z" } : MethodName) ∈ WS := ws_all_good (l := tables_1_2) 172 (by decide +kernel) tb2 (by decide +kernel)
theorem wd2_173 : Cond.static ({ cls := "ShadowLatchesModel", name := "in", desc := "(JJJ)Z" } : MethodName) ∈ WS := ws_all_good (l := tables_1_2) 173 (by decide +kernel) tb2 (by decide +kernel)
theorem wd2_174 : Cond.code ({ cls := "ShadowLatchesModel", name := "in", desc := "(JJJ)Z" } : MethodName) prog_5_method_3_code (6 : Nat) (Option.some FieldType.boolean) ∈ WS := ws_all_good (l := tables_1_2) 174 (by decide +kernel) tb2 (by decide +kernel)
theorem wd2_175 : Cond.methodLink "ShadowLatchesModel" (77 : Nat) ({ cls := "ShadowLatchesModel", name := "remember", desc := "()V" } : MethodName) ∈ WS := ws_all_good (l := tables_1_2) 175 (by decide +kernel) tb2 (by decide +kernel)
theorem wd2_177 : Cond.instanceMethod ({ cls := "ShadowLatchesModel", name := "remember", desc := "()V" } : MethodName) ∈ WS := ws_all_good (l := tables_1_2) 177 (by decide +kernel) tb2 (by decide +kernel)
theorem wd2_178 : Cond.code ({ cls := "ShadowLatchesModel", name := "remember", desc := "()V" } : MethodName) prog_5_method_5_code (1 : Nat) (Option.none : Option FieldType) ∈ WS := ws_all_good (l := tables_1_2) 178 (by decide +kernel) tb2 (by decide +kernel)
theorem wd2_179 : Cond.methodLink "ShadowLatchesModel" (31 : Nat) ({ cls := "ShadowLatchesModel", name := "copy", desc := "([I[I)V" } : MethodName) ∈ WS := ws_all_good (l := tables_1_2) 179 (by decide +kernel) tb2 (by decide +kernel)
theorem wd2_180 : Cond.static ({ cls := "ShadowLatchesModel", name := "copy", desc := "([I[I)V" } : MethodName) ∈ WS := ws_all_good (l := tables_1_2) 180 (by decide +kernel) tb2 (by decide +kernel)
theorem wd2_181 : Cond.code ({ cls := "ShadowLatchesModel", name := "copy", desc := "([I[I)V" } : MethodName) prog_5_method_4_code (3 : Nat) (Option.none : Option FieldType) ∈ WS := ws_all_good (l := tables_1_2) 181 (by decide +kernel) tb2 (by decide +kernel)
theorem wd2_182 : Cond.methodLink "ShadowLatchesModel" (80 : Nat) ({ cls := "ShadowLatchesModel", name := "acted", desc := "(I)I" } : MethodName) ∈ WS := ws_all_good (l := tables_1_2) 182 (by decide +kernel) tb2 (by decide +kernel)
theorem wd2_184 : Cond.instanceMethod ({ cls := "ShadowLatchesModel", name := "acted", desc := "(I)I" } : MethodName) ∈ WS := ws_all_good (l := tables_1_2) 184 (by decide +kernel) tb2 (by decide +kernel)
theorem wd2_185 : Cond.code ({ cls := "ShadowLatchesModel", name := "acted", desc := "(I)I" } : MethodName) prog_5_method_6_code (3 : Nat) (Option.some FieldType.int) ∈ WS := ws_all_good (l := tables_1_2) 185 (by decide +kernel) tb2 (by decide +kernel)
theorem wd2_186 : Cond.methodLink "ShadowLatchesLaw" (22 : Nat) ({ cls := "ShadowLatchesModel", name := "setLength", desc := "(II)I" } : MethodName) ∈ WS := ws_all_good (l := tables_1_2) 186 (by decide +kernel) tb2 (by decide +kernel)
theorem wd2_187 : Cond.instanceMethod ({ cls := "ShadowLatchesModel", name := "setLength", desc := "(II)I" } : MethodName) ∈ WS := ws_all_good (l := tables_1_2) 187 (by decide +kernel) tb2 (by decide +kernel)
theorem wd2_188 : Cond.selects "ShadowLatchesModel" ({ cls := "ShadowLatchesModel", name := "setLength", desc := "(II)I" } : MethodName) ({ cls := "ShadowLatchesModel", name := "setLength", desc := "(II)I" } : MethodName) ∈ WS := ws_all_good (l := tables_1_2) 188 (by decide +kernel) tb2 (by decide +kernel)
theorem wd2_189 : Cond.code ({ cls := "ShadowLatchesModel", name := "setLength", desc := "(II)I" } : MethodName) prog_5_method_19_code (3 : Nat) (Option.some FieldType.int) ∈ WS := ws_all_good (l := tables_1_2) 189 (by decide +kernel) tb2 (by decide +kernel)
theorem wd2_190 : Cond.methodLink "ShadowLatchesModel" (83 : Nat) ({ cls := "ShadowLatchesModel", name := "isPath", desc := "(I)Z" } : MethodName) ∈ WS := ws_all_good (l := tables_1_2) 190 (by decide +kernel) tb2 (by decide +kernel)
theorem wd2_192 : Cond.instanceMethod ({ cls := "ShadowLatchesModel", name := "isPath", desc := "(I)Z" } : MethodName) ∈ WS := ws_all_good (l := tables_1_2) 192 (by decide +kernel) tb2 (by decide +kernel)
theorem wd2_193 : Cond.code ({ cls := "ShadowLatchesModel", name := "isPath", desc := "(I)Z" } : MethodName) prog_5_method_7_code (2 : Nat) (Option.some FieldType.boolean) ∈ WS := ws_all_good (l := tables_1_2) 193 (by decide +kernel) tb2 (by decide +kernel)
theorem wd2_194 : Cond.methodLink "ShadowLatchesModel" (86 : Nat) ({ cls := "ShadowLatchesModel", name := "sets", desc := "(II)I" } : MethodName) ∈ WS := ws_all_good (l := tables_1_2) 194 (by decide +kernel) tb2 (by decide +kernel)
theorem wd2_196 : Cond.instanceMethod ({ cls := "ShadowLatchesModel", name := "sets", desc := "(II)I" } : MethodName) ∈ WS := ws_all_good (l := tables_1_2) 196 (by decide +kernel) tb2 (by decide +kernel)
theorem wd2_197 : Cond.code ({ cls := "ShadowLatchesModel", name := "sets", desc := "(II)I" } : MethodName) prog_5_method_18_code (4 : Nat) (Option.some FieldType.int) ∈ WS := ws_all_good (l := tables_1_2) 197 (by decide +kernel) tb2 (by decide +kernel)
theorem wd2_198 : Cond.methodLink "ShadowLatchesLaw" (31 : Nat) ({ cls := "ShadowLatchesModel", name := "layWorkload", desc := "(II)I" } : MethodName) ∈ WS := ws_all_good (l := tables_1_2) 198 (by decide +kernel) tb2 (by decide +kernel)
theorem wd2_199 : Cond.instanceMethod ({ cls := "ShadowLatchesModel", name := "layWorkload", desc := "(II)I" } : MethodName) ∈ WS := ws_all_good (l := tables_1_2) 199 (by decide +kernel) tb2 (by decide +kernel)
theorem wd2_200 : Cond.selects "ShadowLatchesModel" ({ cls := "ShadowLatchesModel", name := "layWorkload", desc := "(II)I" } : MethodName) ({ cls := "ShadowLatchesModel", name := "layWorkload", desc := "(II)I" } : MethodName) ∈ WS := ws_all_good (l := tables_1_2) 200 (by decide +kernel) tb2 (by decide +kernel)
theorem wd2_201 : Cond.code ({ cls := "ShadowLatchesModel", name := "layWorkload", desc := "(II)I" } : MethodName) prog_5_method_21_code (6 : Nat) (Option.some FieldType.int) ∈ WS := ws_all_good (l := tables_1_2) 201 (by decide +kernel) tb2 (by decide +kernel)
theorem wd2_202 : Cond.constantLong "ShadowLatchesModel" (89 : Nat) (16 : Int64) ∈ WS := ws_all_good (l := tables_1_2) 202 (by decide +kernel) tb2 (by decide +kernel)
theorem wd2_203 : Cond.constantLong "ShadowLatchesModel" (91 : Nat) (9999 : Int64) ∈ WS := ws_all_good (l := tables_1_2) 203 (by decide +kernel) tb2 (by decide +kernel)
theorem wd2_204 : Cond.methodLink "ShadowLatchesModel" (59 : Nat) ({ cls := "ShadowLatchesModel", name := "many", desc := "(I)I" } : MethodName) ∈ WS := ws_all_good (l := tables_1_2) 204 (by decide +kernel) tb2 (by decide +kernel)
theorem wd2_205 : Cond.static ({ cls := "ShadowLatchesModel", name := "many", desc := "(I)I" } : MethodName) ∈ WS := ws_all_good (l := tables_1_2) 205 (by decide +kernel) tb2 (by decide +kernel)
theorem wd2_206 : Cond.code ({ cls := "ShadowLatchesModel", name := "many", desc := "(I)I" } : MethodName) prog_5_method_12_code (3 : Nat) (Option.some FieldType.int) ∈ WS := ws_all_good (l := tables_1_2) 206 (by decide +kernel) tb2 (by decide +kernel)
theorem wd2_207 : Cond.methodLink "ShadowLatchesModel" (93 : Nat) ({ cls := "ShadowLatchesModel", name := "begins", desc := "(I)V" } : MethodName) ∈ WS := ws_all_good (l := tables_1_2) 207 (by decide +kernel) tb2 (by decide +kernel)
theorem wd2_209 : Cond.instanceMethod ({ cls := "ShadowLatchesModel", name := "begins", desc := "(I)V" } : MethodName) ∈ WS := ws_all_good (l := tables_1_2) 209 (by decide +kernel) tb2 (by decide +kernel)
theorem wd2_210 : Cond.code ({ cls := "ShadowLatchesModel", name := "begins", desc := "(I)V" } : MethodName) prog_5_method_20_code (3 : Nat) (Option.none : Option FieldType) ∈ WS := ws_all_good (l := tables_1_2) 210 (by decide +kernel) tb2 (by decide +kernel)
theorem wd2_211 : Cond.methodLink "ShadowLatchesLaw" (53 : Nat) ({ cls := "ShadowLatchesModel", name := "type", desc := "(C)I" } : MethodName) ∈ WS := ws_all_good (l := tables_1_2) 211 (by decide +kernel) tb2 (by decide +kernel)
theorem wd2_212 : Cond.instanceMethod ({ cls := "ShadowLatchesModel", name := "type", desc := "(C)I" } : MethodName) ∈ WS := ws_all_good (l := tables_1_2) 212 (by decide +kernel) tb2 (by decide +kernel)
theorem wd2_213 : Cond.selects "ShadowLatchesModel" ({ cls := "ShadowLatchesModel", name := "type", desc := "(C)I" } : MethodName) ({ cls := "ShadowLatchesModel", name := "type", desc := "(C)I" } : MethodName) ∈ WS := ws_all_good (l := tables_1_2) 213 (by decide +kernel) tb2 (by decide +kernel)
theorem wd2_214 : Cond.code ({ cls := "ShadowLatchesModel", name := "type", desc := "(C)I" } : MethodName) prog_5_method_22_code (2 : Nat) (Option.some FieldType.int) ∈ WS := ws_all_good (l := tables_1_2) 214 (by decide +kernel) tb2 (by decide +kernel)
theorem wd2_215 : Cond.methodLink "ShadowLatchesLaw" (57 : Nat) ({ cls := "ShadowLatchesModel", name := "clearText", desc := "()I" } : MethodName) ∈ WS := ws_all_good (l := tables_1_2) 215 (by decide +kernel) tb2 (by decide +kernel)
theorem wd2_216 : Cond.instanceMethod ({ cls := "ShadowLatchesModel", name := "clearText", desc := "()I" } : MethodName) ∈ WS := ws_all_good (l := tables_1_2) 216 (by decide +kernel) tb2 (by decide +kernel)
theorem wd2_217 : Cond.selects "ShadowLatchesModel" ({ cls := "ShadowLatchesModel", name := "clearText", desc := "()I" } : MethodName) ({ cls := "ShadowLatchesModel", name := "clearText", desc := "()I" } : MethodName) ∈ WS := ws_all_good (l := tables_1_2) 217 (by decide +kernel) tb2 (by decide +kernel)
theorem wd2_218 : Cond.code ({ cls := "ShadowLatchesModel", name := "clearText", desc := "()I" } : MethodName) prog_5_method_23_code (2 : Nat) (Option.some FieldType.int) ∈ WS := ws_all_good (l := tables_1_2) 218 (by decide +kernel) tb2 (by decide +kernel)
theorem wd2_219 : Cond.methodLink "ShadowLatchesLaw" (27 : Nat) ({ cls := "ShadowLatchesModel", name := "takeWorkload", desc := "()I" } : MethodName) ∈ WS := ws_all_good (l := tables_1_2) 219 (by decide +kernel) tb2 (by decide +kernel)
theorem wd2_220 : Cond.instanceMethod ({ cls := "ShadowLatchesModel", name := "takeWorkload", desc := "()I" } : MethodName) ∈ WS := ws_all_good (l := tables_1_2) 220 (by decide +kernel) tb2 (by decide +kernel)
theorem wd2_221 : Cond.selects "ShadowLatchesModel" ({ cls := "ShadowLatchesModel", name := "takeWorkload", desc := "()I" } : MethodName) ({ cls := "ShadowLatchesModel", name := "takeWorkload", desc := "()I" } : MethodName) ∈ WS := ws_all_good (l := tables_1_2) 221 (by decide +kernel) tb2 (by decide +kernel)
theorem wd2_222 : Cond.code ({ cls := "ShadowLatchesModel", name := "takeWorkload", desc := "()I" } : MethodName) prog_5_method_28_code (3 : Nat) (Option.some FieldType.int) ∈ WS := ws_all_good (l := tables_1_2) 222 (by decide +kernel) tb2 (by decide +kernel)
theorem wd2_223 : Cond.methodLink "ShadowLatchesModel" (115 : Nat) ({ cls := "ShadowLatchesModel", name := "fault", desc := "()I" } : MethodName) ∈ WS := ws_all_good (l := tables_1_2) 223 (by decide +kernel) tb2 (by decide +kernel)
theorem wd2_225 : Cond.instanceMethod ({ cls := "ShadowLatchesModel", name := "fault", desc := "()I" } : MethodName) ∈ WS := ws_all_good (l := tables_1_2) 225 (by decide +kernel) tb2 (by decide +kernel)
theorem wd2_226 : Cond.code ({ cls := "ShadowLatchesModel", name := "fault", desc := "()I" } : MethodName) prog_5_method_27_code (2 : Nat) (Option.some FieldType.int) ∈ WS := ws_all_good (l := tables_1_2) 226 (by decide +kernel) tb2 (by decide +kernel)
theorem wd2_227 : Cond.methodLink "ShadowLatchesModel" (111 : Nat) ({ cls := "ShadowLatchesModel", name := "readsSet", desc := "()Z" } : MethodName) ∈ WS := ws_all_good (l := tables_1_2) 227 (by decide +kernel) tb2 (by decide +kernel)
theorem wd2_229 : Cond.instanceMethod ({ cls := "ShadowLatchesModel", name := "readsSet", desc := "()Z" } : MethodName) ∈ WS := ws_all_good (l := tables_1_2) 229 (by decide +kernel) tb2 (by decide +kernel)
theorem wd2_230 : Cond.code ({ cls := "ShadowLatchesModel", name := "readsSet", desc := "()Z" } : MethodName) prog_5_method_26_code (3 : Nat) (Option.some FieldType.boolean) ∈ WS := ws_all_good (l := tables_1_2) 230 (by decide +kernel) tb2 (by decide +kernel)
theorem wd2_231 : Cond.methodLink "ShadowLatchesModel" (105 : Nat) ({ cls := "ShadowLatchesModel", name := "takes", desc := "(I)Z" } : MethodName) ∈ WS := ws_all_good (l := tables_1_2) 231 (by decide +kernel) tb2 (by decide +kernel)
theorem wd2_233 : Cond.instanceMethod ({ cls := "ShadowLatchesModel", name := "takes", desc := "(I)Z" } : MethodName) ∈ WS := ws_all_good (l := tables_1_2) 233 (by decide +kernel) tb2 (by decide +kernel)
theorem wd2_234 : Cond.code ({ cls := "ShadowLatchesModel", name := "takes", desc := "(I)Z" } : MethodName) prog_5_method_25_code (3 : Nat) (Option.some FieldType.boolean) ∈ WS := ws_all_good (l := tables_1_2) 234 (by decide +kernel) tb2 (by decide +kernel)
theorem wd2_235 : Cond.methodLink "ShadowLatchesModel" (102 : Nat) ({ cls := "ShadowLatchesModel", name := "isHere", desc := "(II)Z" } : MethodName) ∈ WS := ws_all_good (l := tables_1_2) 235 (by decide +kernel) tb2 (by decide +kernel)
theorem wd2_237 : Cond.instanceMethod ({ cls := "ShadowLatchesModel", name := "isHere", desc := "(II)Z" } : MethodName) ∈ WS := ws_all_good (l := tables_1_2) 237 (by decide +kernel) tb2 (by decide +kernel)
theorem wd2_238 : Cond.code ({ cls := "ShadowLatchesModel", name := "isHere", desc := "(II)Z" } : MethodName) prog_5_method_24_code (3 : Nat) (Option.some FieldType.boolean) ∈ WS := ws_all_good (l := tables_1_2) 238 (by decide +kernel) tb2 (by decide +kernel)
theorem wd2_239 : Cond.methodLink "ShadowLatchesLaw" (35 : Nat) ({ cls := "ShadowLatchesModel", name := "setVoltage", desc := "(I)I" } : MethodName) ∈ WS := ws_all_good (l := tables_1_2) 239 (by decide +kernel) tb2 (by decide +kernel)
theorem wd3_0 : Cond.instanceMethod ({ cls := "ShadowLatchesModel", name := "setVoltage", desc := "(I)I" } : MethodName) ∈ WS := ws_all_good (l := tables_1_3) 0 (by decide +kernel) tb3 (by decide +kernel)
theorem wd3_1 : Cond.selects "ShadowLatchesModel" ({ cls := "ShadowLatchesModel", name := "setVoltage", desc := "(I)I" } : MethodName) ({ cls := "ShadowLatchesModel", name := "setVoltage", desc := "(I)I" } : MethodName) ∈ WS := ws_all_good (l := tables_1_3) 1 (by decide +kernel) tb3 (by decide +kernel)
theorem wd3_2 : Cond.code ({ cls := "ShadowLatchesModel", name := "setVoltage", desc := "(I)I" } : MethodName) prog_5_method_30_code (2 : Nat) (Option.some FieldType.int) ∈ WS := ws_all_good (l := tables_1_3) 2 (by decide +kernel) tb3 (by decide +kernel)
theorem wd3_3 : Cond.methodLink "ShadowLatchesModel" (123 : Nat) ({ cls := "ShadowLatchesModel", name := "isVoltage", desc := "(I)Z" } : MethodName) ∈ WS := ws_all_good (l := tables_1_3) 3 (by decide +kernel) tb3 (by decide +kernel)
theorem wd3_4 : Cond.static ({ cls := "ShadowLatchesModel", name := "isVoltage", desc := "(I)Z" } : MethodName) ∈ WS := ws_all_good (l := tables_1_3) 4 (by decide +kernel) tb3 (by decide +kernel)
theorem wd3_5 : Cond.code ({ cls := "ShadowLatchesModel", name := "isVoltage", desc := "(I)Z" } : MethodName) prog_5_method_29_code (1 : Nat) (Option.some FieldType.boolean) ∈ WS := ws_all_good (l := tables_1_3) 5 (by decide +kernel) tb3 (by decide +kernel)
theorem wd3_6 : Cond.constantLong "ShadowLatchesModel" (119 : Nat) (500 : Int64) ∈ WS := ws_all_good (l := tables_1_3) 6 (by decide +kernel) tb3 (by decide +kernel)
theorem wd3_7 : Cond.constantLong "ShadowLatchesModel" (121 : Nat) (1200 : Int64) ∈ WS := ws_all_good (l := tables_1_3) 7 (by decide +kernel) tb3 (by decide +kernel)
theorem wd3_8 : Cond.methodLink "ShadowLatchesLaw" (40 : Nat) ({ cls := "ShadowLatchesModel", name := "govern", desc := "(Z)I" } : MethodName) ∈ WS := ws_all_good (l := tables_1_3) 8 (by decide +kernel) tb3 (by decide +kernel)
theorem wd3_9 : Cond.instanceMethod ({ cls := "ShadowLatchesModel", name := "govern", desc := "(Z)I" } : MethodName) ∈ WS := ws_all_good (l := tables_1_3) 9 (by decide +kernel) tb3 (by decide +kernel)
theorem wd3_10 : Cond.selects "ShadowLatchesModel" ({ cls := "ShadowLatchesModel", name := "govern", desc := "(Z)I" } : MethodName) ({ cls := "ShadowLatchesModel", name := "govern", desc := "(Z)I" } : MethodName) ∈ WS := ws_all_good (l := tables_1_3) 10 (by decide +kernel) tb3 (by decide +kernel)
theorem wd3_11 : Cond.code ({ cls := "ShadowLatchesModel", name := "govern", desc := "(Z)I" } : MethodName) prog_5_method_31_code (3 : Nat) (Option.some FieldType.int) ∈ WS := ws_all_good (l := tables_1_3) 11 (by decide +kernel) tb3 (by decide +kernel)
theorem wd3_12 : Cond.methodLink "ShadowLatchesLaw" (44 : Nat) ({ cls := "ShadowLatchesModel", name := "set", desc := "(II)I" } : MethodName) ∈ WS := ws_all_good (l := tables_1_3) 12 (by decide +kernel) tb3 (by decide +kernel)
theorem wd3_13 : Cond.instanceMethod ({ cls := "ShadowLatchesModel", name := "set", desc := "(II)I" } : MethodName) ∈ WS := ws_all_good (l := tables_1_3) 13 (by decide +kernel) tb3 (by decide +kernel)
theorem wd3_14 : Cond.selects "ShadowLatchesModel" ({ cls := "ShadowLatchesModel", name := "set", desc := "(II)I" } : MethodName) ({ cls := "ShadowLatchesModel", name := "set", desc := "(II)I" } : MethodName) ∈ WS := ws_all_good (l := tables_1_3) 14 (by decide +kernel) tb3 (by decide +kernel)
theorem wd3_15 : Cond.code ({ cls := "ShadowLatchesModel", name := "set", desc := "(II)I" } : MethodName) prog_5_method_33_code (3 : Nat) (Option.some FieldType.int) ∈ WS := ws_all_good (l := tables_1_3) 15 (by decide +kernel) tb3 (by decide +kernel)
theorem wd3_16 : Cond.methodLink "ShadowLatchesModel" (136 : Nat) ({ cls := "ShadowLatchesModel", name := "isSetting", desc := "(II)Z" } : MethodName) ∈ WS := ws_all_good (l := tables_1_3) 16 (by decide +kernel) tb3 (by decide +kernel)
theorem wd3_17 : Cond.static ({ cls := "ShadowLatchesModel", name := "isSetting", desc := "(II)Z" } : MethodName) ∈ WS := ws_all_good (l := tables_1_3) 17 (by decide +kernel) tb3 (by decide +kernel)
theorem wd3_18 : Cond.code ({ cls := "ShadowLatchesModel", name := "isSetting", desc := "(II)Z" } : MethodName) prog_5_method_32_code (2 : Nat) (Option.some FieldType.boolean) ∈ WS := ws_all_good (l := tables_1_3) 18 (by decide +kernel) tb3 (by decide +kernel)
theorem wd3_19 : Cond.constantLong "ShadowLatchesModel" (126 : Nat) (50 : Int64) ∈ WS := ws_all_good (l := tables_1_3) 19 (by decide +kernel) tb3 (by decide +kernel)
theorem wd3_20 : Cond.constantLong "ShadowLatchesModel" (128 : Nat) (1000 : Int64) ∈ WS := ws_all_good (l := tables_1_3) 20 (by decide +kernel) tb3 (by decide +kernel)
theorem wd3_21 : Cond.constantLong "ShadowLatchesModel" (130 : Nat) (200 : Int64) ∈ WS := ws_all_good (l := tables_1_3) 21 (by decide +kernel) tb3 (by decide +kernel)
theorem wd3_22 : Cond.constantLong "ShadowLatchesModel" (132 : Nat) (20 : Int64) ∈ WS := ws_all_good (l := tables_1_3) 22 (by decide +kernel) tb3 (by decide +kernel)
theorem wd3_23 : Cond.constantLong "ShadowLatchesModel" (134 : Nat) (100 : Int64) ∈ WS := ws_all_good (l := tables_1_3) 23 (by decide +kernel) tb3 (by decide +kernel)
theorem wd3_24 : Cond.methodLink "ShadowLatchesLaw" (48 : Nat) ({ cls := "ShadowLatchesModel", name := "run", desc := "(I)I" } : MethodName) ∈ WS := ws_all_good (l := tables_1_3) 24 (by decide +kernel) tb3 (by decide +kernel)
theorem wd3_25 : Cond.instanceMethod ({ cls := "ShadowLatchesModel", name := "run", desc := "(I)I" } : MethodName) ∈ WS := ws_all_good (l := tables_1_3) 25 (by decide +kernel) tb3 (by decide +kernel)
theorem wd3_26 : Cond.selects "ShadowLatchesModel" ({ cls := "ShadowLatchesModel", name := "run", desc := "(I)I" } : MethodName) ({ cls := "ShadowLatchesModel", name := "run", desc := "(I)I" } : MethodName) ∈ WS := ws_all_good (l := tables_1_3) 26 (by decide +kernel) tb3 (by decide +kernel)
theorem wd3_27 : Cond.code ({ cls := "ShadowLatchesModel", name := "run", desc := "(I)I" } : MethodName) prog_5_method_34_code (3 : Nat) (Option.some FieldType.int) ∈ WS := ws_all_good (l := tables_1_3) 27 (by decide +kernel) tb3 (by decide +kernel)
theorem wd3_28 : Cond.constantLong "ShadowLatchesModel" (139 : Nat) (2000 : Int64) ∈ WS := ws_all_good (l := tables_1_3) 28 (by decide +kernel) tb3 (by decide +kernel)
theorem wd3_29 : Cond.methodLink "ShadowLatchesModel" (141 : Nat) ({ cls := "ShadowLatchesModel", name := "cycles", desc := "()V" } : MethodName) ∈ WS := ws_all_good (l := tables_1_3) 29 (by decide +kernel) tb3 (by decide +kernel)
theorem wd3_31 : Cond.instanceMethod ({ cls := "ShadowLatchesModel", name := "cycles", desc := "()V" } : MethodName) ∈ WS := ws_all_good (l := tables_1_3) 31 (by decide +kernel) tb3 (by decide +kernel)
theorem wd3_32 : Cond.code ({ cls := "ShadowLatchesModel", name := "cycles", desc := "()V" } : MethodName) prog_5_method_15_code (4 : Nat) (Option.none : Option FieldType) ∈ WS := ws_all_good (l := tables_1_3) 32 (by decide +kernel) tb3 (by decide +kernel)
theorem wd3_33 : Cond.methodLink "ShadowLatchesModel" (55 : Nat) ({ cls := "ShadowLatchesModel", name := "worstOf", desc := "(I)I" } : MethodName) ∈ WS := ws_all_good (l := tables_1_3) 33 (by decide +kernel) tb3 (by decide +kernel)
theorem wd3_35 : Cond.instanceMethod ({ cls := "ShadowLatchesModel", name := "worstOf", desc := "(I)I" } : MethodName) ∈ WS := ws_all_good (l := tables_1_3) 35 (by decide +kernel) tb3 (by decide +kernel)
theorem wd3_36 : Cond.code ({ cls := "ShadowLatchesModel", name := "worstOf", desc := "(I)I" } : MethodName) prog_5_method_11_code (5 : Nat) (Option.some FieldType.int) ∈ WS := ws_all_good (l := tables_1_3) 36 (by decide +kernel) tb3 (by decide +kernel)
theorem wd3_37 : Cond.methodLink "ShadowLatchesModel" (47 : Nat) ({ cls := "ShadowLatchesModel", name := "has", desc := "(II)Z" } : MethodName) ∈ WS := ws_all_good (l := tables_1_3) 37 (by decide +kernel) tb3 (by decide +kernel)
theorem wd3_38 : Cond.static ({ cls := "ShadowLatchesModel", name := "has", desc := "(II)Z" } : MethodName) ∈ WS := ws_all_good (l := tables_1_3) 38 (by decide +kernel) tb3 (by decide +kernel)
theorem wd3_39 : Cond.code ({ cls := "ShadowLatchesModel", name := "has", desc := "(II)Z" } : MethodName) prog_5_method_8_code (2 : Nat) (Option.some FieldType.boolean) ∈ WS := ws_all_good (l := tables_1_3) 39 (by decide +kernel) tb3 (by decide +kernel)
theorem wd3_40 : Cond.methodLink "ShadowLatchesModel" (51 : Nat) ({ cls := "ShadowLatchesModel", name := "stateWith", desc := "(II)I" } : MethodName) ∈ WS := ws_all_good (l := tables_1_3) 40 (by decide +kernel) tb3 (by decide +kernel)
theorem wd3_42 : Cond.instanceMethod ({ cls := "ShadowLatchesModel", name := "stateWith", desc := "(II)I" } : MethodName) ∈ WS := ws_all_good (l := tables_1_3) 42 (by decide +kernel) tb3 (by decide +kernel)
theorem wd3_43 : Cond.code ({ cls := "ShadowLatchesModel", name := "stateWith", desc := "(II)I" } : MethodName) prog_5_method_10_code (4 : Nat) (Option.some FieldType.int) ∈ WS := ws_all_good (l := tables_1_3) 43 (by decide +kernel) tb3 (by decide +kernel)
theorem wd3_44 : Cond.methodLink "ShadowLatchesModel" (43 : Nat) ({ cls := "ShadowLatchesModel", name := "delayWith", desc := "(III)I" } : MethodName) ∈ WS := ws_all_good (l := tables_1_3) 44 (by decide +kernel) tb3 (by decide +kernel)
theorem wd3_46 : Cond.instanceMethod ({ cls := "ShadowLatchesModel", name := "delayWith", desc := "(III)I" } : MethodName) ∈ WS := ws_all_good (l := tables_1_3) 46 (by decide +kernel) tb3 (by decide +kernel)
theorem wd3_47 : Cond.code ({ cls := "ShadowLatchesModel", name := "delayWith", desc := "(III)I" } : MethodName) prog_5_method_9_code (4 : Nat) (Option.some FieldType.int) ∈ WS := ws_all_good (l := tables_1_3) 47 (by decide +kernel) tb3 (by decide +kernel)
theorem wd3_48 : Cond.methodLink "ShadowLatchesModel" (62 : Nat) ({ cls := "ShadowLatchesModel", name := "spends", desc := "(I)V" } : MethodName) ∈ WS := ws_all_good (l := tables_1_3) 48 (by decide +kernel) tb3 (by decide +kernel)
theorem wd3_50 : Cond.instanceMethod ({ cls := "ShadowLatchesModel", name := "spends", desc := "(I)V" } : MethodName) ∈ WS := ws_all_good (l := tables_1_3) 50 (by decide +kernel) tb3 (by decide +kernel)
theorem wd3_51 : Cond.code ({ cls := "ShadowLatchesModel", name := "spends", desc := "(I)V" } : MethodName) prog_5_method_13_code (4 : Nat) (Option.none : Option FieldType) ∈ WS := ws_all_good (l := tables_1_3) 51 (by decide +kernel) tb3 (by decide +kernel)
theorem wd3_52 : Cond.methodLink "ShadowLatchesModel" (66 : Nat) ({ cls := "ShadowLatchesModel", name := "looks", desc := "()V" } : MethodName) ∈ WS := ws_all_good (l := tables_1_3) 52 (by decide +kernel) tb3 (by decide +kernel)
theorem wd3_54 : Cond.instanceMethod ({ cls := "ShadowLatchesModel", name := "looks", desc := "()V" } : MethodName) ∈ WS := ws_all_good (l := tables_1_3) 54 (by decide +kernel) tb3 (by decide +kernel)
theorem wd3_55 : Cond.code ({ cls := "ShadowLatchesModel", name := "looks", desc := "()V" } : MethodName) prog_5_method_14_code (3 : Nat) (Option.none : Option FieldType) ∈ WS := ws_all_good (l := tables_1_3) 55 (by decide +kernel) tb3 (by decide +kernel)
theorem wd3_56 : Cond.methodLink "ShadowLatchesLaw" (61 : Nat) ({ cls := "ShadowLatchesModel", name := "undo", desc := "()I" } : MethodName) ∈ WS := ws_all_good (l := tables_1_3) 56 (by decide +kernel) tb3 (by decide +kernel)
theorem wd3_57 : Cond.instanceMethod ({ cls := "ShadowLatchesModel", name := "undo", desc := "()I" } : MethodName) ∈ WS := ws_all_good (l := tables_1_3) 57 (by decide +kernel) tb3 (by decide +kernel)
theorem wd3_58 : Cond.selects "ShadowLatchesModel" ({ cls := "ShadowLatchesModel", name := "undo", desc := "()I" } : MethodName) ({ cls := "ShadowLatchesModel", name := "undo", desc := "()I" } : MethodName) ∈ WS := ws_all_good (l := tables_1_3) 58 (by decide +kernel) tb3 (by decide +kernel)
theorem wd3_59 : Cond.code ({ cls := "ShadowLatchesModel", name := "undo", desc := "()I" } : MethodName) prog_5_method_35_code (2 : Nat) (Option.some FieldType.int) ∈ WS := ws_all_good (l := tables_1_3) 59 (by decide +kernel) tb3 (by decide +kernel)
theorem wd3_60 : Cond.methodLink "ShadowLatchesLaw" (65 : Nat) ({ cls := "ShadowLatchesModel", name := "keep", desc := "()I" } : MethodName) ∈ WS := ws_all_good (l := tables_1_3) 60 (by decide +kernel) tb3 (by decide +kernel)
theorem wd3_61 : Cond.instanceMethod ({ cls := "ShadowLatchesModel", name := "keep", desc := "()I" } : MethodName) ∈ WS := ws_all_good (l := tables_1_3) 61 (by decide +kernel) tb3 (by decide +kernel)
theorem wd3_62 : Cond.selects "ShadowLatchesModel" ({ cls := "ShadowLatchesModel", name := "keep", desc := "()I" } : MethodName) ({ cls := "ShadowLatchesModel", name := "keep", desc := "()I" } : MethodName) ∈ WS := ws_all_good (l := tables_1_3) 62 (by decide +kernel) tb3 (by decide +kernel)
theorem wd3_63 : Cond.code ({ cls := "ShadowLatchesModel", name := "keep", desc := "()I" } : MethodName) prog_5_method_36_code (1 : Nat) (Option.some FieldType.int) ∈ WS := ws_all_good (l := tables_1_3) 63 (by decide +kernel) tb3 (by decide +kernel)
theorem wd3_64 : Cond.methodLink "ShadowLatchesLaw" (69 : Nat) ({ cls := "ShadowLatchesModel", name := "restore", desc := "()I" } : MethodName) ∈ WS := ws_all_good (l := tables_1_3) 64 (by decide +kernel) tb3 (by decide +kernel)
theorem wd3_65 : Cond.instanceMethod ({ cls := "ShadowLatchesModel", name := "restore", desc := "()I" } : MethodName) ∈ WS := ws_all_good (l := tables_1_3) 65 (by decide +kernel) tb3 (by decide +kernel)
theorem wd3_66 : Cond.selects "ShadowLatchesModel" ({ cls := "ShadowLatchesModel", name := "restore", desc := "()I" } : MethodName) ({ cls := "ShadowLatchesModel", name := "restore", desc := "()I" } : MethodName) ∈ WS := ws_all_good (l := tables_1_3) 66 (by decide +kernel) tb3 (by decide +kernel)
theorem wd3_67 : Cond.code ({ cls := "ShadowLatchesModel", name := "restore", desc := "()I" } : MethodName) prog_5_method_37_code (1 : Nat) (Option.some FieldType.int) ∈ WS := ws_all_good (l := tables_1_3) 67 (by decide +kernel) tb3 (by decide +kernel)
theorem wd3_68 : Cond.methodLink "ShadowLatchesLaw" (73 : Nat) ({ cls := "ShadowLatchesModel", name := "path", desc := "(II)I" } : MethodName) ∈ WS := ws_all_good (l := tables_1_3) 68 (by decide +kernel) tb3 (by decide +kernel)
theorem wd3_69 : Cond.instanceMethod ({ cls := "ShadowLatchesModel", name := "path", desc := "(II)I" } : MethodName) ∈ WS := ws_all_good (l := tables_1_3) 69 (by decide +kernel) tb3 (by decide +kernel)
theorem wd3_70 : Cond.selects "ShadowLatchesModel" ({ cls := "ShadowLatchesModel", name := "path", desc := "(II)I" } : MethodName) ({ cls := "ShadowLatchesModel", name := "path", desc := "(II)I" } : MethodName) ∈ WS := ws_all_good (l := tables_1_3) 70 (by decide +kernel) tb3 (by decide +kernel)
theorem wd3_71 : Cond.code ({ cls := "ShadowLatchesModel", name := "path", desc := "(II)I" } : MethodName) prog_5_method_39_code (3 : Nat) (Option.some FieldType.int) ∈ WS := ws_all_good (l := tables_1_3) 71 (by decide +kernel) tb3 (by decide +kernel)
theorem wd3_72 : Cond.methodLink "ShadowLatchesModel" (147 : Nat) ({ cls := "ShadowLatchesModel", name := "setsWith", desc := "(I)I" } : MethodName) ∈ WS := ws_all_good (l := tables_1_3) 72 (by decide +kernel) tb3 (by decide +kernel)
theorem wd3_74 : Cond.instanceMethod ({ cls := "ShadowLatchesModel", name := "setsWith", desc := "(I)I" } : MethodName) ∈ WS := ws_all_good (l := tables_1_3) 74 (by decide +kernel) tb3 (by decide +kernel)
theorem wd3_75 : Cond.code ({ cls := "ShadowLatchesModel", name := "setsWith", desc := "(I)I" } : MethodName) prog_5_method_38_code (4 : Nat) (Option.some FieldType.int) ∈ WS := ws_all_good (l := tables_1_3) 75 (by decide +kernel) tb3 (by decide +kernel)
theorem wd3_76 : Cond.methodLink "ShadowLatchesLaw" (78 : Nat) ({ cls := "ShadowLatchesModel", name := "delay", desc := "(III)I" } : MethodName) ∈ WS := ws_all_good (l := tables_1_3) 76 (by decide +kernel) tb3 (by decide +kernel)
theorem wd3_77 : Cond.instanceMethod ({ cls := "ShadowLatchesModel", name := "delay", desc := "(III)I" } : MethodName) ∈ WS := ws_all_good (l := tables_1_3) 77 (by decide +kernel) tb3 (by decide +kernel)
theorem wd3_78 : Cond.selects "ShadowLatchesModel" ({ cls := "ShadowLatchesModel", name := "delay", desc := "(III)I" } : MethodName) ({ cls := "ShadowLatchesModel", name := "delay", desc := "(III)I" } : MethodName) ∈ WS := ws_all_good (l := tables_1_3) 78 (by decide +kernel) tb3 (by decide +kernel)
theorem wd3_79 : Cond.code ({ cls := "ShadowLatchesModel", name := "delay", desc := "(III)I" } : MethodName) prog_5_method_40_code (4 : Nat) (Option.some FieldType.int) ∈ WS := ws_all_good (l := tables_1_3) 79 (by decide +kernel) tb3 (by decide +kernel)
theorem wd3_80 : Cond.constantLong "ShadowLatchesModel" (150 : Nat) (120 : Int64) ∈ WS := ws_all_good (l := tables_1_3) 80 (by decide +kernel) tb3 (by decide +kernel)
theorem wd3_81 : Cond.methodLink "ShadowLatchesLaw" (82 : Nat) ({ cls := "ShadowLatchesModel", name := "workload", desc := "(I)I" } : MethodName) ∈ WS := ws_all_good (l := tables_1_3) 81 (by decide +kernel) tb3 (by decide +kernel)
theorem wd3_82 : Cond.instanceMethod ({ cls := "ShadowLatchesModel", name := "workload", desc := "(I)I" } : MethodName) ∈ WS := ws_all_good (l := tables_1_3) 82 (by decide +kernel) tb3 (by decide +kernel)
theorem wd3_83 : Cond.selects "ShadowLatchesModel" ({ cls := "ShadowLatchesModel", name := "workload", desc := "(I)I" } : MethodName) ({ cls := "ShadowLatchesModel", name := "workload", desc := "(I)I" } : MethodName) ∈ WS := ws_all_good (l := tables_1_3) 83 (by decide +kernel) tb3 (by decide +kernel)
theorem wd3_84 : Cond.code ({ cls := "ShadowLatchesModel", name := "workload", desc := "(I)I" } : MethodName) prog_5_method_41_code (2 : Nat) (Option.some FieldType.int) ∈ WS := ws_all_good (l := tables_1_3) 84 (by decide +kernel) tb3 (by decide +kernel)
theorem wd3_85 : Cond.methodLink "ShadowLatchesLaw" (86 : Nat) ({ cls := "ShadowLatchesModel", name := "least", desc := "(Z)I" } : MethodName) ∈ WS := ws_all_good (l := tables_1_3) 85 (by decide +kernel) tb3 (by decide +kernel)
theorem wd3_86 : Cond.instanceMethod ({ cls := "ShadowLatchesModel", name := "least", desc := "(Z)I" } : MethodName) ∈ WS := ws_all_good (l := tables_1_3) 86 (by decide +kernel) tb3 (by decide +kernel)
theorem wd3_87 : Cond.selects "ShadowLatchesModel" ({ cls := "ShadowLatchesModel", name := "least", desc := "(Z)I" } : MethodName) ({ cls := "ShadowLatchesModel", name := "least", desc := "(Z)I" } : MethodName) ∈ WS := ws_all_good (l := tables_1_3) 87 (by decide +kernel) tb3 (by decide +kernel)
theorem wd3_88 : Cond.code ({ cls := "ShadowLatchesModel", name := "least", desc := "(Z)I" } : MethodName) prog_5_method_43_code (3 : Nat) (Option.some FieldType.int) ∈ WS := ws_all_good (l := tables_1_3) 88 (by decide +kernel) tb3 (by decide +kernel)
theorem wd3_89 : Cond.methodLink "ShadowLatchesModel" (152 : Nat) ({ cls := "ShadowLatchesModel", name := "areWell", desc := "(II)Z" } : MethodName) ∈ WS := ws_all_good (l := tables_1_3) 89 (by decide +kernel) tb3 (by decide +kernel)
theorem wd3_91 : Cond.instanceMethod ({ cls := "ShadowLatchesModel", name := "areWell", desc := "(II)Z" } : MethodName) ∈ WS := ws_all_good (l := tables_1_3) 91 (by decide +kernel) tb3 (by decide +kernel)
theorem wd3_92 : Cond.code ({ cls := "ShadowLatchesModel", name := "areWell", desc := "(II)Z" } : MethodName) prog_5_method_42_code (5 : Nat) (Option.some FieldType.boolean) ∈ WS := ws_all_good (l := tables_1_3) 92 (by decide +kernel) tb3 (by decide +kernel)
theorem wd3_93 : Cond.methodLink "ShadowLatchesLaw" (90 : Nat) ({ cls := "ShadowLatchesModel", name := "would", desc := "(III)I" } : MethodName) ∈ WS := ws_all_good (l := tables_1_3) 93 (by decide +kernel) tb3 (by decide +kernel)
theorem wd3_94 : Cond.instanceMethod ({ cls := "ShadowLatchesModel", name := "would", desc := "(III)I" } : MethodName) ∈ WS := ws_all_good (l := tables_1_3) 94 (by decide +kernel) tb3 (by decide +kernel)
theorem wd3_95 : Cond.selects "ShadowLatchesModel" ({ cls := "ShadowLatchesModel", name := "would", desc := "(III)I" } : MethodName) ({ cls := "ShadowLatchesModel", name := "would", desc := "(III)I" } : MethodName) ∈ WS := ws_all_good (l := tables_1_3) 95 (by decide +kernel) tb3 (by decide +kernel)
theorem wd3_96 : Cond.code ({ cls := "ShadowLatchesModel", name := "would", desc := "(III)I" } : MethodName) prog_5_method_46_code (4 : Nat) (Option.some FieldType.int) ∈ WS := ws_all_good (l := tables_1_3) 96 (by decide +kernel) tb3 (by decide +kernel)
theorem wd3_97 : Cond.constantLong "ShadowLatchesModel" (159 : Nat) (4 : Int64) ∈ WS := ws_all_good (l := tables_1_3) 97 (by decide +kernel) tb3 (by decide +kernel)
theorem wd3_98 : Cond.methodLink "ShadowLatchesModel" (161 : Nat) ({ cls := "ShadowLatchesModel", name := "brings", desc := "(III)I" } : MethodName) ∈ WS := ws_all_good (l := tables_1_3) 98 (by decide +kernel) tb3 (by decide +kernel)
theorem wd3_100 : Cond.instanceMethod ({ cls := "ShadowLatchesModel", name := "brings", desc := "(III)I" } : MethodName) ∈ WS := ws_all_good (l := tables_1_3) 100 (by decide +kernel) tb3 (by decide +kernel)
theorem wd3_101 : Cond.code ({ cls := "ShadowLatchesModel", name := "brings", desc := "(III)I" } : MethodName) prog_5_method_45_code (5 : Nat) (Option.some FieldType.int) ∈ WS := ws_all_good (l := tables_1_3) 101 (by decide +kernel) tb3 (by decide +kernel)
theorem wd3_102 : Cond.methodLink "ShadowLatchesModel" (155 : Nat) ({ cls := "ShadowLatchesModel", name := "energySince", desc := "([I)I" } : MethodName) ∈ WS := ws_all_good (l := tables_1_3) 102 (by decide +kernel) tb3 (by decide +kernel)
theorem wd3_104 : Cond.instanceMethod ({ cls := "ShadowLatchesModel", name := "energySince", desc := "([I)I" } : MethodName) ∈ WS := ws_all_good (l := tables_1_3) 104 (by decide +kernel) tb3 (by decide +kernel)
theorem wd3_105 : Cond.code ({ cls := "ShadowLatchesModel", name := "energySince", desc := "([I)I" } : MethodName) prog_5_method_44_code (2 : Nat) (Option.some FieldType.int) ∈ WS := ws_all_good (l := tables_1_3) 105 (by decide +kernel) tb3 (by decide +kernel)
theorem wd3_106 : Cond.methodLink "ShadowLatchesLaw" (94 : Nat) ({ cls := "ShadowLatchesModel", name := "best", desc := "(I)I" } : MethodName) ∈ WS := ws_all_good (l := tables_1_3) 106 (by decide +kernel) tb3 (by decide +kernel)
theorem wd3_107 : Cond.instanceMethod ({ cls := "ShadowLatchesModel", name := "best", desc := "(I)I" } : MethodName) ∈ WS := ws_all_good (l := tables_1_3) 107 (by decide +kernel) tb3 (by decide +kernel)
theorem wd3_108 : Cond.selects "ShadowLatchesModel" ({ cls := "ShadowLatchesModel", name := "best", desc := "(I)I" } : MethodName) ({ cls := "ShadowLatchesModel", name := "best", desc := "(I)I" } : MethodName) ∈ WS := ws_all_good (l := tables_1_3) 108 (by decide +kernel) tb3 (by decide +kernel)
theorem wd3_109 : Cond.code ({ cls := "ShadowLatchesModel", name := "best", desc := "(I)I" } : MethodName) prog_5_method_47_code (6 : Nat) (Option.some FieldType.int) ∈ WS := ws_all_good (l := tables_1_3) 109 (by decide +kernel) tb3 (by decide +kernel)
theorem wd3_110 : Cond.methodLink "ShadowLatchesLaw" (98 : Nat) ({ cls := "ShadowLatchesModel", name := "count", desc := "(I)I" } : MethodName) ∈ WS := ws_all_good (l := tables_1_3) 110 (by decide +kernel) tb3 (by decide +kernel)
theorem wd3_111 : Cond.instanceMethod ({ cls := "ShadowLatchesModel", name := "count", desc := "(I)I" } : MethodName) ∈ WS := ws_all_good (l := tables_1_3) 111 (by decide +kernel) tb3 (by decide +kernel)
theorem wd3_112 : Cond.selects "ShadowLatchesModel" ({ cls := "ShadowLatchesModel", name := "count", desc := "(I)I" } : MethodName) ({ cls := "ShadowLatchesModel", name := "count", desc := "(I)I" } : MethodName) ∈ WS := ws_all_good (l := tables_1_3) 112 (by decide +kernel) tb3 (by decide +kernel)
theorem wd3_113 : Cond.code ({ cls := "ShadowLatchesModel", name := "count", desc := "(I)I" } : MethodName) prog_5_method_49_code (2 : Nat) (Option.some FieldType.int) ∈ WS := ws_all_good (l := tables_1_3) 113 (by decide +kernel) tb3 (by decide +kernel)
theorem wd3_114 : Cond.constantLong "ShadowLatchesModel" (164 : Nat) (12 : Int64) ∈ WS := ws_all_good (l := tables_1_3) 114 (by decide +kernel) tb3 (by decide +kernel)
theorem wd3_115 : Cond.constantLong "ShadowLatchesModel" (166 : Nat) (17 : Int64) ∈ WS := ws_all_good (l := tables_1_3) 115 (by decide +kernel) tb3 (by decide +kernel)
theorem wd3_116 : Cond.constantLong "ShadowLatchesModel" (168 : Nat) (23 : Int64) ∈ WS := ws_all_good (l := tables_1_3) 116 (by decide +kernel) tb3 (by decide +kernel)
theorem wd3_117 : Cond.methodLink "ShadowLatchesModel" (170 : Nat) ({ cls := "ShadowLatchesModel", name := "pathsThat", desc := "(I)I" } : MethodName) ∈ WS := ws_all_good (l := tables_1_3) 117 (by decide +kernel) tb3 (by decide +kernel)
theorem wd3_119 : Cond.instanceMethod ({ cls := "ShadowLatchesModel", name := "pathsThat", desc := "(I)I" } : MethodName) ∈ WS := ws_all_good (l := tables_1_3) 119 (by decide +kernel) tb3 (by decide +kernel)
theorem wd3_120 : Cond.code ({ cls := "ShadowLatchesModel", name := "pathsThat", desc := "(I)I" } : MethodName) prog_5_method_48_code (4 : Nat) (Option.some FieldType.int) ∈ WS := ws_all_good (l := tables_1_3) 120 (by decide +kernel) tb3 (by decide +kernel)
theorem wd0_0 : Cond.selects "ShadowLatches" ⟨"ShadowLatches", "recordState", "()V"⟩ ⟨"ShadowLatches", "recordState", "()V"⟩ ∈ WS := ws_all_good (l := k2_sels lw_privs) 0 (by decide +kernel) tb0 (by decide +kernel)
theorem wd0_1 : Cond.selects "ShadowLatches" ⟨"ShadowLatches", "dropOldestState", "()V"⟩ ⟨"ShadowLatches", "dropOldestState", "()V"⟩ ∈ WS := ws_all_good (l := k2_sels lw_privs) 1 (by decide +kernel) tb0 (by decide +kernel)
theorem wd0_2 : Cond.selects "ShadowLatches" ⟨"ShadowLatches", "isPath", "(I)Z"⟩ ⟨"ShadowLatches", "isPath", "(I)Z"⟩ ∈ WS := ws_all_good (l := k2_sels lw_privs) 2 (by decide +kernel) tb0 (by decide +kernel)
theorem wd0_3 : Cond.selects "ShadowLatches$Circuit" ⟨"ShadowLatches$Circuit", "runOneCycle", "()V"⟩ ⟨"ShadowLatches$Circuit", "runOneCycle", "()V"⟩ ∈ WS := ws_all_good (l := k2_sels lw_privs) 3 (by decide +kernel) tb0 (by decide +kernel)
theorem wd0_4 : Cond.selects "ShadowLatches$Circuit" ⟨"ShadowLatches$Circuit", "countUses", "(I)V"⟩ ⟨"ShadowLatches$Circuit", "countUses", "(I)V"⟩ ∈ WS := ws_all_good (l := k2_sels lw_privs) 4 (by decide +kernel) tb0 (by decide +kernel)
theorem wd0_5 : Cond.selects "ShadowLatches$Circuit" ⟨"ShadowLatches$Circuit", "spendCycle", "(I)V"⟩ ⟨"ShadowLatches$Circuit", "spendCycle", "(I)V"⟩ ∈ WS := ws_all_good (l := k2_sels lw_privs) 5 (by decide +kernel) tb0 (by decide +kernel)
theorem wd0_6 : Cond.selects "ShadowLatches$Circuit" ⟨"ShadowLatches$Circuit", "changeHeat", "(I)V"⟩ ⟨"ShadowLatches$Circuit", "changeHeat", "(I)V"⟩ ∈ WS := ws_all_good (l := k2_sels lw_privs) 6 (by decide +kernel) tb0 (by decide +kernel)
theorem wd0_7 : Cond.selects "ShadowLatches$Circuit" ⟨"ShadowLatches$Circuit", "complain", "()V"⟩ ⟨"ShadowLatches$Circuit", "complain", "()V"⟩ ∈ WS := ws_all_good (l := k2_sels lw_privs) 7 (by decide +kernel) tb0 (by decide +kernel)
theorem wd0_8 : Cond.selects "ShadowLatches$Circuit" ⟨"ShadowLatches$Circuit", "lookAtWindow", "()V"⟩ ⟨"ShadowLatches$Circuit", "lookAtWindow", "()V"⟩ ∈ WS := ws_all_good (l := k2_sels lw_privs) 8 (by decide +kernel) tb0 (by decide +kernel)
theorem wd0_9 : Cond.selects "ShadowLatches" ⟨"ShadowLatches", "tryCycles", "(II)V"⟩ ⟨"ShadowLatches", "tryCycles", "(II)V"⟩ ∈ WS := ws_all_good (l := k2_sels lw_privs) 9 (by decide +kernel) tb0 (by decide +kernel)
theorem wd0_10 : Cond.selects "ShadowLatchesModel" ⟨"ShadowLatchesModel", "remember", "()V"⟩ ⟨"ShadowLatchesModel", "remember", "()V"⟩ ∈ WS := ws_all_good (l := k2_sels lw_privs) 10 (by decide +kernel) tb0 (by decide +kernel)
theorem wd0_11 : Cond.selects "ShadowLatchesModel" ⟨"ShadowLatchesModel", "acted", "(I)I"⟩ ⟨"ShadowLatchesModel", "acted", "(I)I"⟩ ∈ WS := ws_all_good (l := k2_sels lw_privs) 11 (by decide +kernel) tb0 (by decide +kernel)
theorem wd0_12 : Cond.selects "ShadowLatchesModel" ⟨"ShadowLatchesModel", "isPath", "(I)Z"⟩ ⟨"ShadowLatchesModel", "isPath", "(I)Z"⟩ ∈ WS := ws_all_good (l := k2_sels lw_privs) 12 (by decide +kernel) tb0 (by decide +kernel)
theorem wd0_13 : Cond.selects "ShadowLatchesModel" ⟨"ShadowLatchesModel", "sets", "(II)I"⟩ ⟨"ShadowLatchesModel", "sets", "(II)I"⟩ ∈ WS := ws_all_good (l := k2_sels lw_privs) 13 (by decide +kernel) tb0 (by decide +kernel)
theorem wd0_14 : Cond.selects "ShadowLatchesModel" ⟨"ShadowLatchesModel", "begins", "(I)V"⟩ ⟨"ShadowLatchesModel", "begins", "(I)V"⟩ ∈ WS := ws_all_good (l := k2_sels lw_privs) 14 (by decide +kernel) tb0 (by decide +kernel)
theorem wd0_15 : Cond.selects "ShadowLatchesModel" ⟨"ShadowLatchesModel", "fault", "()I"⟩ ⟨"ShadowLatchesModel", "fault", "()I"⟩ ∈ WS := ws_all_good (l := k2_sels lw_privs) 15 (by decide +kernel) tb0 (by decide +kernel)
theorem wd0_16 : Cond.selects "ShadowLatchesModel" ⟨"ShadowLatchesModel", "readsSet", "()Z"⟩ ⟨"ShadowLatchesModel", "readsSet", "()Z"⟩ ∈ WS := ws_all_good (l := k2_sels lw_privs) 16 (by decide +kernel) tb0 (by decide +kernel)
theorem wd0_17 : Cond.selects "ShadowLatchesModel" ⟨"ShadowLatchesModel", "takes", "(I)Z"⟩ ⟨"ShadowLatchesModel", "takes", "(I)Z"⟩ ∈ WS := ws_all_good (l := k2_sels lw_privs) 17 (by decide +kernel) tb0 (by decide +kernel)
theorem wd0_18 : Cond.selects "ShadowLatchesModel" ⟨"ShadowLatchesModel", "isHere", "(II)Z"⟩ ⟨"ShadowLatchesModel", "isHere", "(II)Z"⟩ ∈ WS := ws_all_good (l := k2_sels lw_privs) 18 (by decide +kernel) tb0 (by decide +kernel)
theorem wd0_19 : Cond.selects "ShadowLatchesModel" ⟨"ShadowLatchesModel", "cycles", "()V"⟩ ⟨"ShadowLatchesModel", "cycles", "()V"⟩ ∈ WS := ws_all_good (l := k2_sels lw_privs) 19 (by decide +kernel) tb0 (by decide +kernel)
theorem wd0_20 : Cond.selects "ShadowLatchesModel" ⟨"ShadowLatchesModel", "worstOf", "(I)I"⟩ ⟨"ShadowLatchesModel", "worstOf", "(I)I"⟩ ∈ WS := ws_all_good (l := k2_sels lw_privs) 20 (by decide +kernel) tb0 (by decide +kernel)
theorem wd0_21 : Cond.selects "ShadowLatchesModel" ⟨"ShadowLatchesModel", "stateWith", "(II)I"⟩ ⟨"ShadowLatchesModel", "stateWith", "(II)I"⟩ ∈ WS := ws_all_good (l := k2_sels lw_privs) 21 (by decide +kernel) tb0 (by decide +kernel)
theorem wd0_22 : Cond.selects "ShadowLatchesModel" ⟨"ShadowLatchesModel", "delayWith", "(III)I"⟩ ⟨"ShadowLatchesModel", "delayWith", "(III)I"⟩ ∈ WS := ws_all_good (l := k2_sels lw_privs) 22 (by decide +kernel) tb0 (by decide +kernel)
theorem wd0_23 : Cond.selects "ShadowLatchesModel" ⟨"ShadowLatchesModel", "spends", "(I)V"⟩ ⟨"ShadowLatchesModel", "spends", "(I)V"⟩ ∈ WS := ws_all_good (l := k2_sels lw_privs) 23 (by decide +kernel) tb0 (by decide +kernel)
theorem wd0_24 : Cond.selects "ShadowLatchesModel" ⟨"ShadowLatchesModel", "looks", "()V"⟩ ⟨"ShadowLatchesModel", "looks", "()V"⟩ ∈ WS := ws_all_good (l := k2_sels lw_privs) 24 (by decide +kernel) tb0 (by decide +kernel)
theorem wd0_25 : Cond.selects "ShadowLatchesModel" ⟨"ShadowLatchesModel", "setsWith", "(I)I"⟩ ⟨"ShadowLatchesModel", "setsWith", "(I)I"⟩ ∈ WS := ws_all_good (l := k2_sels lw_privs) 25 (by decide +kernel) tb0 (by decide +kernel)
theorem wd0_26 : Cond.selects "ShadowLatchesModel" ⟨"ShadowLatchesModel", "areWell", "(II)Z"⟩ ⟨"ShadowLatchesModel", "areWell", "(II)Z"⟩ ∈ WS := ws_all_good (l := k2_sels lw_privs) 26 (by decide +kernel) tb0 (by decide +kernel)
theorem wd0_27 : Cond.selects "ShadowLatchesModel" ⟨"ShadowLatchesModel", "brings", "(III)I"⟩ ⟨"ShadowLatchesModel", "brings", "(III)I"⟩ ∈ WS := ws_all_good (l := k2_sels lw_privs) 27 (by decide +kernel) tb0 (by decide +kernel)
theorem wd0_28 : Cond.selects "ShadowLatchesModel" ⟨"ShadowLatchesModel", "energySince", "([I)I"⟩ ⟨"ShadowLatchesModel", "energySince", "([I)I"⟩ ∈ WS := ws_all_good (l := k2_sels lw_privs) 28 (by decide +kernel) tb0 (by decide +kernel)
theorem wd0_29 : Cond.selects "ShadowLatchesModel" ⟨"ShadowLatchesModel", "pathsThat", "(I)I"⟩ ⟨"ShadowLatchesModel", "pathsThat", "(I)I"⟩ ∈ WS := ws_all_good (l := k2_sels lw_privs) 29 (by decide +kernel) tb0 (by decide +kernel)
theorem inW0 : ∀ w ∈ u_ws RX0 TX0 19, w ∈ WS := by decide +kernel
theorem inW1 : ∀ w ∈ u_ws RX1 TX1 4, w ∈ WS := by decide +kernel
theorem inW2 : ∀ w ∈ u_ws RX2 TX2 7, w ∈ WS := by decide +kernel
theorem inW3 : ∀ w ∈ u_ws RX3 TX3 12, w ∈ WS := by decide +kernel
end
section
/-! the judgement Z: from every heap that holds the world w, with the locals lv, the machine at pc comes to Q -/
abbrev ARR : Type := Nat → Nat → Int32
def sA (M : ARR) (i k : Nat) (v : Int32) : ARR := fun a => if a = i then upd (M i) k v else M a
abbrev CS : Type := ARR × Int64
def tysG (kI kC kQ : ClassId) : List (ClassId × FieldType) := [(kI, .int), (kC, .char), (kQ, .object "ShadowLatches$Circuit")]
def CX (p : Program) (s : State) (m : MethodId) (args : Array Value) (meth : Method) (c : Code) (D : va_G) (ty : List (ClassId × FieldType)) (A : Nat → Prop) (cc : ByteArray) (nL : Nat) (ret : Option FieldType) (own : String) : Prop :=
  p.tables.exec = Jvm.exec ∧ c.code = cc ∧ meth.sig.returnType = ret ∧ c.maxLocals = nL ∧ s.vm.findClass own = some m.cls ∧ (∀ w ∈ WS, w.before args s = true) ∧ meth.locks = false ∧ va_K D vwCl ty s ∧ (∀ q : Nat, s.heap.size ≤ q → A q)
def Z (p : Program) (l : Launch) (e : Env) (R : Room) (s : State) (m : MethodId) (args : Array Value) (below : List Frame) (meth : Method) (c : Code) (D : va_G) (A : Nat → Prop) (nL ce sl : Nat) (Q : State → Prop) (w : va_W) (lv : List (Nat × Value)) (pc : Nat) (st : List Value) : Prop :=
  ∀ (H : Heap) (locs : List Loc) (ls : Array Slot), va_P D vwCl w H → va_D A w → va_S A s.heap H locs → lv_has ls nL lv → W p l e R s m args below meth c H locs ce sl Q (F0 m pc ls st)
theorem vin_c {i : Int32} {n : Nat} (h : (decide (0 ≤ i) && decide (i.toNatClampNeg < n)) = true) : vp_in i n := by
  simp only [Bool.and_eq_true, decide_eq_true_eq] at h
  rintro (q | q)
  · exact absurd h.1 (Int32.not_le.mpr q)
  · omega
section
variable {p : Program} {l : Launch} {e : Env} {R : Room} {s : State} {m : MethodId} {args : Array Value} {below : List Frame} {meth : Method} {c : Code} {D : va_G} {ty : List (ClassId × FieldType)} {A : Nat → Prop} {cc : ByteArray} {nL ce sl : Nat} {ret : Option FieldType} {own : String} {Q : State → Prop} {w : va_W} {lv : List (Nat × Value)} {pc : Nat} {st : List Value}
theorem CX.x (X : CX p s m args meth c D ty A cc nL ret own) : p.tables.exec = Jvm.exec := X.1
theorem CX.b (X : CX p s m args meth c D ty A cc nL ret own) : c.code = cc := X.2.1
theorem CX.r (X : CX p s m args meth c D ty A cc nL ret own) : meth.sig.returnType = ret := X.2.2.1
theorem CX.ml (X : CX p s m args meth c D ty A cc nL ret own) : c.maxLocals = nL := X.2.2.2.1
theorem CX.ow (X : CX p s m args meth c D ty A cc nL ret own) : s.vm.findClass own = some m.cls := X.2.2.2.2.1
theorem CX.ts (X : CX p s m args meth c D ty A cc nL ret own) : ∀ w ∈ WS, w.before args s = true := X.2.2.2.2.2.1
theorem CX.lk (X : CX p s m args meth c D ty A cc nL ret own) : meth.locks = false := X.2.2.2.2.2.2.1
theorem CX.K (X : CX p s m args meth c D ty A cc nL ret own) : va_K D vwCl ty s := X.2.2.2.2.2.2.2.1
theorem CX.hA (X : CX p s m args meth c D ty A cc nL ret own) : ∀ q : Nat, s.heap.size ≤ q → A q := X.2.2.2.2.2.2.2.2
theorem CX.fix (X : CX p s m args meth c D ty A cc nL ret own) : CallFix p m c cc nL s args WS own := ⟨X.x, X.b, X.ml, X.ow, X.ts⟩
theorem Z.lift {pc' : Nat} {st' : List Value} (h : ∀ (H : Heap) (locs : List Loc) (ls : Array Slot), W p l e R s m args below meth c H locs ce sl Q (F0 m pc' ls st') → W p l e R s m args below meth c H locs ce sl Q (F0 m pc ls st)) (k : Z p l e R s m args below meth c D A nL ce sl Q w lv pc' st') : Z p l e R s m args below meth c D A nL ce sl Q w lv pc st := fun H locs ls hP hD hS hl => h H locs ls (k H locs ls hP hD hS hl)
theorem z_iconst (X : CX p s m args meth c D ty A cc nL ret own) {n : Int} {v : Int32} (hdg : decode cc pc = .ok (.iconst n, 1)) (hv : Int32.ofInt n = v) (k : Z p l e R s m args below meth c D A nL ce sl Q w lv (pc + 1) (.int v :: st)) : Z p l e R s m args below meth c D A nL ce sl Q w lv pc (st) := Z.lift (fun _ _ _ q => lv_iconst X.x X.b hdg hv q) k
theorem z_bipush (X : CX p s m args meth c D ty A cc nL ret own) {n : Int} {v : Int32} (hdg : decode cc pc = .ok (.bipush n, 2)) (hv : (Int8.ofInt n).toInt32 = v) (k : Z p l e R s m args below meth c D A nL ce sl Q w lv (pc + 2) (.int v :: st)) : Z p l e R s m args below meth c D A nL ce sl Q w lv pc (st) := Z.lift (fun _ _ _ q => lv_bipush X.x X.b hdg hv q) k
theorem z_sipush (X : CX p s m args meth c D ty A cc nL ret own) {n : Int} {v : Int32} (hdg : decode cc pc = .ok (.sipush n, 3)) (hv : (Int16.ofInt n).toInt32 = v) (k : Z p l e R s m args below meth c D A nL ce sl Q w lv (pc + 3) (.int v :: st)) : Z p l e R s m args below meth c D A nL ce sl Q w lv pc (st) := Z.lift (fun _ _ _ q => lv_sipush X.x X.b hdg hv q) k
theorem z_lconst (X : CX p s m args meth c D ty A cc nL ret own) {n : Fin 2} {v : Int64} (hdg : decode cc pc = .ok (.lconst n, 1)) (hv : Int64.ofNat n = v) (k : Z p l e R s m args below meth c D A nL ce sl Q w lv (pc + 1) (.long v :: st)) : Z p l e R s m args below meth c D A nL ce sl Q w lv pc (st) := Z.lift (fun _ _ _ q => lv_lconst X.x X.b hdg hv q) k
theorem z_ldc2 (X : CX p s m args meth c D ty A cc nL ret own) {index : Nat} {v : Int64} (hdg : decode cc pc = .ok (.ldc2_w index, 3)) (hc : Cond.constantLong own index v ∈ WS) (k : Z p l e R s m args below meth c D A nL ce sl Q w lv (pc + 3) (.long v :: st)) : Z p l e R s m args below meth c D A nL ce sl Q w lv pc (st) := Z.lift (fun _ _ _ q => lv_ldc2 X.x X.b X.ow (X.ts _ hc) hdg q) k
theorem z_ldcw (X : CX p s m args meth c D ty A cc nL ret own) {index : Nat} {v : Int32} (hdg : decode cc pc = .ok (.ldc_w index, 3)) (hc : Cond.constant own index v ∈ WS) (k : Z p l e R s m args below meth c D A nL ce sl Q w lv (pc + 3) (.int v :: st)) : Z p l e R s m args below meth c D A nL ce sl Q w lv pc (st) := Z.lift (fun _ _ _ q => lv_ldcw X.x X.b X.ow (X.ts _ hc) hdg q) k
theorem z_ldc (X : CX p s m args meth c D ty A cc nL ret own) {index : Nat} {v : Int32} (hdg : decode cc pc = .ok (.ldc index, 2)) (hc : Cond.constant own index v ∈ WS) (k : Z p l e R s m args below meth c D A nL ce sl Q w lv (pc + 2) (.int v :: st)) : Z p l e R s m args below meth c D A nL ce sl Q w lv pc (st) := Z.lift (fun _ _ _ q => lv_ldc X.x X.b X.ow (X.ts _ hc) hdg q) k
theorem z_iadd (X : CX p s m args meth c D ty A cc nL ret own) {x y : Int32} (hdg : decode cc pc = .ok (.iadd, 1)) (k : Z p l e R s m args below meth c D A nL ce sl Q w lv (pc + 1) (.int (x + y) :: st)) : Z p l e R s m args below meth c D A nL ce sl Q w lv pc (.int y :: .int x :: st) := Z.lift (fun _ _ _ q => lv_iadd X.x X.b hdg q) k
theorem z_isub (X : CX p s m args meth c D ty A cc nL ret own) {x y : Int32} (hdg : decode cc pc = .ok (.isub, 1)) (k : Z p l e R s m args below meth c D A nL ce sl Q w lv (pc + 1) (.int (x - y) :: st)) : Z p l e R s m args below meth c D A nL ce sl Q w lv pc (.int y :: .int x :: st) := Z.lift (fun _ _ _ q => lv_isub X.x X.b hdg q) k
theorem z_imul (X : CX p s m args meth c D ty A cc nL ret own) {x y : Int32} (hdg : decode cc pc = .ok (.imul, 1)) (k : Z p l e R s m args below meth c D A nL ce sl Q w lv (pc + 1) (.int (x * y) :: st)) : Z p l e R s m args below meth c D A nL ce sl Q w lv pc (.int y :: .int x :: st) := Z.lift (fun _ _ _ q => lv_imul X.x X.b hdg q) k
theorem z_iand (X : CX p s m args meth c D ty A cc nL ret own) {x y : Int32} (hdg : decode cc pc = .ok (.iand, 1)) (k : Z p l e R s m args below meth c D A nL ce sl Q w lv (pc + 1) (.int (x &&& y) :: st)) : Z p l e R s m args below meth c D A nL ce sl Q w lv pc (.int y :: .int x :: st) := Z.lift (fun _ _ _ q => lv_iand X.x X.b hdg q) k
theorem z_ior (X : CX p s m args meth c D ty A cc nL ret own) {x y : Int32} (hdg : decode cc pc = .ok (.ior, 1)) (k : Z p l e R s m args below meth c D A nL ce sl Q w lv (pc + 1) (.int (x ||| y) :: st)) : Z p l e R s m args below meth c D A nL ce sl Q w lv pc (.int y :: .int x :: st) := Z.lift (fun _ _ _ q => lv_ior X.x X.b hdg q) k
theorem z_idiv (X : CX p s m args meth c D ty A cc nL ret own) {x y : Int32} (hdg : decode cc pc = .ok (.idiv, 1)) (hne : ¬ y = 0) (k : Z p l e R s m args below meth c D A nL ce sl Q w lv (pc + 1) (.int (x / y) :: st)) : Z p l e R s m args below meth c D A nL ce sl Q w lv pc (.int y :: .int x :: st) := Z.lift (fun _ _ _ q => lv_idiv X.x X.b hdg hne q) k
theorem z_irem (X : CX p s m args meth c D ty A cc nL ret own) {x y : Int32} (hdg : decode cc pc = .ok (.irem, 1)) (hne : ¬ y = 0) (k : Z p l e R s m args below meth c D A nL ce sl Q w lv (pc + 1) (.int (x - x / y * y) :: st)) : Z p l e R s m args below meth c D A nL ce sl Q w lv pc (.int y :: .int x :: st) := Z.lift (fun _ _ _ q => lv_irem X.x X.b hdg hne q) k
theorem z_ishl (X : CX p s m args meth c D ty A cc nL ret own) {x y : Int32} (hdg : decode cc pc = .ok (.ishl, 1)) (k : Z p l e R s m args below meth c D A nL ce sl Q w lv (pc + 1) (.int (x <<< (y &&& 31)) :: st)) : Z p l e R s m args below meth c D A nL ce sl Q w lv pc (.int y :: .int x :: st) := Z.lift (fun _ _ _ q => lv_ishl X.x X.b hdg q) k
theorem z_ishr (X : CX p s m args meth c D ty A cc nL ret own) {x y : Int32} (hdg : decode cc pc = .ok (.ishr, 1)) (k : Z p l e R s m args below meth c D A nL ce sl Q w lv (pc + 1) (.int (x >>> (y &&& 31)) :: st)) : Z p l e R s m args below meth c D A nL ce sl Q w lv pc (.int y :: .int x :: st) := Z.lift (fun _ _ _ q => lv_ishr X.x X.b hdg q) k
theorem z_iushr (X : CX p s m args meth c D ty A cc nL ret own) {x y : Int32} (hdg : decode cc pc = .ok (.iushr, 1)) (k : Z p l e R s m args below meth c D A nL ce sl Q w lv (pc + 1) (.int ((x.toUInt32 >>> (y.toUInt32 &&& Int32.toUInt32 31)).toInt32) :: st)) : Z p l e R s m args below meth c D A nL ce sl Q w lv pc (.int y :: .int x :: st) := Z.lift (fun _ _ _ q => lv_iushr X.x X.b hdg rfl q) k
theorem z_ladd (X : CX p s m args meth c D ty A cc nL ret own) {x y : Int64} (hdg : decode cc pc = .ok (.ladd, 1)) (k : Z p l e R s m args below meth c D A nL ce sl Q w lv (pc + 1) (.long (x + y) :: st)) : Z p l e R s m args below meth c D A nL ce sl Q w lv pc (.long y :: .long x :: st) := Z.lift (fun _ _ _ q => lv_ladd X.x X.b hdg q) k
theorem z_lsub (X : CX p s m args meth c D ty A cc nL ret own) {x y : Int64} (hdg : decode cc pc = .ok (.lsub, 1)) (k : Z p l e R s m args below meth c D A nL ce sl Q w lv (pc + 1) (.long (x - y) :: st)) : Z p l e R s m args below meth c D A nL ce sl Q w lv pc (.long y :: .long x :: st) := Z.lift (fun _ _ _ q => lv_lsub X.x X.b hdg q) k
theorem z_ldiv (X : CX p s m args meth c D ty A cc nL ret own) {x y : Int64} (hdg : decode cc pc = .ok (.ldiv, 1)) (hne : ¬ y = 0) (k : Z p l e R s m args below meth c D A nL ce sl Q w lv (pc + 1) (.long (x / y) :: st)) : Z p l e R s m args below meth c D A nL ce sl Q w lv pc (.long y :: .long x :: st) := Z.lift (fun _ _ _ q => lv_ldiv X.x X.b hdg hne q) k
theorem z_lcmp (X : CX p s m args meth c D ty A cc nL ret own) {x y : Int64} (hdg : decode cc pc = .ok (.lcmp, 1)) (k : Z p l e R s m args below meth c D A nL ce sl Q w lv (pc + 1) (.int (lg_cmp x y) :: st)) : Z p l e R s m args below meth c D A nL ce sl Q w lv pc (.long y :: .long x :: st) := Z.lift (fun _ _ _ q => W.lcmp X.x X.b hdg q) k
theorem z_i2l (X : CX p s m args meth c D ty A cc nL ret own) {x : Int32} (hdg : decode cc pc = .ok (.i2l, 1)) (k : Z p l e R s m args below meth c D A nL ce sl Q w lv (pc + 1) (.long x.toInt64 :: st)) : Z p l e R s m args below meth c D A nL ce sl Q w lv pc (.int x :: st) := Z.lift (fun _ _ _ q => lv_i2l X.x X.b hdg rfl q) k
theorem z_l2i (X : CX p s m args meth c D ty A cc nL ret own) {x : Int64} (hdg : decode cc pc = .ok (.l2i, 1)) (k : Z p l e R s m args below meth c D A nL ce sl Q w lv (pc + 1) (.int x.toInt32 :: st)) : Z p l e R s m args below meth c D A nL ce sl Q w lv pc (.long x :: st) := Z.lift (fun _ _ _ q => lv_l2i X.x X.b hdg rfl q) k
theorem z_i2c (X : CX p s m args meth c D ty A cc nL ret own) {x : Int32} (hdg : decode cc pc = .ok (.i2c, 1)) (k : Z p l e R s m args below meth c D A nL ce sl Q w lv (pc + 1) (.int (x.toUInt32 % 65536).toInt32 :: st)) : Z p l e R s m args below meth c D A nL ce sl Q w lv pc (.int x :: st) := Z.lift (fun _ _ _ q => lv_i2c X.x X.b hdg rfl q) k
theorem z_dup (X : CX p s m args meth c D ty A cc nL ret own) {va : Value} (hdg : decode cc pc = .ok (.dup, 1)) (hva : va.category = 1) (k : Z p l e R s m args below meth c D A nL ce sl Q w lv (pc + 1) (va :: va :: st)) : Z p l e R s m args below meth c D A nL ce sl Q w lv pc (va :: st) := Z.lift (fun _ _ _ q => lv_dup X.x X.b hdg hva q) k
theorem z_dup2 (X : CX p s m args meth c D ty A cc nL ret own) {va vb : Value} (hdg : decode cc pc = .ok (.dup2, 1)) (hva : va.category = 1) (hvb : vb.category = 1) (k : Z p l e R s m args below meth c D A nL ce sl Q w lv (pc + 1) (va :: vb :: va :: vb :: st)) : Z p l e R s m args below meth c D A nL ce sl Q w lv pc (va :: vb :: st) := Z.lift (fun _ _ _ q => lv_dup2_11 X.x X.b hdg hva hvb q) k
theorem z_pop (X : CX p s m args meth c D ty A cc nL ret own) {va : Value} (hdg : decode cc pc = .ok (.pop, 1)) (hva : va.category = 1) (k : Z p l e R s m args below meth c D A nL ce sl Q w lv (pc + 1) (st)) : Z p l e R s m args below meth c D A nL ce sl Q w lv pc (va :: st) := Z.lift (fun _ _ _ q => lv_pop X.x X.b hdg hva q) k
theorem z_goto (X : CX p s m args meth c D ty A cc nL ret own) {off : Int} {tgt : Nat} (hdg : decode cc pc = .ok (.goto off, 3)) (ht : (pc : Int) + off = (tgt : Int)) (k : Z p l e R s m args below meth c D A nL ce sl Q w lv tgt st) : Z p l e R s m args below meth c D A nL ce sl Q w lv pc st := Z.lift (fun _ _ _ q => lv_goto X.x X.b hdg ht q) k
theorem z_if_eq (X : CX p s m args meth c D ty A cc nL ret own) {x : Int32} {off : Int} {tgt : Nat} (hdg : decode cc pc = .ok (.ifCond .eq off, 3)) (ht : (pc : Int) + off = (tgt : Int)) (kt : x = 0 → Z p l e R s m args below meth c D A nL ce sl Q w lv tgt st) (kf : ¬ (x = 0) → Z p l e R s m args below meth c D A nL ce sl Q w lv (pc + 3) st) : Z p l e R s m args below meth c D A nL ce sl Q w lv pc (.int x :: st) := fun H locs ls hP hD hS hl => lv_if_eq X.x X.b hdg ht (fun q => kt q H locs ls hP hD hS hl) (fun q => kf q H locs ls hP hD hS hl)
theorem z_icmp_eq (X : CX p s m args meth c D ty A cc nL ret own) {x y : Int32} {off : Int} {tgt : Nat} (hdg : decode cc pc = .ok (.if_icmp .eq off, 3)) (ht : (pc : Int) + off = (tgt : Int)) (kt : x = y → Z p l e R s m args below meth c D A nL ce sl Q w lv tgt st) (kf : ¬ (x = y) → Z p l e R s m args below meth c D A nL ce sl Q w lv (pc + 3) st) : Z p l e R s m args below meth c D A nL ce sl Q w lv pc (.int y :: .int x :: st) := fun H locs ls hP hD hS hl => lv_icmp_eq X.x X.b hdg ht (fun q => kt q H locs ls hP hD hS hl) (fun q => kf q H locs ls hP hD hS hl)
theorem z_if_ne (X : CX p s m args meth c D ty A cc nL ret own) {x : Int32} {off : Int} {tgt : Nat} (hdg : decode cc pc = .ok (.ifCond .ne off, 3)) (ht : (pc : Int) + off = (tgt : Int)) (kt : ¬ x = 0 → Z p l e R s m args below meth c D A nL ce sl Q w lv tgt st) (kf : x = 0 → Z p l e R s m args below meth c D A nL ce sl Q w lv (pc + 3) st) : Z p l e R s m args below meth c D A nL ce sl Q w lv pc (.int x :: st) := fun H locs ls hP hD hS hl => lv_if_ne X.x X.b hdg ht (fun q => kt q H locs ls hP hD hS hl) (fun q => kf q H locs ls hP hD hS hl)
theorem z_icmp_ne (X : CX p s m args meth c D ty A cc nL ret own) {x y : Int32} {off : Int} {tgt : Nat} (hdg : decode cc pc = .ok (.if_icmp .ne off, 3)) (ht : (pc : Int) + off = (tgt : Int)) (kt : ¬ x = y → Z p l e R s m args below meth c D A nL ce sl Q w lv tgt st) (kf : x = y → Z p l e R s m args below meth c D A nL ce sl Q w lv (pc + 3) st) : Z p l e R s m args below meth c D A nL ce sl Q w lv pc (.int y :: .int x :: st) := fun H locs ls hP hD hS hl => lv_icmp_ne X.x X.b hdg ht (fun q => kt q H locs ls hP hD hS hl) (fun q => kf q H locs ls hP hD hS hl)
theorem z_if_lt (X : CX p s m args meth c D ty A cc nL ret own) {x : Int32} {off : Int} {tgt : Nat} (hdg : decode cc pc = .ok (.ifCond .lt off, 3)) (ht : (pc : Int) + off = (tgt : Int)) (kt : x < 0 → Z p l e R s m args below meth c D A nL ce sl Q w lv tgt st) (kf : ¬ (x < 0) → Z p l e R s m args below meth c D A nL ce sl Q w lv (pc + 3) st) : Z p l e R s m args below meth c D A nL ce sl Q w lv pc (.int x :: st) := fun H locs ls hP hD hS hl => lv_if_lt X.x X.b hdg ht (fun q => kt q H locs ls hP hD hS hl) (fun q => kf q H locs ls hP hD hS hl)
theorem z_icmp_lt (X : CX p s m args meth c D ty A cc nL ret own) {x y : Int32} {off : Int} {tgt : Nat} (hdg : decode cc pc = .ok (.if_icmp .lt off, 3)) (ht : (pc : Int) + off = (tgt : Int)) (kt : x < y → Z p l e R s m args below meth c D A nL ce sl Q w lv tgt st) (kf : ¬ (x < y) → Z p l e R s m args below meth c D A nL ce sl Q w lv (pc + 3) st) : Z p l e R s m args below meth c D A nL ce sl Q w lv pc (.int y :: .int x :: st) := fun H locs ls hP hD hS hl => lv_icmp_lt X.x X.b hdg ht (fun q => kt q H locs ls hP hD hS hl) (fun q => kf q H locs ls hP hD hS hl)
theorem z_if_ge (X : CX p s m args meth c D ty A cc nL ret own) {x : Int32} {off : Int} {tgt : Nat} (hdg : decode cc pc = .ok (.ifCond .ge off, 3)) (ht : (pc : Int) + off = (tgt : Int)) (kt : 0 ≤ x → Z p l e R s m args below meth c D A nL ce sl Q w lv tgt st) (kf : ¬ (0 ≤ x) → Z p l e R s m args below meth c D A nL ce sl Q w lv (pc + 3) st) : Z p l e R s m args below meth c D A nL ce sl Q w lv pc (.int x :: st) := fun H locs ls hP hD hS hl => lv_if_ge X.x X.b hdg ht (fun q => kt q H locs ls hP hD hS hl) (fun q => kf q H locs ls hP hD hS hl)
theorem z_icmp_ge (X : CX p s m args meth c D ty A cc nL ret own) {x y : Int32} {off : Int} {tgt : Nat} (hdg : decode cc pc = .ok (.if_icmp .ge off, 3)) (ht : (pc : Int) + off = (tgt : Int)) (kt : y ≤ x → Z p l e R s m args below meth c D A nL ce sl Q w lv tgt st) (kf : ¬ (y ≤ x) → Z p l e R s m args below meth c D A nL ce sl Q w lv (pc + 3) st) : Z p l e R s m args below meth c D A nL ce sl Q w lv pc (.int y :: .int x :: st) := fun H locs ls hP hD hS hl => lv_icmp_ge X.x X.b hdg ht (fun q => kt q H locs ls hP hD hS hl) (fun q => kf q H locs ls hP hD hS hl)
theorem z_if_gt (X : CX p s m args meth c D ty A cc nL ret own) {x : Int32} {off : Int} {tgt : Nat} (hdg : decode cc pc = .ok (.ifCond .gt off, 3)) (ht : (pc : Int) + off = (tgt : Int)) (kt : 0 < x → Z p l e R s m args below meth c D A nL ce sl Q w lv tgt st) (kf : ¬ (0 < x) → Z p l e R s m args below meth c D A nL ce sl Q w lv (pc + 3) st) : Z p l e R s m args below meth c D A nL ce sl Q w lv pc (.int x :: st) := fun H locs ls hP hD hS hl => lv_if_gt X.x X.b hdg ht (fun q => kt q H locs ls hP hD hS hl) (fun q => kf q H locs ls hP hD hS hl)
theorem z_icmp_gt (X : CX p s m args meth c D ty A cc nL ret own) {x y : Int32} {off : Int} {tgt : Nat} (hdg : decode cc pc = .ok (.if_icmp .gt off, 3)) (ht : (pc : Int) + off = (tgt : Int)) (kt : y < x → Z p l e R s m args below meth c D A nL ce sl Q w lv tgt st) (kf : ¬ (y < x) → Z p l e R s m args below meth c D A nL ce sl Q w lv (pc + 3) st) : Z p l e R s m args below meth c D A nL ce sl Q w lv pc (.int y :: .int x :: st) := fun H locs ls hP hD hS hl => lv_icmp_gt X.x X.b hdg ht (fun q => kt q H locs ls hP hD hS hl) (fun q => kf q H locs ls hP hD hS hl)
theorem z_if_le (X : CX p s m args meth c D ty A cc nL ret own) {x : Int32} {off : Int} {tgt : Nat} (hdg : decode cc pc = .ok (.ifCond .le off, 3)) (ht : (pc : Int) + off = (tgt : Int)) (kt : x ≤ 0 → Z p l e R s m args below meth c D A nL ce sl Q w lv tgt st) (kf : ¬ (x ≤ 0) → Z p l e R s m args below meth c D A nL ce sl Q w lv (pc + 3) st) : Z p l e R s m args below meth c D A nL ce sl Q w lv pc (.int x :: st) := fun H locs ls hP hD hS hl => lv_if_le X.x X.b hdg ht (fun q => kt q H locs ls hP hD hS hl) (fun q => kf q H locs ls hP hD hS hl)
theorem z_icmp_le (X : CX p s m args meth c D ty A cc nL ret own) {x y : Int32} {off : Int} {tgt : Nat} (hdg : decode cc pc = .ok (.if_icmp .le off, 3)) (ht : (pc : Int) + off = (tgt : Int)) (kt : x ≤ y → Z p l e R s m args below meth c D A nL ce sl Q w lv tgt st) (kf : ¬ (x ≤ y) → Z p l e R s m args below meth c D A nL ce sl Q w lv (pc + 3) st) : Z p l e R s m args below meth c D A nL ce sl Q w lv pc (.int y :: .int x :: st) := fun H locs ls hP hD hS hl => lv_icmp_le X.x X.b hdg ht (fun q => kt q H locs ls hP hD hS hl) (fun q => kf q H locs ls hP hD hS hl)
theorem z_tableIn (X : CX p s m args meth c D ty A cc nL ret own) {dflt lo hi : Int} {offs : Array Int} {len : Nat} {x : Int32} {off : Int} {tgt : Nat} (hdg : decode cc pc = .ok (.tableswitch dflt lo hi offs, len)) (h1 : ¬ x.toInt < lo) (h2 : ¬ hi < x.toInt) (ho : offs[(x.toInt - lo).toNat]? = some off) (ht : (pc : Int) + off = (tgt : Int)) (k : Z p l e R s m args below meth c D A nL ce sl Q w lv tgt st) : Z p l e R s m args below meth c D A nL ce sl Q w lv pc (.int x :: st) := Z.lift (fun _ _ _ q => lv_tableIn X.x X.b hdg h1 h2 ho ht q) k
theorem z_tableOut (X : CX p s m args meth c D ty A cc nL ret own) {dflt lo hi : Int} {offs : Array Int} {len : Nat} {x : Int32} {tgt : Nat} (hdg : decode cc pc = .ok (.tableswitch dflt lo hi offs, len)) (h : x.toInt < lo ∨ hi < x.toInt) (ht : (pc : Int) + dflt = (tgt : Int)) (k : Z p l e R s m args below meth c D A nL ce sl Q w lv tgt st) : Z p l e R s m args below meth c D A nL ce sl Q w lv pc (.int x :: st) := Z.lift (fun _ _ _ q => lv_tableOut X.x X.b hdg h ht q) k
theorem z_iload_n (X : CX p s m args meth c D ty A cc nL ret own) {k : Fin 4} {x : Int32} (hdg : decode cc pc = .ok (.iload_n k, 1)) (j : Nat) (hj : lv[j]? = some ((k : Nat), .int x)) (kk : Z p l e R s m args below meth c D A nL ce sl Q w lv (pc + 1) (.int x :: st)) : Z p l e R s m args below meth c D A nL ce sl Q w lv pc st := fun H locs ls hP hD hS hl => lv_iload_n X.x X.b hdg rfl (lv_at hl j hj) (kk H locs ls hP hD hS hl)
theorem z_iload (X : CX p s m args meth c D ty A cc nL ret own) {i : Nat} {x : Int32} (hdg : decode cc pc = .ok (.iload i, 2)) (j : Nat) (hj : lv[j]? = some (i, .int x)) (kk : Z p l e R s m args below meth c D A nL ce sl Q w lv (pc + 2) (.int x :: st)) : Z p l e R s m args below meth c D A nL ce sl Q w lv pc st := fun H locs ls hP hD hS hl => lv_iload X.x X.b hdg (lv_at hl j hj) (kk H locs ls hP hD hS hl)
theorem z_lload_n (X : CX p s m args meth c D ty A cc nL ret own) {k : Fin 4} {x : Int64} (hdg : decode cc pc = .ok (.lload_n k, 1)) (j : Nat) (hj : lv[j]? = some ((k : Nat), .long x)) (kk : Z p l e R s m args below meth c D A nL ce sl Q w lv (pc + 1) (.long x :: st)) : Z p l e R s m args below meth c D A nL ce sl Q w lv pc st := fun H locs ls hP hD hS hl => lv_lload_n X.x X.b hdg rfl (lv_at hl j hj) (kk H locs ls hP hD hS hl)
theorem z_lload (X : CX p s m args meth c D ty A cc nL ret own) {i : Nat} {x : Int64} (hdg : decode cc pc = .ok (.lload i, 2)) (j : Nat) (hj : lv[j]? = some (i, .long x)) (kk : Z p l e R s m args below meth c D A nL ce sl Q w lv (pc + 2) (.long x :: st)) : Z p l e R s m args below meth c D A nL ce sl Q w lv pc st := fun H locs ls hP hD hS hl => lv_lload X.x X.b hdg (lv_at hl j hj) (kk H locs ls hP hD hS hl)
theorem z_aload_n (X : CX p s m args meth c D ty A cc nL ret own) {k : Fin 4} {x : Nat} (hdg : decode cc pc = .ok (.aload_n k, 1)) (j : Nat) (hj : lv[j]? = some ((k : Nat), .ref x)) (kk : Z p l e R s m args below meth c D A nL ce sl Q w lv (pc + 1) (.ref x :: st)) : Z p l e R s m args below meth c D A nL ce sl Q w lv pc st := fun H locs ls hP hD hS hl => lv_aload_n X.x X.b hdg rfl (lv_at hl j hj) (kk H locs ls hP hD hS hl)
theorem z_aload (X : CX p s m args meth c D ty A cc nL ret own) {i : Nat} {x : Nat} (hdg : decode cc pc = .ok (.aload i, 2)) (j : Nat) (hj : lv[j]? = some (i, .ref x)) (kk : Z p l e R s m args below meth c D A nL ce sl Q w lv (pc + 2) (.ref x :: st)) : Z p l e R s m args below meth c D A nL ce sl Q w lv pc st := fun H locs ls hP hD hS hl => lv_aload X.x X.b hdg (lv_at hl j hj) (kk H locs ls hP hD hS hl)
theorem z_istore_n (X : CX p s m args meth c D ty A cc nL ret own) {k : Fin 4} {x : Int32} {lv' : List (Nat × Value)} (hdg : decode cc pc = .ok (.istore_n k, 1)) (hn : (k : Nat) < nL) (hl' : ((k : Nat), Value.int x) :: lv.filter (fun q => !(q.1 == (k : Nat)) && !(q.1 + 1 == (k : Nat) && q.2.category == 2)) = lv') (kk : Z p l e R s m args below meth c D A nL ce sl Q w lv' (pc + 1) st) : Z p l e R s m args below meth c D A nL ce sl Q w lv pc (.int x :: st) := fun H locs ls hP hD hS hl => lv_istore_n X.x X.b hdg rfl hl hn hl' (fun ls' h' => kk H locs ls' hP hD hS h')
theorem z_istore (X : CX p s m args meth c D ty A cc nL ret own) {i : Nat} {x : Int32} {lv' : List (Nat × Value)} (hdg : decode cc pc = .ok (.istore i, 2)) (hn : i < nL) (hl' : (i, Value.int x) :: lv.filter (fun q => !(q.1 == i) && !(q.1 + 1 == i && q.2.category == 2)) = lv') (kk : Z p l e R s m args below meth c D A nL ce sl Q w lv' (pc + 2) st) : Z p l e R s m args below meth c D A nL ce sl Q w lv pc (.int x :: st) := fun H locs ls hP hD hS hl => lv_istore X.x X.b hdg hl hn hl' (fun ls' h' => kk H locs ls' hP hD hS h')
theorem z_lstore_n (X : CX p s m args meth c D ty A cc nL ret own) {k : Fin 4} {x : Int64} {lv' : List (Nat × Value)} (hdg : decode cc pc = .ok (.lstore_n k, 1)) (hn : (k : Nat) + 1 < nL) (hl' : ((k : Nat), Value.long x) :: lv.filter (fun q => !(q.1 == (k : Nat)) && (!(q.1 == (k : Nat) + 1) && !(q.1 + 1 == (k : Nat) && q.2.category == 2))) = lv') (kk : Z p l e R s m args below meth c D A nL ce sl Q w lv' (pc + 1) st) : Z p l e R s m args below meth c D A nL ce sl Q w lv pc (.long x :: st) := fun H locs ls hP hD hS hl => lv_lstore_n X.x X.b hdg rfl hl hn hl' (fun ls' h' => kk H locs ls' hP hD hS h')
theorem z_lstore (X : CX p s m args meth c D ty A cc nL ret own) {i : Nat} {x : Int64} {lv' : List (Nat × Value)} (hdg : decode cc pc = .ok (.lstore i, 2)) (hn : i + 1 < nL) (hl' : (i, Value.long x) :: lv.filter (fun q => !(q.1 == i) && (!(q.1 == i + 1) && !(q.1 + 1 == i && q.2.category == 2))) = lv') (kk : Z p l e R s m args below meth c D A nL ce sl Q w lv' (pc + 2) st) : Z p l e R s m args below meth c D A nL ce sl Q w lv pc (.long x :: st) := fun H locs ls hP hD hS hl => lv_lstore X.x X.b hdg hl hn hl' (fun ls' h' => kk H locs ls' hP hD hS h')
theorem z_astore_n (X : CX p s m args meth c D ty A cc nL ret own) {k : Fin 4} {x : Nat} {lv' : List (Nat × Value)} (hdg : decode cc pc = .ok (.astore_n k, 1)) (hn : (k : Nat) < nL) (hl' : ((k : Nat), Value.ref x) :: lv.filter (fun q => !(q.1 == (k : Nat)) && !(q.1 + 1 == (k : Nat) && q.2.category == 2)) = lv') (kk : Z p l e R s m args below meth c D A nL ce sl Q w lv' (pc + 1) st) : Z p l e R s m args below meth c D A nL ce sl Q w lv pc (.ref x :: st) := fun H locs ls hP hD hS hl => lv_astore_n X.x X.b hdg rfl hl hn hl' (fun ls' h' => kk H locs ls' hP hD hS h')
theorem z_astore (X : CX p s m args meth c D ty A cc nL ret own) {i : Nat} {x : Nat} {lv' : List (Nat × Value)} (hdg : decode cc pc = .ok (.astore i, 2)) (hn : i < nL) (hl' : (i, Value.ref x) :: lv.filter (fun q => !(q.1 == i) && !(q.1 + 1 == i && q.2.category == 2)) = lv') (kk : Z p l e R s m args below meth c D A nL ce sl Q w lv' (pc + 2) st) : Z p l e R s m args below meth c D A nL ce sl Q w lv pc (.ref x :: st) := fun H locs ls hP hD hS hl => lv_astore X.x X.b hdg hl hn hl' (fun ls' h' => kk H locs ls' hP hD hS h')
theorem z_iinc (X : CX p s m args meth c D ty A cc nL ret own) {i : Nat} {n : Int} {x v : Int32} {lv' : List (Nat × Value)} (hdg : decode cc pc = .ok (.iinc i n, 3)) (j : Nat) (hj : lv[j]? = some (i, .int x)) (hv : x + Int32.ofInt n = v) (hn : i < nL) (hl' : (i, Value.int v) :: lv.filter (fun q => !(q.1 == i) && !(q.1 + 1 == i && q.2.category == 2)) = lv') (kk : Z p l e R s m args below meth c D A nL ce sl Q w lv' (pc + 3) st) : Z p l e R s m args below meth c D A nL ce sl Q w lv pc st := fun H locs ls hP hD hS hl => lv_iinc X.x X.b hdg hl hj hv hn hl' (fun ls' h' => kk H locs ls' hP hD hS h')
theorem z_topi {x : Int32} (k : ∀ y : Int32, y = x → Z p l e R s m args below meth c D A nL ce sl Q w lv pc (.int y :: st)) : Z p l e R s m args below meth c D A nL ce sl Q w lv pc (.int x :: st) := k x rfl
theorem z_lv {lv' : List (Nat × Value)} (ks : List Nat) (h : lv_pick lv ks = lv') (k : Z p l e R s m args below meth c D A nL ce sl Q w lv' pc st) : Z p l e R s m args below meth c D A nL ce sl Q w lv pc st := fun H locs ls hP hD hS hl => k H locs ls hP hD hS (lv_sub hl ks h)
theorem z_w {w' : va_W} (h : w = w') (k : Z p l e R s m args below meth c D A nL ce sl Q w' lv pc st) : Z p l e R s m args below meth c D A nL ce sl Q w lv pc st := by subst h; exact k
theorem z_perm {w' : va_W} (is : List Nat) (hn : va_nd is = true) (hs : is.filterMap (fun i => w[i]?) = w') (hs2 : is.map (fun i => w[i]?) = w'.map some) (k : Z p l e R s m args below meth c D A nL ce sl Q w' lv pc st) : Z p l e R s m args below meth c D A nL ce sl Q w lv pc st := fun H locs ls hP hD hS hl => k H locs ls (hP.sub is hs) (hD.sub is hn hs2) hS hl
theorem z_get (X : CX p s m args meth c D ty A cc nL ret own) {C ref : String} {T : u_T} {N ci index a : Nat} (hin : ∀ w ∈ u_ws C T N, w ∈ WS) (hc : vwCl[ci]? = some (C, T, N)) (q0 : Nat) {fs : List Value} (he : w[q0]? = some (a, .inr (ci, fs))) (k : Nat) (hk : k < N) (hlink : Cond.fieldLink own index ref (T k).2.1 (T k).2.2.1 ∈ WS) (hr : (T k).1 = ref) {v : Value} (hv : fs[k]? = some v) (hdg : decode cc pc = .ok (.getfield index, 3)) (kk : Z p l e R s m args below meth c D A nL ce sl Q w lv (pc + 3) (v :: st)) : Z p l e R s m args below meth c D A nL ce sl Q w lv pc (.ref a :: st) := fun H locs ls hP hD hS hl => va_get X.x X.b X.ts hin X.ow X.K hP q0 he hc k hk (X.ts _ hlink) (fun x h => by rw [hr] at h; exact h) hv hdg (kk H locs ls hP hD hS hl)
theorem z_put (X : CX p s m args meth c D ty A cc nL ret own) {C ref : String} {T : u_T} {N ci index a : Nat} (hin : ∀ w ∈ u_ws C T N, w ∈ WS) (hc : vwCl[ci]? = some (C, T, N)) (ty0 : Nat → FieldType) (hty : ∀ k, k < N → parseFieldDescriptor (T k).2.2.1 = some (ty0 k)) (hnm : ∀ a, a < N → ∀ b, b < N → a ≠ b → (T a).2.1 ≠ (T b).2.1) (q0 : Nat) {fs : List Value} (he : w[q0]? = some (a, .inr (ci, fs))) (k : Nat) (hk : k < N) (hlink : Cond.fieldLink own index ref (T k).2.1 (T k).2.2.1 ∈ WS) (hr : (T k).1 = ref) (hfin : (T k).2.2.2 = false) {v : Value} (hn : narrow (ty0 k) v = v) (hfit : fits (ty0 k) v = true) (hl2 : k < fs.length) {w' : va_W} (hw : w.set q0 (a, .inr (ci, fs.set k v)) = w') (hdg : decode cc pc = .ok (.putfield index, 3)) (kk : Z p l e R s m args below meth c D A nL ce sl Q w' lv (pc + 3) st) : Z p l e R s m args below meth c D A nL ce sl Q w lv pc (v :: .ref a :: st) := by
  subst hw
  exact fun H locs ls hP hD hS hl => va_put X.x X.b X.ts hin ty0 hty hnm X.ow X.K hP hD hS q0 he hc k hk (X.ts _ hlink) (fun x h => by rw [hr] at h; exact h) hfin (hty k hk) hn hfit hl2 hdg (fun H1 locs1 h1 h2 h3 => kk H1 locs1 ls h1 h2 h3 hl)
theorem z_putF (X : CX p s m args meth c D ty A cc nL ret own) {C ref : String} {T : u_T} {N ci index a : Nat} (hin : ∀ w ∈ u_ws C T N, w ∈ WS) (hc : vwCl[ci]? = some (C, T, N)) (ty0 : Nat → FieldType) (hty : ∀ k, k < N → parseFieldDescriptor (T k).2.2.1 = some (ty0 k)) (hnm : ∀ a, a < N → ∀ b, b < N → a ≠ b → (T a).2.1 ≠ (T b).2.1) (q0 : Nat) {fs : List Value} (he : w[q0]? = some (a, .inr (ci, fs))) (k : Nat) (hk : k < N) (hlink : Cond.fieldLink own index ref (T k).2.1 (T k).2.2.1 ∈ WS) (hr : (T k).1 = ref) (hfin : (T k).2.2.2 = true) (hini : meth.name = "<init>") (hdecl : (T k).1 = own) {v : Value} (hn : narrow (ty0 k) v = v) (hfit : fits (ty0 k) v = true) (hl2 : k < fs.length) {w' : va_W} (hw : w.set q0 (a, .inr (ci, fs.set k v)) = w') (hdg : decode cc pc = .ok (.putfield index, 3)) (kk : Z p l e R s m args below meth c D A nL ce sl Q w' lv (pc + 3) st) : Z p l e R s m args below meth c D A nL ce sl Q w lv pc (v :: .ref a :: st) := by
  subst hw
  exact fun H locs ls hP hD hS hl => va_putF X.x X.b X.ts hin ty0 hty hnm X.ow X.K hP hD hS q0 he hc k hk (X.ts _ hlink) (fun x h => by rw [hr] at h; exact h) hfin hini hdecl (hty k hk) hn hfit hl2 hdg (fun H1 locs1 h1 h2 h3 => kk H1 locs1 ls h1 h2 h3 hl)
theorem z_iald (X : CX p s m args meth c D ty A cc nL ret own) (q0 t0 : Nat) {cA : ClassId} {n a : Nat} {f : Nat → Int32} (ha : w[q0]? = some (a, .inl (cA, n, .inl f))) (ht : ty[t0]? = some (cA, .int)) {i : Int32} {j : Nat} (hin : vp_in i n) (hj : i.toNatClampNeg = j) (hdg : decode cc pc = .ok (.iaload, 1)) (kk : Z p l e R s m args below meth c D A nL ce sl Q w lv (pc + 1) (.int (f j) :: st)) : Z p l e R s m args below meth c D A nL ce sl Q w lv pc (.int i :: .ref a :: st) := by
  subst hj
  exact fun H locs ls hP hD hS hl => va_iald X.x X.b X.K hP q0 t0 ha ht hin hdg (kk H locs ls hP hD hS hl)
theorem z_cald (X : CX p s m args meth c D ty A cc nL ret own) (q0 t0 : Nat) {cA : ClassId} {n a : Nat} {f : Nat → Int32} (ha : w[q0]? = some (a, .inl (cA, n, .inl f))) (ht : ty[t0]? = some (cA, .char)) {i : Int32} {j : Nat} (hin : vp_in i n) (hj : i.toNatClampNeg = j) (hdg : decode cc pc = .ok (.caload, 1)) (kk : Z p l e R s m args below meth c D A nL ce sl Q w lv (pc + 1) (.int (f j) :: st)) : Z p l e R s m args below meth c D A nL ce sl Q w lv pc (.int i :: .ref a :: st) := by
  subst hj
  exact fun H locs ls hP hD hS hl => va_cald X.x X.b X.K hP q0 t0 ha ht hin hdg (kk H locs ls hP hD hS hl)
theorem z_iast (X : CX p s m args meth c D ty A cc nL ret own) (q0 t0 : Nat) {cA : ClassId} {n a : Nat} {f : Nat → Int32} (ha : w[q0]? = some (a, .inl (cA, n, .inl f))) (ht : ty[t0]? = some (cA, .int)) {i x : Int32} {j : Nat} (hin : vp_in i n) (hj : i.toNatClampNeg = j) {w' : va_W} (hw : w.set q0 (a, .inl (cA, n, .inl (upd f j x))) = w') (hdg : decode cc pc = .ok (.iastore, 1)) (kk : Z p l e R s m args below meth c D A nL ce sl Q w' lv (pc + 1) st) : Z p l e R s m args below meth c D A nL ce sl Q w lv pc (.int x :: .int i :: .ref a :: st) := by
  subst hj
  subst hw
  exact fun H locs ls hP hD hS hl => va_iast X.x X.b X.K hP hD hS q0 t0 ha ht hin hdg (fun H1 locs1 h1 h2 h3 => kk H1 locs1 ls h1 h2 h3 hl)
theorem z_cast (X : CX p s m args meth c D ty A cc nL ret own) (q0 t0 : Nat) {cA : ClassId} {n a : Nat} {f : Nat → Int32} (ha : w[q0]? = some (a, .inl (cA, n, .inl f))) (ht : ty[t0]? = some (cA, .char)) {i x : Int32} {j : Nat} (hin : vp_in i n) (hj : i.toNatClampNeg = j) (hx : narrow .char (.int x) = .int x) {w' : va_W} (hw : w.set q0 (a, .inl (cA, n, .inl (upd f j x))) = w') (hdg : decode cc pc = .ok (.castore, 1)) (kk : Z p l e R s m args below meth c D A nL ce sl Q w' lv (pc + 1) st) : Z p l e R s m args below meth c D A nL ce sl Q w lv pc (.int x :: .int i :: .ref a :: st) := by
  subst hj
  subst hw
  refine fun H locs ls hP hD hS hl => va_cast X.x X.b X.K hP hD hS q0 t0 ha ht hin hdg (fun H1 locs1 h1 h2 h3 => kk H1 locs1 ls ?_ ?_ h3 hl)
  all_goals (have e9 : vp_nar .char x = x := by unfold vp_nar; rw [hx])
  · rw [e9] at h1; exact h1
  · rw [e9] at h2; exact h2
theorem z_aald (X : CX p s m args meth c D ty A cc nL ret own) (q0 t0 : Nat) {cA : ClassId} {C : String} {n a : Nat} {f : Nat → Option Nat} (ha : w[q0]? = some (a, .inl (cA, n, .inr (.inr (.inr (.inr f)))))) (ht : ty[t0]? = some (cA, .object C)) {i : Int32} {j v : Nat} (hin : vp_in i n) (hj : i.toNatClampNeg = j) (hv : f j = some v) (hdg : decode cc pc = .ok (.aaload, 1)) (kk : Z p l e R s m args below meth c D A nL ce sl Q w lv (pc + 1) (.ref v :: st)) : Z p l e R s m args below meth c D A nL ce sl Q w lv pc (.int i :: .ref a :: st) := by
  subst hj
  exact fun H locs ls hP hD hS hl => va_aldq X.x X.b X.K hP q0 t0 ha ht hin hdg (by rw [hv]; exact kk H locs ls hP hD hS hl)
theorem z_aast (X : CX p s m args meth c D ty A cc nL ret own) (q0 t0 qk ci : Nat) {cA : ClassId} {r : vw_C} {n a v : Nat} {vs : List Value} {f : Nat → Option Nat} (ha : w[q0]? = some (a, .inl (cA, n, .inr (.inr (.inr (.inr f)))))) (ht : ty[t0]? = some (cA, .object r.1)) (hv : w[qk]? = some (v, .inr (ci, vs))) (hc : vwCl[ci]? = some r) {i : Int32} {j : Nat} (hin : vp_in i n) (hj : i.toNatClampNeg = j) {w' : va_W} (hw : w.set q0 (a, .inl (cA, n, .inr (.inr (.inr (.inr (va_up f j (some v))))))) = w') (hdg : decode cc pc = .ok (.aastore, 1)) (kk : Z p l e R s m args below meth c D A nL ce sl Q w' lv (pc + 1) st) : Z p l e R s m args below meth c D A nL ce sl Q w lv pc (.ref v :: .int i :: .ref a :: st) := by
  subst hj
  subst hw
  exact fun H locs ls hP hD hS hl => va_astq X.x X.b X.K hP hD hS q0 t0 qk ci ha ht hv hc hin hdg (fun H1 locs1 h1 h2 h3 => kk H1 locs1 ls h1 h2 h3 hl)
end
/-! contracts -/
def PcW (D : va_G) (ty : List (ClassId × FieldType)) (sz : Nat) (wc : va_W) (av : List Value) : Array Value → State → Prop := va_Pc av (fun U => U.heap.size = sz ∧ va_P D vwCl wc U.heap ∧ va_K D vwCl ty U ∧ va_D (fun _ => True) wc)
def QiA {U : Type} (D : va_G) (ty : List (ClassId × FieldType)) (A : Nat → Prop) (res : Int32) (wf : U → va_W) : Array Value → State → Outcome → State → Prop := va_Qi (fun r (_ : U) => r = res) (fun u t => va_P D vwCl (wf u) t.heap ∧ va_K D vwCl ty t ∧ va_D A (wf u)) A
def QvA {U : Type} (D : va_G) (ty : List (ClassId × FieldType)) (A : Nat → Prop) (wf : U → va_W) : Array Value → State → Outcome → State → Prop := va_Qv (fun (_ : U) => True) (fun u t => va_P D vwCl (wf u) t.heap ∧ va_K D vwCl ty t ∧ va_D A (wf u)) A
def CtI {U : Type} (l : Launch) (y : MethodName) (ws : List Cond) (rm : Room) (D : va_G) (ty : List (ClassId × FieldType)) (wc : va_W) (av : List Value) (res : Int32) (wf : U → va_W) : Prop := ∀ sz : Nat, Met l y ws rm (PcW D ty sz wc av) (QiA D ty (va_A wc sz) res wf) 0 0 (va_A wc sz)
def CtV {U : Type} (l : Launch) (y : MethodName) (ws : List Cond) (rm : Room) (D : va_G) (ty : List (ClassId × FieldType)) (wc : va_W) (av : List Value) (wf : U → va_W) : Prop := ∀ sz : Nat, Met l y ws rm (PcW D ty sz wc av) (QvA D ty (va_A wc sz) wf) 0 0 (va_A wc sz)
theorem PcW_blind {D : va_G} {ty : List (ClassId × FieldType)} {sz : Nat} {wc : va_W} {av : List Value} : FrameBlind (PcW D ty sz wc av) := fun a U g mk q => by
  obtain ⟨q0, q1, qP, qK, qD⟩ := q
  exact ⟨q0, q1, qP, va_K.moved (u := U) (U := U.calling g mk a) (Vm.Alike.refl U.vm) qK, qD⟩
theorem met_Z {l : Launch} {y : MethodName} {own : String} {ws : List Cond} {rm : Room} {D : va_G} {ty : List (ClassId × FieldType)} {wc : va_W} {av : List Value} {cc : ByteArray} {maxL sz : Nat} {ret : Option FieldType} {Qc : Array Value → State → Outcome → State → Prop} (hy : plainName y.cls = true) (ho : y.cls = own) (hw : ws = Cond.code y cc maxL ret :: WS) (hlen : (lg_sl av).length ≤ maxL)
    (body : ∀ (p : Program) (e : Env) (s : State) (m : MethodId) (args : Array Value) (below : List Frame) (meth : Method) (c : Code), CX p s m args meth c D ty (va_A wc sz) cc maxL ret own → meth.name = y.name → Z p l e rm s m args below meth c D (va_A wc sz) maxL 0 0 (MQ below Qc args s 0 0 (va_A wc sz)) wc (lv_args 0 av) 0 []) : Met l y ws rm (PcW D ty sz wc av) Qc 0 0 (va_A wc sz) := by
  refine Met.ofW (cc := cc) (maxL := maxL) (ret := ret) hy hw ?_
  intro p e s m args below meth c s₁ B hml hv
  obtain ⟨rfl, hsz, hP, hK, hD0⟩ := hv
  have hts : ∀ w ∈ WS, w.before av.toArray s = true := fun w h => atoms_spec (ws := ws) B.pre w (by rw [hw]; exact List.mem_cons_of_mem _ h)
  have hown : s.vm.findClass own = some m.cls := by rw [← ho]; exact findClass_of_methodNamed B.named
  subst hsz
  have hl := lv_entry av (n := maxL) hlen
  rw [lg_entry_eq]
  exact body p e s m av.toArray below meth c ⟨B.exec, B.bytes, B.returns, hml, hown, hts, B.notSynchronized, hK, fun q h => Or.inr h⟩ (name_of_methodNamed B.named B.method).1 s.heap [] _ hP hD0.self va_S.rf hl
theorem met_Zi {U : Type} {l : Launch} {y : MethodName} {own : String} {ws : List Cond} {rm : Room} {D : va_G} {ty : List (ClassId × FieldType)} {wc : va_W} {av : List Value} {cc : ByteArray} {maxL : Nat} {ret : Option FieldType} {res : Int32} {wf : U → va_W} (hy : plainName y.cls = true) (ho : y.cls = own) (hw : ws = Cond.code y cc maxL ret :: WS) (hlen : (lg_sl av).length ≤ maxL)
    (body : ∀ (p : Program) (e : Env) (s : State) (m : MethodId) (args : Array Value) (below : List Frame) (meth : Method) (c : Code) (A : Nat → Prop) (Q : State → Prop), CX p s m args meth c D ty A cc maxL ret own → Q = MQ below (QiA D ty A res wf) args s 0 0 A → Z p l e rm s m args below meth c D A maxL 0 0 Q wc (lv_args 0 av) 0 []) : CtI l y ws rm D ty wc av res wf :=
  fun _ => met_Z hy ho hw hlen fun p e s m args below meth c X _ => body p e s m args below meth c _ _ X rfl
theorem met_Zv {U : Type} {l : Launch} {y : MethodName} {own : String} {ws : List Cond} {rm : Room} {D : va_G} {ty : List (ClassId × FieldType)} {wc : va_W} {av : List Value} {cc : ByteArray} {maxL : Nat} {ret : Option FieldType} {wf : U → va_W} (hy : plainName y.cls = true) (ho : y.cls = own) (hw : ws = Cond.code y cc maxL ret :: WS) (hlen : (lg_sl av).length ≤ maxL)
    (body : ∀ (p : Program) (e : Env) (s : State) (m : MethodId) (args : Array Value) (below : List Frame) (meth : Method) (c : Code) (A : Nat → Prop) (Q : State → Prop), CX p s m args meth c D ty A cc maxL ret own → Q = MQ below (QvA D ty A wf) args s 0 0 A → Z p l e rm s m args below meth c D A maxL 0 0 Q wc (lv_args 0 av) 0 []) : CtV l y ws rm D ty wc av wf :=
  fun _ => met_Z hy ho hw hlen fun p e s m args below meth c X _ => body p e s m args below meth c _ _ X rfl
/-! worlds side by side -/
theorem vP_mem {D : va_G} {cl : List vw_C} {ws : va_W} {H : Heap} : va_P D cl ws H ↔ ∀ q ∈ ws, va_at D cl q H := by
  constructor
  · intro h q hq
    obtain ⟨i, hi⟩ := List.getElem?_of_mem hq
    exact h i q hi
  · intro h k q hk
    exact h q (List.mem_of_getElem? hk)
theorem vD_mem {A : Nat → Prop} {ws : va_W} : va_D A ws ↔ (ws.map Prod.fst).Nodup ∧ ∀ q ∈ ws, A q.1 := by
  constructor
  · intro h
    refine ⟨?_, fun q hq => ?_⟩
    · rw [List.nodup_iff_pairwise_ne, List.pairwise_iff_getElem]
      intro i j hi hj hij he
      simp only [List.length_map] at hi hj
      have h1 : ws[i]? = some ws[i] := List.getElem?_eq_getElem hi
      have h2 : ws[j]? = some ws[j] := List.getElem?_eq_getElem hj
      have := h.1 i j _ _ h1 h2 (by simpa using he)
      omega
    · obtain ⟨i, hi⟩ := List.getElem?_of_mem hq
      exact h.2 i q hi
  · rintro ⟨h1, h2⟩
    refine ⟨fun i j a b hi hj hab => ?_, fun k q hk => h2 q (List.mem_of_getElem? hk)⟩
    rw [List.nodup_iff_pairwise_ne, List.pairwise_iff_getElem] at h1
    obtain ⟨hi1, rfl⟩ := List.getElem?_eq_some_iff.mp hi
    obtain ⟨hj1, rfl⟩ := List.getElem?_eq_some_iff.mp hj
    rcases Nat.lt_trichotomy i j with h | h | h
    · exact (h1 i j (by simpa using hi1) (by simpa using hj1) h (by rw [List.getElem_map, List.getElem_map]; exact hab)).elim
    · exact h
    · exact (h1 j i (by simpa using hj1) (by simpa using hi1) h (by rw [List.getElem_map, List.getElem_map]; exact hab.symm)).elim
theorem vA_mem {wc : va_W} {sz q : Nat} : va_A wc sz q ↔ (∃ e, (q, e) ∈ wc) ∨ sz ≤ q := by
  constructor
  · rintro (⟨k, e, h⟩ | h)
    · exact Or.inl ⟨e, List.mem_of_getElem? h⟩
    · exact Or.inr h
  · rintro (⟨e, h⟩ | h)
    · obtain ⟨i, hi⟩ := List.getElem?_of_mem h
      exact Or.inl ⟨i, e, hi⟩
    · exact Or.inr h
theorem fr_part {A : Nat → Prop} {D : va_G} {cl : List vw_C} {wl wc wr : va_W} {H : Heap} (hP : va_P D cl (wl ++ (wc ++ wr)) H) (hD : va_D A (wl ++ (wc ++ wr))) : va_P D cl wc H ∧ va_D (fun _ => True) wc := by
  rw [vP_mem] at hP ⊢
  rw [vD_mem] at hD ⊢
  refine ⟨fun q hq => hP q (by simp [hq]), ?_, fun _ _ => trivial⟩
  have h := hD.1
  simp only [List.map_append] at h
  exact (List.nodup_append.mp (List.nodup_append.mp h).2.1).1
theorem fr_free {A : Nat → Prop} {wl wc wr : va_W} {H0 H : Heap} {locs : List Loc} (hD : va_D A (wl ++ (wc ++ wr))) (hS : va_S A H0 H locs) (hA : ∀ q, H0.size ≤ q → A q) : ∀ q, va_A wc H.size q → A q := by
  intro q h
  rcases vA_mem.mp h with ⟨e, h⟩ | h
  · exact (vD_mem.mp hD).2 (q, e) (by simp [h])
  · exact hA q (Nat.le_trans hS.1 h)
theorem fr_join {A : Nat → Prop} {D : va_G} {cl : List vw_C} {wl wc wr w1 : va_W} {H H1 : Heap} (hP : va_P D cl (wl ++ (wc ++ wr)) H) (hD : va_D A (wl ++ (wc ++ wr)))
    (hk : ∀ q : Nat, q < H.size → ¬ va_A wc H.size q → H1[q]? = H[q]?) (hF : ∀ q, va_A wc H.size q → A q) (hP1 : va_P D cl w1 H1) (hD1 : va_D (va_A wc H.size) w1) : va_P D cl (wl ++ (w1 ++ wr)) H1 ∧ va_D A (wl ++ (w1 ++ wr)) := by
  rw [vP_mem] at hP hP1 ⊢
  rw [vD_mem] at hD hD1 ⊢
  obtain ⟨n0, a0⟩ := hD
  obtain ⟨n1, a1⟩ := hD1
  simp only [List.map_append] at n0 ⊢
  rw [List.nodup_append] at n0
  obtain ⟨nl, n2, dl⟩ := n0
  rw [List.nodup_append] at n2
  obtain ⟨nc, nr, dc⟩ := n2
  have apart : ∀ q, (q ∈ wl ∨ q ∈ wr) → q.1 < H.size ∧ ¬ va_A wc H.size q.1 := by
    intro q hq
    have hm : q ∈ wl ++ (wc ++ wr) := by rcases hq with h | h <;> simp [h]
    have hlt := (hP q hm).lt
    refine ⟨hlt, fun h => ?_⟩
    rcases vA_mem.mp h with ⟨e, h⟩ | h
    · have hc : q.1 ∈ wc.map Prod.fst := List.mem_map.mpr ⟨_, h, rfl⟩
      rcases hq with hq | hq
      · exact dl q.1 (List.mem_map.mpr ⟨q, hq, rfl⟩) q.1 (List.mem_append_left _ hc) rfl
      · exact dc q.1 hc q.1 (List.mem_map.mpr ⟨q, hq, rfl⟩) rfl
    · omega
  refine ⟨fun q hq => ?_, ?_, fun q hq => ?_⟩
  · simp only [List.mem_append] at hq
    rcases hq with h | h | h
    · exact (hP q (by simp [h])).kept (hk q.1 (apart q (Or.inl h)).1 (apart q (Or.inl h)).2)
    · exact hP1 q h
    · exact (hP q (by simp [h])).kept (hk q.1 (apart q (Or.inr h)).1 (apart q (Or.inr h)).2)
  · rw [List.nodup_append]
    refine ⟨nl, ?_, ?_⟩
    · rw [List.nodup_append]
      refine ⟨n1, nr, ?_⟩
      intro x hx y hy hxy
      subst hxy
      obtain ⟨q, hq, rfl⟩ := List.mem_map.mp hx
      obtain ⟨r, hr, he⟩ := List.mem_map.mp hy
      exact (apart r (Or.inr hr)).2 (by rw [he]; exact a1 q hq)
    · intro x hx y hy hxy
      subst hxy
      obtain ⟨r, hr, he⟩ := List.mem_map.mp hx
      rcases List.mem_append.mp hy with h | h
      · obtain ⟨q, hq, h2⟩ := List.mem_map.mp h
        exact (apart r (Or.inl hr)).2 (by rw [he, ← h2]; exact a1 q hq)
      · exact dl x hx x (List.mem_append_right _ h) rfl
  · simp only [List.mem_append] at hq
    rcases hq with h | h | h
    · exact a0 q (by simp [h])
    · exact hF q.1 (a1 q h)
    · exact a0 q (by simp [h])
section
variable {p : Program} {l : Launch} {e : Env} {R : Room} {s : State} {m : MethodId} {args : Array Value} {below : List Frame} {meth : Method} {c : Code} {D : va_G} {ty : List (ClassId × FieldType)} {A : Nat → Prop} {cc : ByteArray} {nL ce sl : Nat} {ret : Option FieldType} {own : String} {Q : State → Prop} {w : va_W} {lv : List (Nat × Value)} {pc : Nat} {st : List Value}
theorem z_iret (X : CX p s m args meth c D ty A cc nL ret own) {U : Type} {res : Int32} {wf : U → va_W} (hQ : Q = MQ below (QiA D ty A res wf) args s ce sl A) (hr : ret = some .int) (u : U) {v : Int32} (hv : v = res) (hw : w = wf u) (hdg : decode cc pc = .ok (.ireturn, 1)) : Z p l e R s m args below meth c D A nL ce sl Q w lv pc [.int v] := by
  subst hQ
  subst hw
  intro H locs ls hP hD hS hl
  exact W.iret X.x X.b (X.r.trans hr) (fun t ht hW => ⟨⟨v, u, rfl, hv, by rw [ht]; exact hP, va_K.moved hW.alike X.K, hD⟩, hS.F ht⟩) hS.2.2 hdg X.lk
theorem z_zret (X : CX p s m args meth c D ty A cc nL ret own) {U : Type} {res : Int32} {wf : U → va_W} (hQ : Q = MQ below (QiA D ty A res wf) args s ce sl A) (hr : ret = some .boolean) (u : U) {v : Int32} (hv : v = res) (hw : w = wf u) (hn : narrow .boolean (.int v) = .int v) (hdg : decode cc pc = .ok (.ireturn, 1)) : Z p l e R s m args below meth c D A nL ce sl Q w lv pc [.int v] := by
  subst hQ
  subst hw
  intro H locs ls hP hD hS hl
  exact W.zret X.x X.b (X.r.trans hr) hn (fun t ht hW => ⟨⟨v, u, rfl, hv, by rw [ht]; exact hP, va_K.moved hW.alike X.K, hD⟩, hS.F ht⟩) hS.2.2 hdg X.lk
theorem z_vret (X : CX p s m args meth c D ty A cc nL ret own) {U : Type} {wf : U → va_W} (hQ : Q = MQ below (QvA D ty A wf) args s ce sl A) (hr : ret = none) (u : U) (hw : w = wf u) (hdg : decode cc pc = .ok (.return_, 1)) : Z p l e R s m args below meth c D A nL ce sl Q w lv pc [] := by
  subst hQ
  subst hw
  intro H locs ls hP hD hS hl
  exact W.vret X.x X.b (X.r.trans hr) (fun t ht hW => ⟨⟨u, rfl, trivial, by rw [ht]; exact hP, va_K.moved hW.alike X.K, hD⟩, hS.F ht⟩) hS.2.2 hdg X.lk
theorem z_callVi {U : Type} (X : CX p s m args meth c D ty A cc nL ret own) {y : MethodName} {ws' ws'' : List Cond} {rm : Room} {wc wl wr : va_W} {As : List Value} {b : Nat} {C : String} {res : Int32} {wf : U → va_W} (hC : CtI l y ws' rm D ty wc (.ref b :: As) res wf) {bytes : ByteArray} {maxL index n : Nat} {ret' : Option FieldType} (hG : GoodIn WS (wsV own index C y ws')) (hw' : ws' = Cond.code y bytes maxL ret' :: ws'') (hrc : rm.cells = 0) (hrs : rm.slots = 0) (hd : y.cls = C ∧ y.cls ≠ "java/lang/invoke/MethodHandle" ∧ y.cls ≠ "java/lang/invoke/VarHandle" ∧ (parseMethodDescriptor y.desc).map (fun d => d.parameters.length) = some n) (hR : rm.frames + 1 ≤ R.frames ∧ 8 + (maxL + 11) + rm.locals ≤ R.locals) (hf : ce ≤ R.cells ∧ sl ≤ R.slots) (hw0 : w = wl ++ (wc ++ wr)) (ci q0 : Nat) {fs : List Value} {rc : vw_C} (hrecv : wc[q0]? = some (b, .inr (ci, fs))) (hc : vwCl[ci]? = some rc) (hrc2 : rc.1 = C) (hn : As.length = n) {st0 : List Value} (hst : st0 = As.reverse ++ .ref b :: st) (hW : (st.map fun v => v.category).sum ≤ 8) (hdg : decode cc pc = .ok (.invokevirtual index, 3)) (kk : ∀ u : U, Z p l e R s m args below meth c D A nL ce sl Q (wl ++ (wf u ++ wr)) lv (pc + 3) (.int res :: st)) : Z p l e R s m args below meth c D A nL ce sl Q w lv pc st0 := by
  subst hw0
  subst hst
  intro H locs ls hP hD hS hl
  obtain ⟨hPc, hDc⟩ := fr_part hP hD
  have hFc := fr_free hD hS X.hA
  refine va_calli (va_runV X.fix (hC H.size) (cwV n X.ts hG hw' hrc hrs hd hR) ⟨PcW_blind, by rw [← hrc2]; exact va_recv X.K hPc hc hrecv, fun U hU hW => ⟨rfl, by rw [hU], by rw [hU]; exact hPc, va_K.moved hW.alike X.K, hDc⟩⟩ rfl hn hl.1 rfl (lv_room hW) hdg hf) hS (fun q _ h => hFc q h) hFc (fun r1 u t H1 locs1 ht hvm hw hB hz1 hk1 hS1 => ?_)
  obtain rfl : r1 = res := hw
  obtain ⟨hP1, hK1, hD1⟩ := hB
  rw [ht] at hP1
  obtain ⟨hP2, hD2⟩ := fr_join hP hD hk1 hFc hP1 hD1
  exact kk u H1 locs1 ls hP2 hD2 hS1 hl
theorem z_callVv {U : Type} (X : CX p s m args meth c D ty A cc nL ret own) {y : MethodName} {ws' ws'' : List Cond} {rm : Room} {wc wl wr : va_W} {As : List Value} {b : Nat} {C : String} {wf : U → va_W} (hC : CtV l y ws' rm D ty wc (.ref b :: As) wf) {bytes : ByteArray} {maxL index n : Nat} {ret' : Option FieldType} (hG : GoodIn WS (wsV own index C y ws')) (hw' : ws' = Cond.code y bytes maxL ret' :: ws'') (hrc : rm.cells = 0) (hrs : rm.slots = 0) (hd : y.cls = C ∧ y.cls ≠ "java/lang/invoke/MethodHandle" ∧ y.cls ≠ "java/lang/invoke/VarHandle" ∧ (parseMethodDescriptor y.desc).map (fun d => d.parameters.length) = some n) (hR : rm.frames + 1 ≤ R.frames ∧ 8 + (maxL + 11) + rm.locals ≤ R.locals) (hf : ce ≤ R.cells ∧ sl ≤ R.slots) (hw0 : w = wl ++ (wc ++ wr)) (ci q0 : Nat) {fs : List Value} {rc : vw_C} (hrecv : wc[q0]? = some (b, .inr (ci, fs))) (hc : vwCl[ci]? = some rc) (hrc2 : rc.1 = C) (hn : As.length = n) {st0 : List Value} (hst : st0 = As.reverse ++ .ref b :: st) (hW : (st.map fun v => v.category).sum ≤ 8) (hdg : decode cc pc = .ok (.invokevirtual index, 3)) (kk : ∀ u : U, Z p l e R s m args below meth c D A nL ce sl Q (wl ++ (wf u ++ wr)) lv (pc + 3) st) : Z p l e R s m args below meth c D A nL ce sl Q w lv pc st0 := by
  subst hw0
  subst hst
  intro H locs ls hP hD hS hl
  obtain ⟨hPc, hDc⟩ := fr_part hP hD
  have hFc := fr_free hD hS X.hA
  refine va_callv (va_runV X.fix (hC H.size) (cwV n X.ts hG hw' hrc hrs hd hR) ⟨PcW_blind, by rw [← hrc2]; exact va_recv X.K hPc hc hrecv, fun U hU hW => ⟨rfl, by rw [hU], by rw [hU]; exact hPc, va_K.moved hW.alike X.K, hDc⟩⟩ rfl hn hl.1 rfl (lv_room hW) hdg hf) hS (fun q _ h => hFc q h) hFc (fun u t H1 locs1 ht hvm hw hB hz1 hk1 hS1 => ?_)
  obtain ⟨hP1, hK1, hD1⟩ := hB
  rw [ht] at hP1
  obtain ⟨hP2, hD2⟩ := fr_join hP hD hk1 hFc hP1 hD1
  exact kk u H1 locs1 ls hP2 hD2 hS1 hl
theorem z_callSi {U : Type} (X : CX p s m args meth c D ty A cc nL ret own) {y : MethodName} {ws' ws'' : List Cond} {rm : Room} {wc wl wr : va_W} {As : List Value} {res : Int32} {wf : U → va_W} (hC : CtI l y ws' rm D ty wc As res wf) {bytes : ByteArray} {maxL index n : Nat} {ret' : Option FieldType} (hG : GoodIn WS (va_wsS own index y ws')) (hw' : ws' = Cond.code y bytes maxL ret' :: ws'') (hrc : rm.cells = 0) (hrs : rm.slots = 0) (hd : y.cls ≠ "java/lang/invoke/MethodHandle" ∧ y.cls ≠ "java/lang/invoke/VarHandle" ∧ (parseMethodDescriptor y.desc).map (fun d => d.parameters.length) = some n) (hR : rm.frames + 1 ≤ R.frames ∧ 8 + (maxL + 11) + rm.locals ≤ R.locals) (hf : ce ≤ R.cells ∧ sl ≤ R.slots) (hw0 : w = wl ++ (wc ++ wr)) (hn : As.length = n) {st0 : List Value} (hst : st0 = As.reverse ++ st) (hW : (st.map fun v => v.category).sum ≤ 8) (hdg : decode cc pc = .ok (.invokestatic index, 3)) (kk : ∀ u : U, Z p l e R s m args below meth c D A nL ce sl Q (wl ++ (wf u ++ wr)) lv (pc + 3) (.int res :: st)) : Z p l e R s m args below meth c D A nL ce sl Q w lv pc st0 := by
  subst hw0
  subst hst
  intro H locs ls hP hD hS hl
  obtain ⟨hPc, hDc⟩ := fr_part hP hD
  have hFc := fr_free hD hS X.hA
  refine va_calli (va_runS X.fix (hC H.size) (va_cwS n X.ts hG hw' hrc hrs hd hR) ⟨PcW_blind, fun U hU hW => ⟨rfl, by rw [hU], by rw [hU]; exact hPc, va_K.moved hW.alike X.K, hDc⟩⟩ rfl hn hl.1 rfl (lv_room hW) hdg hf) hS (fun q _ h => hFc q h) hFc (fun r1 u t H1 locs1 ht hvm hw hB hz1 hk1 hS1 => ?_)
  obtain rfl : r1 = res := hw
  obtain ⟨hP1, hK1, hD1⟩ := hB
  rw [ht] at hP1
  obtain ⟨hP2, hD2⟩ := fr_join hP hD hk1 hFc hP1 hD1
  exact kk u H1 locs1 ls hP2 hD2 hS1 hl
theorem z_callSv {U : Type} (X : CX p s m args meth c D ty A cc nL ret own) {y : MethodName} {ws' ws'' : List Cond} {rm : Room} {wc wl wr : va_W} {As : List Value} {wf : U → va_W} (hC : CtV l y ws' rm D ty wc As wf) {bytes : ByteArray} {maxL index n : Nat} {ret' : Option FieldType} (hG : GoodIn WS (va_wsS own index y ws')) (hw' : ws' = Cond.code y bytes maxL ret' :: ws'') (hrc : rm.cells = 0) (hrs : rm.slots = 0) (hd : y.cls ≠ "java/lang/invoke/MethodHandle" ∧ y.cls ≠ "java/lang/invoke/VarHandle" ∧ (parseMethodDescriptor y.desc).map (fun d => d.parameters.length) = some n) (hR : rm.frames + 1 ≤ R.frames ∧ 8 + (maxL + 11) + rm.locals ≤ R.locals) (hf : ce ≤ R.cells ∧ sl ≤ R.slots) (hw0 : w = wl ++ (wc ++ wr)) (hn : As.length = n) {st0 : List Value} (hst : st0 = As.reverse ++ st) (hW : (st.map fun v => v.category).sum ≤ 8) (hdg : decode cc pc = .ok (.invokestatic index, 3)) (kk : ∀ u : U, Z p l e R s m args below meth c D A nL ce sl Q (wl ++ (wf u ++ wr)) lv (pc + 3) st) : Z p l e R s m args below meth c D A nL ce sl Q w lv pc st0 := by
  subst hw0
  subst hst
  intro H locs ls hP hD hS hl
  obtain ⟨hPc, hDc⟩ := fr_part hP hD
  have hFc := fr_free hD hS X.hA
  refine va_callv (va_runS X.fix (hC H.size) (va_cwS n X.ts hG hw' hrc hrs hd hR) ⟨PcW_blind, fun U hU hW => ⟨rfl, by rw [hU], by rw [hU]; exact hPc, va_K.moved hW.alike X.K, hDc⟩⟩ rfl hn hl.1 rfl (lv_room hW) hdg hf) hS (fun q _ h => hFc q h) hFc (fun u t H1 locs1 ht hvm hw hB hz1 hk1 hS1 => ?_)
  obtain ⟨hP1, hK1, hD1⟩ := hB
  rw [ht] at hP1
  obtain ⟨hP2, hD2⟩ := fr_join hP hD hk1 hFc hP1 hD1
  exact kk u H1 locs1 ls hP2 hD2 hS1 hl
end
end
