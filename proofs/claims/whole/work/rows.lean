section
-- ===== PART A: goes FIRST, ahead of the names: the tables' words, and 'selects' of the private methods out of them =====
/-- a private method of a class that the tables say can be made, by its rows of tables_1 -/
def lw_okq (q : MethodName × Nat) : Prop := (q.1.cls ≠ "java/lang/invoke/MethodHandle" ∧ q.1.cls ≠ "java/lang/invoke/VarHandle") ∧ Cond.instantiable q.1.cls q.2 ∈ tables_1 ∧ Cond.privateMethod q.1 ∈ tables_1 ∧ Cond.instanceMethod q.1 ∈ tables_1
theorem lw_p0 : lw_okq (⟨"ShadowLatches", "recordState", "()V"⟩, 7) := ⟨⟨by decide +kernel, by decide +kernel⟩, List.mem_of_getElem? (i := 9) (by decide +kernel), List.mem_of_getElem? (i := 166) (by decide +kernel), List.mem_of_getElem? (i := 167) (by decide +kernel)⟩
theorem lw_p1 : lw_okq (⟨"ShadowLatches", "dropOldestState", "()V"⟩, 7) := ⟨⟨by decide +kernel, by decide +kernel⟩, List.mem_of_getElem? (i := 9) (by decide +kernel), List.mem_of_getElem? (i := 170) (by decide +kernel), List.mem_of_getElem? (i := 171) (by decide +kernel)⟩
theorem lw_p2 : lw_okq (⟨"ShadowLatches", "isPath", "(I)Z"⟩, 7) := ⟨⟨by decide +kernel, by decide +kernel⟩, List.mem_of_getElem? (i := 9) (by decide +kernel), List.mem_of_getElem? (i := 185) (by decide +kernel), List.mem_of_getElem? (i := 186) (by decide +kernel)⟩
theorem lw_p3 : lw_okq (⟨"ShadowLatches$Circuit", "runOneCycle", "()V"⟩, 19) := ⟨⟨by decide +kernel, by decide +kernel⟩, List.mem_of_getElem? (i := 17) (by decide +kernel), List.mem_of_getElem? (i := 242) (by decide +kernel), List.mem_of_getElem? (i := 243) (by decide +kernel)⟩
theorem lw_p4 : lw_okq (⟨"ShadowLatches$Circuit", "countUses", "(I)V"⟩, 19) := ⟨⟨by decide +kernel, by decide +kernel⟩, List.mem_of_getElem? (i := 17) (by decide +kernel), List.mem_of_getElem? (i := 260) (by decide +kernel), List.mem_of_getElem? (i := 261) (by decide +kernel)⟩
theorem lw_p5 : lw_okq (⟨"ShadowLatches$Circuit", "spendCycle", "(I)V"⟩, 19) := ⟨⟨by decide +kernel, by decide +kernel⟩, List.mem_of_getElem? (i := 17) (by decide +kernel), List.mem_of_getElem? (i := 265) (by decide +kernel), List.mem_of_getElem? (i := 266) (by decide +kernel)⟩
theorem lw_p6 : lw_okq (⟨"ShadowLatches$Circuit", "changeHeat", "(I)V"⟩, 19) := ⟨⟨by decide +kernel, by decide +kernel⟩, List.mem_of_getElem? (i := 17) (by decide +kernel), List.mem_of_getElem? (i := 272) (by decide +kernel), List.mem_of_getElem? (i := 273) (by decide +kernel)⟩
theorem lw_p7 : lw_okq (⟨"ShadowLatches$Circuit", "complain", "()V"⟩, 19) := ⟨⟨by decide +kernel, by decide +kernel⟩, List.mem_of_getElem? (i := 17) (by decide +kernel), List.mem_of_getElem? (i := 276) (by decide +kernel), List.mem_of_getElem? (i := 277) (by decide +kernel)⟩
theorem lw_p8 : lw_okq (⟨"ShadowLatches$Circuit", "lookAtWindow", "()V"⟩, 19) := ⟨⟨by decide +kernel, by decide +kernel⟩, List.mem_of_getElem? (i := 17) (by decide +kernel), List.mem_of_getElem? (i := 280) (by decide +kernel), List.mem_of_getElem? (i := 281) (by decide +kernel)⟩
theorem lw_p9 : lw_okq (⟨"ShadowLatches", "tryCycles", "(II)V"⟩, 7) := ⟨⟨by decide +kernel, by decide +kernel⟩, List.mem_of_getElem? (i := 9) (by decide +kernel), List.mem_of_getElem? (i := 343) (by decide +kernel), List.mem_of_getElem? (i := 344) (by decide +kernel)⟩
theorem lw_p10 : lw_okq (⟨"ShadowLatchesModel", "remember", "()V"⟩, 12) := ⟨⟨by decide +kernel, by decide +kernel⟩, List.mem_of_getElem? (i := 361) (by decide +kernel), List.mem_of_getElem? (i := 416) (by decide +kernel), List.mem_of_getElem? (i := 417) (by decide +kernel)⟩
theorem lw_p11 : lw_okq (⟨"ShadowLatchesModel", "acted", "(I)I"⟩, 12) := ⟨⟨by decide +kernel, by decide +kernel⟩, List.mem_of_getElem? (i := 361) (by decide +kernel), List.mem_of_getElem? (i := 423) (by decide +kernel), List.mem_of_getElem? (i := 424) (by decide +kernel)⟩
theorem lw_p12 : lw_okq (⟨"ShadowLatchesModel", "isPath", "(I)Z"⟩, 12) := ⟨⟨by decide +kernel, by decide +kernel⟩, List.mem_of_getElem? (i := 361) (by decide +kernel), List.mem_of_getElem? (i := 431) (by decide +kernel), List.mem_of_getElem? (i := 432) (by decide +kernel)⟩
theorem lw_p13 : lw_okq (⟨"ShadowLatchesModel", "sets", "(II)I"⟩, 12) := ⟨⟨by decide +kernel, by decide +kernel⟩, List.mem_of_getElem? (i := 361) (by decide +kernel), List.mem_of_getElem? (i := 435) (by decide +kernel), List.mem_of_getElem? (i := 436) (by decide +kernel)⟩
theorem lw_p14 : lw_okq (⟨"ShadowLatchesModel", "begins", "(I)V"⟩, 12) := ⟨⟨by decide +kernel, by decide +kernel⟩, List.mem_of_getElem? (i := 361) (by decide +kernel), List.mem_of_getElem? (i := 448) (by decide +kernel), List.mem_of_getElem? (i := 449) (by decide +kernel)⟩
theorem lw_p15 : lw_okq (⟨"ShadowLatchesModel", "fault", "()I"⟩, 12) := ⟨⟨by decide +kernel, by decide +kernel⟩, List.mem_of_getElem? (i := 361) (by decide +kernel), List.mem_of_getElem? (i := 464) (by decide +kernel), List.mem_of_getElem? (i := 465) (by decide +kernel)⟩
def lw_privs_1 : List (MethodName × Nat) := [(⟨"ShadowLatches", "recordState", "()V"⟩, 7), (⟨"ShadowLatches", "dropOldestState", "()V"⟩, 7), (⟨"ShadowLatches", "isPath", "(I)Z"⟩, 7), (⟨"ShadowLatches$Circuit", "runOneCycle", "()V"⟩, 19), (⟨"ShadowLatches$Circuit", "countUses", "(I)V"⟩, 19), (⟨"ShadowLatches$Circuit", "spendCycle", "(I)V"⟩, 19), (⟨"ShadowLatches$Circuit", "changeHeat", "(I)V"⟩, 19), (⟨"ShadowLatches$Circuit", "complain", "()V"⟩, 19), (⟨"ShadowLatches$Circuit", "lookAtWindow", "()V"⟩, 19), (⟨"ShadowLatches", "tryCycles", "(II)V"⟩, 7), (⟨"ShadowLatchesModel", "remember", "()V"⟩, 12), (⟨"ShadowLatchesModel", "acted", "(I)I"⟩, 12), (⟨"ShadowLatchesModel", "isPath", "(I)Z"⟩, 12), (⟨"ShadowLatchesModel", "sets", "(II)I"⟩, 12), (⟨"ShadowLatchesModel", "begins", "(I)V"⟩, 12), (⟨"ShadowLatchesModel", "fault", "()I"⟩, 12)]
theorem lw_r1 : ∀ q ∈ lw_privs_1, lw_okq q := List.forall_mem_cons.mpr ⟨lw_p0, List.forall_mem_cons.mpr ⟨lw_p1, List.forall_mem_cons.mpr ⟨lw_p2, List.forall_mem_cons.mpr ⟨lw_p3, List.forall_mem_cons.mpr ⟨lw_p4, List.forall_mem_cons.mpr ⟨lw_p5, List.forall_mem_cons.mpr ⟨lw_p6, List.forall_mem_cons.mpr ⟨lw_p7, List.forall_mem_cons.mpr ⟨lw_p8, List.forall_mem_cons.mpr ⟨lw_p9, List.forall_mem_cons.mpr ⟨lw_p10, List.forall_mem_cons.mpr ⟨lw_p11, List.forall_mem_cons.mpr ⟨lw_p12, List.forall_mem_cons.mpr ⟨lw_p13, List.forall_mem_cons.mpr ⟨lw_p14, List.forall_mem_cons.mpr ⟨lw_p15, fun _ h => absurd h List.not_mem_nil⟩⟩⟩⟩⟩⟩⟩⟩⟩⟩⟩⟩⟩⟩⟩⟩
theorem lw_p16 : lw_okq (⟨"ShadowLatchesModel", "readsSet", "()Z"⟩, 12) := ⟨⟨by decide +kernel, by decide +kernel⟩, List.mem_of_getElem? (i := 361) (by decide +kernel), List.mem_of_getElem? (i := 468) (by decide +kernel), List.mem_of_getElem? (i := 469) (by decide +kernel)⟩
theorem lw_p17 : lw_okq (⟨"ShadowLatchesModel", "takes", "(I)Z"⟩, 12) := ⟨⟨by decide +kernel, by decide +kernel⟩, List.mem_of_getElem? (i := 361) (by decide +kernel), List.mem_of_getElem? (i := 472) (by decide +kernel), List.mem_of_getElem? (i := 473) (by decide +kernel)⟩
theorem lw_p18 : lw_okq (⟨"ShadowLatchesModel", "isHere", "(II)Z"⟩, 12) := ⟨⟨by decide +kernel, by decide +kernel⟩, List.mem_of_getElem? (i := 361) (by decide +kernel), List.mem_of_getElem? (i := 476) (by decide +kernel), List.mem_of_getElem? (i := 477) (by decide +kernel)⟩
theorem lw_p19 : lw_okq (⟨"ShadowLatchesModel", "cycles", "()V"⟩, 12) := ⟨⟨by decide +kernel, by decide +kernel⟩, List.mem_of_getElem? (i := 361) (by decide +kernel), List.mem_of_getElem? (i := 510) (by decide +kernel), List.mem_of_getElem? (i := 511) (by decide +kernel)⟩
theorem lw_p20 : lw_okq (⟨"ShadowLatchesModel", "worstOf", "(I)I"⟩, 12) := ⟨⟨by decide +kernel, by decide +kernel⟩, List.mem_of_getElem? (i := 361) (by decide +kernel), List.mem_of_getElem? (i := 514) (by decide +kernel), List.mem_of_getElem? (i := 515) (by decide +kernel)⟩
theorem lw_p21 : lw_okq (⟨"ShadowLatchesModel", "stateWith", "(II)I"⟩, 12) := ⟨⟨by decide +kernel, by decide +kernel⟩, List.mem_of_getElem? (i := 361) (by decide +kernel), List.mem_of_getElem? (i := 521) (by decide +kernel), List.mem_of_getElem? (i := 522) (by decide +kernel)⟩
theorem lw_p22 : lw_okq (⟨"ShadowLatchesModel", "delayWith", "(III)I"⟩, 12) := ⟨⟨by decide +kernel, by decide +kernel⟩, List.mem_of_getElem? (i := 361) (by decide +kernel), List.mem_of_getElem? (i := 525) (by decide +kernel), List.mem_of_getElem? (i := 526) (by decide +kernel)⟩
theorem lw_p23 : lw_okq (⟨"ShadowLatchesModel", "spends", "(I)V"⟩, 12) := ⟨⟨by decide +kernel, by decide +kernel⟩, List.mem_of_getElem? (i := 361) (by decide +kernel), List.mem_of_getElem? (i := 529) (by decide +kernel), List.mem_of_getElem? (i := 530) (by decide +kernel)⟩
theorem lw_p24 : lw_okq (⟨"ShadowLatchesModel", "looks", "()V"⟩, 12) := ⟨⟨by decide +kernel, by decide +kernel⟩, List.mem_of_getElem? (i := 361) (by decide +kernel), List.mem_of_getElem? (i := 533) (by decide +kernel), List.mem_of_getElem? (i := 534) (by decide +kernel)⟩
theorem lw_p25 : lw_okq (⟨"ShadowLatchesModel", "setsWith", "(I)I"⟩, 12) := ⟨⟨by decide +kernel, by decide +kernel⟩, List.mem_of_getElem? (i := 361) (by decide +kernel), List.mem_of_getElem? (i := 553) (by decide +kernel), List.mem_of_getElem? (i := 554) (by decide +kernel)⟩
theorem lw_p26 : lw_okq (⟨"ShadowLatchesModel", "areWell", "(II)Z"⟩, 12) := ⟨⟨by decide +kernel, by decide +kernel⟩, List.mem_of_getElem? (i := 361) (by decide +kernel), List.mem_of_getElem? (i := 570) (by decide +kernel), List.mem_of_getElem? (i := 571) (by decide +kernel)⟩
theorem lw_p27 : lw_okq (⟨"ShadowLatchesModel", "brings", "(III)I"⟩, 12) := ⟨⟨by decide +kernel, by decide +kernel⟩, List.mem_of_getElem? (i := 361) (by decide +kernel), List.mem_of_getElem? (i := 579) (by decide +kernel), List.mem_of_getElem? (i := 580) (by decide +kernel)⟩
theorem lw_p28 : lw_okq (⟨"ShadowLatchesModel", "energySince", "([I)I"⟩, 12) := ⟨⟨by decide +kernel, by decide +kernel⟩, List.mem_of_getElem? (i := 361) (by decide +kernel), List.mem_of_getElem? (i := 583) (by decide +kernel), List.mem_of_getElem? (i := 584) (by decide +kernel)⟩
theorem lw_p29 : lw_okq (⟨"ShadowLatchesModel", "pathsThat", "(I)I"⟩, 12) := ⟨⟨by decide +kernel, by decide +kernel⟩, List.mem_of_getElem? (i := 361) (by decide +kernel), List.mem_of_getElem? (i := 598) (by decide +kernel), List.mem_of_getElem? (i := 599) (by decide +kernel)⟩
def lw_privs_2 : List (MethodName × Nat) := [(⟨"ShadowLatchesModel", "readsSet", "()Z"⟩, 12), (⟨"ShadowLatchesModel", "takes", "(I)Z"⟩, 12), (⟨"ShadowLatchesModel", "isHere", "(II)Z"⟩, 12), (⟨"ShadowLatchesModel", "cycles", "()V"⟩, 12), (⟨"ShadowLatchesModel", "worstOf", "(I)I"⟩, 12), (⟨"ShadowLatchesModel", "stateWith", "(II)I"⟩, 12), (⟨"ShadowLatchesModel", "delayWith", "(III)I"⟩, 12), (⟨"ShadowLatchesModel", "spends", "(I)V"⟩, 12), (⟨"ShadowLatchesModel", "looks", "()V"⟩, 12), (⟨"ShadowLatchesModel", "setsWith", "(I)I"⟩, 12), (⟨"ShadowLatchesModel", "areWell", "(II)Z"⟩, 12), (⟨"ShadowLatchesModel", "brings", "(III)I"⟩, 12), (⟨"ShadowLatchesModel", "energySince", "([I)I"⟩, 12), (⟨"ShadowLatchesModel", "pathsThat", "(I)I"⟩, 12)]
theorem lw_r2 : ∀ q ∈ lw_privs_2, lw_okq q := List.forall_mem_cons.mpr ⟨lw_p16, List.forall_mem_cons.mpr ⟨lw_p17, List.forall_mem_cons.mpr ⟨lw_p18, List.forall_mem_cons.mpr ⟨lw_p19, List.forall_mem_cons.mpr ⟨lw_p20, List.forall_mem_cons.mpr ⟨lw_p21, List.forall_mem_cons.mpr ⟨lw_p22, List.forall_mem_cons.mpr ⟨lw_p23, List.forall_mem_cons.mpr ⟨lw_p24, List.forall_mem_cons.mpr ⟨lw_p25, List.forall_mem_cons.mpr ⟨lw_p26, List.forall_mem_cons.mpr ⟨lw_p27, List.forall_mem_cons.mpr ⟨lw_p28, List.forall_mem_cons.mpr ⟨lw_p29, fun _ h => absurd h List.not_mem_nil⟩⟩⟩⟩⟩⟩⟩⟩⟩⟩⟩⟩⟩⟩
def lw_privs : List (MethodName × Nat) := lw_privs_1 ++ (lw_privs_2)
def lw_tbl : List Cond := k2_sels lw_privs ++ tables_1
theorem lw_privs_ok : ∀ q ∈ lw_privs, lw_okq q := by
  show ∀ q ∈ lw_privs_1 ++ (lw_privs_2), lw_okq q
  exact List.forall_mem_append.mpr ⟨lw_r1, lw_r2⟩
end
section
def RX0 : String := "ShadowLatches$Circuit"
def TX0 : u_T := fun k => match k with
  | 0 => ("ShadowLatches$Circuit", "lengths", "[I", true)
  | 1 => ("ShadowLatches$Circuit", "uses", "[I", true)
  | 2 => ("ShadowLatches$Circuit", "paths", "I", false)
  | 3 => ("ShadowLatches$Circuit", "sets", "[I", true)
  | 4 => ("ShadowLatches$Circuit", "setCount", "I", false)
  | 5 => ("ShadowLatches$Circuit", "place", "I", false)
  | 6 => ("ShadowLatches$Circuit", "settings", "[I", true)
  | 7 => ("ShadowLatches$Circuit", "voltage", "I", false)
  | 8 => ("ShadowLatches$Circuit", "heat", "I", false)
  | 9 => ("ShadowLatches$Circuit", "governed", "Z", false)
  | 10 => ("ShadowLatches$Circuit", "windowCycles", "I", false)
  | 11 => ("ShadowLatches$Circuit", "windowComplaints", "I", false)
  | 12 => ("ShadowLatches$Circuit", "spent", "I", false)
  | 13 => ("ShadowLatches$Circuit", "work", "I", false)
  | 14 => ("ShadowLatches$Circuit", "complaints", "I", false)
  | 15 => ("ShadowLatches$Circuit", "lost", "I", false)
  | 16 => ("ShadowLatches$Circuit", "energy", "J", false)
  | 17 => ("ShadowLatches$Circuit", "stepsUp", "I", false)
  | _ => ("ShadowLatches$Circuit", "stepsDown", "I", false)
def tyX0 : Nat → FieldType := fun k => match k with
  | 0 => .array .int
  | 1 => .array .int
  | 2 => .int
  | 3 => .array .int
  | 4 => .int
  | 5 => .int
  | 6 => .array .int
  | 7 => .int
  | 8 => .int
  | 9 => .boolean
  | 10 => .int
  | 11 => .int
  | 12 => .int
  | 13 => .int
  | 14 => .int
  | 15 => .int
  | 16 => .long
  | 17 => .int
  | _ => .int
abbrev wsX00 : List Cond := u_ws RX0 TX0 19
theorem nmX0 : ∀ a, a < 19 → ∀ b, b < 19 → a ≠ b → (TX0 a).2.1 ≠ (TX0 b).2.1 := by decide +kernel
theorem tyX0_ok : ∀ k, k < 19 → parseFieldDescriptor (TX0 k).2.2.1 = some (tyX0 k) := by decide +kernel
abbrev cX0_init : ByteArray := prog_2_method_1_code
def yX0_init : MethodName := ⟨RX0, "<init>", "()V"⟩
abbrev cX0_copyFrom : ByteArray := prog_2_method_2_code
def yX0_copyFrom : MethodName := ⟨RX0, "copyFrom", "(LShadowLatches$Circuit;)V"⟩
abbrev cX0_beginWorkload : ByteArray := prog_2_method_3_code
def yX0_beginWorkload : MethodName := ⟨RX0, "beginWorkload", "(I)V"⟩
abbrev cX0_beginWindow : ByteArray := prog_2_method_4_code
def yX0_beginWindow : MethodName := ⟨RX0, "beginWindow", "()V"⟩
abbrev cX0_delayOf : ByteArray := prog_2_method_5_code
def yX0_delayOf : MethodName := ⟨RX0, "delayOf", "(III)I"⟩
abbrev cX0_delayNow : ByteArray := prog_2_method_6_code
def yX0_delayNow : MethodName := ⟨RX0, "delayNow", "(I)I"⟩
abbrev cX0_judge : ByteArray := prog_2_method_7_code
def yX0_judge : MethodName := ⟨RX0, "judge", "(I)I"⟩
abbrev cX0_pathsJudged : ByteArray := prog_2_method_8_code
def yX0_pathsJudged : MethodName := ⟨RX0, "pathsJudged", "(I)I"⟩
abbrev cX0_setsWith : ByteArray := prog_2_method_9_code
def yX0_setsWith : MethodName := ⟨RX0, "setsWith", "(I)I"⟩
abbrev cX0_longestOf : ByteArray := prog_2_method_10_code
def yX0_longestOf : MethodName := ⟨RX0, "longestOf", "(I)I"⟩
abbrev cX0_longestInWorkload : ByteArray := prog_2_method_11_code
def yX0_longestInWorkload : MethodName := ⟨RX0, "longestInWorkload", "()I"⟩
abbrev cX0_runCycles : ByteArray := prog_2_method_12_code
def yX0_runCycles : MethodName := ⟨RX0, "runCycles", "(I)V"⟩
abbrev cX0_runOneCycle : ByteArray := prog_2_method_13_code
def yX0_runOneCycle : MethodName := ⟨RX0, "runOneCycle", "()V"⟩
abbrev cX0_countUses : ByteArray := prog_2_method_14_code
def yX0_countUses : MethodName := ⟨RX0, "countUses", "(I)V"⟩
abbrev cX0_complain : ByteArray := prog_2_method_15_code
def yX0_complain : MethodName := ⟨RX0, "complain", "()V"⟩
abbrev cX0_spendCycle : ByteArray := prog_2_method_16_code
def yX0_spendCycle : MethodName := ⟨RX0, "spendCycle", "(I)V"⟩
abbrev cX0_changeHeat : ByteArray := prog_2_method_17_code
def yX0_changeHeat : MethodName := ⟨RX0, "changeHeat", "(I)V"⟩
abbrev cX0_lookAtWindow : ByteArray := prog_2_method_18_code
def yX0_lookAtWindow : MethodName := ⟨RX0, "lookAtWindow", "()V"⟩
def RX1 : String := "ShadowLatches$WorkloadText"
def TX1 : u_T := fun k => match k with
  | 0 => ("ShadowLatches$WorkloadText", "characters", "[C", true)
  | 1 => ("ShadowLatches$WorkloadText", "length", "I", false)
  | 2 => ("ShadowLatches$WorkloadText", "sets", "[I", true)
  | _ => ("ShadowLatches$WorkloadText", "setCount", "I", false)
def tyX1 : Nat → FieldType := fun k => match k with
  | 0 => .array .char
  | 1 => .int
  | 2 => .array .int
  | _ => .int
abbrev wsX10 : List Cond := u_ws RX1 TX1 4
theorem nmX1 : ∀ a, a < 4 → ∀ b, b < 4 → a ≠ b → (TX1 a).2.1 ≠ (TX1 b).2.1 := by decide +kernel
theorem tyX1_ok : ∀ k, k < 4 → parseFieldDescriptor (TX1 k).2.2.1 = some (tyX1 k) := by decide +kernel
abbrev cX1_init : ByteArray := prog_3_method_1_code
def yX1_init : MethodName := ⟨RX1, "<init>", "()V"⟩
abbrev cX1_append : ByteArray := prog_3_method_2_code
def yX1_append : MethodName := ⟨RX1, "append", "(C)Z"⟩
abbrev cX1_read : ByteArray := prog_3_method_3_code
def yX1_read : MethodName := ⟨RX1, "read", "()I"⟩
def RX2 : String := "ShadowLatches"
def TX2 : u_T := fun k => match k with
  | 0 => ("ShadowLatches", "now", "LShadowLatches$Circuit;", true)
  | 1 => ("ShadowLatches", "kept", "LShadowLatches$Circuit;", true)
  | 2 => ("ShadowLatches", "trial", "LShadowLatches$Circuit;", true)
  | 3 => ("ShadowLatches", "history", "[LShadowLatches$Circuit;", true)
  | 4 => ("ShadowLatches", "text", "LShadowLatches$WorkloadText;", true)
  | 5 => ("ShadowLatches", "states", "I", false)
  | _ => ("ShadowLatches", "hasKept", "Z", false)
def tyX2 : Nat → FieldType := fun k => match k with
  | 0 => .object "ShadowLatches$Circuit"
  | 1 => .object "ShadowLatches$Circuit"
  | 2 => .object "ShadowLatches$Circuit"
  | 3 => .array (.object "ShadowLatches$Circuit")
  | 4 => .object "ShadowLatches$WorkloadText"
  | 5 => .int
  | _ => .boolean
abbrev wsX20 : List Cond := u_ws RX2 TX2 7
theorem nmX2 : ∀ a, a < 7 → ∀ b, b < 7 → a ≠ b → (TX2 a).2.1 ≠ (TX2 b).2.1 := by decide +kernel
theorem tyX2_ok : ∀ k, k < 7 → parseFieldDescriptor (TX2 k).2.2.1 = some (tyX2 k) := by decide +kernel
abbrev cX2_init : ByteArray := prog_1_method_1_code
def yX2_init : MethodName := ⟨RX2, "<init>", "()V"⟩
abbrev cX2_addPath : ByteArray := prog_1_method_2_code
def yX2_addPath : MethodName := ⟨RX2, "addPath", "(I)I"⟩
abbrev cX2_setLength : ByteArray := prog_1_method_3_code
def yX2_setLength : MethodName := ⟨RX2, "setLength", "(II)I"⟩
abbrev cX2_takeWorkload : ByteArray := prog_1_method_4_code
def yX2_takeWorkload : MethodName := ⟨RX2, "takeWorkload", "()I"⟩
abbrev cX2_layWorkload : ByteArray := prog_1_method_5_code
def yX2_layWorkload : MethodName := ⟨RX2, "layWorkload", "(II)I"⟩
abbrev cX2_setVoltage : ByteArray := prog_1_method_6_code
def yX2_setVoltage : MethodName := ⟨RX2, "setVoltage", "(I)I"⟩
abbrev cX2_govern : ByteArray := prog_1_method_7_code
def yX2_govern : MethodName := ⟨RX2, "govern", "(Z)I"⟩
abbrev cX2_set : ByteArray := prog_1_method_8_code
def yX2_set : MethodName := ⟨RX2, "set", "(II)I"⟩
abbrev cX2_run : ByteArray := prog_1_method_9_code
def yX2_run : MethodName := ⟨RX2, "run", "(I)I"⟩
abbrev cX2_type : ByteArray := prog_1_method_10_code
def yX2_type : MethodName := ⟨RX2, "type", "(C)I"⟩
abbrev cX2_clearText : ByteArray := prog_1_method_11_code
def yX2_clearText : MethodName := ⟨RX2, "clearText", "()I"⟩
abbrev cX2_undo : ByteArray := prog_1_method_12_code
def yX2_undo : MethodName := ⟨RX2, "undo", "()I"⟩
abbrev cX2_keep : ByteArray := prog_1_method_13_code
def yX2_keep : MethodName := ⟨RX2, "keep", "()I"⟩
abbrev cX2_restore : ByteArray := prog_1_method_14_code
def yX2_restore : MethodName := ⟨RX2, "restore", "()I"⟩
abbrev cX2_path : ByteArray := prog_1_method_15_code
def yX2_path : MethodName := ⟨RX2, "path", "(II)I"⟩
abbrev cX2_delay : ByteArray := prog_1_method_16_code
def yX2_delay : MethodName := ⟨RX2, "delay", "(III)I"⟩
abbrev cX2_workload : ByteArray := prog_1_method_17_code
def yX2_workload : MethodName := ⟨RX2, "workload", "(I)I"⟩
abbrev cX2_least : ByteArray := prog_1_method_18_code
def yX2_least : MethodName := ⟨RX2, "least", "(Z)I"⟩
abbrev cX2_would : ByteArray := prog_1_method_19_code
def yX2_would : MethodName := ⟨RX2, "would", "(III)I"⟩
abbrev cX2_best : ByteArray := prog_1_method_20_code
def yX2_best : MethodName := ⟨RX2, "best", "(I)I"⟩
abbrev cX2_count : ByteArray := prog_1_method_21_code
def yX2_count : MethodName := ⟨RX2, "count", "(I)I"⟩
abbrev cX2_isWithin : ByteArray := prog_1_method_22_code
def yX2_isWithin : MethodName := ⟨RX2, "isWithin", "(III)Z"⟩
abbrev cX2_isLength : ByteArray := prog_1_method_23_code
def yX2_isLength : MethodName := ⟨RX2, "isLength", "(I)Z"⟩
abbrev cX2_isVoltage : ByteArray := prog_1_method_24_code
def yX2_isVoltage : MethodName := ⟨RX2, "isVoltage", "(I)Z"⟩
abbrev cX2_isPath : ByteArray := prog_1_method_25_code
def yX2_isPath : MethodName := ⟨RX2, "isPath", "(I)Z"⟩
abbrev cX2_recordState : ByteArray := prog_1_method_26_code
def yX2_recordState : MethodName := ⟨RX2, "recordState", "()V"⟩
abbrev cX2_dropOldestState : ByteArray := prog_1_method_27_code
def yX2_dropOldestState : MethodName := ⟨RX2, "dropOldestState", "()V"⟩
abbrev cX2_tryCycles : ByteArray := prog_1_method_28_code
def yX2_tryCycles : MethodName := ⟨RX2, "tryCycles", "(II)V"⟩
def RX3 : String := "ShadowLatchesModel"
def TX3 : u_T := fun k => match k with
  | 0 => ("ShadowLatchesModel", "all", "[I", true)
  | 1 => ("ShadowLatchesModel", "kept", "[I", true)
  | 2 => ("ShadowLatchesModel", "tried", "[I", true)
  | 3 => ("ShadowLatchesModel", "history", "[I", true)
  | 4 => ("ShadowLatchesModel", "historyLong", "I", false)
  | 5 => ("ShadowLatchesModel", "snapshot", "[I", true)
  | 6 => ("ShadowLatchesModel", "isTaken", "I", false)
  | 7 => ("ShadowLatchesModel", "text", "[I", true)
  | 8 => ("ShadowLatchesModel", "textLong", "I", false)
  | 9 => ("ShadowLatchesModel", "spot", "I", false)
  | 10 => ("ShadowLatchesModel", "read", "[I", true)
  | _ => ("ShadowLatchesModel", "readMany", "I", false)
def tyX3 : Nat → FieldType := fun k => match k with
  | 0 => .array .int
  | 1 => .array .int
  | 2 => .array .int
  | 3 => .array .int
  | 4 => .int
  | 5 => .array .int
  | 6 => .int
  | 7 => .array .int
  | 8 => .int
  | 9 => .int
  | 10 => .array .int
  | _ => .int
abbrev wsX30 : List Cond := u_ws RX3 TX3 12
theorem nmX3 : ∀ a, a < 12 → ∀ b, b < 12 → a ≠ b → (TX3 a).2.1 ≠ (TX3 b).2.1 := by decide +kernel
theorem tyX3_ok : ∀ k, k < 12 → parseFieldDescriptor (TX3 k).2.2.1 = some (tyX3 k) := by decide +kernel
abbrev cX3_init : ByteArray := prog_5_method_1_code
def yX3_init : MethodName := ⟨RX3, "<init>", "()V"⟩
abbrev cX3_in : ByteArray := prog_5_method_3_code
def yX3_in : MethodName := ⟨RX3, "in", "(JJJ)Z"⟩
abbrev cX3_copy : ByteArray := prog_5_method_4_code
def yX3_copy : MethodName := ⟨RX3, "copy", "([I[I)V"⟩
abbrev cX3_remember : ByteArray := prog_5_method_5_code
def yX3_remember : MethodName := ⟨RX3, "remember", "()V"⟩
abbrev cX3_acted : ByteArray := prog_5_method_6_code
def yX3_acted : MethodName := ⟨RX3, "acted", "(I)I"⟩
abbrev cX3_isPath : ByteArray := prog_5_method_7_code
def yX3_isPath : MethodName := ⟨RX3, "isPath", "(I)Z"⟩
abbrev cX3_has : ByteArray := prog_5_method_8_code
def yX3_has : MethodName := ⟨RX3, "has", "(II)Z"⟩
abbrev cX3_delayWith : ByteArray := prog_5_method_9_code
def yX3_delayWith : MethodName := ⟨RX3, "delayWith", "(III)I"⟩
abbrev cX3_stateWith : ByteArray := prog_5_method_10_code
def yX3_stateWith : MethodName := ⟨RX3, "stateWith", "(II)I"⟩
abbrev cX3_worstOf : ByteArray := prog_5_method_11_code
def yX3_worstOf : MethodName := ⟨RX3, "worstOf", "(I)I"⟩
abbrev cX3_many : ByteArray := prog_5_method_12_code
def yX3_many : MethodName := ⟨RX3, "many", "(I)I"⟩
abbrev cX3_spends : ByteArray := prog_5_method_13_code
def yX3_spends : MethodName := ⟨RX3, "spends", "(I)V"⟩
abbrev cX3_looks : ByteArray := prog_5_method_14_code
def yX3_looks : MethodName := ⟨RX3, "looks", "()V"⟩
abbrev cX3_cycles : ByteArray := prog_5_method_15_code
def yX3_cycles : MethodName := ⟨RX3, "cycles", "()V"⟩
abbrev cX3_isLength : ByteArray := prog_5_method_16_code
def yX3_isLength : MethodName := ⟨RX3, "isLength", "(I)Z"⟩
abbrev cX3_addPath : ByteArray := prog_5_method_17_code
def yX3_addPath : MethodName := ⟨RX3, "addPath", "(I)I"⟩
abbrev cX3_sets : ByteArray := prog_5_method_18_code
def yX3_sets : MethodName := ⟨RX3, "sets", "(II)I"⟩
abbrev cX3_setLength : ByteArray := prog_5_method_19_code
def yX3_setLength : MethodName := ⟨RX3, "setLength", "(II)I"⟩
abbrev cX3_begins : ByteArray := prog_5_method_20_code
def yX3_begins : MethodName := ⟨RX3, "begins", "(I)V"⟩
abbrev cX3_layWorkload : ByteArray := prog_5_method_21_code
def yX3_layWorkload : MethodName := ⟨RX3, "layWorkload", "(II)I"⟩
abbrev cX3_type : ByteArray := prog_5_method_22_code
def yX3_type : MethodName := ⟨RX3, "type", "(C)I"⟩
abbrev cX3_clearText : ByteArray := prog_5_method_23_code
def yX3_clearText : MethodName := ⟨RX3, "clearText", "()I"⟩
abbrev cX3_isHere : ByteArray := prog_5_method_24_code
def yX3_isHere : MethodName := ⟨RX3, "isHere", "(II)Z"⟩
abbrev cX3_takes : ByteArray := prog_5_method_25_code
def yX3_takes : MethodName := ⟨RX3, "takes", "(I)Z"⟩
abbrev cX3_readsSet : ByteArray := prog_5_method_26_code
def yX3_readsSet : MethodName := ⟨RX3, "readsSet", "()Z"⟩
abbrev cX3_fault : ByteArray := prog_5_method_27_code
def yX3_fault : MethodName := ⟨RX3, "fault", "()I"⟩
abbrev cX3_takeWorkload : ByteArray := prog_5_method_28_code
def yX3_takeWorkload : MethodName := ⟨RX3, "takeWorkload", "()I"⟩
abbrev cX3_isVoltage : ByteArray := prog_5_method_29_code
def yX3_isVoltage : MethodName := ⟨RX3, "isVoltage", "(I)Z"⟩
abbrev cX3_setVoltage : ByteArray := prog_5_method_30_code
def yX3_setVoltage : MethodName := ⟨RX3, "setVoltage", "(I)I"⟩
abbrev cX3_govern : ByteArray := prog_5_method_31_code
def yX3_govern : MethodName := ⟨RX3, "govern", "(Z)I"⟩
abbrev cX3_isSetting : ByteArray := prog_5_method_32_code
def yX3_isSetting : MethodName := ⟨RX3, "isSetting", "(II)Z"⟩
abbrev cX3_set : ByteArray := prog_5_method_33_code
def yX3_set : MethodName := ⟨RX3, "set", "(II)I"⟩
abbrev cX3_run : ByteArray := prog_5_method_34_code
def yX3_run : MethodName := ⟨RX3, "run", "(I)I"⟩
abbrev cX3_undo : ByteArray := prog_5_method_35_code
def yX3_undo : MethodName := ⟨RX3, "undo", "()I"⟩
abbrev cX3_keep : ByteArray := prog_5_method_36_code
def yX3_keep : MethodName := ⟨RX3, "keep", "()I"⟩
abbrev cX3_restore : ByteArray := prog_5_method_37_code
def yX3_restore : MethodName := ⟨RX3, "restore", "()I"⟩
abbrev cX3_setsWith : ByteArray := prog_5_method_38_code
def yX3_setsWith : MethodName := ⟨RX3, "setsWith", "(I)I"⟩
abbrev cX3_path : ByteArray := prog_5_method_39_code
def yX3_path : MethodName := ⟨RX3, "path", "(II)I"⟩
abbrev cX3_delay : ByteArray := prog_5_method_40_code
def yX3_delay : MethodName := ⟨RX3, "delay", "(III)I"⟩
abbrev cX3_workload : ByteArray := prog_5_method_41_code
def yX3_workload : MethodName := ⟨RX3, "workload", "(I)I"⟩
abbrev cX3_areWell : ByteArray := prog_5_method_42_code
def yX3_areWell : MethodName := ⟨RX3, "areWell", "(II)Z"⟩
abbrev cX3_least : ByteArray := prog_5_method_43_code
def yX3_least : MethodName := ⟨RX3, "least", "(Z)I"⟩
abbrev cX3_energySince : ByteArray := prog_5_method_44_code
def yX3_energySince : MethodName := ⟨RX3, "energySince", "([I)I"⟩
abbrev cX3_brings : ByteArray := prog_5_method_45_code
def yX3_brings : MethodName := ⟨RX3, "brings", "(III)I"⟩
abbrev cX3_would : ByteArray := prog_5_method_46_code
def yX3_would : MethodName := ⟨RX3, "would", "(III)I"⟩
abbrev cX3_best : ByteArray := prog_5_method_47_code
def yX3_best : MethodName := ⟨RX3, "best", "(I)I"⟩
abbrev cX3_pathsThat : ByteArray := prog_5_method_48_code
def yX3_pathsThat : MethodName := ⟨RX3, "pathsThat", "(I)I"⟩
abbrev cX3_count : ByteArray := prog_5_method_49_code
def yX3_count : MethodName := ⟨RX3, "count", "(I)I"⟩
def RJx8e188 : String := "java/lang/Cloneable"
def TJx8e188 : u_T := fun k => match k with
  | _ => ("", "", "", false)
def tyJx8e188 : Nat → FieldType := fun k => match k with
  | _ => .int
def RJ6 : String := "java/lang/Integer"
def TJ6 : u_T := fun k => match k with
  | _ => ("", "", "", false)
def tyJ6 : Nat → FieldType := fun k => match k with
  | _ => .int
abbrev cJ6_bitCount_0f7a4 : ByteArray := prog_7_method_49_code
def yJ6_bitCount_0f7a4 : MethodName := ⟨RJ6, "bitCount", "(I)I"⟩
def RJ9 : String := "java/lang/Math"
def TJ9 : u_T := fun k => match k with
  | _ => ("", "", "", false)
def tyJ9 : Nat → FieldType := fun k => match k with
  | _ => .int
abbrev cJ9_max_7cf53 : ByteArray := prog_8_method_65_code
def yJ9_max_7cf53 : MethodName := ⟨RJ9, "max", "(II)I"⟩
abbrev cJ9_min_7cf53 : ByteArray := prog_8_method_69_code
def yJ9_min_7cf53 : MethodName := ⟨RJ9, "min", "(II)I"⟩
def RJ10 : String := "java/lang/System"
def TJ10 : u_T := fun k => match k with
  | _ => ("", "", "", false)
def tyJ10 : Nat → FieldType := fun k => match k with
  | _ => .int
def RL : String := "ShadowLatchesLaw"
abbrev cL_law : ByteArray := code
def yL_law : MethodName := ⟨RL, "law", "([I)Z"⟩
abbrev vwCl : List vw_C := [(RX0, TX0, 19), (RX1, TX1, 4), (RX2, TX2, 7), (RX3, TX3, 12)]
end
section
theorem ws_all_good {w : Cond} {l : List Cond} (i : Nat) (h : l[i]? = some w) (hl : ∀ w ∈ l, w ∈ lw_tbl) (g : goodWord w = true) : w ∈ lw_tbl.filter goodWord := List.mem_filter.mpr ⟨hl w (List.mem_of_getElem? h), g⟩
def WS : List Cond := lw_tbl.filter goodWord
theorem WS_tbl : ∀ w ∈ WS, w ∈ lw_tbl := fun w h => (List.mem_filter.mp h).1
theorem WS_good : ∀ w ∈ WS, goodWord w = true := fun w h => (List.mem_filter.mp h).2
theorem tb1 : ∀ w ∈ tables_1_1, w ∈ lw_tbl := fun _ h => List.mem_append_right _ (List.mem_append_left _ h)
theorem tb2 : ∀ w ∈ tables_1_2, w ∈ lw_tbl := fun _ h => List.mem_append_right _ (List.mem_append_right _ (List.mem_append_left _ h))
theorem tb3 : ∀ w ∈ tables_1_3, w ∈ lw_tbl := fun _ h => List.mem_append_right _ (List.mem_append_right _ (List.mem_append_right _ h))
theorem tb0 : ∀ w ∈ k2_sels lw_privs, w ∈ lw_tbl := fun _ h => List.mem_append_left _ h
theorem wd1_0 : Cond.initialized "ShadowLatchesLaw" ∈ WS := ws_all_good (l := tables_1_1) 0 (by decide +kernel) tb1 (by decide +kernel)
theorem wd1_1 : Cond.initialized "ShadowLatches" ∈ WS := ws_all_good (l := tables_1_1) 1 (by decide +kernel) tb1 (by decide +kernel)
theorem wd1_2 : Cond.initialized "ShadowLatches$Circuit" ∈ WS := ws_all_good (l := tables_1_1) 2 (by decide +kernel) tb1 (by decide +kernel)
theorem wd1_3 : Cond.initialized "ShadowLatches$WorkloadText" ∈ WS := ws_all_good (l := tables_1_1) 3 (by decide +kernel) tb1 (by decide +kernel)
theorem wd1_4 : Cond.initialized "ShadowLatchesModel" ∈ WS := ws_all_good (l := tables_1_1) 4 (by decide +kernel) tb1 (by decide +kernel)
theorem wd1_5 : Cond.initialized "java/lang/System" ∈ WS := ws_all_good (l := tables_1_1) 5 (by decide +kernel) tb1 (by decide +kernel)
theorem wd1_6 : Cond.initialized "java/lang/Integer" ∈ WS := ws_all_good (l := tables_1_1) 6 (by decide +kernel) tb1 (by decide +kernel)
theorem wd1_7 : Cond.initialized "java/lang/Math" ∈ WS := ws_all_good (l := tables_1_1) 7 (by decide +kernel) tb1 (by decide +kernel)
theorem wd1_8 : Cond.classLink "ShadowLatchesLaw" (7 : Nat) "ShadowLatches" ∈ WS := ws_all_good (l := tables_1_1) 8 (by decide +kernel) tb1 (by decide +kernel)
theorem wd1_9 : Cond.instantiable "ShadowLatches" (7 : Nat) ∈ WS := ws_all_good (l := tables_1_1) 9 (by decide +kernel) tb1 (by decide +kernel)
theorem wd1_10 : Cond.methodLink "ShadowLatchesLaw" (9 : Nat) ({ cls := "ShadowLatches", name := "<init>", desc := "()V" } : MethodName) ∈ WS := ws_all_good (l := tables_1_1) 10 (by decide +kernel) tb1 (by decide +kernel)
theorem wd1_11 : Cond.instanceMethod ({ cls := "ShadowLatches", name := "<init>", desc := "()V" } : MethodName) ∈ WS := ws_all_good (l := tables_1_1) 11 (by decide +kernel) tb1 (by decide +kernel)
theorem wd1_12 : Cond.code ({ cls := "ShadowLatches", name := "<init>", desc := "()V" } : MethodName) prog_1_method_1_code (2 : Nat) (Option.none : Option FieldType) ∈ WS := ws_all_good (l := tables_1_1) 12 (by decide +kernel) tb1 (by decide +kernel)
theorem wd1_13 : Cond.methodLink "ShadowLatches" (1 : Nat) ({ cls := "java/lang/Object", name := "<init>", desc := "()V" } : MethodName) ∈ WS := ws_all_good (l := tables_1_1) 13 (by decide +kernel) tb1 (by decide +kernel)
theorem wd1_14 : Cond.instanceMethod ({ cls := "java/lang/Object", name := "<init>", desc := "()V" } : MethodName) ∈ WS := ws_all_good (l := tables_1_1) 14 (by decide +kernel) tb1 (by decide +kernel)
theorem wd1_15 : Cond.code ({ cls := "java/lang/Object", name := "<init>", desc := "()V" } : MethodName) object_method_1_code (1 : Nat) (Option.none : Option FieldType) ∈ WS := ws_all_good (l := tables_1_1) 15 (by decide +kernel) tb1 (by decide +kernel)
theorem wd1_16 : Cond.classLink "ShadowLatches" (7 : Nat) "ShadowLatches$Circuit" ∈ WS := ws_all_good (l := tables_1_1) 16 (by decide +kernel) tb1 (by decide +kernel)
theorem wd1_17 : Cond.instantiable "ShadowLatches$Circuit" (19 : Nat) ∈ WS := ws_all_good (l := tables_1_1) 17 (by decide +kernel) tb1 (by decide +kernel)
theorem wd1_18 : Cond.methodLink "ShadowLatches" (9 : Nat) ({ cls := "ShadowLatches$Circuit", name := "<init>", desc := "()V" } : MethodName) ∈ WS := ws_all_good (l := tables_1_1) 18 (by decide +kernel) tb1 (by decide +kernel)
theorem wd1_19 : Cond.instanceMethod ({ cls := "ShadowLatches$Circuit", name := "<init>", desc := "()V" } : MethodName) ∈ WS := ws_all_good (l := tables_1_1) 19 (by decide +kernel) tb1 (by decide +kernel)
theorem wd1_20 : Cond.code ({ cls := "ShadowLatches$Circuit", name := "<init>", desc := "()V" } : MethodName) prog_2_method_1_code (1 : Nat) (Option.none : Option FieldType) ∈ WS := ws_all_good (l := tables_1_1) 20 (by decide +kernel) tb1 (by decide +kernel)
theorem wd1_21 : Cond.methodLink "ShadowLatches$Circuit" (1 : Nat) ({ cls := "java/lang/Object", name := "<init>", desc := "()V" } : MethodName) ∈ WS := ws_all_good (l := tables_1_1) 21 (by decide +kernel) tb1 (by decide +kernel)
theorem wd1_22 : Cond.fieldLink "ShadowLatches$Circuit" (19 : Nat) "ShadowLatches$Circuit" "FIRST_SETTINGS" "[I" ∈ WS := ws_all_good (l := tables_1_1) 22 (by decide +kernel) tb1 (by decide +kernel)
theorem wd1_24 : Cond.methodLink "ShadowLatches$Circuit" (22 : Nat) ({ cls := "[I", name := "clone", desc := "()Ljava/lang/Object;" } : MethodName) ∈ WS := ws_all_good (l := tables_1_1) 24 (by decide +kernel) tb1 (by decide +kernel)
theorem wd1_25 : Cond.sameMethod "[I" "java/lang/Object" "clone" "()Ljava/lang/Object;" ∈ WS := ws_all_good (l := tables_1_1) 25 (by decide +kernel) tb1 (by decide +kernel)
theorem wd1_26 : Cond.native ({ cls := "java/lang/Object", name := "clone", desc := "()Ljava/lang/Object;" } : MethodName) ∈ WS := ws_all_good (l := tables_1_1) 26 (by decide +kernel) tb1 (by decide +kernel)
theorem wd1_27 : Cond.instanceMethod ({ cls := "java/lang/Object", name := "clone", desc := "()Ljava/lang/Object;" } : MethodName) ∈ WS := ws_all_good (l := tables_1_1) 27 (by decide +kernel) tb1 (by decide +kernel)
theorem wd1_28 : Cond.selects "[I" ({ cls := "[I", name := "clone", desc := "()Ljava/lang/Object;" } : MethodName) ({ cls := "java/lang/Object", name := "clone", desc := "()Ljava/lang/Object;" } : MethodName) ∈ WS := ws_all_good (l := tables_1_1) 28 (by decide +kernel) tb1 (by decide +kernel)
theorem wq1_29 : Cond.castable "[I" "java/lang/Cloneable" ∈ lw_tbl := tb1 _ (List.mem_of_getElem? (i := 29) (by decide +kernel))
theorem wd1_30 : Cond.classLink "ShadowLatches$Circuit" (23 : Nat) "[I" ∈ WS := ws_all_good (l := tables_1_1) 30 (by decide +kernel) tb1 (by decide +kernel)
theorem wd1_31 : Cond.fieldLink "ShadowLatches$Circuit" (9 : Nat) "ShadowLatches$Circuit" "lengths" "[I" ∈ WS := ws_all_good (l := tables_1_1) 31 (by decide +kernel) tb1 (by decide +kernel)
theorem wd1_32 : Cond.fieldLink "ShadowLatches" (44 : Nat) "ShadowLatches$Circuit" "lengths" "[I" ∈ WS := ws_all_good (l := tables_1_1) 32 (by decide +kernel) tb1 (by decide +kernel)
theorem wd1_33 : Cond.fieldLink "ShadowLatches$Circuit" (13 : Nat) "ShadowLatches$Circuit" "uses" "[I" ∈ WS := ws_all_good (l := tables_1_1) 33 (by decide +kernel) tb1 (by decide +kernel)
theorem wd1_34 : Cond.fieldLink "ShadowLatches" (127 : Nat) "ShadowLatches$Circuit" "uses" "[I" ∈ WS := ws_all_good (l := tables_1_1) 34 (by decide +kernel) tb1 (by decide +kernel)
theorem wd1_35 : Cond.fieldLink "ShadowLatches$Circuit" (30 : Nat) "ShadowLatches$Circuit" "paths" "I" ∈ WS := ws_all_good (l := tables_1_1) 35 (by decide +kernel) tb1 (by decide +kernel)
theorem wd1_36 : Cond.fieldLink "ShadowLatches" (37 : Nat) "ShadowLatches$Circuit" "paths" "I" ∈ WS := ws_all_good (l := tables_1_1) 36 (by decide +kernel) tb1 (by decide +kernel)
theorem wd1_37 : Cond.fieldLink "ShadowLatches$Circuit" (16 : Nat) "ShadowLatches$Circuit" "sets" "[I" ∈ WS := ws_all_good (l := tables_1_1) 37 (by decide +kernel) tb1 (by decide +kernel)
theorem wd1_38 : Cond.fieldLink "ShadowLatches" (61 : Nat) "ShadowLatches$Circuit" "sets" "[I" ∈ WS := ws_all_good (l := tables_1_1) 38 (by decide +kernel) tb1 (by decide +kernel)
theorem wd1_39 : Cond.fieldLink "ShadowLatches$Circuit" (34 : Nat) "ShadowLatches$Circuit" "setCount" "I" ∈ WS := ws_all_good (l := tables_1_1) 39 (by decide +kernel) tb1 (by decide +kernel)
theorem wd1_40 : Cond.fieldLink "ShadowLatches" (137 : Nat) "ShadowLatches$Circuit" "setCount" "I" ∈ WS := ws_all_good (l := tables_1_1) 40 (by decide +kernel) tb1 (by decide +kernel)
theorem wd1_41 : Cond.fieldLink "ShadowLatches$Circuit" (49 : Nat) "ShadowLatches$Circuit" "place" "I" ∈ WS := ws_all_good (l := tables_1_1) 41 (by decide +kernel) tb1 (by decide +kernel)
theorem wd1_42 : Cond.fieldLink "ShadowLatches" (169 : Nat) "ShadowLatches$Circuit" "place" "I" ∈ WS := ws_all_good (l := tables_1_1) 42 (by decide +kernel) tb1 (by decide +kernel)
theorem wd1_43 : Cond.fieldLink "ShadowLatches$Circuit" (27 : Nat) "ShadowLatches$Circuit" "settings" "[I" ∈ WS := ws_all_good (l := tables_1_1) 43 (by decide +kernel) tb1 (by decide +kernel)
theorem wd1_44 : Cond.fieldLink "ShadowLatches" (95 : Nat) "ShadowLatches$Circuit" "settings" "[I" ∈ WS := ws_all_good (l := tables_1_1) 44 (by decide +kernel) tb1 (by decide +kernel)
theorem wd1_45 : Cond.fieldLink "ShadowLatches$Circuit" (37 : Nat) "ShadowLatches$Circuit" "voltage" "I" ∈ WS := ws_all_good (l := tables_1_1) 45 (by decide +kernel) tb1 (by decide +kernel)
theorem wd1_46 : Cond.fieldLink "ShadowLatches" (79 : Nat) "ShadowLatches$Circuit" "voltage" "I" ∈ WS := ws_all_good (l := tables_1_1) 46 (by decide +kernel) tb1 (by decide +kernel)
theorem wd1_47 : Cond.fieldLink "ShadowLatches$Circuit" (40 : Nat) "ShadowLatches$Circuit" "heat" "I" ∈ WS := ws_all_good (l := tables_1_1) 47 (by decide +kernel) tb1 (by decide +kernel)
theorem wd1_48 : Cond.fieldLink "ShadowLatches" (141 : Nat) "ShadowLatches$Circuit" "heat" "I" ∈ WS := ws_all_good (l := tables_1_1) 48 (by decide +kernel) tb1 (by decide +kernel)
theorem wd1_49 : Cond.fieldLink "ShadowLatches$Circuit" (52 : Nat) "ShadowLatches$Circuit" "governed" "Z" ∈ WS := ws_all_good (l := tables_1_1) 49 (by decide +kernel) tb1 (by decide +kernel)
theorem wd1_50 : Cond.fieldLink "ShadowLatches" (82 : Nat) "ShadowLatches$Circuit" "governed" "Z" ∈ WS := ws_all_good (l := tables_1_1) 50 (by decide +kernel) tb1 (by decide +kernel)
theorem wd1_51 : Cond.fieldLink "ShadowLatches$Circuit" (56 : Nat) "ShadowLatches$Circuit" "windowCycles" "I" ∈ WS := ws_all_good (l := tables_1_1) 51 (by decide +kernel) tb1 (by decide +kernel)
theorem wd1_52 : Cond.fieldLink "ShadowLatches" (163 : Nat) "ShadowLatches$Circuit" "windowCycles" "I" ∈ WS := ws_all_good (l := tables_1_1) 52 (by decide +kernel) tb1 (by decide +kernel)
theorem wd1_53 : Cond.fieldLink "ShadowLatches$Circuit" (59 : Nat) "ShadowLatches$Circuit" "windowComplaints" "I" ∈ WS := ws_all_good (l := tables_1_1) 53 (by decide +kernel) tb1 (by decide +kernel)
theorem wd1_54 : Cond.fieldLink "ShadowLatches" (166 : Nat) "ShadowLatches$Circuit" "windowComplaints" "I" ∈ WS := ws_all_good (l := tables_1_1) 54 (by decide +kernel) tb1 (by decide +kernel)
theorem wd1_55 : Cond.fieldLink "ShadowLatches$Circuit" (62 : Nat) "ShadowLatches$Circuit" "spent" "I" ∈ WS := ws_all_good (l := tables_1_1) 55 (by decide +kernel) tb1 (by decide +kernel)
theorem wd1_56 : Cond.fieldLink "ShadowLatches" (155 : Nat) "ShadowLatches$Circuit" "spent" "I" ∈ WS := ws_all_good (l := tables_1_1) 56 (by decide +kernel) tb1 (by decide +kernel)
theorem wd1_57 : Cond.fieldLink "ShadowLatches$Circuit" (65 : Nat) "ShadowLatches$Circuit" "work" "I" ∈ WS := ws_all_good (l := tables_1_1) 57 (by decide +kernel) tb1 (by decide +kernel)
theorem wd1_58 : Cond.fieldLink "ShadowLatches" (158 : Nat) "ShadowLatches$Circuit" "work" "I" ∈ WS := ws_all_good (l := tables_1_1) 58 (by decide +kernel) tb1 (by decide +kernel)
theorem wd1_59 : Cond.fieldLink "ShadowLatches$Circuit" (68 : Nat) "ShadowLatches$Circuit" "complaints" "I" ∈ WS := ws_all_good (l := tables_1_1) 59 (by decide +kernel) tb1 (by decide +kernel)
theorem wd1_60 : Cond.fieldLink "ShadowLatches" (98 : Nat) "ShadowLatches$Circuit" "complaints" "I" ∈ WS := ws_all_good (l := tables_1_1) 60 (by decide +kernel) tb1 (by decide +kernel)
theorem wd1_61 : Cond.fieldLink "ShadowLatches$Circuit" (71 : Nat) "ShadowLatches$Circuit" "lost" "I" ∈ WS := ws_all_good (l := tables_1_1) 61 (by decide +kernel) tb1 (by decide +kernel)
theorem wd1_62 : Cond.fieldLink "ShadowLatches" (148 : Nat) "ShadowLatches$Circuit" "lost" "I" ∈ WS := ws_all_good (l := tables_1_1) 62 (by decide +kernel) tb1 (by decide +kernel)
theorem wd1_63 : Cond.fieldLink "ShadowLatches$Circuit" (74 : Nat) "ShadowLatches$Circuit" "energy" "J" ∈ WS := ws_all_good (l := tables_1_1) 63 (by decide +kernel) tb1 (by decide +kernel)
theorem wd1_64 : Cond.fieldLink "ShadowLatches" (151 : Nat) "ShadowLatches$Circuit" "energy" "J" ∈ WS := ws_all_good (l := tables_1_1) 64 (by decide +kernel) tb1 (by decide +kernel)
theorem wd1_65 : Cond.fieldLink "ShadowLatches$Circuit" (78 : Nat) "ShadowLatches$Circuit" "stepsUp" "I" ∈ WS := ws_all_good (l := tables_1_1) 65 (by decide +kernel) tb1 (by decide +kernel)
theorem wd1_66 : Cond.fieldLink "ShadowLatches" (175 : Nat) "ShadowLatches$Circuit" "stepsUp" "I" ∈ WS := ws_all_good (l := tables_1_1) 66 (by decide +kernel) tb1 (by decide +kernel)
theorem wd1_67 : Cond.fieldLink "ShadowLatches$Circuit" (81 : Nat) "ShadowLatches$Circuit" "stepsDown" "I" ∈ WS := ws_all_good (l := tables_1_1) 67 (by decide +kernel) tb1 (by decide +kernel)
theorem wd1_68 : Cond.fieldLink "ShadowLatches" (178 : Nat) "ShadowLatches$Circuit" "stepsDown" "I" ∈ WS := ws_all_good (l := tables_1_1) 68 (by decide +kernel) tb1 (by decide +kernel)
theorem wd1_69 : Cond.laysFinal "ShadowLatches$Circuit" "ShadowLatches$Circuit" "lengths" "[I" ∈ WS := ws_all_good (l := tables_1_1) 69 (by decide +kernel) tb1 (by decide +kernel)
theorem wd1_70 : Cond.soleField "ShadowLatches$Circuit" "lengths" ∈ WS := ws_all_good (l := tables_1_1) 70 (by decide +kernel) tb1 (by decide +kernel)
theorem wd1_71 : Cond.laysFinal "ShadowLatches$Circuit" "ShadowLatches$Circuit" "uses" "[I" ∈ WS := ws_all_good (l := tables_1_1) 71 (by decide +kernel) tb1 (by decide +kernel)
theorem wd1_72 : Cond.soleField "ShadowLatches$Circuit" "uses" ∈ WS := ws_all_good (l := tables_1_1) 72 (by decide +kernel) tb1 (by decide +kernel)
theorem wd1_73 : Cond.lays "ShadowLatches$Circuit" "ShadowLatches$Circuit" "paths" "I" ∈ WS := ws_all_good (l := tables_1_1) 73 (by decide +kernel) tb1 (by decide +kernel)
theorem wd1_74 : Cond.soleField "ShadowLatches$Circuit" "paths" ∈ WS := ws_all_good (l := tables_1_1) 74 (by decide +kernel) tb1 (by decide +kernel)
theorem wd1_75 : Cond.laysFinal "ShadowLatches$Circuit" "ShadowLatches$Circuit" "sets" "[I" ∈ WS := ws_all_good (l := tables_1_1) 75 (by decide +kernel) tb1 (by decide +kernel)
theorem wd1_76 : Cond.soleField "ShadowLatches$Circuit" "sets" ∈ WS := ws_all_good (l := tables_1_1) 76 (by decide +kernel) tb1 (by decide +kernel)
theorem wd1_77 : Cond.lays "ShadowLatches$Circuit" "ShadowLatches$Circuit" "setCount" "I" ∈ WS := ws_all_good (l := tables_1_1) 77 (by decide +kernel) tb1 (by decide +kernel)
theorem wd1_78 : Cond.soleField "ShadowLatches$Circuit" "setCount" ∈ WS := ws_all_good (l := tables_1_1) 78 (by decide +kernel) tb1 (by decide +kernel)
theorem wd1_79 : Cond.lays "ShadowLatches$Circuit" "ShadowLatches$Circuit" "place" "I" ∈ WS := ws_all_good (l := tables_1_1) 79 (by decide +kernel) tb1 (by decide +kernel)
theorem wd1_80 : Cond.soleField "ShadowLatches$Circuit" "place" ∈ WS := ws_all_good (l := tables_1_1) 80 (by decide +kernel) tb1 (by decide +kernel)
theorem wd1_81 : Cond.laysFinal "ShadowLatches$Circuit" "ShadowLatches$Circuit" "settings" "[I" ∈ WS := ws_all_good (l := tables_1_1) 81 (by decide +kernel) tb1 (by decide +kernel)
theorem wd1_82 : Cond.soleField "ShadowLatches$Circuit" "settings" ∈ WS := ws_all_good (l := tables_1_1) 82 (by decide +kernel) tb1 (by decide +kernel)
theorem wd1_83 : Cond.lays "ShadowLatches$Circuit" "ShadowLatches$Circuit" "voltage" "I" ∈ WS := ws_all_good (l := tables_1_1) 83 (by decide +kernel) tb1 (by decide +kernel)
theorem wd1_84 : Cond.soleField "ShadowLatches$Circuit" "voltage" ∈ WS := ws_all_good (l := tables_1_1) 84 (by decide +kernel) tb1 (by decide +kernel)
theorem wd1_85 : Cond.lays "ShadowLatches$Circuit" "ShadowLatches$Circuit" "heat" "I" ∈ WS := ws_all_good (l := tables_1_1) 85 (by decide +kernel) tb1 (by decide +kernel)
theorem wd1_86 : Cond.soleField "ShadowLatches$Circuit" "heat" ∈ WS := ws_all_good (l := tables_1_1) 86 (by decide +kernel) tb1 (by decide +kernel)
theorem wd1_87 : Cond.lays "ShadowLatches$Circuit" "ShadowLatches$Circuit" "governed" "Z" ∈ WS := ws_all_good (l := tables_1_1) 87 (by decide +kernel) tb1 (by decide +kernel)
theorem wd1_88 : Cond.soleField "ShadowLatches$Circuit" "governed" ∈ WS := ws_all_good (l := tables_1_1) 88 (by decide +kernel) tb1 (by decide +kernel)
theorem wd1_89 : Cond.lays "ShadowLatches$Circuit" "ShadowLatches$Circuit" "windowCycles" "I" ∈ WS := ws_all_good (l := tables_1_1) 89 (by decide +kernel) tb1 (by decide +kernel)
theorem wd1_90 : Cond.soleField "ShadowLatches$Circuit" "windowCycles" ∈ WS := ws_all_good (l := tables_1_1) 90 (by decide +kernel) tb1 (by decide +kernel)
theorem wd1_91 : Cond.lays "ShadowLatches$Circuit" "ShadowLatches$Circuit" "windowComplaints" "I" ∈ WS := ws_all_good (l := tables_1_1) 91 (by decide +kernel) tb1 (by decide +kernel)
theorem wd1_92 : Cond.soleField "ShadowLatches$Circuit" "windowComplaints" ∈ WS := ws_all_good (l := tables_1_1) 92 (by decide +kernel) tb1 (by decide +kernel)
theorem wd1_93 : Cond.lays "ShadowLatches$Circuit" "ShadowLatches$Circuit" "spent" "I" ∈ WS := ws_all_good (l := tables_1_1) 93 (by decide +kernel) tb1 (by decide +kernel)
theorem wd1_94 : Cond.soleField "ShadowLatches$Circuit" "spent" ∈ WS := ws_all_good (l := tables_1_1) 94 (by decide +kernel) tb1 (by decide +kernel)
theorem wd1_95 : Cond.lays "ShadowLatches$Circuit" "ShadowLatches$Circuit" "work" "I" ∈ WS := ws_all_good (l := tables_1_1) 95 (by decide +kernel) tb1 (by decide +kernel)
theorem wd1_96 : Cond.soleField "ShadowLatches$Circuit" "work" ∈ WS := ws_all_good (l := tables_1_1) 96 (by decide +kernel) tb1 (by decide +kernel)
theorem wd1_97 : Cond.lays "ShadowLatches$Circuit" "ShadowLatches$Circuit" "complaints" "I" ∈ WS := ws_all_good (l := tables_1_1) 97 (by decide +kernel) tb1 (by decide +kernel)
theorem wd1_98 : Cond.soleField "ShadowLatches$Circuit" "complaints" ∈ WS := ws_all_good (l := tables_1_1) 98 (by decide +kernel) tb1 (by decide +kernel)
theorem wd1_99 : Cond.lays "ShadowLatches$Circuit" "ShadowLatches$Circuit" "lost" "I" ∈ WS := ws_all_good (l := tables_1_1) 99 (by decide +kernel) tb1 (by decide +kernel)
theorem wd1_100 : Cond.soleField "ShadowLatches$Circuit" "lost" ∈ WS := ws_all_good (l := tables_1_1) 100 (by decide +kernel) tb1 (by decide +kernel)
theorem wd1_101 : Cond.lays "ShadowLatches$Circuit" "ShadowLatches$Circuit" "energy" "J" ∈ WS := ws_all_good (l := tables_1_1) 101 (by decide +kernel) tb1 (by decide +kernel)
theorem wd1_102 : Cond.soleField "ShadowLatches$Circuit" "energy" ∈ WS := ws_all_good (l := tables_1_1) 102 (by decide +kernel) tb1 (by decide +kernel)
theorem wd1_103 : Cond.lays "ShadowLatches$Circuit" "ShadowLatches$Circuit" "stepsUp" "I" ∈ WS := ws_all_good (l := tables_1_1) 103 (by decide +kernel) tb1 (by decide +kernel)
theorem wd1_104 : Cond.soleField "ShadowLatches$Circuit" "stepsUp" ∈ WS := ws_all_good (l := tables_1_1) 104 (by decide +kernel) tb1 (by decide +kernel)
theorem wd1_105 : Cond.lays "ShadowLatches$Circuit" "ShadowLatches$Circuit" "stepsDown" "I" ∈ WS := ws_all_good (l := tables_1_1) 105 (by decide +kernel) tb1 (by decide +kernel)
theorem wd1_106 : Cond.soleField "ShadowLatches$Circuit" "stepsDown" ∈ WS := ws_all_good (l := tables_1_1) 106 (by decide +kernel) tb1 (by decide +kernel)
theorem wd1_107 : Cond.superclass "ShadowLatches$Circuit" "java/lang/Object" ∈ WS := ws_all_good (l := tables_1_1) 107 (by decide +kernel) tb1 (by decide +kernel)
theorem wd1_108 : Cond.arrayClass FieldType.int ∈ WS := ws_all_good (l := tables_1_1) 108 (by decide +kernel) tb1 (by decide +kernel)
theorem wq1_109 : Cond.arrayOver (FieldType.object "ShadowLatches$Circuit") ∈ lw_tbl := tb1 _ (List.mem_of_getElem? (i := 109) (by decide +kernel))
theorem wd1_110 : Cond.classLink "ShadowLatches" (26 : Nat) "ShadowLatches$WorkloadText" ∈ WS := ws_all_good (l := tables_1_1) 110 (by decide +kernel) tb1 (by decide +kernel)
theorem wd1_111 : Cond.instantiable "ShadowLatches$WorkloadText" (4 : Nat) ∈ WS := ws_all_good (l := tables_1_1) 111 (by decide +kernel) tb1 (by decide +kernel)
theorem wd1_112 : Cond.methodLink "ShadowLatches" (28 : Nat) ({ cls := "ShadowLatches$WorkloadText", name := "<init>", desc := "()V" } : MethodName) ∈ WS := ws_all_good (l := tables_1_1) 112 (by decide +kernel) tb1 (by decide +kernel)
theorem wd1_113 : Cond.instanceMethod ({ cls := "ShadowLatches$WorkloadText", name := "<init>", desc := "()V" } : MethodName) ∈ WS := ws_all_good (l := tables_1_1) 113 (by decide +kernel) tb1 (by decide +kernel)
theorem wd1_114 : Cond.code ({ cls := "ShadowLatches$WorkloadText", name := "<init>", desc := "()V" } : MethodName) prog_3_method_1_code (1 : Nat) (Option.none : Option FieldType) ∈ WS := ws_all_good (l := tables_1_1) 114 (by decide +kernel) tb1 (by decide +kernel)
theorem wd1_115 : Cond.methodLink "ShadowLatches$WorkloadText" (1 : Nat) ({ cls := "java/lang/Object", name := "<init>", desc := "()V" } : MethodName) ∈ WS := ws_all_good (l := tables_1_1) 115 (by decide +kernel) tb1 (by decide +kernel)
theorem wd1_116 : Cond.fieldLink "ShadowLatches$WorkloadText" (9 : Nat) "ShadowLatches$WorkloadText" "characters" "[C" ∈ WS := ws_all_good (l := tables_1_1) 116 (by decide +kernel) tb1 (by decide +kernel)
theorem wd1_117 : Cond.fieldLink "ShadowLatches$WorkloadText" (19 : Nat) "ShadowLatches$WorkloadText" "length" "I" ∈ WS := ws_all_good (l := tables_1_1) 117 (by decide +kernel) tb1 (by decide +kernel)
theorem wd1_118 : Cond.fieldLink "ShadowLatches" (108 : Nat) "ShadowLatches$WorkloadText" "length" "I" ∈ WS := ws_all_good (l := tables_1_1) 118 (by decide +kernel) tb1 (by decide +kernel)
theorem wd1_119 : Cond.fieldLink "ShadowLatches$WorkloadText" (15 : Nat) "ShadowLatches$WorkloadText" "sets" "[I" ∈ WS := ws_all_good (l := tables_1_1) 119 (by decide +kernel) tb1 (by decide +kernel)
theorem wd1_120 : Cond.fieldLink "ShadowLatches" (58 : Nat) "ShadowLatches$WorkloadText" "sets" "[I" ∈ WS := ws_all_good (l := tables_1_1) 120 (by decide +kernel) tb1 (by decide +kernel)
theorem wd1_121 : Cond.fieldLink "ShadowLatches$WorkloadText" (23 : Nat) "ShadowLatches$WorkloadText" "setCount" "I" ∈ WS := ws_all_good (l := tables_1_1) 121 (by decide +kernel) tb1 (by decide +kernel)
theorem wd1_122 : Cond.fieldLink "ShadowLatches" (55 : Nat) "ShadowLatches$WorkloadText" "setCount" "I" ∈ WS := ws_all_good (l := tables_1_1) 122 (by decide +kernel) tb1 (by decide +kernel)
theorem wd1_123 : Cond.laysFinal "ShadowLatches$WorkloadText" "ShadowLatches$WorkloadText" "characters" "[C" ∈ WS := ws_all_good (l := tables_1_1) 123 (by decide +kernel) tb1 (by decide +kernel)
theorem wd1_124 : Cond.soleField "ShadowLatches$WorkloadText" "characters" ∈ WS := ws_all_good (l := tables_1_1) 124 (by decide +kernel) tb1 (by decide +kernel)
theorem wd1_125 : Cond.lays "ShadowLatches$WorkloadText" "ShadowLatches$WorkloadText" "length" "I" ∈ WS := ws_all_good (l := tables_1_1) 125 (by decide +kernel) tb1 (by decide +kernel)
theorem wd1_126 : Cond.soleField "ShadowLatches$WorkloadText" "length" ∈ WS := ws_all_good (l := tables_1_1) 126 (by decide +kernel) tb1 (by decide +kernel)
theorem wd1_127 : Cond.laysFinal "ShadowLatches$WorkloadText" "ShadowLatches$WorkloadText" "sets" "[I" ∈ WS := ws_all_good (l := tables_1_1) 127 (by decide +kernel) tb1 (by decide +kernel)
theorem wd1_128 : Cond.soleField "ShadowLatches$WorkloadText" "sets" ∈ WS := ws_all_good (l := tables_1_1) 128 (by decide +kernel) tb1 (by decide +kernel)
theorem wd1_129 : Cond.lays "ShadowLatches$WorkloadText" "ShadowLatches$WorkloadText" "setCount" "I" ∈ WS := ws_all_good (l := tables_1_1) 129 (by decide +kernel) tb1 (by decide +kernel)
theorem wd1_130 : Cond.soleField "ShadowLatches$WorkloadText" "setCount" ∈ WS := ws_all_good (l := tables_1_1) 130 (by decide +kernel) tb1 (by decide +kernel)
theorem wd1_131 : Cond.superclass "ShadowLatches$WorkloadText" "java/lang/Object" ∈ WS := ws_all_good (l := tables_1_1) 131 (by decide +kernel) tb1 (by decide +kernel)
theorem wd1_132 : Cond.arrayClass FieldType.char ∈ WS := ws_all_good (l := tables_1_1) 132 (by decide +kernel) tb1 (by decide +kernel)
theorem wd1_133 : Cond.fieldLink "ShadowLatches" (10 : Nat) "ShadowLatches" "now" "LShadowLatches$Circuit;" ∈ WS := ws_all_good (l := tables_1_1) 133 (by decide +kernel) tb1 (by decide +kernel)
theorem wd1_134 : Cond.fieldLink "ShadowLatches" (16 : Nat) "ShadowLatches" "kept" "LShadowLatches$Circuit;" ∈ WS := ws_all_good (l := tables_1_1) 134 (by decide +kernel) tb1 (by decide +kernel)
theorem wd1_135 : Cond.fieldLink "ShadowLatches" (19 : Nat) "ShadowLatches" "trial" "LShadowLatches$Circuit;" ∈ WS := ws_all_good (l := tables_1_1) 135 (by decide +kernel) tb1 (by decide +kernel)
theorem wd1_136 : Cond.fieldLink "ShadowLatches" (22 : Nat) "ShadowLatches" "history" "[LShadowLatches$Circuit;" ∈ WS := ws_all_good (l := tables_1_1) 136 (by decide +kernel) tb1 (by decide +kernel)
theorem wd1_137 : Cond.fieldLink "ShadowLatches" (29 : Nat) "ShadowLatches" "text" "LShadowLatches$WorkloadText;" ∈ WS := ws_all_good (l := tables_1_1) 137 (by decide +kernel) tb1 (by decide +kernel)
theorem wd1_138 : Cond.fieldLink "ShadowLatches" (111 : Nat) "ShadowLatches" "states" "I" ∈ WS := ws_all_good (l := tables_1_1) 138 (by decide +kernel) tb1 (by decide +kernel)
theorem wd1_139 : Cond.fieldLink "ShadowLatches" (118 : Nat) "ShadowLatches" "hasKept" "Z" ∈ WS := ws_all_good (l := tables_1_1) 139 (by decide +kernel) tb1 (by decide +kernel)
theorem wd1_140 : Cond.laysFinal "ShadowLatches" "ShadowLatches" "now" "LShadowLatches$Circuit;" ∈ WS := ws_all_good (l := tables_1_1) 140 (by decide +kernel) tb1 (by decide +kernel)
theorem wd1_141 : Cond.soleField "ShadowLatches" "now" ∈ WS := ws_all_good (l := tables_1_1) 141 (by decide +kernel) tb1 (by decide +kernel)
theorem wd1_142 : Cond.laysFinal "ShadowLatches" "ShadowLatches" "kept" "LShadowLatches$Circuit;" ∈ WS := ws_all_good (l := tables_1_1) 142 (by decide +kernel) tb1 (by decide +kernel)
theorem wd1_143 : Cond.soleField "ShadowLatches" "kept" ∈ WS := ws_all_good (l := tables_1_1) 143 (by decide +kernel) tb1 (by decide +kernel)
theorem wd1_144 : Cond.laysFinal "ShadowLatches" "ShadowLatches" "trial" "LShadowLatches$Circuit;" ∈ WS := ws_all_good (l := tables_1_1) 144 (by decide +kernel) tb1 (by decide +kernel)
theorem wd1_145 : Cond.soleField "ShadowLatches" "trial" ∈ WS := ws_all_good (l := tables_1_1) 145 (by decide +kernel) tb1 (by decide +kernel)
theorem wd1_146 : Cond.laysFinal "ShadowLatches" "ShadowLatches" "history" "[LShadowLatches$Circuit;" ∈ WS := ws_all_good (l := tables_1_1) 146 (by decide +kernel) tb1 (by decide +kernel)
theorem wd1_147 : Cond.soleField "ShadowLatches" "history" ∈ WS := ws_all_good (l := tables_1_1) 147 (by decide +kernel) tb1 (by decide +kernel)
theorem wd1_148 : Cond.laysFinal "ShadowLatches" "ShadowLatches" "text" "LShadowLatches$WorkloadText;" ∈ WS := ws_all_good (l := tables_1_1) 148 (by decide +kernel) tb1 (by decide +kernel)
theorem wd1_149 : Cond.soleField "ShadowLatches" "text" ∈ WS := ws_all_good (l := tables_1_1) 149 (by decide +kernel) tb1 (by decide +kernel)
theorem wd1_150 : Cond.lays "ShadowLatches" "ShadowLatches" "states" "I" ∈ WS := ws_all_good (l := tables_1_1) 150 (by decide +kernel) tb1 (by decide +kernel)
theorem wd1_151 : Cond.soleField "ShadowLatches" "states" ∈ WS := ws_all_good (l := tables_1_1) 151 (by decide +kernel) tb1 (by decide +kernel)
theorem wd1_152 : Cond.lays "ShadowLatches" "ShadowLatches" "hasKept" "Z" ∈ WS := ws_all_good (l := tables_1_1) 152 (by decide +kernel) tb1 (by decide +kernel)
theorem wd1_153 : Cond.soleField "ShadowLatches" "hasKept" ∈ WS := ws_all_good (l := tables_1_1) 153 (by decide +kernel) tb1 (by decide +kernel)
theorem wd1_154 : Cond.superclass "ShadowLatches" "java/lang/Object" ∈ WS := ws_all_good (l := tables_1_1) 154 (by decide +kernel) tb1 (by decide +kernel)
theorem wd1_155 : Cond.methodLink "ShadowLatchesLaw" (13 : Nat) ({ cls := "ShadowLatches", name := "addPath", desc := "(I)I" } : MethodName) ∈ WS := ws_all_good (l := tables_1_1) 155 (by decide +kernel) tb1 (by decide +kernel)
theorem wd1_156 : Cond.instanceMethod ({ cls := "ShadowLatches", name := "addPath", desc := "(I)I" } : MethodName) ∈ WS := ws_all_good (l := tables_1_1) 156 (by decide +kernel) tb1 (by decide +kernel)
theorem wd1_157 : Cond.selects "ShadowLatches" ({ cls := "ShadowLatches", name := "addPath", desc := "(I)I" } : MethodName) ({ cls := "ShadowLatches", name := "addPath", desc := "(I)I" } : MethodName) ∈ WS := ws_all_good (l := tables_1_1) 157 (by decide +kernel) tb1 (by decide +kernel)
theorem wd1_158 : Cond.code ({ cls := "ShadowLatches", name := "addPath", desc := "(I)I" } : MethodName) prog_1_method_2_code (3 : Nat) (Option.some FieldType.int) ∈ WS := ws_all_good (l := tables_1_1) 158 (by decide +kernel) tb1 (by decide +kernel)
theorem wd1_159 : Cond.methodLink "ShadowLatches" (33 : Nat) ({ cls := "ShadowLatches", name := "isLength", desc := "(I)Z" } : MethodName) ∈ WS := ws_all_good (l := tables_1_1) 159 (by decide +kernel) tb1 (by decide +kernel)
theorem wd1_160 : Cond.static ({ cls := "ShadowLatches", name := "isLength", desc := "(I)Z" } : MethodName) ∈ WS := ws_all_good (l := tables_1_1) 160 (by decide +kernel) tb1 (by decide +kernel)
theorem wd1_161 : Cond.code ({ cls := "ShadowLatches", name := "isLength", desc := "(I)Z" } : MethodName) prog_1_method_23_code (1 : Nat) (Option.some FieldType.boolean) ∈ WS := ws_all_good (l := tables_1_1) 161 (by decide +kernel) tb1 (by decide +kernel)
theorem wd1_162 : Cond.methodLink "ShadowLatches" (66 : Nat) ({ cls := "ShadowLatches", name := "isWithin", desc := "(III)Z" } : MethodName) ∈ WS := ws_all_good (l := tables_1_1) 162 (by decide +kernel) tb1 (by decide +kernel)
theorem wd1_163 : Cond.static ({ cls := "ShadowLatches", name := "isWithin", desc := "(III)Z" } : MethodName) ∈ WS := ws_all_good (l := tables_1_1) 163 (by decide +kernel) tb1 (by decide +kernel)
theorem wd1_164 : Cond.code ({ cls := "ShadowLatches", name := "isWithin", desc := "(III)Z" } : MethodName) prog_1_method_22_code (3 : Nat) (Option.some FieldType.boolean) ∈ WS := ws_all_good (l := tables_1_1) 164 (by decide +kernel) tb1 (by decide +kernel)
theorem wd1_165 : Cond.methodLink "ShadowLatches" (41 : Nat) ({ cls := "ShadowLatches", name := "recordState", desc := "()V" } : MethodName) ∈ WS := ws_all_good (l := tables_1_1) 165 (by decide +kernel) tb1 (by decide +kernel)
theorem wd1_167 : Cond.instanceMethod ({ cls := "ShadowLatches", name := "recordState", desc := "()V" } : MethodName) ∈ WS := ws_all_good (l := tables_1_1) 167 (by decide +kernel) tb1 (by decide +kernel)
theorem wd1_168 : Cond.code ({ cls := "ShadowLatches", name := "recordState", desc := "()V" } : MethodName) prog_1_method_26_code (1 : Nat) (Option.none : Option FieldType) ∈ WS := ws_all_good (l := tables_1_1) 168 (by decide +kernel) tb1 (by decide +kernel)
theorem wd1_169 : Cond.methodLink "ShadowLatches" (181 : Nat) ({ cls := "ShadowLatches", name := "dropOldestState", desc := "()V" } : MethodName) ∈ WS := ws_all_good (l := tables_1_1) 169 (by decide +kernel) tb1 (by decide +kernel)
theorem wd1_171 : Cond.instanceMethod ({ cls := "ShadowLatches", name := "dropOldestState", desc := "()V" } : MethodName) ∈ WS := ws_all_good (l := tables_1_1) 171 (by decide +kernel) tb1 (by decide +kernel)
theorem wd1_172 : Cond.code ({ cls := "ShadowLatches", name := "dropOldestState", desc := "()V" } : MethodName) prog_1_method_27_code (3 : Nat) (Option.none : Option FieldType) ∈ WS := ws_all_good (l := tables_1_1) 172 (by decide +kernel) tb1 (by decide +kernel)
theorem wd1_173 : Cond.methodLink "ShadowLatches" (114 : Nat) ({ cls := "ShadowLatches$Circuit", name := "copyFrom", desc := "(LShadowLatches$Circuit;)V" } : MethodName) ∈ WS := ws_all_good (l := tables_1_1) 173 (by decide +kernel) tb1 (by decide +kernel)
theorem wd1_174 : Cond.instanceMethod ({ cls := "ShadowLatches$Circuit", name := "copyFrom", desc := "(LShadowLatches$Circuit;)V" } : MethodName) ∈ WS := ws_all_good (l := tables_1_1) 174 (by decide +kernel) tb1 (by decide +kernel)
theorem wd1_175 : Cond.selects "ShadowLatches$Circuit" ({ cls := "ShadowLatches$Circuit", name := "copyFrom", desc := "(LShadowLatches$Circuit;)V" } : MethodName) ({ cls := "ShadowLatches$Circuit", name := "copyFrom", desc := "(LShadowLatches$Circuit;)V" } : MethodName) ∈ WS := ws_all_good (l := tables_1_1) 175 (by decide +kernel) tb1 (by decide +kernel)
theorem wd1_176 : Cond.code ({ cls := "ShadowLatches$Circuit", name := "copyFrom", desc := "(LShadowLatches$Circuit;)V" } : MethodName) prog_2_method_2_code (2 : Nat) (Option.none : Option FieldType) ∈ WS := ws_all_good (l := tables_1_1) 176 (by decide +kernel) tb1 (by decide +kernel)
theorem wd1_177 : Cond.methodLink "ShadowLatches$Circuit" (43 : Nat) ({ cls := "java/lang/System", name := "arraycopy", desc := "(Ljava/lang/Object;ILjava/lang/Object;II)V" } : MethodName) ∈ WS := ws_all_good (l := tables_1_1) 177 (by decide +kernel) tb1 (by decide +kernel)
theorem wd1_178 : Cond.static ({ cls := "java/lang/System", name := "arraycopy", desc := "(Ljava/lang/Object;ILjava/lang/Object;II)V" } : MethodName) ∈ WS := ws_all_good (l := tables_1_1) 178 (by decide +kernel) tb1 (by decide +kernel)
theorem wd1_179 : Cond.native ({ cls := "java/lang/System", name := "arraycopy", desc := "(Ljava/lang/Object;ILjava/lang/Object;II)V" } : MethodName) ∈ WS := ws_all_good (l := tables_1_1) 179 (by decide +kernel) tb1 (by decide +kernel)
theorem wd1_180 : Cond.methodLink "ShadowLatchesLaw" (18 : Nat) ({ cls := "ShadowLatches", name := "setLength", desc := "(II)I" } : MethodName) ∈ WS := ws_all_good (l := tables_1_1) 180 (by decide +kernel) tb1 (by decide +kernel)
theorem wd1_181 : Cond.instanceMethod ({ cls := "ShadowLatches", name := "setLength", desc := "(II)I" } : MethodName) ∈ WS := ws_all_good (l := tables_1_1) 181 (by decide +kernel) tb1 (by decide +kernel)
theorem wd1_182 : Cond.selects "ShadowLatches" ({ cls := "ShadowLatches", name := "setLength", desc := "(II)I" } : MethodName) ({ cls := "ShadowLatches", name := "setLength", desc := "(II)I" } : MethodName) ∈ WS := ws_all_good (l := tables_1_1) 182 (by decide +kernel) tb1 (by decide +kernel)
theorem wd1_183 : Cond.code ({ cls := "ShadowLatches", name := "setLength", desc := "(II)I" } : MethodName) prog_1_method_3_code (4 : Nat) (Option.some FieldType.int) ∈ WS := ws_all_good (l := tables_1_1) 183 (by decide +kernel) tb1 (by decide +kernel)
theorem wd1_184 : Cond.methodLink "ShadowLatches" (48 : Nat) ({ cls := "ShadowLatches", name := "isPath", desc := "(I)Z" } : MethodName) ∈ WS := ws_all_good (l := tables_1_1) 184 (by decide +kernel) tb1 (by decide +kernel)
theorem wd1_186 : Cond.instanceMethod ({ cls := "ShadowLatches", name := "isPath", desc := "(I)Z" } : MethodName) ∈ WS := ws_all_good (l := tables_1_1) 186 (by decide +kernel) tb1 (by decide +kernel)
theorem wd1_187 : Cond.code ({ cls := "ShadowLatches", name := "isPath", desc := "(I)Z" } : MethodName) prog_1_method_25_code (2 : Nat) (Option.some FieldType.boolean) ∈ WS := ws_all_good (l := tables_1_1) 187 (by decide +kernel) tb1 (by decide +kernel)
theorem wd1_188 : Cond.methodLink "ShadowLatchesLaw" (23 : Nat) ({ cls := "ShadowLatches", name := "takeWorkload", desc := "()I" } : MethodName) ∈ WS := ws_all_good (l := tables_1_1) 188 (by decide +kernel) tb1 (by decide +kernel)
theorem wd1_189 : Cond.instanceMethod ({ cls := "ShadowLatches", name := "takeWorkload", desc := "()I" } : MethodName) ∈ WS := ws_all_good (l := tables_1_1) 189 (by decide +kernel) tb1 (by decide +kernel)
theorem wd1_190 : Cond.selects "ShadowLatches" ({ cls := "ShadowLatches", name := "takeWorkload", desc := "()I" } : MethodName) ({ cls := "ShadowLatches", name := "takeWorkload", desc := "()I" } : MethodName) ∈ WS := ws_all_good (l := tables_1_1) 190 (by decide +kernel) tb1 (by decide +kernel)
theorem wd1_191 : Cond.code ({ cls := "ShadowLatches", name := "takeWorkload", desc := "()I" } : MethodName) prog_1_method_4_code (3 : Nat) (Option.some FieldType.int) ∈ WS := ws_all_good (l := tables_1_1) 191 (by decide +kernel) tb1 (by decide +kernel)
theorem wd1_192 : Cond.methodLink "ShadowLatches" (51 : Nat) ({ cls := "ShadowLatches$WorkloadText", name := "read", desc := "()I" } : MethodName) ∈ WS := ws_all_good (l := tables_1_1) 192 (by decide +kernel) tb1 (by decide +kernel)
theorem wd1_193 : Cond.instanceMethod ({ cls := "ShadowLatches$WorkloadText", name := "read", desc := "()I" } : MethodName) ∈ WS := ws_all_good (l := tables_1_1) 193 (by decide +kernel) tb1 (by decide +kernel)
theorem wd1_194 : Cond.selects "ShadowLatches$WorkloadText" ({ cls := "ShadowLatches$WorkloadText", name := "read", desc := "()I" } : MethodName) ({ cls := "ShadowLatches$WorkloadText", name := "read", desc := "()I" } : MethodName) ∈ WS := ws_all_good (l := tables_1_1) 194 (by decide +kernel) tb1 (by decide +kernel)
theorem wd1_195 : Cond.code ({ cls := "ShadowLatches$WorkloadText", name := "read", desc := "()I" } : MethodName) prog_3_method_3_code (4 : Nat) (Option.some FieldType.int) ∈ WS := ws_all_good (l := tables_1_1) 195 (by decide +kernel) tb1 (by decide +kernel)
theorem wd1_196 : Cond.methodLink "ShadowLatches" (62 : Nat) ({ cls := "ShadowLatches$Circuit", name := "beginWorkload", desc := "(I)V" } : MethodName) ∈ WS := ws_all_good (l := tables_1_1) 196 (by decide +kernel) tb1 (by decide +kernel)
theorem wd1_197 : Cond.instanceMethod ({ cls := "ShadowLatches$Circuit", name := "beginWorkload", desc := "(I)V" } : MethodName) ∈ WS := ws_all_good (l := tables_1_1) 197 (by decide +kernel) tb1 (by decide +kernel)
theorem wd1_198 : Cond.selects "ShadowLatches$Circuit" ({ cls := "ShadowLatches$Circuit", name := "beginWorkload", desc := "(I)V" } : MethodName) ({ cls := "ShadowLatches$Circuit", name := "beginWorkload", desc := "(I)V" } : MethodName) ∈ WS := ws_all_good (l := tables_1_1) 198 (by decide +kernel) tb1 (by decide +kernel)
theorem wd1_199 : Cond.code ({ cls := "ShadowLatches$Circuit", name := "beginWorkload", desc := "(I)V" } : MethodName) prog_2_method_3_code (2 : Nat) (Option.none : Option FieldType) ∈ WS := ws_all_good (l := tables_1_1) 199 (by decide +kernel) tb1 (by decide +kernel)
theorem wd1_200 : Cond.methodLink "ShadowLatchesLaw" (28 : Nat) ({ cls := "ShadowLatches", name := "layWorkload", desc := "(II)I" } : MethodName) ∈ WS := ws_all_good (l := tables_1_1) 200 (by decide +kernel) tb1 (by decide +kernel)
theorem wd1_201 : Cond.instanceMethod ({ cls := "ShadowLatches", name := "layWorkload", desc := "(II)I" } : MethodName) ∈ WS := ws_all_good (l := tables_1_1) 201 (by decide +kernel) tb1 (by decide +kernel)
theorem wd1_202 : Cond.selects "ShadowLatches" ({ cls := "ShadowLatches", name := "layWorkload", desc := "(II)I" } : MethodName) ({ cls := "ShadowLatches", name := "layWorkload", desc := "(II)I" } : MethodName) ∈ WS := ws_all_good (l := tables_1_1) 202 (by decide +kernel) tb1 (by decide +kernel)
theorem wd1_203 : Cond.code ({ cls := "ShadowLatches", name := "layWorkload", desc := "(II)I" } : MethodName) prog_1_method_5_code (6 : Nat) (Option.some FieldType.int) ∈ WS := ws_all_good (l := tables_1_1) 203 (by decide +kernel) tb1 (by decide +kernel)
theorem wd1_204 : Cond.methodLink "ShadowLatches" (70 : Nat) ({ cls := "java/lang/Integer", name := "bitCount", desc := "(I)I" } : MethodName) ∈ WS := ws_all_good (l := tables_1_1) 204 (by decide +kernel) tb1 (by decide +kernel)
theorem wd1_205 : Cond.static ({ cls := "java/lang/Integer", name := "bitCount", desc := "(I)I" } : MethodName) ∈ WS := ws_all_good (l := tables_1_1) 205 (by decide +kernel) tb1 (by decide +kernel)
theorem wd1_206 : Cond.code ({ cls := "java/lang/Integer", name := "bitCount", desc := "(I)I" } : MethodName) prog_7_method_49_code (1 : Nat) (Option.some FieldType.int) ∈ WS := ws_all_good (l := tables_1_1) 206 (by decide +kernel) tb1 (by decide +kernel)
theorem wd1_207 : Cond.constant "java/lang/Integer" (265 : Nat) (1431655765 : Int32) ∈ WS := ws_all_good (l := tables_1_1) 207 (by decide +kernel) tb1 (by decide +kernel)
theorem wd1_208 : Cond.constant "java/lang/Integer" (266 : Nat) (858993459 : Int32) ∈ WS := ws_all_good (l := tables_1_1) 208 (by decide +kernel) tb1 (by decide +kernel)
theorem wd1_209 : Cond.constant "java/lang/Integer" (267 : Nat) (252645135 : Int32) ∈ WS := ws_all_good (l := tables_1_1) 209 (by decide +kernel) tb1 (by decide +kernel)
theorem wd1_210 : Cond.methodLink "ShadowLatchesLaw" (32 : Nat) ({ cls := "ShadowLatches", name := "setVoltage", desc := "(I)I" } : MethodName) ∈ WS := ws_all_good (l := tables_1_1) 210 (by decide +kernel) tb1 (by decide +kernel)
theorem wd1_211 : Cond.instanceMethod ({ cls := "ShadowLatches", name := "setVoltage", desc := "(I)I" } : MethodName) ∈ WS := ws_all_good (l := tables_1_1) 211 (by decide +kernel) tb1 (by decide +kernel)
theorem wd1_212 : Cond.selects "ShadowLatches" ({ cls := "ShadowLatches", name := "setVoltage", desc := "(I)I" } : MethodName) ({ cls := "ShadowLatches", name := "setVoltage", desc := "(I)I" } : MethodName) ∈ WS := ws_all_good (l := tables_1_1) 212 (by decide +kernel) tb1 (by decide +kernel)
theorem wd1_213 : Cond.code ({ cls := "ShadowLatches", name := "setVoltage", desc := "(I)I" } : MethodName) prog_1_method_6_code (3 : Nat) (Option.some FieldType.int) ∈ WS := ws_all_good (l := tables_1_1) 213 (by decide +kernel) tb1 (by decide +kernel)
theorem wd1_214 : Cond.methodLink "ShadowLatches" (76 : Nat) ({ cls := "ShadowLatches", name := "isVoltage", desc := "(I)Z" } : MethodName) ∈ WS := ws_all_good (l := tables_1_1) 214 (by decide +kernel) tb1 (by decide +kernel)
theorem wd1_215 : Cond.static ({ cls := "ShadowLatches", name := "isVoltage", desc := "(I)Z" } : MethodName) ∈ WS := ws_all_good (l := tables_1_1) 215 (by decide +kernel) tb1 (by decide +kernel)
theorem wd1_216 : Cond.code ({ cls := "ShadowLatches", name := "isVoltage", desc := "(I)Z" } : MethodName) prog_1_method_24_code (1 : Nat) (Option.some FieldType.boolean) ∈ WS := ws_all_good (l := tables_1_1) 216 (by decide +kernel) tb1 (by decide +kernel)
theorem wd1_217 : Cond.methodLink "ShadowLatchesLaw" (36 : Nat) ({ cls := "ShadowLatches", name := "govern", desc := "(Z)I" } : MethodName) ∈ WS := ws_all_good (l := tables_1_1) 217 (by decide +kernel) tb1 (by decide +kernel)
theorem wd1_218 : Cond.instanceMethod ({ cls := "ShadowLatches", name := "govern", desc := "(Z)I" } : MethodName) ∈ WS := ws_all_good (l := tables_1_1) 218 (by decide +kernel) tb1 (by decide +kernel)
theorem wd1_219 : Cond.selects "ShadowLatches" ({ cls := "ShadowLatches", name := "govern", desc := "(Z)I" } : MethodName) ({ cls := "ShadowLatches", name := "govern", desc := "(Z)I" } : MethodName) ∈ WS := ws_all_good (l := tables_1_1) 219 (by decide +kernel) tb1 (by decide +kernel)
theorem wd1_220 : Cond.code ({ cls := "ShadowLatches", name := "govern", desc := "(Z)I" } : MethodName) prog_1_method_7_code (2 : Nat) (Option.some FieldType.int) ∈ WS := ws_all_good (l := tables_1_1) 220 (by decide +kernel) tb1 (by decide +kernel)
theorem wd1_221 : Cond.methodLink "ShadowLatches" (86 : Nat) ({ cls := "ShadowLatches$Circuit", name := "beginWindow", desc := "()V" } : MethodName) ∈ WS := ws_all_good (l := tables_1_1) 221 (by decide +kernel) tb1 (by decide +kernel)
theorem wd1_222 : Cond.instanceMethod ({ cls := "ShadowLatches$Circuit", name := "beginWindow", desc := "()V" } : MethodName) ∈ WS := ws_all_good (l := tables_1_1) 222 (by decide +kernel) tb1 (by decide +kernel)
theorem wd1_223 : Cond.selects "ShadowLatches$Circuit" ({ cls := "ShadowLatches$Circuit", name := "beginWindow", desc := "()V" } : MethodName) ({ cls := "ShadowLatches$Circuit", name := "beginWindow", desc := "()V" } : MethodName) ∈ WS := ws_all_good (l := tables_1_1) 223 (by decide +kernel) tb1 (by decide +kernel)
theorem wd1_224 : Cond.code ({ cls := "ShadowLatches$Circuit", name := "beginWindow", desc := "()V" } : MethodName) prog_2_method_4_code (1 : Nat) (Option.none : Option FieldType) ∈ WS := ws_all_good (l := tables_1_1) 224 (by decide +kernel) tb1 (by decide +kernel)
theorem wd1_225 : Cond.methodLink "ShadowLatchesLaw" (41 : Nat) ({ cls := "ShadowLatches", name := "set", desc := "(II)I" } : MethodName) ∈ WS := ws_all_good (l := tables_1_1) 225 (by decide +kernel) tb1 (by decide +kernel)
theorem wd1_226 : Cond.instanceMethod ({ cls := "ShadowLatches", name := "set", desc := "(II)I" } : MethodName) ∈ WS := ws_all_good (l := tables_1_1) 226 (by decide +kernel) tb1 (by decide +kernel)
theorem wd1_227 : Cond.selects "ShadowLatches" ({ cls := "ShadowLatches", name := "set", desc := "(II)I" } : MethodName) ({ cls := "ShadowLatches", name := "set", desc := "(II)I" } : MethodName) ∈ WS := ws_all_good (l := tables_1_1) 227 (by decide +kernel) tb1 (by decide +kernel)
theorem wd1_228 : Cond.code ({ cls := "ShadowLatches", name := "set", desc := "(II)I" } : MethodName) prog_1_method_8_code (4 : Nat) (Option.some FieldType.int) ∈ WS := ws_all_good (l := tables_1_1) 228 (by decide +kernel) tb1 (by decide +kernel)
theorem wd1_229 : Cond.fieldLink "ShadowLatches" (89 : Nat) "ShadowLatches$Circuit" "LEAST_SETTINGS" "[I" ∈ WS := ws_all_good (l := tables_1_1) 229 (by decide +kernel) tb1 (by decide +kernel)
theorem wd1_231 : Cond.fieldLink "ShadowLatches" (92 : Nat) "ShadowLatches$Circuit" "MOST_SETTINGS" "[I" ∈ WS := ws_all_good (l := tables_1_1) 231 (by decide +kernel) tb1 (by decide +kernel)
theorem wd1_233 : Cond.methodLink "ShadowLatchesLaw" (45 : Nat) ({ cls := "ShadowLatches", name := "run", desc := "(I)I" } : MethodName) ∈ WS := ws_all_good (l := tables_1_1) 233 (by decide +kernel) tb1 (by decide +kernel)
theorem wd1_234 : Cond.instanceMethod ({ cls := "ShadowLatches", name := "run", desc := "(I)I" } : MethodName) ∈ WS := ws_all_good (l := tables_1_1) 234 (by decide +kernel) tb1 (by decide +kernel)
theorem wd1_235 : Cond.selects "ShadowLatches" ({ cls := "ShadowLatches", name := "run", desc := "(I)I" } : MethodName) ({ cls := "ShadowLatches", name := "run", desc := "(I)I" } : MethodName) ∈ WS := ws_all_good (l := tables_1_1) 235 (by decide +kernel) tb1 (by decide +kernel)
theorem wd1_236 : Cond.code ({ cls := "ShadowLatches", name := "run", desc := "(I)I" } : MethodName) prog_1_method_9_code (3 : Nat) (Option.some FieldType.int) ∈ WS := ws_all_good (l := tables_1_1) 236 (by decide +kernel) tb1 (by decide +kernel)
theorem wd1_237 : Cond.methodLink "ShadowLatches" (101 : Nat) ({ cls := "ShadowLatches$Circuit", name := "runCycles", desc := "(I)V" } : MethodName) ∈ WS := ws_all_good (l := tables_1_1) 237 (by decide +kernel) tb1 (by decide +kernel)
theorem wd1_238 : Cond.instanceMethod ({ cls := "ShadowLatches$Circuit", name := "runCycles", desc := "(I)V" } : MethodName) ∈ WS := ws_all_good (l := tables_1_1) 238 (by decide +kernel) tb1 (by decide +kernel)
theorem wd1_239 : Cond.selects "ShadowLatches$Circuit" ({ cls := "ShadowLatches$Circuit", name := "runCycles", desc := "(I)V" } : MethodName) ({ cls := "ShadowLatches$Circuit", name := "runCycles", desc := "(I)V" } : MethodName) ∈ WS := ws_all_good (l := tables_1_1) 239 (by decide +kernel) tb1 (by decide +kernel)
theorem wd2_0 : Cond.code ({ cls := "ShadowLatches$Circuit", name := "runCycles", desc := "(I)V" } : MethodName) prog_2_method_12_code (3 : Nat) (Option.none : Option FieldType) ∈ WS := ws_all_good (l := tables_1_2) 0 (by decide +kernel) tb2 (by decide +kernel)
theorem wd2_1 : Cond.methodLink "ShadowLatches$Circuit" (104 : Nat) ({ cls := "ShadowLatches$Circuit", name := "runOneCycle", desc := "()V" } : MethodName) ∈ WS := ws_all_good (l := tables_1_2) 1 (by decide +kernel) tb2 (by decide +kernel)
theorem wd2_3 : Cond.instanceMethod ({ cls := "ShadowLatches$Circuit", name := "runOneCycle", desc := "()V" } : MethodName) ∈ WS := ws_all_good (l := tables_1_2) 3 (by decide +kernel) tb2 (by decide +kernel)
theorem wd2_4 : Cond.code ({ cls := "ShadowLatches$Circuit", name := "runOneCycle", desc := "()V" } : MethodName) prog_2_method_13_code (3 : Nat) (Option.none : Option FieldType) ∈ WS := ws_all_good (l := tables_1_2) 4 (by decide +kernel) tb2 (by decide +kernel)
theorem wd2_5 : Cond.methodLink "ShadowLatches$Circuit" (101 : Nat) ({ cls := "ShadowLatches$Circuit", name := "longestOf", desc := "(I)I" } : MethodName) ∈ WS := ws_all_good (l := tables_1_2) 5 (by decide +kernel) tb2 (by decide +kernel)
theorem wd2_6 : Cond.instanceMethod ({ cls := "ShadowLatches$Circuit", name := "longestOf", desc := "(I)I" } : MethodName) ∈ WS := ws_all_good (l := tables_1_2) 6 (by decide +kernel) tb2 (by decide +kernel)
theorem wd2_7 : Cond.selects "ShadowLatches$Circuit" ({ cls := "ShadowLatches$Circuit", name := "longestOf", desc := "(I)I" } : MethodName) ({ cls := "ShadowLatches$Circuit", name := "longestOf", desc := "(I)I" } : MethodName) ∈ WS := ws_all_good (l := tables_1_2) 7 (by decide +kernel) tb2 (by decide +kernel)
theorem wd2_8 : Cond.code ({ cls := "ShadowLatches$Circuit", name := "longestOf", desc := "(I)I" } : MethodName) prog_2_method_10_code (4 : Nat) (Option.some FieldType.int) ∈ WS := ws_all_good (l := tables_1_2) 8 (by decide +kernel) tb2 (by decide +kernel)
theorem wd2_9 : Cond.methodLink "ShadowLatches$Circuit" (95 : Nat) ({ cls := "java/lang/Math", name := "max", desc := "(II)I" } : MethodName) ∈ WS := ws_all_good (l := tables_1_2) 9 (by decide +kernel) tb2 (by decide +kernel)
theorem wd2_10 : Cond.static ({ cls := "java/lang/Math", name := "max", desc := "(II)I" } : MethodName) ∈ WS := ws_all_good (l := tables_1_2) 10 (by decide +kernel) tb2 (by decide +kernel)
theorem wd2_11 : Cond.code ({ cls := "java/lang/Math", name := "max", desc := "(II)I" } : MethodName) prog_8_method_65_code (2 : Nat) (Option.some FieldType.int) ∈ WS := ws_all_good (l := tables_1_2) 11 (by decide +kernel) tb2 (by decide +kernel)
theorem wd2_12 : Cond.methodLink "ShadowLatches$Circuit" (84 : Nat) ({ cls := "ShadowLatches$Circuit", name := "delayOf", desc := "(III)I" } : MethodName) ∈ WS := ws_all_good (l := tables_1_2) 12 (by decide +kernel) tb2 (by decide +kernel)
theorem wd2_13 : Cond.static ({ cls := "ShadowLatches$Circuit", name := "delayOf", desc := "(III)I" } : MethodName) ∈ WS := ws_all_good (l := tables_1_2) 13 (by decide +kernel) tb2 (by decide +kernel)
theorem wd2_14 : Cond.code ({ cls := "ShadowLatches$Circuit", name := "delayOf", desc := "(III)I" } : MethodName) prog_2_method_5_code (4 : Nat) (Option.some FieldType.int) ∈ WS := ws_all_good (l := tables_1_2) 14 (by decide +kernel) tb2 (by decide +kernel)
theorem wd2_15 : Cond.methodLink "ShadowLatches$Circuit" (92 : Nat) ({ cls := "ShadowLatches$Circuit", name := "judge", desc := "(I)I" } : MethodName) ∈ WS := ws_all_good (l := tables_1_2) 15 (by decide +kernel) tb2 (by decide +kernel)
theorem wd2_16 : Cond.instanceMethod ({ cls := "ShadowLatches$Circuit", name := "judge", desc := "(I)I" } : MethodName) ∈ WS := ws_all_good (l := tables_1_2) 16 (by decide +kernel) tb2 (by decide +kernel)
theorem wd2_17 : Cond.selects "ShadowLatches$Circuit" ({ cls := "ShadowLatches$Circuit", name := "judge", desc := "(I)I" } : MethodName) ({ cls := "ShadowLatches$Circuit", name := "judge", desc := "(I)I" } : MethodName) ∈ WS := ws_all_good (l := tables_1_2) 17 (by decide +kernel) tb2 (by decide +kernel)
theorem wd2_18 : Cond.code ({ cls := "ShadowLatches$Circuit", name := "judge", desc := "(I)I" } : MethodName) prog_2_method_7_code (2 : Nat) (Option.some FieldType.int) ∈ WS := ws_all_good (l := tables_1_2) 18 (by decide +kernel) tb2 (by decide +kernel)
theorem wd2_19 : Cond.methodLink "ShadowLatches$Circuit" (110 : Nat) ({ cls := "ShadowLatches$Circuit", name := "countUses", desc := "(I)V" } : MethodName) ∈ WS := ws_all_good (l := tables_1_2) 19 (by decide +kernel) tb2 (by decide +kernel)
theorem wd2_21 : Cond.instanceMethod ({ cls := "ShadowLatches$Circuit", name := "countUses", desc := "(I)V" } : MethodName) ∈ WS := ws_all_good (l := tables_1_2) 21 (by decide +kernel) tb2 (by decide +kernel)
theorem wd2_22 : Cond.code ({ cls := "ShadowLatches$Circuit", name := "countUses", desc := "(I)V" } : MethodName) prog_2_method_14_code (3 : Nat) (Option.none : Option FieldType) ∈ WS := ws_all_good (l := tables_1_2) 22 (by decide +kernel) tb2 (by decide +kernel)
theorem wd2_23 : Cond.methodLink "ShadowLatches$Circuit" (114 : Nat) ({ cls := "java/lang/Integer", name := "bitCount", desc := "(I)I" } : MethodName) ∈ WS := ws_all_good (l := tables_1_2) 23 (by decide +kernel) tb2 (by decide +kernel)
theorem wd2_24 : Cond.methodLink "ShadowLatches$Circuit" (119 : Nat) ({ cls := "ShadowLatches$Circuit", name := "spendCycle", desc := "(I)V" } : MethodName) ∈ WS := ws_all_good (l := tables_1_2) 24 (by decide +kernel) tb2 (by decide +kernel)
theorem wd2_26 : Cond.instanceMethod ({ cls := "ShadowLatches$Circuit", name := "spendCycle", desc := "(I)V" } : MethodName) ∈ WS := ws_all_good (l := tables_1_2) 26 (by decide +kernel) tb2 (by decide +kernel)
theorem wd2_27 : Cond.code ({ cls := "ShadowLatches$Circuit", name := "spendCycle", desc := "(I)V" } : MethodName) prog_2_method_16_code (2 : Nat) (Option.none : Option FieldType) ∈ WS := ws_all_good (l := tables_1_2) 27 (by decide +kernel) tb2 (by decide +kernel)
theorem wd2_28 : Cond.methodLink "ShadowLatches$Circuit" (125 : Nat) ({ cls := "java/lang/Math", name := "min", desc := "(II)I" } : MethodName) ∈ WS := ws_all_good (l := tables_1_2) 28 (by decide +kernel) tb2 (by decide +kernel)
theorem wd2_29 : Cond.static ({ cls := "java/lang/Math", name := "min", desc := "(II)I" } : MethodName) ∈ WS := ws_all_good (l := tables_1_2) 29 (by decide +kernel) tb2 (by decide +kernel)
theorem wd2_30 : Cond.code ({ cls := "java/lang/Math", name := "min", desc := "(II)I" } : MethodName) prog_8_method_69_code (2 : Nat) (Option.some FieldType.int) ∈ WS := ws_all_good (l := tables_1_2) 30 (by decide +kernel) tb2 (by decide +kernel)
theorem wd2_31 : Cond.methodLink "ShadowLatches$Circuit" (128 : Nat) ({ cls := "ShadowLatches$Circuit", name := "changeHeat", desc := "(I)V" } : MethodName) ∈ WS := ws_all_good (l := tables_1_2) 31 (by decide +kernel) tb2 (by decide +kernel)
theorem wd2_33 : Cond.instanceMethod ({ cls := "ShadowLatches$Circuit", name := "changeHeat", desc := "(I)V" } : MethodName) ∈ WS := ws_all_good (l := tables_1_2) 33 (by decide +kernel) tb2 (by decide +kernel)
theorem wd2_34 : Cond.code ({ cls := "ShadowLatches$Circuit", name := "changeHeat", desc := "(I)V" } : MethodName) prog_2_method_17_code (2 : Nat) (Option.none : Option FieldType) ∈ WS := ws_all_good (l := tables_1_2) 34 (by decide +kernel) tb2 (by decide +kernel)
theorem wd2_35 : Cond.methodLink "ShadowLatches$Circuit" (122 : Nat) ({ cls := "ShadowLatches$Circuit", name := "complain", desc := "()V" } : MethodName) ∈ WS := ws_all_good (l := tables_1_2) 35 (by decide +kernel) tb2 (by decide +kernel)
theorem wd2_37 : Cond.instanceMethod ({ cls := "ShadowLatches$Circuit", name := "complain", desc := "()V" } : MethodName) ∈ WS := ws_all_good (l := tables_1_2) 37 (by decide +kernel) tb2 (by decide +kernel)
theorem wd2_38 : Cond.code ({ cls := "ShadowLatches$Circuit", name := "complain", desc := "()V" } : MethodName) prog_2_method_15_code (2 : Nat) (Option.none : Option FieldType) ∈ WS := ws_all_good (l := tables_1_2) 38 (by decide +kernel) tb2 (by decide +kernel)
theorem wd2_39 : Cond.methodLink "ShadowLatches$Circuit" (107 : Nat) ({ cls := "ShadowLatches$Circuit", name := "lookAtWindow", desc := "()V" } : MethodName) ∈ WS := ws_all_good (l := tables_1_2) 39 (by decide +kernel) tb2 (by decide +kernel)
theorem wd2_41 : Cond.instanceMethod ({ cls := "ShadowLatches$Circuit", name := "lookAtWindow", desc := "()V" } : MethodName) ∈ WS := ws_all_good (l := tables_1_2) 41 (by decide +kernel) tb2 (by decide +kernel)
theorem wd2_42 : Cond.code ({ cls := "ShadowLatches$Circuit", name := "lookAtWindow", desc := "()V" } : MethodName) prog_2_method_18_code (3 : Nat) (Option.none : Option FieldType) ∈ WS := ws_all_good (l := tables_1_2) 42 (by decide +kernel) tb2 (by decide +kernel)
theorem wd2_43 : Cond.methodLink "ShadowLatches$Circuit" (131 : Nat) ({ cls := "ShadowLatches$Circuit", name := "beginWindow", desc := "()V" } : MethodName) ∈ WS := ws_all_good (l := tables_1_2) 43 (by decide +kernel) tb2 (by decide +kernel)
theorem wd2_44 : Cond.methodLink "ShadowLatchesLaw" (49 : Nat) ({ cls := "ShadowLatches", name := "type", desc := "(C)I" } : MethodName) ∈ WS := ws_all_good (l := tables_1_2) 44 (by decide +kernel) tb2 (by decide +kernel)
theorem wd2_45 : Cond.instanceMethod ({ cls := "ShadowLatches", name := "type", desc := "(C)I" } : MethodName) ∈ WS := ws_all_good (l := tables_1_2) 45 (by decide +kernel) tb2 (by decide +kernel)
theorem wd2_46 : Cond.selects "ShadowLatches" ({ cls := "ShadowLatches", name := "type", desc := "(C)I" } : MethodName) ({ cls := "ShadowLatches", name := "type", desc := "(C)I" } : MethodName) ∈ WS := ws_all_good (l := tables_1_2) 46 (by decide +kernel) tb2 (by decide +kernel)
theorem wd2_47 : Cond.code ({ cls := "ShadowLatches", name := "type", desc := "(C)I" } : MethodName) prog_1_method_10_code (2 : Nat) (Option.some FieldType.int) ∈ WS := ws_all_good (l := tables_1_2) 47 (by decide +kernel) tb2 (by decide +kernel)
theorem wd2_48 : Cond.methodLink "ShadowLatches" (104 : Nat) ({ cls := "ShadowLatches$WorkloadText", name := "append", desc := "(C)Z" } : MethodName) ∈ WS := ws_all_good (l := tables_1_2) 48 (by decide +kernel) tb2 (by decide +kernel)
theorem wd2_49 : Cond.instanceMethod ({ cls := "ShadowLatches$WorkloadText", name := "append", desc := "(C)Z" } : MethodName) ∈ WS := ws_all_good (l := tables_1_2) 49 (by decide +kernel) tb2 (by decide +kernel)
theorem wd2_50 : Cond.selects "ShadowLatches$WorkloadText" ({ cls := "ShadowLatches$WorkloadText", name := "append", desc := "(C)Z" } : MethodName) ({ cls := "ShadowLatches$WorkloadText", name := "append", desc := "(C)Z" } : MethodName) ∈ WS := ws_all_good (l := tables_1_2) 50 (by decide +kernel) tb2 (by decide +kernel)
theorem wd2_51 : Cond.code ({ cls := "ShadowLatches$WorkloadText", name := "append", desc := "(C)Z" } : MethodName) prog_3_method_2_code (2 : Nat) (Option.some FieldType.boolean) ∈ WS := ws_all_good (l := tables_1_2) 51 (by decide +kernel) tb2 (by decide +kernel)
theorem wd2_52 : Cond.methodLink "ShadowLatchesLaw" (54 : Nat) ({ cls := "ShadowLatches", name := "clearText", desc := "()I" } : MethodName) ∈ WS := ws_all_good (l := tables_1_2) 52 (by decide +kernel) tb2 (by decide +kernel)
theorem wd2_53 : Cond.instanceMethod ({ cls := "ShadowLatches", name := "clearText", desc := "()I" } : MethodName) ∈ WS := ws_all_good (l := tables_1_2) 53 (by decide +kernel) tb2 (by decide +kernel)
theorem wd2_54 : Cond.selects "ShadowLatches" ({ cls := "ShadowLatches", name := "clearText", desc := "()I" } : MethodName) ({ cls := "ShadowLatches", name := "clearText", desc := "()I" } : MethodName) ∈ WS := ws_all_good (l := tables_1_2) 54 (by decide +kernel) tb2 (by decide +kernel)
theorem wd2_55 : Cond.code ({ cls := "ShadowLatches", name := "clearText", desc := "()I" } : MethodName) prog_1_method_11_code (2 : Nat) (Option.some FieldType.int) ∈ WS := ws_all_good (l := tables_1_2) 55 (by decide +kernel) tb2 (by decide +kernel)
theorem wd2_56 : Cond.methodLink "ShadowLatchesLaw" (58 : Nat) ({ cls := "ShadowLatches", name := "undo", desc := "()I" } : MethodName) ∈ WS := ws_all_good (l := tables_1_2) 56 (by decide +kernel) tb2 (by decide +kernel)
theorem wd2_57 : Cond.instanceMethod ({ cls := "ShadowLatches", name := "undo", desc := "()I" } : MethodName) ∈ WS := ws_all_good (l := tables_1_2) 57 (by decide +kernel) tb2 (by decide +kernel)
theorem wd2_58 : Cond.selects "ShadowLatches" ({ cls := "ShadowLatches", name := "undo", desc := "()I" } : MethodName) ({ cls := "ShadowLatches", name := "undo", desc := "()I" } : MethodName) ∈ WS := ws_all_good (l := tables_1_2) 58 (by decide +kernel) tb2 (by decide +kernel)
theorem wd2_59 : Cond.code ({ cls := "ShadowLatches", name := "undo", desc := "()I" } : MethodName) prog_1_method_12_code (1 : Nat) (Option.some FieldType.int) ∈ WS := ws_all_good (l := tables_1_2) 59 (by decide +kernel) tb2 (by decide +kernel)
theorem wd2_60 : Cond.methodLink "ShadowLatchesLaw" (62 : Nat) ({ cls := "ShadowLatches", name := "keep", desc := "()I" } : MethodName) ∈ WS := ws_all_good (l := tables_1_2) 60 (by decide +kernel) tb2 (by decide +kernel)
theorem wd2_61 : Cond.instanceMethod ({ cls := "ShadowLatches", name := "keep", desc := "()I" } : MethodName) ∈ WS := ws_all_good (l := tables_1_2) 61 (by decide +kernel) tb2 (by decide +kernel)
theorem wd2_62 : Cond.selects "ShadowLatches" ({ cls := "ShadowLatches", name := "keep", desc := "()I" } : MethodName) ({ cls := "ShadowLatches", name := "keep", desc := "()I" } : MethodName) ∈ WS := ws_all_good (l := tables_1_2) 62 (by decide +kernel) tb2 (by decide +kernel)
theorem wd2_63 : Cond.code ({ cls := "ShadowLatches", name := "keep", desc := "()I" } : MethodName) prog_1_method_13_code (1 : Nat) (Option.some FieldType.int) ∈ WS := ws_all_good (l := tables_1_2) 63 (by decide +kernel) tb2 (by decide +kernel)
theorem wd2_64 : Cond.methodLink "ShadowLatchesLaw" (66 : Nat) ({ cls := "ShadowLatches", name := "restore", desc := "()I" } : MethodName) ∈ WS := ws_all_good (l := tables_1_2) 64 (by decide +kernel) tb2 (by decide +kernel)
theorem wd2_65 : Cond.instanceMethod ({ cls := "ShadowLatches", name := "restore", desc := "()I" } : MethodName) ∈ WS := ws_all_good (l := tables_1_2) 65 (by decide +kernel) tb2 (by decide +kernel)
theorem wd2_66 : Cond.selects "ShadowLatches" ({ cls := "ShadowLatches", name := "restore", desc := "()I" } : MethodName) ({ cls := "ShadowLatches", name := "restore", desc := "()I" } : MethodName) ∈ WS := ws_all_good (l := tables_1_2) 66 (by decide +kernel) tb2 (by decide +kernel)
theorem wd2_67 : Cond.code ({ cls := "ShadowLatches", name := "restore", desc := "()I" } : MethodName) prog_1_method_14_code (1 : Nat) (Option.some FieldType.int) ∈ WS := ws_all_good (l := tables_1_2) 67 (by decide +kernel) tb2 (by decide +kernel)
theorem wd2_68 : Cond.methodLink "ShadowLatchesLaw" (70 : Nat) ({ cls := "ShadowLatches", name := "path", desc := "(II)I" } : MethodName) ∈ WS := ws_all_good (l := tables_1_2) 68 (by decide +kernel) tb2 (by decide +kernel)
theorem wd2_69 : Cond.instanceMethod ({ cls := "ShadowLatches", name := "path", desc := "(II)I" } : MethodName) ∈ WS := ws_all_good (l := tables_1_2) 69 (by decide +kernel) tb2 (by decide +kernel)
theorem wd2_70 : Cond.selects "ShadowLatches" ({ cls := "ShadowLatches", name := "path", desc := "(II)I" } : MethodName) ({ cls := "ShadowLatches", name := "path", desc := "(II)I" } : MethodName) ∈ WS := ws_all_good (l := tables_1_2) 70 (by decide +kernel) tb2 (by decide +kernel)
theorem wd2_71 : Cond.code ({ cls := "ShadowLatches", name := "path", desc := "(II)I" } : MethodName) prog_1_method_15_code (3 : Nat) (Option.some FieldType.int) ∈ WS := ws_all_good (l := tables_1_2) 71 (by decide +kernel) tb2 (by decide +kernel)
theorem wd2_72 : Cond.methodLink "ShadowLatches" (121 : Nat) ({ cls := "ShadowLatches$Circuit", name := "delayNow", desc := "(I)I" } : MethodName) ∈ WS := ws_all_good (l := tables_1_2) 72 (by decide +kernel) tb2 (by decide +kernel)
theorem wd2_73 : Cond.instanceMethod ({ cls := "ShadowLatches$Circuit", name := "delayNow", desc := "(I)I" } : MethodName) ∈ WS := ws_all_good (l := tables_1_2) 73 (by decide +kernel) tb2 (by decide +kernel)
theorem wd2_74 : Cond.selects "ShadowLatches$Circuit" ({ cls := "ShadowLatches$Circuit", name := "delayNow", desc := "(I)I" } : MethodName) ({ cls := "ShadowLatches$Circuit", name := "delayNow", desc := "(I)I" } : MethodName) ∈ WS := ws_all_good (l := tables_1_2) 74 (by decide +kernel) tb2 (by decide +kernel)
theorem wd2_75 : Cond.code ({ cls := "ShadowLatches$Circuit", name := "delayNow", desc := "(I)I" } : MethodName) prog_2_method_6_code (2 : Nat) (Option.some FieldType.int) ∈ WS := ws_all_good (l := tables_1_2) 75 (by decide +kernel) tb2 (by decide +kernel)
theorem wd2_76 : Cond.methodLink "ShadowLatches" (124 : Nat) ({ cls := "ShadowLatches$Circuit", name := "judge", desc := "(I)I" } : MethodName) ∈ WS := ws_all_good (l := tables_1_2) 76 (by decide +kernel) tb2 (by decide +kernel)
theorem wd2_77 : Cond.methodLink "ShadowLatches" (130 : Nat) ({ cls := "ShadowLatches$Circuit", name := "setsWith", desc := "(I)I" } : MethodName) ∈ WS := ws_all_good (l := tables_1_2) 77 (by decide +kernel) tb2 (by decide +kernel)
theorem wd2_78 : Cond.instanceMethod ({ cls := "ShadowLatches$Circuit", name := "setsWith", desc := "(I)I" } : MethodName) ∈ WS := ws_all_good (l := tables_1_2) 78 (by decide +kernel) tb2 (by decide +kernel)
theorem wd2_79 : Cond.selects "ShadowLatches$Circuit" ({ cls := "ShadowLatches$Circuit", name := "setsWith", desc := "(I)I" } : MethodName) ({ cls := "ShadowLatches$Circuit", name := "setsWith", desc := "(I)I" } : MethodName) ∈ WS := ws_all_good (l := tables_1_2) 79 (by decide +kernel) tb2 (by decide +kernel)
theorem wd2_80 : Cond.code ({ cls := "ShadowLatches$Circuit", name := "setsWith", desc := "(I)I" } : MethodName) prog_2_method_9_code (4 : Nat) (Option.some FieldType.int) ∈ WS := ws_all_good (l := tables_1_2) 80 (by decide +kernel) tb2 (by decide +kernel)
theorem wd2_81 : Cond.methodLink "ShadowLatchesLaw" (74 : Nat) ({ cls := "ShadowLatches", name := "delay", desc := "(III)I" } : MethodName) ∈ WS := ws_all_good (l := tables_1_2) 81 (by decide +kernel) tb2 (by decide +kernel)
theorem wd2_82 : Cond.instanceMethod ({ cls := "ShadowLatches", name := "delay", desc := "(III)I" } : MethodName) ∈ WS := ws_all_good (l := tables_1_2) 82 (by decide +kernel) tb2 (by decide +kernel)
theorem wd2_83 : Cond.selects "ShadowLatches" ({ cls := "ShadowLatches", name := "delay", desc := "(III)I" } : MethodName) ({ cls := "ShadowLatches", name := "delay", desc := "(III)I" } : MethodName) ∈ WS := ws_all_good (l := tables_1_2) 83 (by decide +kernel) tb2 (by decide +kernel)
theorem wd2_84 : Cond.code ({ cls := "ShadowLatches", name := "delay", desc := "(III)I" } : MethodName) prog_1_method_16_code (4 : Nat) (Option.some FieldType.int) ∈ WS := ws_all_good (l := tables_1_2) 84 (by decide +kernel) tb2 (by decide +kernel)
theorem wd2_85 : Cond.methodLink "ShadowLatches" (133 : Nat) ({ cls := "ShadowLatches$Circuit", name := "delayOf", desc := "(III)I" } : MethodName) ∈ WS := ws_all_good (l := tables_1_2) 85 (by decide +kernel) tb2 (by decide +kernel)
theorem wd2_86 : Cond.methodLink "ShadowLatchesLaw" (79 : Nat) ({ cls := "ShadowLatches", name := "workload", desc := "(I)I" } : MethodName) ∈ WS := ws_all_good (l := tables_1_2) 86 (by decide +kernel) tb2 (by decide +kernel)
theorem wd2_87 : Cond.instanceMethod ({ cls := "ShadowLatches", name := "workload", desc := "(I)I" } : MethodName) ∈ WS := ws_all_good (l := tables_1_2) 87 (by decide +kernel) tb2 (by decide +kernel)
theorem wd2_88 : Cond.selects "ShadowLatches" ({ cls := "ShadowLatches", name := "workload", desc := "(I)I" } : MethodName) ({ cls := "ShadowLatches", name := "workload", desc := "(I)I" } : MethodName) ∈ WS := ws_all_good (l := tables_1_2) 88 (by decide +kernel) tb2 (by decide +kernel)
theorem wd2_89 : Cond.code ({ cls := "ShadowLatches", name := "workload", desc := "(I)I" } : MethodName) prog_1_method_17_code (2 : Nat) (Option.some FieldType.int) ∈ WS := ws_all_good (l := tables_1_2) 89 (by decide +kernel) tb2 (by decide +kernel)
theorem wd2_90 : Cond.methodLink "ShadowLatchesLaw" (83 : Nat) ({ cls := "ShadowLatches", name := "least", desc := "(Z)I" } : MethodName) ∈ WS := ws_all_good (l := tables_1_2) 90 (by decide +kernel) tb2 (by decide +kernel)
theorem wd2_91 : Cond.instanceMethod ({ cls := "ShadowLatches", name := "least", desc := "(Z)I" } : MethodName) ∈ WS := ws_all_good (l := tables_1_2) 91 (by decide +kernel) tb2 (by decide +kernel)
theorem wd2_92 : Cond.selects "ShadowLatches" ({ cls := "ShadowLatches", name := "least", desc := "(Z)I" } : MethodName) ({ cls := "ShadowLatches", name := "least", desc := "(Z)I" } : MethodName) ∈ WS := ws_all_good (l := tables_1_2) 92 (by decide +kernel) tb2 (by decide +kernel)
theorem wd2_93 : Cond.code ({ cls := "ShadowLatches", name := "least", desc := "(Z)I" } : MethodName) prog_1_method_18_code (5 : Nat) (Option.some FieldType.int) ∈ WS := ws_all_good (l := tables_1_2) 93 (by decide +kernel) tb2 (by decide +kernel)
theorem wd2_94 : Cond.methodLink "ShadowLatches" (138 : Nat) ({ cls := "ShadowLatches$Circuit", name := "longestInWorkload", desc := "()I" } : MethodName) ∈ WS := ws_all_good (l := tables_1_2) 94 (by decide +kernel) tb2 (by decide +kernel)
theorem wd2_95 : Cond.instanceMethod ({ cls := "ShadowLatches$Circuit", name := "longestInWorkload", desc := "()I" } : MethodName) ∈ WS := ws_all_good (l := tables_1_2) 95 (by decide +kernel) tb2 (by decide +kernel)
theorem wd2_96 : Cond.selects "ShadowLatches$Circuit" ({ cls := "ShadowLatches$Circuit", name := "longestInWorkload", desc := "()I" } : MethodName) ({ cls := "ShadowLatches$Circuit", name := "longestInWorkload", desc := "()I" } : MethodName) ∈ WS := ws_all_good (l := tables_1_2) 96 (by decide +kernel) tb2 (by decide +kernel)
theorem wd2_97 : Cond.code ({ cls := "ShadowLatches$Circuit", name := "longestInWorkload", desc := "()I" } : MethodName) prog_2_method_11_code (3 : Nat) (Option.some FieldType.int) ∈ WS := ws_all_good (l := tables_1_2) 97 (by decide +kernel) tb2 (by decide +kernel)
theorem wd2_98 : Cond.methodLink "ShadowLatchesLaw" (87 : Nat) ({ cls := "ShadowLatches", name := "would", desc := "(III)I" } : MethodName) ∈ WS := ws_all_good (l := tables_1_2) 98 (by decide +kernel) tb2 (by decide +kernel)
theorem wd2_99 : Cond.instanceMethod ({ cls := "ShadowLatches", name := "would", desc := "(III)I" } : MethodName) ∈ WS := ws_all_good (l := tables_1_2) 99 (by decide +kernel) tb2 (by decide +kernel)
theorem wd2_100 : Cond.selects "ShadowLatches" ({ cls := "ShadowLatches", name := "would", desc := "(III)I" } : MethodName) ({ cls := "ShadowLatches", name := "would", desc := "(III)I" } : MethodName) ∈ WS := ws_all_good (l := tables_1_2) 100 (by decide +kernel) tb2 (by decide +kernel)
theorem wd2_101 : Cond.code ({ cls := "ShadowLatches", name := "would", desc := "(III)I" } : MethodName) prog_1_method_19_code (4 : Nat) (Option.some FieldType.int) ∈ WS := ws_all_good (l := tables_1_2) 101 (by decide +kernel) tb2 (by decide +kernel)
theorem wd2_102 : Cond.methodLink "ShadowLatches" (144 : Nat) ({ cls := "ShadowLatches", name := "tryCycles", desc := "(II)V" } : MethodName) ∈ WS := ws_all_good (l := tables_1_2) 102 (by decide +kernel) tb2 (by decide +kernel)
theorem wd2_104 : Cond.instanceMethod ({ cls := "ShadowLatches", name := "tryCycles", desc := "(II)V" } : MethodName) ∈ WS := ws_all_good (l := tables_1_2) 104 (by decide +kernel) tb2 (by decide +kernel)
theorem wd2_105 : Cond.code ({ cls := "ShadowLatches", name := "tryCycles", desc := "(II)V" } : MethodName) prog_1_method_28_code (3 : Nat) (Option.none : Option FieldType) ∈ WS := ws_all_good (l := tables_1_2) 105 (by decide +kernel) tb2 (by decide +kernel)
theorem wd2_106 : Cond.methodLink "ShadowLatchesLaw" (91 : Nat) ({ cls := "ShadowLatches", name := "best", desc := "(I)I" } : MethodName) ∈ WS := ws_all_good (l := tables_1_2) 106 (by decide +kernel) tb2 (by decide +kernel)
theorem wd2_107 : Cond.instanceMethod ({ cls := "ShadowLatches", name := "best", desc := "(I)I" } : MethodName) ∈ WS := ws_all_good (l := tables_1_2) 107 (by decide +kernel) tb2 (by decide +kernel)
theorem wd2_108 : Cond.selects "ShadowLatches" ({ cls := "ShadowLatches", name := "best", desc := "(I)I" } : MethodName) ({ cls := "ShadowLatches", name := "best", desc := "(I)I" } : MethodName) ∈ WS := ws_all_good (l := tables_1_2) 108 (by decide +kernel) tb2 (by decide +kernel)
theorem wd2_109 : Cond.code ({ cls := "ShadowLatches", name := "best", desc := "(I)I" } : MethodName) prog_1_method_20_code (8 : Nat) (Option.some FieldType.int) ∈ WS := ws_all_good (l := tables_1_2) 109 (by decide +kernel) tb2 (by decide +kernel)
theorem wd2_110 : Cond.methodLink "ShadowLatchesLaw" (95 : Nat) ({ cls := "ShadowLatches", name := "count", desc := "(I)I" } : MethodName) ∈ WS := ws_all_good (l := tables_1_2) 110 (by decide +kernel) tb2 (by decide +kernel)
theorem wd2_111 : Cond.instanceMethod ({ cls := "ShadowLatches", name := "count", desc := "(I)I" } : MethodName) ∈ WS := ws_all_good (l := tables_1_2) 111 (by decide +kernel) tb2 (by decide +kernel)
theorem wd2_112 : Cond.selects "ShadowLatches" ({ cls := "ShadowLatches", name := "count", desc := "(I)I" } : MethodName) ({ cls := "ShadowLatches", name := "count", desc := "(I)I" } : MethodName) ∈ WS := ws_all_good (l := tables_1_2) 112 (by decide +kernel) tb2 (by decide +kernel)
theorem wd2_113 : Cond.code ({ cls := "ShadowLatches", name := "count", desc := "(I)I" } : MethodName) prog_1_method_21_code (2 : Nat) (Option.some FieldType.int) ∈ WS := ws_all_good (l := tables_1_2) 113 (by decide +kernel) tb2 (by decide +kernel)
theorem wd2_114 : Cond.constantLong "ShadowLatches" (161 : Nat) (1000 : Int64) ∈ WS := ws_all_good (l := tables_1_2) 114 (by decide +kernel) tb2 (by decide +kernel)
theorem wd2_115 : Cond.methodLink "ShadowLatches" (172 : Nat) ({ cls := "ShadowLatches$Circuit", name := "pathsJudged", desc := "(I)I" } : MethodName) ∈ WS := ws_all_good (l := tables_1_2) 115 (by decide +kernel) tb2 (by decide +kernel)
theorem wd2_116 : Cond.instanceMethod ({ cls := "ShadowLatches$Circuit", name := "pathsJudged", desc := "(I)I" } : MethodName) ∈ WS := ws_all_good (l := tables_1_2) 116 (by decide +kernel) tb2 (by decide +kernel)
theorem wd2_117 : Cond.selects "ShadowLatches$Circuit" ({ cls := "ShadowLatches$Circuit", name := "pathsJudged", desc := "(I)I" } : MethodName) ({ cls := "ShadowLatches$Circuit", name := "pathsJudged", desc := "(I)I" } : MethodName) ∈ WS := ws_all_good (l := tables_1_2) 117 (by decide +kernel) tb2 (by decide +kernel)
theorem wd2_118 : Cond.code ({ cls := "ShadowLatches$Circuit", name := "pathsJudged", desc := "(I)I" } : MethodName) prog_2_method_8_code (4 : Nat) (Option.some FieldType.int) ∈ WS := ws_all_good (l := tables_1_2) 118 (by decide +kernel) tb2 (by decide +kernel)
theorem wd2_119 : Cond.methodLink "ShadowLatches$Circuit" (88 : Nat) ({ cls := "ShadowLatches$Circuit", name := "delayNow", desc := "(I)I" } : MethodName) ∈ WS := ws_all_good (l := tables_1_2) 119 (by decide +kernel) tb2 (by decide +kernel)
theorem wd2_120 : Cond.classLink "ShadowLatchesLaw" (10 : Nat) "ShadowLatchesModel" ∈ WS := ws_all_good (l := tables_1_2) 120 (by decide +kernel) tb2 (by decide +kernel)
theorem wd2_121 : Cond.instantiable "ShadowLatchesModel" (12 : Nat) ∈ WS := ws_all_good (l := tables_1_2) 121 (by decide +kernel) tb2 (by decide +kernel)
theorem wd2_122 : Cond.methodLink "ShadowLatchesLaw" (12 : Nat) ({ cls := "ShadowLatchesModel", name := "<init>", desc := "()V" } : MethodName) ∈ WS := ws_all_good (l := tables_1_2) 122 (by decide +kernel) tb2 (by decide +kernel)
theorem wd2_123 : Cond.instanceMethod ({ cls := "ShadowLatchesModel", name := "<init>", desc := "()V" } : MethodName) ∈ WS := ws_all_good (l := tables_1_2) 123 (by decide +kernel) tb2 (by decide +kernel)
theorem wd2_124 : Cond.code ({ cls := "ShadowLatchesModel", name := "<init>", desc := "()V" } : MethodName) prog_5_method_1_code (1 : Nat) (Option.none : Option FieldType) ∈ WS := ws_all_good (l := tables_1_2) 124 (by decide +kernel) tb2 (by decide +kernel)
theorem wd2_125 : Cond.methodLink "ShadowLatchesModel" (1 : Nat) ({ cls := "java/lang/Object", name := "<init>", desc := "()V" } : MethodName) ∈ WS := ws_all_good (l := tables_1_2) 125 (by decide +kernel) tb2 (by decide +kernel)
theorem wd2_126 : Cond.fieldLink "ShadowLatchesModel" (7 : Nat) "ShadowLatchesModel" "all" "[I" ∈ WS := ws_all_good (l := tables_1_2) 126 (by decide +kernel) tb2 (by decide +kernel)
theorem wd2_127 : Cond.fieldLink "ShadowLatchesModel" (13 : Nat) "ShadowLatchesModel" "kept" "[I" ∈ WS := ws_all_good (l := tables_1_2) 127 (by decide +kernel) tb2 (by decide +kernel)
theorem wd2_128 : Cond.fieldLink "ShadowLatchesModel" (16 : Nat) "ShadowLatchesModel" "tried" "[I" ∈ WS := ws_all_good (l := tables_1_2) 128 (by decide +kernel) tb2 (by decide +kernel)
theorem wd2_129 : Cond.fieldLink "ShadowLatchesModel" (19 : Nat) "ShadowLatchesModel" "history" "[I" ∈ WS := ws_all_good (l := tables_1_2) 129 (by decide +kernel) tb2 (by decide +kernel)
theorem wd2_130 : Cond.fieldLink "ShadowLatchesModel" (35 : Nat) "ShadowLatchesModel" "historyLong" "I" ∈ WS := ws_all_good (l := tables_1_2) 130 (by decide +kernel) tb2 (by decide +kernel)
theorem wd2_131 : Cond.fieldLink "ShadowLatchesModel" (22 : Nat) "ShadowLatchesModel" "snapshot" "[I" ∈ WS := ws_all_good (l := tables_1_2) 131 (by decide +kernel) tb2 (by decide +kernel)
theorem wd2_132 : Cond.fieldLink "ShadowLatchesModel" (144 : Nat) "ShadowLatchesModel" "isTaken" "I" ∈ WS := ws_all_good (l := tables_1_2) 132 (by decide +kernel) tb2 (by decide +kernel)
theorem wd2_133 : Cond.fieldLink "ShadowLatchesModel" (25 : Nat) "ShadowLatchesModel" "text" "[I" ∈ WS := ws_all_good (l := tables_1_2) 133 (by decide +kernel) tb2 (by decide +kernel)
theorem wd2_134 : Cond.fieldLink "ShadowLatchesModel" (96 : Nat) "ShadowLatchesModel" "textLong" "I" ∈ WS := ws_all_good (l := tables_1_2) 134 (by decide +kernel) tb2 (by decide +kernel)
theorem wd2_135 : Cond.fieldLink "ShadowLatchesModel" (99 : Nat) "ShadowLatchesModel" "spot" "I" ∈ WS := ws_all_good (l := tables_1_2) 135 (by decide +kernel) tb2 (by decide +kernel)
theorem wd2_136 : Cond.fieldLink "ShadowLatchesModel" (28 : Nat) "ShadowLatchesModel" "read" "[I" ∈ WS := ws_all_good (l := tables_1_2) 136 (by decide +kernel) tb2 (by decide +kernel)
theorem wd2_137 : Cond.fieldLink "ShadowLatchesModel" (108 : Nat) "ShadowLatchesModel" "readMany" "I" ∈ WS := ws_all_good (l := tables_1_2) 137 (by decide +kernel) tb2 (by decide +kernel)
theorem wd2_138 : Cond.laysFinal "ShadowLatchesModel" "ShadowLatchesModel" "all" "[I" ∈ WS := ws_all_good (l := tables_1_2) 138 (by decide +kernel) tb2 (by decide +kernel)
theorem wd2_139 : Cond.soleField "ShadowLatchesModel" "all" ∈ WS := ws_all_good (l := tables_1_2) 139 (by decide +kernel) tb2 (by decide +kernel)
theorem wd2_140 : Cond.laysFinal "ShadowLatchesModel" "ShadowLatchesModel" "kept" "[I" ∈ WS := ws_all_good (l := tables_1_2) 140 (by decide +kernel) tb2 (by decide +kernel)
theorem wd2_141 : Cond.soleField "ShadowLatchesModel" "kept" ∈ WS := ws_all_good (l := tables_1_2) 141 (by decide +kernel) tb2 (by decide +kernel)
theorem wd2_142 : Cond.laysFinal "ShadowLatchesModel" "ShadowLatchesModel" "tried" "[I" ∈ WS := ws_all_good (l := tables_1_2) 142 (by decide +kernel) tb2 (by decide +kernel)
theorem wd2_143 : Cond.soleField "ShadowLatchesModel" "tried" ∈ WS := ws_all_good (l := tables_1_2) 143 (by decide +kernel) tb2 (by decide +kernel)
theorem wd2_144 : Cond.laysFinal "ShadowLatchesModel" "ShadowLatchesModel" "history" "[I" ∈ WS := ws_all_good (l := tables_1_2) 144 (by decide +kernel) tb2 (by decide +kernel)
theorem wd2_145 : Cond.soleField "ShadowLatchesModel" "history" ∈ WS := ws_all_good (l := tables_1_2) 145 (by decide +kernel) tb2 (by decide +kernel)
theorem wd2_146 : Cond.lays "ShadowLatchesModel" "ShadowLatchesModel" "historyLong" "I" ∈ WS := ws_all_good (l := tables_1_2) 146 (by decide +kernel) tb2 (by decide +kernel)
theorem wd2_147 : Cond.soleField "ShadowLatchesModel" "historyLong" ∈ WS := ws_all_good (l := tables_1_2) 147 (by decide +kernel) tb2 (by decide +kernel)
theorem wd2_148 : Cond.laysFinal "ShadowLatchesModel" "ShadowLatchesModel" "snapshot" "[I" ∈ WS := ws_all_good (l := tables_1_2) 148 (by decide +kernel) tb2 (by decide +kernel)
theorem wd2_149 : Cond.soleField "ShadowLatchesModel" "snapshot" ∈ WS := ws_all_good (l := tables_1_2) 149 (by decide +kernel) tb2 (by decide +kernel)
theorem wd2_150 : Cond.lays "ShadowLatchesModel" "ShadowLatchesModel" "isTaken" "I" ∈ WS := ws_all_good (l := tables_1_2) 150 (by decide +kernel) tb2 (by decide +kernel)
theorem wd2_151 : Cond.soleField "ShadowLatchesModel" "isTaken" ∈ WS := ws_all_good (l := tables_1_2) 151 (by decide +kernel) tb2 (by decide +kernel)
theorem wd2_152 : Cond.laysFinal "ShadowLatchesModel" "ShadowLatchesModel" "text" "[I" ∈ WS := ws_all_good (l := tables_1_2) 152 (by decide +kernel) tb2 (by decide +kernel)
theorem wd2_153 : Cond.soleField "ShadowLatchesModel" "text" ∈ WS := ws_all_good (l := tables_1_2) 153 (by decide +kernel) tb2 (by decide +kernel)
theorem wd2_154 : Cond.lays "ShadowLatchesModel" "ShadowLatchesModel" "textLong" "I" ∈ WS := ws_all_good (l := tables_1_2) 154 (by decide +kernel) tb2 (by decide +kernel)
theorem wd2_155 : Cond.soleField "ShadowLatchesModel" "textLong" ∈ WS := ws_all_good (l := tables_1_2) 155 (by decide +kernel) tb2 (by decide +kernel)
theorem wd2_156 : Cond.lays "ShadowLatchesModel" "ShadowLatchesModel" "spot" "I" ∈ WS := ws_all_good (l := tables_1_2) 156 (by decide +kernel) tb2 (by decide +kernel)
theorem wd2_157 : Cond.soleField "ShadowLatchesModel" "spot" ∈ WS := ws_all_good (l := tables_1_2) 157 (by decide +kernel) tb2 (by decide +kernel)
theorem wd2_158 : Cond.laysFinal "ShadowLatchesModel" "ShadowLatchesModel" "read" "[I" ∈ WS := ws_all_good (l := tables_1_2) 158 (by decide +kernel) tb2 (by decide +kernel)
theorem wd2_159 : Cond.soleField "ShadowLatchesModel" "read" ∈ WS := ws_all_good (l := tables_1_2) 159 (by decide +kernel) tb2 (by decide +kernel)
theorem wd2_160 : Cond.lays "ShadowLatchesModel" "ShadowLatchesModel" "readMany" "I" ∈ WS := ws_all_good (l := tables_1_2) 160 (by decide +kernel) tb2 (by decide +kernel)
theorem wd2_161 : Cond.soleField "ShadowLatchesModel" "readMany" ∈ WS := ws_all_good (l := tables_1_2) 161 (by decide +kernel) tb2 (by decide +kernel)
theorem wd2_162 : Cond.superclass "ShadowLatchesModel" "java/lang/Object" ∈ WS := ws_all_good (l := tables_1_2) 162 (by decide +kernel) tb2 (by decide +kernel)
theorem wd2_163 : Cond.methodLink "ShadowLatchesLaw" (17 : Nat) ({ cls := "ShadowLatchesModel", name := "addPath", desc := "(I)I" } : MethodName) ∈ WS := ws_all_good (l := tables_1_2) 163 (by decide +kernel) tb2 (by decide +kernel)
theorem wd2_164 : Cond.instanceMethod ({ cls := "ShadowLatchesModel", name := "addPath", desc := "(I)I" } : MethodName) ∈ WS := ws_all_good (l := tables_1_2) 164 (by decide +kernel) tb2 (by decide +kernel)
theorem wd2_165 : Cond.selects "ShadowLatchesModel" ({ cls := "ShadowLatchesModel", name := "addPath", desc := "(I)I" } : MethodName) ({ cls := "ShadowLatchesModel", name := "addPath", desc := "(I)I" } : MethodName) ∈ WS := ws_all_good (l := tables_1_2) 165 (by decide +kernel) tb2 (by decide +kernel)
theorem wd2_166 : Cond.code ({ cls := "ShadowLatchesModel", name := "addPath", desc := "(I)I" } : MethodName) prog_5_method_17_code (2 : Nat) (Option.some FieldType.int) ∈ WS := ws_all_good (l := tables_1_2) 166 (by decide +kernel) tb2 (by decide +kernel)
theorem wd2_167 : Cond.methodLink "ShadowLatchesModel" (73 : Nat) ({ cls := "ShadowLatchesModel", name := "isLength", desc := "(I)Z" } : MethodName) ∈ WS := ws_all_good (l := tables_1_2) 167 (by decide +kernel) tb2 (by decide +kernel)
theorem wd2_168 : Cond.static ({ cls := "ShadowLatchesModel", name := "isLength", desc := "(I)Z" } : MethodName) ∈ WS := ws_all_good (l := tables_1_2) 168 (by decide +kernel) tb2 (by decide +kernel)
theorem wd2_169 : Cond.code ({ cls := "ShadowLatchesModel", name := "isLength", desc := "(I)Z" } : MethodName) prog_5_method_16_code (1 : Nat) (Option.some FieldType.boolean) ∈ WS := ws_all_good (l := tables_1_2) 169 (by decide +kernel) tb2 (by decide +kernel)
theorem wd2_170 : Cond.constantLong "ShadowLatchesModel" (69 : Nat) (10 : Int64) ∈ WS := ws_all_good (l := tables_1_2) 170 (by decide +kernel) tb2 (by decide +kernel)
theorem wd2_171 : Cond.constantLong "ShadowLatchesModel" (71 : Nat) (400 : Int64) ∈ WS := ws_all_good (l := tables_1_2) 171 (by decide +kernel) tb2 (by decide +kernel)
theorem wd2_172 : Cond.methodLink "ShadowLatchesModel" (39 : Nat) ({ cls := "ShadowLatchesModel", name := "in", desc := "(JJJ)Z" } : MethodName) ∈ WS := ws_all_good (l := tables_1_2) 172 (by decide +kernel) tb2 (by decide +kernel)
theorem wd2_173 : Cond.static ({ cls := "ShadowLatchesModel", name := "in", desc := "(JJJ)Z" } : MethodName) ∈ WS := ws_all_good (l := tables_1_2) 173 (by decide +kernel) tb2 (by decide +kernel)
theorem wd2_174 : Cond.code ({ cls := "ShadowLatchesModel", name := "in", desc := "(JJJ)Z" } : MethodName) prog_5_method_3_code (6 : Nat) (Option.some FieldType.boolean) ∈ WS := ws_all_good (l := tables_1_2) 174 (by decide +kernel) tb2 (by decide +kernel)
theorem wd2_175 : Cond.methodLink "ShadowLatchesModel" (77 : Nat) ({ cls := "ShadowLatchesModel", name := "remember", desc := "()V" } : MethodName) ∈ WS := ws_all_good (l := tables_1_2) 175 (by decide +kernel) tb2 (by decide +kernel)
theorem wd2_177 : Cond.instanceMethod ({ cls := "ShadowLatchesModel", name := "remember", desc := "()V" } : MethodName) ∈ WS := ws_all_good (l := tables_1_2) 177 (by decide +kernel) tb2 (by decide +kernel)
theorem wd2_178 : Cond.code ({ cls := "ShadowLatchesModel", name := "remember", desc := "()V" } : MethodName) prog_5_method_5_code (1 : Nat) (Option.none : Option FieldType) ∈ WS := ws_all_good (l := tables_1_2) 178 (by decide +kernel) tb2 (by decide +kernel)
theorem wd2_179 : Cond.methodLink "ShadowLatchesModel" (31 : Nat) ({ cls := "ShadowLatchesModel", name := "copy", desc := "([I[I)V" } : MethodName) ∈ WS := ws_all_good (l := tables_1_2) 179 (by decide +kernel) tb2 (by decide +kernel)
theorem wd2_180 : Cond.static ({ cls := "ShadowLatchesModel", name := "copy", desc := "([I[I)V" } : MethodName) ∈ WS := ws_all_good (l := tables_1_2) 180 (by decide +kernel) tb2 (by decide +kernel)
theorem wd2_181 : Cond.code ({ cls := "ShadowLatchesModel", name := "copy", desc := "([I[I)V" } : MethodName) prog_5_method_4_code (3 : Nat) (Option.none : Option FieldType) ∈ WS := ws_all_good (l := tables_1_2) 181 (by decide +kernel) tb2 (by decide +kernel)
theorem wd2_182 : Cond.methodLink "ShadowLatchesModel" (80 : Nat) ({ cls := "ShadowLatchesModel", name := "acted", desc := "(I)I" } : MethodName) ∈ WS := ws_all_good (l := tables_1_2) 182 (by decide +kernel) tb2 (by decide +kernel)
theorem wd2_184 : Cond.instanceMethod ({ cls := "ShadowLatchesModel", name := "acted", desc := "(I)I" } : MethodName) ∈ WS := ws_all_good (l := tables_1_2) 184 (by decide +kernel) tb2 (by decide +kernel)
theorem wd2_185 : Cond.code ({ cls := "ShadowLatchesModel", name := "acted", desc := "(I)I" } : MethodName) prog_5_method_6_code (3 : Nat) (Option.some FieldType.int) ∈ WS := ws_all_good (l := tables_1_2) 185 (by decide +kernel) tb2 (by decide +kernel)
theorem wd2_186 : Cond.methodLink "ShadowLatchesLaw" (22 : Nat) ({ cls := "ShadowLatchesModel", name := "setLength", desc := "(II)I" } : MethodName) ∈ WS := ws_all_good (l := tables_1_2) 186 (by decide +kernel) tb2 (by decide +kernel)
theorem wd2_187 : Cond.instanceMethod ({ cls := "ShadowLatchesModel", name := "setLength", desc := "(II)I" } : MethodName) ∈ WS := ws_all_good (l := tables_1_2) 187 (by decide +kernel) tb2 (by decide +kernel)
theorem wd2_188 : Cond.selects "ShadowLatchesModel" ({ cls := "ShadowLatchesModel", name := "setLength", desc := "(II)I" } : MethodName) ({ cls := "ShadowLatchesModel", name := "setLength", desc := "(II)I" } : MethodName) ∈ WS := ws_all_good (l := tables_1_2) 188 (by decide +kernel) tb2 (by decide +kernel)
theorem wd2_189 : Cond.code ({ cls := "ShadowLatchesModel", name := "setLength", desc := "(II)I" } : MethodName) prog_5_method_19_code (3 : Nat) (Option.some FieldType.int) ∈ WS := ws_all_good (l := tables_1_2) 189 (by decide +kernel) tb2 (by decide +kernel)
theorem wd2_190 : Cond.methodLink "ShadowLatchesModel" (83 : Nat) ({ cls := "ShadowLatchesModel", name := "isPath", desc := "(I)Z" } : MethodName) ∈ WS := ws_all_good (l := tables_1_2) 190 (by decide +kernel) tb2 (by decide +kernel)
theorem wd2_192 : Cond.instanceMethod ({ cls := "ShadowLatchesModel", name := "isPath", desc := "(I)Z" } : MethodName) ∈ WS := ws_all_good (l := tables_1_2) 192 (by decide +kernel) tb2 (by decide +kernel)
theorem wd2_193 : Cond.code ({ cls := "ShadowLatchesModel", name := "isPath", desc := "(I)Z" } : MethodName) prog_5_method_7_code (2 : Nat) (Option.some FieldType.boolean) ∈ WS := ws_all_good (l := tables_1_2) 193 (by decide +kernel) tb2 (by decide +kernel)
theorem wd2_194 : Cond.methodLink "ShadowLatchesModel" (86 : Nat) ({ cls := "ShadowLatchesModel", name := "sets", desc := "(II)I" } : MethodName) ∈ WS := ws_all_good (l := tables_1_2) 194 (by decide +kernel) tb2 (by decide +kernel)
theorem wd2_196 : Cond.instanceMethod ({ cls := "ShadowLatchesModel", name := "sets", desc := "(II)I" } : MethodName) ∈ WS := ws_all_good (l := tables_1_2) 196 (by decide +kernel) tb2 (by decide +kernel)
theorem wd2_197 : Cond.code ({ cls := "ShadowLatchesModel", name := "sets", desc := "(II)I" } : MethodName) prog_5_method_18_code (4 : Nat) (Option.some FieldType.int) ∈ WS := ws_all_good (l := tables_1_2) 197 (by decide +kernel) tb2 (by decide +kernel)
theorem wd2_198 : Cond.methodLink "ShadowLatchesLaw" (31 : Nat) ({ cls := "ShadowLatchesModel", name := "layWorkload", desc := "(II)I" } : MethodName) ∈ WS := ws_all_good (l := tables_1_2) 198 (by decide +kernel) tb2 (by decide +kernel)
theorem wd2_199 : Cond.instanceMethod ({ cls := "ShadowLatchesModel", name := "layWorkload", desc := "(II)I" } : MethodName) ∈ WS := ws_all_good (l := tables_1_2) 199 (by decide +kernel) tb2 (by decide +kernel)
theorem wd2_200 : Cond.selects "ShadowLatchesModel" ({ cls := "ShadowLatchesModel", name := "layWorkload", desc := "(II)I" } : MethodName) ({ cls := "ShadowLatchesModel", name := "layWorkload", desc := "(II)I" } : MethodName) ∈ WS := ws_all_good (l := tables_1_2) 200 (by decide +kernel) tb2 (by decide +kernel)
theorem wd2_201 : Cond.code ({ cls := "ShadowLatchesModel", name := "layWorkload", desc := "(II)I" } : MethodName) prog_5_method_21_code (6 : Nat) (Option.some FieldType.int) ∈ WS := ws_all_good (l := tables_1_2) 201 (by decide +kernel) tb2 (by decide +kernel)
theorem wd2_202 : Cond.constantLong "ShadowLatchesModel" (89 : Nat) (16 : Int64) ∈ WS := ws_all_good (l := tables_1_2) 202 (by decide +kernel) tb2 (by decide +kernel)
theorem wd2_203 : Cond.constantLong "ShadowLatchesModel" (91 : Nat) (9999 : Int64) ∈ WS := ws_all_good (l := tables_1_2) 203 (by decide +kernel) tb2 (by decide +kernel)
theorem wd2_204 : Cond.methodLink "ShadowLatchesModel" (59 : Nat) ({ cls := "ShadowLatchesModel", name := "many", desc := "(I)I" } : MethodName) ∈ WS := ws_all_good (l := tables_1_2) 204 (by decide +kernel) tb2 (by decide +kernel)
theorem wd2_205 : Cond.static ({ cls := "ShadowLatchesModel", name := "many", desc := "(I)I" } : MethodName) ∈ WS := ws_all_good (l := tables_1_2) 205 (by decide +kernel) tb2 (by decide +kernel)
theorem wd2_206 : Cond.code ({ cls := "ShadowLatchesModel", name := "many", desc := "(I)I" } : MethodName) prog_5_method_12_code (3 : Nat) (Option.some FieldType.int) ∈ WS := ws_all_good (l := tables_1_2) 206 (by decide +kernel) tb2 (by decide +kernel)
theorem wd2_207 : Cond.methodLink "ShadowLatchesModel" (93 : Nat) ({ cls := "ShadowLatchesModel", name := "begins", desc := "(I)V" } : MethodName) ∈ WS := ws_all_good (l := tables_1_2) 207 (by decide +kernel) tb2 (by decide +kernel)
theorem wd2_209 : Cond.instanceMethod ({ cls := "ShadowLatchesModel", name := "begins", desc := "(I)V" } : MethodName) ∈ WS := ws_all_good (l := tables_1_2) 209 (by decide +kernel) tb2 (by decide +kernel)
theorem wd2_210 : Cond.code ({ cls := "ShadowLatchesModel", name := "begins", desc := "(I)V" } : MethodName) prog_5_method_20_code (3 : Nat) (Option.none : Option FieldType) ∈ WS := ws_all_good (l := tables_1_2) 210 (by decide +kernel) tb2 (by decide +kernel)
theorem wd2_211 : Cond.methodLink "ShadowLatchesLaw" (53 : Nat) ({ cls := "ShadowLatchesModel", name := "type", desc := "(C)I" } : MethodName) ∈ WS := ws_all_good (l := tables_1_2) 211 (by decide +kernel) tb2 (by decide +kernel)
theorem wd2_212 : Cond.instanceMethod ({ cls := "ShadowLatchesModel", name := "type", desc := "(C)I" } : MethodName) ∈ WS := ws_all_good (l := tables_1_2) 212 (by decide +kernel) tb2 (by decide +kernel)
theorem wd2_213 : Cond.selects "ShadowLatchesModel" ({ cls := "ShadowLatchesModel", name := "type", desc := "(C)I" } : MethodName) ({ cls := "ShadowLatchesModel", name := "type", desc := "(C)I" } : MethodName) ∈ WS := ws_all_good (l := tables_1_2) 213 (by decide +kernel) tb2 (by decide +kernel)
theorem wd2_214 : Cond.code ({ cls := "ShadowLatchesModel", name := "type", desc := "(C)I" } : MethodName) prog_5_method_22_code (2 : Nat) (Option.some FieldType.int) ∈ WS := ws_all_good (l := tables_1_2) 214 (by decide +kernel) tb2 (by decide +kernel)
theorem wd2_215 : Cond.methodLink "ShadowLatchesLaw" (57 : Nat) ({ cls := "ShadowLatchesModel", name := "clearText", desc := "()I" } : MethodName) ∈ WS := ws_all_good (l := tables_1_2) 215 (by decide +kernel) tb2 (by decide +kernel)
theorem wd2_216 : Cond.instanceMethod ({ cls := "ShadowLatchesModel", name := "clearText", desc := "()I" } : MethodName) ∈ WS := ws_all_good (l := tables_1_2) 216 (by decide +kernel) tb2 (by decide +kernel)
theorem wd2_217 : Cond.selects "ShadowLatchesModel" ({ cls := "ShadowLatchesModel", name := "clearText", desc := "()I" } : MethodName) ({ cls := "ShadowLatchesModel", name := "clearText", desc := "()I" } : MethodName) ∈ WS := ws_all_good (l := tables_1_2) 217 (by decide +kernel) tb2 (by decide +kernel)
theorem wd2_218 : Cond.code ({ cls := "ShadowLatchesModel", name := "clearText", desc := "()I" } : MethodName) prog_5_method_23_code (2 : Nat) (Option.some FieldType.int) ∈ WS := ws_all_good (l := tables_1_2) 218 (by decide +kernel) tb2 (by decide +kernel)
theorem wd2_219 : Cond.methodLink "ShadowLatchesLaw" (27 : Nat) ({ cls := "ShadowLatchesModel", name := "takeWorkload", desc := "()I" } : MethodName) ∈ WS := ws_all_good (l := tables_1_2) 219 (by decide +kernel) tb2 (by decide +kernel)
theorem wd2_220 : Cond.instanceMethod ({ cls := "ShadowLatchesModel", name := "takeWorkload", desc := "()I" } : MethodName) ∈ WS := ws_all_good (l := tables_1_2) 220 (by decide +kernel) tb2 (by decide +kernel)
theorem wd2_221 : Cond.selects "ShadowLatchesModel" ({ cls := "ShadowLatchesModel", name := "takeWorkload", desc := "()I" } : MethodName) ({ cls := "ShadowLatchesModel", name := "takeWorkload", desc := "()I" } : MethodName) ∈ WS := ws_all_good (l := tables_1_2) 221 (by decide +kernel) tb2 (by decide +kernel)
theorem wd2_222 : Cond.code ({ cls := "ShadowLatchesModel", name := "takeWorkload", desc := "()I" } : MethodName) prog_5_method_28_code (3 : Nat) (Option.some FieldType.int) ∈ WS := ws_all_good (l := tables_1_2) 222 (by decide +kernel) tb2 (by decide +kernel)
theorem wd2_223 : Cond.methodLink "ShadowLatchesModel" (115 : Nat) ({ cls := "ShadowLatchesModel", name := "fault", desc := "()I" } : MethodName) ∈ WS := ws_all_good (l := tables_1_2) 223 (by decide +kernel) tb2 (by decide +kernel)
theorem wd2_225 : Cond.instanceMethod ({ cls := "ShadowLatchesModel", name := "fault", desc := "()I" } : MethodName) ∈ WS := ws_all_good (l := tables_1_2) 225 (by decide +kernel) tb2 (by decide +kernel)
theorem wd2_226 : Cond.code ({ cls := "ShadowLatchesModel", name := "fault", desc := "()I" } : MethodName) prog_5_method_27_code (2 : Nat) (Option.some FieldType.int) ∈ WS := ws_all_good (l := tables_1_2) 226 (by decide +kernel) tb2 (by decide +kernel)
theorem wd2_227 : Cond.methodLink "ShadowLatchesModel" (111 : Nat) ({ cls := "ShadowLatchesModel", name := "readsSet", desc := "()Z" } : MethodName) ∈ WS := ws_all_good (l := tables_1_2) 227 (by decide +kernel) tb2 (by decide +kernel)
theorem wd2_229 : Cond.instanceMethod ({ cls := "ShadowLatchesModel", name := "readsSet", desc := "()Z" } : MethodName) ∈ WS := ws_all_good (l := tables_1_2) 229 (by decide +kernel) tb2 (by decide +kernel)
theorem wd2_230 : Cond.code ({ cls := "ShadowLatchesModel", name := "readsSet", desc := "()Z" } : MethodName) prog_5_method_26_code (3 : Nat) (Option.some FieldType.boolean) ∈ WS := ws_all_good (l := tables_1_2) 230 (by decide +kernel) tb2 (by decide +kernel)
theorem wd2_231 : Cond.methodLink "ShadowLatchesModel" (105 : Nat) ({ cls := "ShadowLatchesModel", name := "takes", desc := "(I)Z" } : MethodName) ∈ WS := ws_all_good (l := tables_1_2) 231 (by decide +kernel) tb2 (by decide +kernel)
theorem wd2_233 : Cond.instanceMethod ({ cls := "ShadowLatchesModel", name := "takes", desc := "(I)Z" } : MethodName) ∈ WS := ws_all_good (l := tables_1_2) 233 (by decide +kernel) tb2 (by decide +kernel)
theorem wd2_234 : Cond.code ({ cls := "ShadowLatchesModel", name := "takes", desc := "(I)Z" } : MethodName) prog_5_method_25_code (3 : Nat) (Option.some FieldType.boolean) ∈ WS := ws_all_good (l := tables_1_2) 234 (by decide +kernel) tb2 (by decide +kernel)
theorem wd2_235 : Cond.methodLink "ShadowLatchesModel" (102 : Nat) ({ cls := "ShadowLatchesModel", name := "isHere", desc := "(II)Z" } : MethodName) ∈ WS := ws_all_good (l := tables_1_2) 235 (by decide +kernel) tb2 (by decide +kernel)
theorem wd2_237 : Cond.instanceMethod ({ cls := "ShadowLatchesModel", name := "isHere", desc := "(II)Z" } : MethodName) ∈ WS := ws_all_good (l := tables_1_2) 237 (by decide +kernel) tb2 (by decide +kernel)
theorem wd2_238 : Cond.code ({ cls := "ShadowLatchesModel", name := "isHere", desc := "(II)Z" } : MethodName) prog_5_method_24_code (3 : Nat) (Option.some FieldType.boolean) ∈ WS := ws_all_good (l := tables_1_2) 238 (by decide +kernel) tb2 (by decide +kernel)
theorem wd2_239 : Cond.methodLink "ShadowLatchesLaw" (35 : Nat) ({ cls := "ShadowLatchesModel", name := "setVoltage", desc := "(I)I" } : MethodName) ∈ WS := ws_all_good (l := tables_1_2) 239 (by decide +kernel) tb2 (by decide +kernel)
theorem wd3_0 : Cond.instanceMethod ({ cls := "ShadowLatchesModel", name := "setVoltage", desc := "(I)I" } : MethodName) ∈ WS := ws_all_good (l := tables_1_3) 0 (by decide +kernel) tb3 (by decide +kernel)
theorem wd3_1 : Cond.selects "ShadowLatchesModel" ({ cls := "ShadowLatchesModel", name := "setVoltage", desc := "(I)I" } : MethodName) ({ cls := "ShadowLatchesModel", name := "setVoltage", desc := "(I)I" } : MethodName) ∈ WS := ws_all_good (l := tables_1_3) 1 (by decide +kernel) tb3 (by decide +kernel)
theorem wd3_2 : Cond.code ({ cls := "ShadowLatchesModel", name := "setVoltage", desc := "(I)I" } : MethodName) prog_5_method_30_code (2 : Nat) (Option.some FieldType.int) ∈ WS := ws_all_good (l := tables_1_3) 2 (by decide +kernel) tb3 (by decide +kernel)
theorem wd3_3 : Cond.methodLink "ShadowLatchesModel" (123 : Nat) ({ cls := "ShadowLatchesModel", name := "isVoltage", desc := "(I)Z" } : MethodName) ∈ WS := ws_all_good (l := tables_1_3) 3 (by decide +kernel) tb3 (by decide +kernel)
theorem wd3_4 : Cond.static ({ cls := "ShadowLatchesModel", name := "isVoltage", desc := "(I)Z" } : MethodName) ∈ WS := ws_all_good (l := tables_1_3) 4 (by decide +kernel) tb3 (by decide +kernel)
theorem wd3_5 : Cond.code ({ cls := "ShadowLatchesModel", name := "isVoltage", desc := "(I)Z" } : MethodName) prog_5_method_29_code (1 : Nat) (Option.some FieldType.boolean) ∈ WS := ws_all_good (l := tables_1_3) 5 (by decide +kernel) tb3 (by decide +kernel)
theorem wd3_6 : Cond.constantLong "ShadowLatchesModel" (119 : Nat) (500 : Int64) ∈ WS := ws_all_good (l := tables_1_3) 6 (by decide +kernel) tb3 (by decide +kernel)
theorem wd3_7 : Cond.constantLong "ShadowLatchesModel" (121 : Nat) (1200 : Int64) ∈ WS := ws_all_good (l := tables_1_3) 7 (by decide +kernel) tb3 (by decide +kernel)
theorem wd3_8 : Cond.methodLink "ShadowLatchesLaw" (40 : Nat) ({ cls := "ShadowLatchesModel", name := "govern", desc := "(Z)I" } : MethodName) ∈ WS := ws_all_good (l := tables_1_3) 8 (by decide +kernel) tb3 (by decide +kernel)
theorem wd3_9 : Cond.instanceMethod ({ cls := "ShadowLatchesModel", name := "govern", desc := "(Z)I" } : MethodName) ∈ WS := ws_all_good (l := tables_1_3) 9 (by decide +kernel) tb3 (by decide +kernel)
theorem wd3_10 : Cond.selects "ShadowLatchesModel" ({ cls := "ShadowLatchesModel", name := "govern", desc := "(Z)I" } : MethodName) ({ cls := "ShadowLatchesModel", name := "govern", desc := "(Z)I" } : MethodName) ∈ WS := ws_all_good (l := tables_1_3) 10 (by decide +kernel) tb3 (by decide +kernel)
theorem wd3_11 : Cond.code ({ cls := "ShadowLatchesModel", name := "govern", desc := "(Z)I" } : MethodName) prog_5_method_31_code (3 : Nat) (Option.some FieldType.int) ∈ WS := ws_all_good (l := tables_1_3) 11 (by decide +kernel) tb3 (by decide +kernel)
theorem wd3_12 : Cond.methodLink "ShadowLatchesLaw" (44 : Nat) ({ cls := "ShadowLatchesModel", name := "set", desc := "(II)I" } : MethodName) ∈ WS := ws_all_good (l := tables_1_3) 12 (by decide +kernel) tb3 (by decide +kernel)
theorem wd3_13 : Cond.instanceMethod ({ cls := "ShadowLatchesModel", name := "set", desc := "(II)I" } : MethodName) ∈ WS := ws_all_good (l := tables_1_3) 13 (by decide +kernel) tb3 (by decide +kernel)
theorem wd3_14 : Cond.selects "ShadowLatchesModel" ({ cls := "ShadowLatchesModel", name := "set", desc := "(II)I" } : MethodName) ({ cls := "ShadowLatchesModel", name := "set", desc := "(II)I" } : MethodName) ∈ WS := ws_all_good (l := tables_1_3) 14 (by decide +kernel) tb3 (by decide +kernel)
theorem wd3_15 : Cond.code ({ cls := "ShadowLatchesModel", name := "set", desc := "(II)I" } : MethodName) prog_5_method_33_code (3 : Nat) (Option.some FieldType.int) ∈ WS := ws_all_good (l := tables_1_3) 15 (by decide +kernel) tb3 (by decide +kernel)
theorem wd3_16 : Cond.methodLink "ShadowLatchesModel" (136 : Nat) ({ cls := "ShadowLatchesModel", name := "isSetting", desc := "(II)Z" } : MethodName) ∈ WS := ws_all_good (l := tables_1_3) 16 (by decide +kernel) tb3 (by decide +kernel)
theorem wd3_17 : Cond.static ({ cls := "ShadowLatchesModel", name := "isSetting", desc := "(II)Z" } : MethodName) ∈ WS := ws_all_good (l := tables_1_3) 17 (by decide +kernel) tb3 (by decide +kernel)
theorem wd3_18 : Cond.code ({ cls := "ShadowLatchesModel", name := "isSetting", desc := "(II)Z" } : MethodName) prog_5_method_32_code (2 : Nat) (Option.some FieldType.boolean) ∈ WS := ws_all_good (l := tables_1_3) 18 (by decide +kernel) tb3 (by decide +kernel)
theorem wd3_19 : Cond.constantLong "ShadowLatchesModel" (126 : Nat) (50 : Int64) ∈ WS := ws_all_good (l := tables_1_3) 19 (by decide +kernel) tb3 (by decide +kernel)
theorem wd3_20 : Cond.constantLong "ShadowLatchesModel" (128 : Nat) (1000 : Int64) ∈ WS := ws_all_good (l := tables_1_3) 20 (by decide +kernel) tb3 (by decide +kernel)
theorem wd3_21 : Cond.constantLong "ShadowLatchesModel" (130 : Nat) (200 : Int64) ∈ WS := ws_all_good (l := tables_1_3) 21 (by decide +kernel) tb3 (by decide +kernel)
theorem wd3_22 : Cond.constantLong "ShadowLatchesModel" (132 : Nat) (20 : Int64) ∈ WS := ws_all_good (l := tables_1_3) 22 (by decide +kernel) tb3 (by decide +kernel)
theorem wd3_23 : Cond.constantLong "ShadowLatchesModel" (134 : Nat) (100 : Int64) ∈ WS := ws_all_good (l := tables_1_3) 23 (by decide +kernel) tb3 (by decide +kernel)
theorem wd3_24 : Cond.methodLink "ShadowLatchesLaw" (48 : Nat) ({ cls := "ShadowLatchesModel", name := "run", desc := "(I)I" } : MethodName) ∈ WS := ws_all_good (l := tables_1_3) 24 (by decide +kernel) tb3 (by decide +kernel)
theorem wd3_25 : Cond.instanceMethod ({ cls := "ShadowLatchesModel", name := "run", desc := "(I)I" } : MethodName) ∈ WS := ws_all_good (l := tables_1_3) 25 (by decide +kernel) tb3 (by decide +kernel)
theorem wd3_26 : Cond.selects "ShadowLatchesModel" ({ cls := "ShadowLatchesModel", name := "run", desc := "(I)I" } : MethodName) ({ cls := "ShadowLatchesModel", name := "run", desc := "(I)I" } : MethodName) ∈ WS := ws_all_good (l := tables_1_3) 26 (by decide +kernel) tb3 (by decide +kernel)
theorem wd3_27 : Cond.code ({ cls := "ShadowLatchesModel", name := "run", desc := "(I)I" } : MethodName) prog_5_method_34_code (3 : Nat) (Option.some FieldType.int) ∈ WS := ws_all_good (l := tables_1_3) 27 (by decide +kernel) tb3 (by decide +kernel)
theorem wd3_28 : Cond.constantLong "ShadowLatchesModel" (139 : Nat) (2000 : Int64) ∈ WS := ws_all_good (l := tables_1_3) 28 (by decide +kernel) tb3 (by decide +kernel)
theorem wd3_29 : Cond.methodLink "ShadowLatchesModel" (141 : Nat) ({ cls := "ShadowLatchesModel", name := "cycles", desc := "()V" } : MethodName) ∈ WS := ws_all_good (l := tables_1_3) 29 (by decide +kernel) tb3 (by decide +kernel)
theorem wd3_31 : Cond.instanceMethod ({ cls := "ShadowLatchesModel", name := "cycles", desc := "()V" } : MethodName) ∈ WS := ws_all_good (l := tables_1_3) 31 (by decide +kernel) tb3 (by decide +kernel)
theorem wd3_32 : Cond.code ({ cls := "ShadowLatchesModel", name := "cycles", desc := "()V" } : MethodName) prog_5_method_15_code (4 : Nat) (Option.none : Option FieldType) ∈ WS := ws_all_good (l := tables_1_3) 32 (by decide +kernel) tb3 (by decide +kernel)
theorem wd3_33 : Cond.methodLink "ShadowLatchesModel" (55 : Nat) ({ cls := "ShadowLatchesModel", name := "worstOf", desc := "(I)I" } : MethodName) ∈ WS := ws_all_good (l := tables_1_3) 33 (by decide +kernel) tb3 (by decide +kernel)
theorem wd3_35 : Cond.instanceMethod ({ cls := "ShadowLatchesModel", name := "worstOf", desc := "(I)I" } : MethodName) ∈ WS := ws_all_good (l := tables_1_3) 35 (by decide +kernel) tb3 (by decide +kernel)
theorem wd3_36 : Cond.code ({ cls := "ShadowLatchesModel", name := "worstOf", desc := "(I)I" } : MethodName) prog_5_method_11_code (5 : Nat) (Option.some FieldType.int) ∈ WS := ws_all_good (l := tables_1_3) 36 (by decide +kernel) tb3 (by decide +kernel)
theorem wd3_37 : Cond.methodLink "ShadowLatchesModel" (47 : Nat) ({ cls := "ShadowLatchesModel", name := "has", desc := "(II)Z" } : MethodName) ∈ WS := ws_all_good (l := tables_1_3) 37 (by decide +kernel) tb3 (by decide +kernel)
theorem wd3_38 : Cond.static ({ cls := "ShadowLatchesModel", name := "has", desc := "(II)Z" } : MethodName) ∈ WS := ws_all_good (l := tables_1_3) 38 (by decide +kernel) tb3 (by decide +kernel)
theorem wd3_39 : Cond.code ({ cls := "ShadowLatchesModel", name := "has", desc := "(II)Z" } : MethodName) prog_5_method_8_code (2 : Nat) (Option.some FieldType.boolean) ∈ WS := ws_all_good (l := tables_1_3) 39 (by decide +kernel) tb3 (by decide +kernel)
theorem wd3_40 : Cond.methodLink "ShadowLatchesModel" (51 : Nat) ({ cls := "ShadowLatchesModel", name := "stateWith", desc := "(II)I" } : MethodName) ∈ WS := ws_all_good (l := tables_1_3) 40 (by decide +kernel) tb3 (by decide +kernel)
theorem wd3_42 : Cond.instanceMethod ({ cls := "ShadowLatchesModel", name := "stateWith", desc := "(II)I" } : MethodName) ∈ WS := ws_all_good (l := tables_1_3) 42 (by decide +kernel) tb3 (by decide +kernel)
theorem wd3_43 : Cond.code ({ cls := "ShadowLatchesModel", name := "stateWith", desc := "(II)I" } : MethodName) prog_5_method_10_code (4 : Nat) (Option.some FieldType.int) ∈ WS := ws_all_good (l := tables_1_3) 43 (by decide +kernel) tb3 (by decide +kernel)
theorem wd3_44 : Cond.methodLink "ShadowLatchesModel" (43 : Nat) ({ cls := "ShadowLatchesModel", name := "delayWith", desc := "(III)I" } : MethodName) ∈ WS := ws_all_good (l := tables_1_3) 44 (by decide +kernel) tb3 (by decide +kernel)
theorem wd3_46 : Cond.instanceMethod ({ cls := "ShadowLatchesModel", name := "delayWith", desc := "(III)I" } : MethodName) ∈ WS := ws_all_good (l := tables_1_3) 46 (by decide +kernel) tb3 (by decide +kernel)
theorem wd3_47 : Cond.code ({ cls := "ShadowLatchesModel", name := "delayWith", desc := "(III)I" } : MethodName) prog_5_method_9_code (4 : Nat) (Option.some FieldType.int) ∈ WS := ws_all_good (l := tables_1_3) 47 (by decide +kernel) tb3 (by decide +kernel)
theorem wd3_48 : Cond.methodLink "ShadowLatchesModel" (62 : Nat) ({ cls := "ShadowLatchesModel", name := "spends", desc := "(I)V" } : MethodName) ∈ WS := ws_all_good (l := tables_1_3) 48 (by decide +kernel) tb3 (by decide +kernel)
theorem wd3_50 : Cond.instanceMethod ({ cls := "ShadowLatchesModel", name := "spends", desc := "(I)V" } : MethodName) ∈ WS := ws_all_good (l := tables_1_3) 50 (by decide +kernel) tb3 (by decide +kernel)
theorem wd3_51 : Cond.code ({ cls := "ShadowLatchesModel", name := "spends", desc := "(I)V" } : MethodName) prog_5_method_13_code (4 : Nat) (Option.none : Option FieldType) ∈ WS := ws_all_good (l := tables_1_3) 51 (by decide +kernel) tb3 (by decide +kernel)
theorem wd3_52 : Cond.methodLink "ShadowLatchesModel" (66 : Nat) ({ cls := "ShadowLatchesModel", name := "looks", desc := "()V" } : MethodName) ∈ WS := ws_all_good (l := tables_1_3) 52 (by decide +kernel) tb3 (by decide +kernel)
theorem wd3_54 : Cond.instanceMethod ({ cls := "ShadowLatchesModel", name := "looks", desc := "()V" } : MethodName) ∈ WS := ws_all_good (l := tables_1_3) 54 (by decide +kernel) tb3 (by decide +kernel)
theorem wd3_55 : Cond.code ({ cls := "ShadowLatchesModel", name := "looks", desc := "()V" } : MethodName) prog_5_method_14_code (3 : Nat) (Option.none : Option FieldType) ∈ WS := ws_all_good (l := tables_1_3) 55 (by decide +kernel) tb3 (by decide +kernel)
theorem wd3_56 : Cond.methodLink "ShadowLatchesLaw" (61 : Nat) ({ cls := "ShadowLatchesModel", name := "undo", desc := "()I" } : MethodName) ∈ WS := ws_all_good (l := tables_1_3) 56 (by decide +kernel) tb3 (by decide +kernel)
theorem wd3_57 : Cond.instanceMethod ({ cls := "ShadowLatchesModel", name := "undo", desc := "()I" } : MethodName) ∈ WS := ws_all_good (l := tables_1_3) 57 (by decide +kernel) tb3 (by decide +kernel)
theorem wd3_58 : Cond.selects "ShadowLatchesModel" ({ cls := "ShadowLatchesModel", name := "undo", desc := "()I" } : MethodName) ({ cls := "ShadowLatchesModel", name := "undo", desc := "()I" } : MethodName) ∈ WS := ws_all_good (l := tables_1_3) 58 (by decide +kernel) tb3 (by decide +kernel)
theorem wd3_59 : Cond.code ({ cls := "ShadowLatchesModel", name := "undo", desc := "()I" } : MethodName) prog_5_method_35_code (2 : Nat) (Option.some FieldType.int) ∈ WS := ws_all_good (l := tables_1_3) 59 (by decide +kernel) tb3 (by decide +kernel)
theorem wd3_60 : Cond.methodLink "ShadowLatchesLaw" (65 : Nat) ({ cls := "ShadowLatchesModel", name := "keep", desc := "()I" } : MethodName) ∈ WS := ws_all_good (l := tables_1_3) 60 (by decide +kernel) tb3 (by decide +kernel)
theorem wd3_61 : Cond.instanceMethod ({ cls := "ShadowLatchesModel", name := "keep", desc := "()I" } : MethodName) ∈ WS := ws_all_good (l := tables_1_3) 61 (by decide +kernel) tb3 (by decide +kernel)
theorem wd3_62 : Cond.selects "ShadowLatchesModel" ({ cls := "ShadowLatchesModel", name := "keep", desc := "()I" } : MethodName) ({ cls := "ShadowLatchesModel", name := "keep", desc := "()I" } : MethodName) ∈ WS := ws_all_good (l := tables_1_3) 62 (by decide +kernel) tb3 (by decide +kernel)
theorem wd3_63 : Cond.code ({ cls := "ShadowLatchesModel", name := "keep", desc := "()I" } : MethodName) prog_5_method_36_code (1 : Nat) (Option.some FieldType.int) ∈ WS := ws_all_good (l := tables_1_3) 63 (by decide +kernel) tb3 (by decide +kernel)
theorem wd3_64 : Cond.methodLink "ShadowLatchesLaw" (69 : Nat) ({ cls := "ShadowLatchesModel", name := "restore", desc := "()I" } : MethodName) ∈ WS := ws_all_good (l := tables_1_3) 64 (by decide +kernel) tb3 (by decide +kernel)
theorem wd3_65 : Cond.instanceMethod ({ cls := "ShadowLatchesModel", name := "restore", desc := "()I" } : MethodName) ∈ WS := ws_all_good (l := tables_1_3) 65 (by decide +kernel) tb3 (by decide +kernel)
theorem wd3_66 : Cond.selects "ShadowLatchesModel" ({ cls := "ShadowLatchesModel", name := "restore", desc := "()I" } : MethodName) ({ cls := "ShadowLatchesModel", name := "restore", desc := "()I" } : MethodName) ∈ WS := ws_all_good (l := tables_1_3) 66 (by decide +kernel) tb3 (by decide +kernel)
theorem wd3_67 : Cond.code ({ cls := "ShadowLatchesModel", name := "restore", desc := "()I" } : MethodName) prog_5_method_37_code (1 : Nat) (Option.some FieldType.int) ∈ WS := ws_all_good (l := tables_1_3) 67 (by decide +kernel) tb3 (by decide +kernel)
theorem wd3_68 : Cond.methodLink "ShadowLatchesLaw" (73 : Nat) ({ cls := "ShadowLatchesModel", name := "path", desc := "(II)I" } : MethodName) ∈ WS := ws_all_good (l := tables_1_3) 68 (by decide +kernel) tb3 (by decide +kernel)
theorem wd3_69 : Cond.instanceMethod ({ cls := "ShadowLatchesModel", name := "path", desc := "(II)I" } : MethodName) ∈ WS := ws_all_good (l := tables_1_3) 69 (by decide +kernel) tb3 (by decide +kernel)
theorem wd3_70 : Cond.selects "ShadowLatchesModel" ({ cls := "ShadowLatchesModel", name := "path", desc := "(II)I" } : MethodName) ({ cls := "ShadowLatchesModel", name := "path", desc := "(II)I" } : MethodName) ∈ WS := ws_all_good (l := tables_1_3) 70 (by decide +kernel) tb3 (by decide +kernel)
theorem wd3_71 : Cond.code ({ cls := "ShadowLatchesModel", name := "path", desc := "(II)I" } : MethodName) prog_5_method_39_code (3 : Nat) (Option.some FieldType.int) ∈ WS := ws_all_good (l := tables_1_3) 71 (by decide +kernel) tb3 (by decide +kernel)
theorem wd3_72 : Cond.methodLink "ShadowLatchesModel" (147 : Nat) ({ cls := "ShadowLatchesModel", name := "setsWith", desc := "(I)I" } : MethodName) ∈ WS := ws_all_good (l := tables_1_3) 72 (by decide +kernel) tb3 (by decide +kernel)
theorem wd3_74 : Cond.instanceMethod ({ cls := "ShadowLatchesModel", name := "setsWith", desc := "(I)I" } : MethodName) ∈ WS := ws_all_good (l := tables_1_3) 74 (by decide +kernel) tb3 (by decide +kernel)
theorem wd3_75 : Cond.code ({ cls := "ShadowLatchesModel", name := "setsWith", desc := "(I)I" } : MethodName) prog_5_method_38_code (4 : Nat) (Option.some FieldType.int) ∈ WS := ws_all_good (l := tables_1_3) 75 (by decide +kernel) tb3 (by decide +kernel)
theorem wd3_76 : Cond.methodLink "ShadowLatchesLaw" (78 : Nat) ({ cls := "ShadowLatchesModel", name := "delay", desc := "(III)I" } : MethodName) ∈ WS := ws_all_good (l := tables_1_3) 76 (by decide +kernel) tb3 (by decide +kernel)
theorem wd3_77 : Cond.instanceMethod ({ cls := "ShadowLatchesModel", name := "delay", desc := "(III)I" } : MethodName) ∈ WS := ws_all_good (l := tables_1_3) 77 (by decide +kernel) tb3 (by decide +kernel)
theorem wd3_78 : Cond.selects "ShadowLatchesModel" ({ cls := "ShadowLatchesModel", name := "delay", desc := "(III)I" } : MethodName) ({ cls := "ShadowLatchesModel", name := "delay", desc := "(III)I" } : MethodName) ∈ WS := ws_all_good (l := tables_1_3) 78 (by decide +kernel) tb3 (by decide +kernel)
theorem wd3_79 : Cond.code ({ cls := "ShadowLatchesModel", name := "delay", desc := "(III)I" } : MethodName) prog_5_method_40_code (4 : Nat) (Option.some FieldType.int) ∈ WS := ws_all_good (l := tables_1_3) 79 (by decide +kernel) tb3 (by decide +kernel)
theorem wd3_80 : Cond.constantLong "ShadowLatchesModel" (150 : Nat) (120 : Int64) ∈ WS := ws_all_good (l := tables_1_3) 80 (by decide +kernel) tb3 (by decide +kernel)
theorem wd3_81 : Cond.methodLink "ShadowLatchesLaw" (82 : Nat) ({ cls := "ShadowLatchesModel", name := "workload", desc := "(I)I" } : MethodName) ∈ WS := ws_all_good (l := tables_1_3) 81 (by decide +kernel) tb3 (by decide +kernel)
theorem wd3_82 : Cond.instanceMethod ({ cls := "ShadowLatchesModel", name := "workload", desc := "(I)I" } : MethodName) ∈ WS := ws_all_good (l := tables_1_3) 82 (by decide +kernel) tb3 (by decide +kernel)
theorem wd3_83 : Cond.selects "ShadowLatchesModel" ({ cls := "ShadowLatchesModel", name := "workload", desc := "(I)I" } : MethodName) ({ cls := "ShadowLatchesModel", name := "workload", desc := "(I)I" } : MethodName) ∈ WS := ws_all_good (l := tables_1_3) 83 (by decide +kernel) tb3 (by decide +kernel)
theorem wd3_84 : Cond.code ({ cls := "ShadowLatchesModel", name := "workload", desc := "(I)I" } : MethodName) prog_5_method_41_code (2 : Nat) (Option.some FieldType.int) ∈ WS := ws_all_good (l := tables_1_3) 84 (by decide +kernel) tb3 (by decide +kernel)
theorem wd3_85 : Cond.methodLink "ShadowLatchesLaw" (86 : Nat) ({ cls := "ShadowLatchesModel", name := "least", desc := "(Z)I" } : MethodName) ∈ WS := ws_all_good (l := tables_1_3) 85 (by decide +kernel) tb3 (by decide +kernel)
theorem wd3_86 : Cond.instanceMethod ({ cls := "ShadowLatchesModel", name := "least", desc := "(Z)I" } : MethodName) ∈ WS := ws_all_good (l := tables_1_3) 86 (by decide +kernel) tb3 (by decide +kernel)
theorem wd3_87 : Cond.selects "ShadowLatchesModel" ({ cls := "ShadowLatchesModel", name := "least", desc := "(Z)I" } : MethodName) ({ cls := "ShadowLatchesModel", name := "least", desc := "(Z)I" } : MethodName) ∈ WS := ws_all_good (l := tables_1_3) 87 (by decide +kernel) tb3 (by decide +kernel)
theorem wd3_88 : Cond.code ({ cls := "ShadowLatchesModel", name := "least", desc := "(Z)I" } : MethodName) prog_5_method_43_code (3 : Nat) (Option.some FieldType.int) ∈ WS := ws_all_good (l := tables_1_3) 88 (by decide +kernel) tb3 (by decide +kernel)
theorem wd3_89 : Cond.methodLink "ShadowLatchesModel" (152 : Nat) ({ cls := "ShadowLatchesModel", name := "areWell", desc := "(II)Z" } : MethodName) ∈ WS := ws_all_good (l := tables_1_3) 89 (by decide +kernel) tb3 (by decide +kernel)
theorem wd3_91 : Cond.instanceMethod ({ cls := "ShadowLatchesModel", name := "areWell", desc := "(II)Z" } : MethodName) ∈ WS := ws_all_good (l := tables_1_3) 91 (by decide +kernel) tb3 (by decide +kernel)
theorem wd3_92 : Cond.code ({ cls := "ShadowLatchesModel", name := "areWell", desc := "(II)Z" } : MethodName) prog_5_method_42_code (5 : Nat) (Option.some FieldType.boolean) ∈ WS := ws_all_good (l := tables_1_3) 92 (by decide +kernel) tb3 (by decide +kernel)
theorem wd3_93 : Cond.methodLink "ShadowLatchesLaw" (90 : Nat) ({ cls := "ShadowLatchesModel", name := "would", desc := "(III)I" } : MethodName) ∈ WS := ws_all_good (l := tables_1_3) 93 (by decide +kernel) tb3 (by decide +kernel)
theorem wd3_94 : Cond.instanceMethod ({ cls := "ShadowLatchesModel", name := "would", desc := "(III)I" } : MethodName) ∈ WS := ws_all_good (l := tables_1_3) 94 (by decide +kernel) tb3 (by decide +kernel)
theorem wd3_95 : Cond.selects "ShadowLatchesModel" ({ cls := "ShadowLatchesModel", name := "would", desc := "(III)I" } : MethodName) ({ cls := "ShadowLatchesModel", name := "would", desc := "(III)I" } : MethodName) ∈ WS := ws_all_good (l := tables_1_3) 95 (by decide +kernel) tb3 (by decide +kernel)
theorem wd3_96 : Cond.code ({ cls := "ShadowLatchesModel", name := "would", desc := "(III)I" } : MethodName) prog_5_method_46_code (4 : Nat) (Option.some FieldType.int) ∈ WS := ws_all_good (l := tables_1_3) 96 (by decide +kernel) tb3 (by decide +kernel)
theorem wd3_97 : Cond.constantLong "ShadowLatchesModel" (159 : Nat) (4 : Int64) ∈ WS := ws_all_good (l := tables_1_3) 97 (by decide +kernel) tb3 (by decide +kernel)
theorem wd3_98 : Cond.methodLink "ShadowLatchesModel" (161 : Nat) ({ cls := "ShadowLatchesModel", name := "brings", desc := "(III)I" } : MethodName) ∈ WS := ws_all_good (l := tables_1_3) 98 (by decide +kernel) tb3 (by decide +kernel)
theorem wd3_100 : Cond.instanceMethod ({ cls := "ShadowLatchesModel", name := "brings", desc := "(III)I" } : MethodName) ∈ WS := ws_all_good (l := tables_1_3) 100 (by decide +kernel) tb3 (by decide +kernel)
theorem wd3_101 : Cond.code ({ cls := "ShadowLatchesModel", name := "brings", desc := "(III)I" } : MethodName) prog_5_method_45_code (5 : Nat) (Option.some FieldType.int) ∈ WS := ws_all_good (l := tables_1_3) 101 (by decide +kernel) tb3 (by decide +kernel)
theorem wd3_102 : Cond.methodLink "ShadowLatchesModel" (155 : Nat) ({ cls := "ShadowLatchesModel", name := "energySince", desc := "([I)I" } : MethodName) ∈ WS := ws_all_good (l := tables_1_3) 102 (by decide +kernel) tb3 (by decide +kernel)
theorem wd3_104 : Cond.instanceMethod ({ cls := "ShadowLatchesModel", name := "energySince", desc := "([I)I" } : MethodName) ∈ WS := ws_all_good (l := tables_1_3) 104 (by decide +kernel) tb3 (by decide +kernel)
theorem wd3_105 : Cond.code ({ cls := "ShadowLatchesModel", name := "energySince", desc := "([I)I" } : MethodName) prog_5_method_44_code (2 : Nat) (Option.some FieldType.int) ∈ WS := ws_all_good (l := tables_1_3) 105 (by decide +kernel) tb3 (by decide +kernel)
theorem wd3_106 : Cond.methodLink "ShadowLatchesLaw" (94 : Nat) ({ cls := "ShadowLatchesModel", name := "best", desc := "(I)I" } : MethodName) ∈ WS := ws_all_good (l := tables_1_3) 106 (by decide +kernel) tb3 (by decide +kernel)
theorem wd3_107 : Cond.instanceMethod ({ cls := "ShadowLatchesModel", name := "best", desc := "(I)I" } : MethodName) ∈ WS := ws_all_good (l := tables_1_3) 107 (by decide +kernel) tb3 (by decide +kernel)
theorem wd3_108 : Cond.selects "ShadowLatchesModel" ({ cls := "ShadowLatchesModel", name := "best", desc := "(I)I" } : MethodName) ({ cls := "ShadowLatchesModel", name := "best", desc := "(I)I" } : MethodName) ∈ WS := ws_all_good (l := tables_1_3) 108 (by decide +kernel) tb3 (by decide +kernel)
theorem wd3_109 : Cond.code ({ cls := "ShadowLatchesModel", name := "best", desc := "(I)I" } : MethodName) prog_5_method_47_code (6 : Nat) (Option.some FieldType.int) ∈ WS := ws_all_good (l := tables_1_3) 109 (by decide +kernel) tb3 (by decide +kernel)
theorem wd3_110 : Cond.methodLink "ShadowLatchesLaw" (98 : Nat) ({ cls := "ShadowLatchesModel", name := "count", desc := "(I)I" } : MethodName) ∈ WS := ws_all_good (l := tables_1_3) 110 (by decide +kernel) tb3 (by decide +kernel)
theorem wd3_111 : Cond.instanceMethod ({ cls := "ShadowLatchesModel", name := "count", desc := "(I)I" } : MethodName) ∈ WS := ws_all_good (l := tables_1_3) 111 (by decide +kernel) tb3 (by decide +kernel)
theorem wd3_112 : Cond.selects "ShadowLatchesModel" ({ cls := "ShadowLatchesModel", name := "count", desc := "(I)I" } : MethodName) ({ cls := "ShadowLatchesModel", name := "count", desc := "(I)I" } : MethodName) ∈ WS := ws_all_good (l := tables_1_3) 112 (by decide +kernel) tb3 (by decide +kernel)
theorem wd3_113 : Cond.code ({ cls := "ShadowLatchesModel", name := "count", desc := "(I)I" } : MethodName) prog_5_method_49_code (2 : Nat) (Option.some FieldType.int) ∈ WS := ws_all_good (l := tables_1_3) 113 (by decide +kernel) tb3 (by decide +kernel)
theorem wd3_114 : Cond.constantLong "ShadowLatchesModel" (164 : Nat) (12 : Int64) ∈ WS := ws_all_good (l := tables_1_3) 114 (by decide +kernel) tb3 (by decide +kernel)
theorem wd3_115 : Cond.constantLong "ShadowLatchesModel" (166 : Nat) (17 : Int64) ∈ WS := ws_all_good (l := tables_1_3) 115 (by decide +kernel) tb3 (by decide +kernel)
theorem wd3_116 : Cond.constantLong "ShadowLatchesModel" (168 : Nat) (23 : Int64) ∈ WS := ws_all_good (l := tables_1_3) 116 (by decide +kernel) tb3 (by decide +kernel)
theorem wd3_117 : Cond.methodLink "ShadowLatchesModel" (170 : Nat) ({ cls := "ShadowLatchesModel", name := "pathsThat", desc := "(I)I" } : MethodName) ∈ WS := ws_all_good (l := tables_1_3) 117 (by decide +kernel) tb3 (by decide +kernel)
theorem wd3_119 : Cond.instanceMethod ({ cls := "ShadowLatchesModel", name := "pathsThat", desc := "(I)I" } : MethodName) ∈ WS := ws_all_good (l := tables_1_3) 119 (by decide +kernel) tb3 (by decide +kernel)
theorem wd3_120 : Cond.code ({ cls := "ShadowLatchesModel", name := "pathsThat", desc := "(I)I" } : MethodName) prog_5_method_48_code (4 : Nat) (Option.some FieldType.int) ∈ WS := ws_all_good (l := tables_1_3) 120 (by decide +kernel) tb3 (by decide +kernel)
theorem wd0_0 : Cond.selects "ShadowLatches" ⟨"ShadowLatches", "recordState", "()V"⟩ ⟨"ShadowLatches", "recordState", "()V"⟩ ∈ WS := ws_all_good (l := k2_sels lw_privs) 0 (by decide +kernel) tb0 (by decide +kernel)
theorem wd0_1 : Cond.selects "ShadowLatches" ⟨"ShadowLatches", "dropOldestState", "()V"⟩ ⟨"ShadowLatches", "dropOldestState", "()V"⟩ ∈ WS := ws_all_good (l := k2_sels lw_privs) 1 (by decide +kernel) tb0 (by decide +kernel)
theorem wd0_2 : Cond.selects "ShadowLatches" ⟨"ShadowLatches", "isPath", "(I)Z"⟩ ⟨"ShadowLatches", "isPath", "(I)Z"⟩ ∈ WS := ws_all_good (l := k2_sels lw_privs) 2 (by decide +kernel) tb0 (by decide +kernel)
theorem wd0_3 : Cond.selects "ShadowLatches$Circuit" ⟨"ShadowLatches$Circuit", "runOneCycle", "()V"⟩ ⟨"ShadowLatches$Circuit", "runOneCycle", "()V"⟩ ∈ WS := ws_all_good (l := k2_sels lw_privs) 3 (by decide +kernel) tb0 (by decide +kernel)
theorem wd0_4 : Cond.selects "ShadowLatches$Circuit" ⟨"ShadowLatches$Circuit", "countUses", "(I)V"⟩ ⟨"ShadowLatches$Circuit", "countUses", "(I)V"⟩ ∈ WS := ws_all_good (l := k2_sels lw_privs) 4 (by decide +kernel) tb0 (by decide +kernel)
theorem wd0_5 : Cond.selects "ShadowLatches$Circuit" ⟨"ShadowLatches$Circuit", "spendCycle", "(I)V"⟩ ⟨"ShadowLatches$Circuit", "spendCycle", "(I)V"⟩ ∈ WS := ws_all_good (l := k2_sels lw_privs) 5 (by decide +kernel) tb0 (by decide +kernel)
theorem wd0_6 : Cond.selects "ShadowLatches$Circuit" ⟨"ShadowLatches$Circuit", "changeHeat", "(I)V"⟩ ⟨"ShadowLatches$Circuit", "changeHeat", "(I)V"⟩ ∈ WS := ws_all_good (l := k2_sels lw_privs) 6 (by decide +kernel) tb0 (by decide +kernel)
theorem wd0_7 : Cond.selects "ShadowLatches$Circuit" ⟨"ShadowLatches$Circuit", "complain", "()V"⟩ ⟨"ShadowLatches$Circuit", "complain", "()V"⟩ ∈ WS := ws_all_good (l := k2_sels lw_privs) 7 (by decide +kernel) tb0 (by decide +kernel)
theorem wd0_8 : Cond.selects "ShadowLatches$Circuit" ⟨"ShadowLatches$Circuit", "lookAtWindow", "()V"⟩ ⟨"ShadowLatches$Circuit", "lookAtWindow", "()V"⟩ ∈ WS := ws_all_good (l := k2_sels lw_privs) 8 (by decide +kernel) tb0 (by decide +kernel)
theorem wd0_9 : Cond.selects "ShadowLatches" ⟨"ShadowLatches", "tryCycles", "(II)V"⟩ ⟨"ShadowLatches", "tryCycles", "(II)V"⟩ ∈ WS := ws_all_good (l := k2_sels lw_privs) 9 (by decide +kernel) tb0 (by decide +kernel)
theorem wd0_10 : Cond.selects "ShadowLatchesModel" ⟨"ShadowLatchesModel", "remember", "()V"⟩ ⟨"ShadowLatchesModel", "remember", "()V"⟩ ∈ WS := ws_all_good (l := k2_sels lw_privs) 10 (by decide +kernel) tb0 (by decide +kernel)
theorem wd0_11 : Cond.selects "ShadowLatchesModel" ⟨"ShadowLatchesModel", "acted", "(I)I"⟩ ⟨"ShadowLatchesModel", "acted", "(I)I"⟩ ∈ WS := ws_all_good (l := k2_sels lw_privs) 11 (by decide +kernel) tb0 (by decide +kernel)
theorem wd0_12 : Cond.selects "ShadowLatchesModel" ⟨"ShadowLatchesModel", "isPath", "(I)Z"⟩ ⟨"ShadowLatchesModel", "isPath", "(I)Z"⟩ ∈ WS := ws_all_good (l := k2_sels lw_privs) 12 (by decide +kernel) tb0 (by decide +kernel)
theorem wd0_13 : Cond.selects "ShadowLatchesModel" ⟨"ShadowLatchesModel", "sets", "(II)I"⟩ ⟨"ShadowLatchesModel", "sets", "(II)I"⟩ ∈ WS := ws_all_good (l := k2_sels lw_privs) 13 (by decide +kernel) tb0 (by decide +kernel)
theorem wd0_14 : Cond.selects "ShadowLatchesModel" ⟨"ShadowLatchesModel", "begins", "(I)V"⟩ ⟨"ShadowLatchesModel", "begins", "(I)V"⟩ ∈ WS := ws_all_good (l := k2_sels lw_privs) 14 (by decide +kernel) tb0 (by decide +kernel)
theorem wd0_15 : Cond.selects "ShadowLatchesModel" ⟨"ShadowLatchesModel", "fault", "()I"⟩ ⟨"ShadowLatchesModel", "fault", "()I"⟩ ∈ WS := ws_all_good (l := k2_sels lw_privs) 15 (by decide +kernel) tb0 (by decide +kernel)
theorem wd0_16 : Cond.selects "ShadowLatchesModel" ⟨"ShadowLatchesModel", "readsSet", "()Z"⟩ ⟨"ShadowLatchesModel", "readsSet", "()Z"⟩ ∈ WS := ws_all_good (l := k2_sels lw_privs) 16 (by decide +kernel) tb0 (by decide +kernel)
theorem wd0_17 : Cond.selects "ShadowLatchesModel" ⟨"ShadowLatchesModel", "takes", "(I)Z"⟩ ⟨"ShadowLatchesModel", "takes", "(I)Z"⟩ ∈ WS := ws_all_good (l := k2_sels lw_privs) 17 (by decide +kernel) tb0 (by decide +kernel)
theorem wd0_18 : Cond.selects "ShadowLatchesModel" ⟨"ShadowLatchesModel", "isHere", "(II)Z"⟩ ⟨"ShadowLatchesModel", "isHere", "(II)Z"⟩ ∈ WS := ws_all_good (l := k2_sels lw_privs) 18 (by decide +kernel) tb0 (by decide +kernel)
theorem wd0_19 : Cond.selects "ShadowLatchesModel" ⟨"ShadowLatchesModel", "cycles", "()V"⟩ ⟨"ShadowLatchesModel", "cycles", "()V"⟩ ∈ WS := ws_all_good (l := k2_sels lw_privs) 19 (by decide +kernel) tb0 (by decide +kernel)
theorem wd0_20 : Cond.selects "ShadowLatchesModel" ⟨"ShadowLatchesModel", "worstOf", "(I)I"⟩ ⟨"ShadowLatchesModel", "worstOf", "(I)I"⟩ ∈ WS := ws_all_good (l := k2_sels lw_privs) 20 (by decide +kernel) tb0 (by decide +kernel)
theorem wd0_21 : Cond.selects "ShadowLatchesModel" ⟨"ShadowLatchesModel", "stateWith", "(II)I"⟩ ⟨"ShadowLatchesModel", "stateWith", "(II)I"⟩ ∈ WS := ws_all_good (l := k2_sels lw_privs) 21 (by decide +kernel) tb0 (by decide +kernel)
theorem wd0_22 : Cond.selects "ShadowLatchesModel" ⟨"ShadowLatchesModel", "delayWith", "(III)I"⟩ ⟨"ShadowLatchesModel", "delayWith", "(III)I"⟩ ∈ WS := ws_all_good (l := k2_sels lw_privs) 22 (by decide +kernel) tb0 (by decide +kernel)
theorem wd0_23 : Cond.selects "ShadowLatchesModel" ⟨"ShadowLatchesModel", "spends", "(I)V"⟩ ⟨"ShadowLatchesModel", "spends", "(I)V"⟩ ∈ WS := ws_all_good (l := k2_sels lw_privs) 23 (by decide +kernel) tb0 (by decide +kernel)
theorem wd0_24 : Cond.selects "ShadowLatchesModel" ⟨"ShadowLatchesModel", "looks", "()V"⟩ ⟨"ShadowLatchesModel", "looks", "()V"⟩ ∈ WS := ws_all_good (l := k2_sels lw_privs) 24 (by decide +kernel) tb0 (by decide +kernel)
theorem wd0_25 : Cond.selects "ShadowLatchesModel" ⟨"ShadowLatchesModel", "setsWith", "(I)I"⟩ ⟨"ShadowLatchesModel", "setsWith", "(I)I"⟩ ∈ WS := ws_all_good (l := k2_sels lw_privs) 25 (by decide +kernel) tb0 (by decide +kernel)
theorem wd0_26 : Cond.selects "ShadowLatchesModel" ⟨"ShadowLatchesModel", "areWell", "(II)Z"⟩ ⟨"ShadowLatchesModel", "areWell", "(II)Z"⟩ ∈ WS := ws_all_good (l := k2_sels lw_privs) 26 (by decide +kernel) tb0 (by decide +kernel)
theorem wd0_27 : Cond.selects "ShadowLatchesModel" ⟨"ShadowLatchesModel", "brings", "(III)I"⟩ ⟨"ShadowLatchesModel", "brings", "(III)I"⟩ ∈ WS := ws_all_good (l := k2_sels lw_privs) 27 (by decide +kernel) tb0 (by decide +kernel)
theorem wd0_28 : Cond.selects "ShadowLatchesModel" ⟨"ShadowLatchesModel", "energySince", "([I)I"⟩ ⟨"ShadowLatchesModel", "energySince", "([I)I"⟩ ∈ WS := ws_all_good (l := k2_sels lw_privs) 28 (by decide +kernel) tb0 (by decide +kernel)
theorem wd0_29 : Cond.selects "ShadowLatchesModel" ⟨"ShadowLatchesModel", "pathsThat", "(I)I"⟩ ⟨"ShadowLatchesModel", "pathsThat", "(I)I"⟩ ∈ WS := ws_all_good (l := k2_sels lw_privs) 29 (by decide +kernel) tb0 (by decide +kernel)
theorem inW0 : ∀ w ∈ u_ws RX0 TX0 19, w ∈ WS := by decide +kernel
theorem inW1 : ∀ w ∈ u_ws RX1 TX1 4, w ∈ WS := by decide +kernel
theorem inW2 : ∀ w ∈ u_ws RX2 TX2 7, w ∈ WS := by decide +kernel
theorem inW3 : ∀ w ∈ u_ws RX3 TX3 12, w ∈ WS := by decide +kernel
end
section
theorem dX0_init_0 : decode cX0_init 0 = .ok (.aload_n 0, 1) := by decide +kernel
theorem dX0_init_1 : decode cX0_init 1 = .ok (.invokespecial 1, 3) := by decide +kernel
theorem dX0_init_4 : decode cX0_init 4 = .ok (.aload_n 0, 1) := by decide +kernel
theorem dX0_init_5 : decode cX0_init 5 = .ok (.bipush 8, 2) := by decide +kernel
theorem dX0_init_7 : decode cX0_init 7 = .ok (.newarray .int, 2) := by decide +kernel
theorem dX0_init_9 : decode cX0_init 9 = .ok (.putfield 9, 3) := by decide +kernel
theorem dX0_init_12 : decode cX0_init 12 = .ok (.aload_n 0, 1) := by decide +kernel
theorem dX0_init_13 : decode cX0_init 13 = .ok (.bipush 8, 2) := by decide +kernel
theorem dX0_init_15 : decode cX0_init 15 = .ok (.newarray .int, 2) := by decide +kernel
theorem dX0_init_17 : decode cX0_init 17 = .ok (.putfield 13, 3) := by decide +kernel
theorem dX0_init_20 : decode cX0_init 20 = .ok (.aload_n 0, 1) := by decide +kernel
theorem dX0_init_21 : decode cX0_init 21 = .ok (.bipush 16, 2) := by decide +kernel
theorem dX0_init_23 : decode cX0_init 23 = .ok (.newarray .int, 2) := by decide +kernel
theorem dX0_init_25 : decode cX0_init 25 = .ok (.putfield 16, 3) := by decide +kernel
theorem dX0_init_28 : decode cX0_init 28 = .ok (.aload_n 0, 1) := by decide +kernel
theorem dX0_init_29 : decode cX0_init 29 = .ok (.getstatic 19, 3) := by decide +kernel
theorem dX0_init_32 : decode cX0_init 32 = .ok (.invokevirtual 22, 3) := by decide +kernel
theorem dX0_init_35 : decode cX0_init 35 = .ok (.checkcast 23, 3) := by decide +kernel
theorem dX0_init_38 : decode cX0_init 38 = .ok (.putfield 27, 3) := by decide +kernel
theorem dX0_init_41 : decode cX0_init 41 = .ok (.aload_n 0, 1) := by decide +kernel
theorem dX0_init_42 : decode cX0_init 42 = .ok (.getfield 9, 3) := by decide +kernel
theorem dX0_init_45 : decode cX0_init 45 = .ok (.iconst 0, 1) := by decide +kernel
theorem dX0_init_46 : decode cX0_init 46 = .ok (.bipush 100, 2) := by decide +kernel
theorem dX0_init_48 : decode cX0_init 48 = .ok (.iastore, 1) := by decide +kernel
theorem dX0_init_49 : decode cX0_init 49 = .ok (.aload_n 0, 1) := by decide +kernel
theorem dX0_init_50 : decode cX0_init 50 = .ok (.iconst 1, 1) := by decide +kernel
theorem dX0_init_51 : decode cX0_init 51 = .ok (.putfield 30, 3) := by decide +kernel
theorem dX0_init_54 : decode cX0_init 54 = .ok (.aload_n 0, 1) := by decide +kernel
theorem dX0_init_55 : decode cX0_init 55 = .ok (.iconst 1, 1) := by decide +kernel
theorem dX0_init_56 : decode cX0_init 56 = .ok (.putfield 34, 3) := by decide +kernel
theorem dX0_init_59 : decode cX0_init 59 = .ok (.aload_n 0, 1) := by decide +kernel
theorem dX0_init_60 : decode cX0_init 60 = .ok (.sipush 1000, 3) := by decide +kernel
theorem dX0_init_63 : decode cX0_init 63 = .ok (.putfield 37, 3) := by decide +kernel
theorem dX0_init_66 : decode cX0_init 66 = .ok (.aload_n 0, 1) := by decide +kernel
theorem dX0_init_67 : decode cX0_init 67 = .ok (.bipush 20, 2) := by decide +kernel
theorem dX0_init_69 : decode cX0_init 69 = .ok (.putfield 40, 3) := by decide +kernel
theorem dX0_init_72 : decode cX0_init 72 = .ok (.return_, 1) := by decide +kernel
theorem dX0_copyFrom_0 : decode cX0_copyFrom 0 = .ok (.aload_n 1, 1) := by decide +kernel
theorem dX0_copyFrom_1 : decode cX0_copyFrom 1 = .ok (.getfield 9, 3) := by decide +kernel
theorem dX0_copyFrom_4 : decode cX0_copyFrom 4 = .ok (.iconst 0, 1) := by decide +kernel
theorem dX0_copyFrom_5 : decode cX0_copyFrom 5 = .ok (.aload_n 0, 1) := by decide +kernel
theorem dX0_copyFrom_6 : decode cX0_copyFrom 6 = .ok (.getfield 9, 3) := by decide +kernel
theorem dX0_copyFrom_9 : decode cX0_copyFrom 9 = .ok (.iconst 0, 1) := by decide +kernel
theorem dX0_copyFrom_10 : decode cX0_copyFrom 10 = .ok (.bipush 8, 2) := by decide +kernel
theorem dX0_copyFrom_12 : decode cX0_copyFrom 12 = .ok (.invokestatic 43, 3) := by decide +kernel
theorem dX0_copyFrom_15 : decode cX0_copyFrom 15 = .ok (.aload_n 1, 1) := by decide +kernel
theorem dX0_copyFrom_16 : decode cX0_copyFrom 16 = .ok (.getfield 13, 3) := by decide +kernel
theorem dX0_copyFrom_19 : decode cX0_copyFrom 19 = .ok (.iconst 0, 1) := by decide +kernel
theorem dX0_copyFrom_20 : decode cX0_copyFrom 20 = .ok (.aload_n 0, 1) := by decide +kernel
theorem dX0_copyFrom_21 : decode cX0_copyFrom 21 = .ok (.getfield 13, 3) := by decide +kernel
theorem dX0_copyFrom_24 : decode cX0_copyFrom 24 = .ok (.iconst 0, 1) := by decide +kernel
theorem dX0_copyFrom_25 : decode cX0_copyFrom 25 = .ok (.bipush 8, 2) := by decide +kernel
theorem dX0_copyFrom_27 : decode cX0_copyFrom 27 = .ok (.invokestatic 43, 3) := by decide +kernel
theorem dX0_copyFrom_30 : decode cX0_copyFrom 30 = .ok (.aload_n 1, 1) := by decide +kernel
theorem dX0_copyFrom_31 : decode cX0_copyFrom 31 = .ok (.getfield 16, 3) := by decide +kernel
theorem dX0_copyFrom_34 : decode cX0_copyFrom 34 = .ok (.iconst 0, 1) := by decide +kernel
theorem dX0_copyFrom_35 : decode cX0_copyFrom 35 = .ok (.aload_n 0, 1) := by decide +kernel
theorem dX0_copyFrom_36 : decode cX0_copyFrom 36 = .ok (.getfield 16, 3) := by decide +kernel
theorem dX0_copyFrom_39 : decode cX0_copyFrom 39 = .ok (.iconst 0, 1) := by decide +kernel
theorem dX0_copyFrom_40 : decode cX0_copyFrom 40 = .ok (.bipush 16, 2) := by decide +kernel
theorem dX0_copyFrom_42 : decode cX0_copyFrom 42 = .ok (.invokestatic 43, 3) := by decide +kernel
theorem dX0_copyFrom_45 : decode cX0_copyFrom 45 = .ok (.aload_n 1, 1) := by decide +kernel
theorem dX0_copyFrom_46 : decode cX0_copyFrom 46 = .ok (.getfield 27, 3) := by decide +kernel
theorem dX0_copyFrom_49 : decode cX0_copyFrom 49 = .ok (.iconst 0, 1) := by decide +kernel
theorem dX0_copyFrom_50 : decode cX0_copyFrom 50 = .ok (.aload_n 0, 1) := by decide +kernel
theorem dX0_copyFrom_51 : decode cX0_copyFrom 51 = .ok (.getfield 27, 3) := by decide +kernel
theorem dX0_copyFrom_54 : decode cX0_copyFrom 54 = .ok (.iconst 0, 1) := by decide +kernel
theorem dX0_copyFrom_55 : decode cX0_copyFrom 55 = .ok (.bipush 7, 2) := by decide +kernel
theorem dX0_copyFrom_57 : decode cX0_copyFrom 57 = .ok (.invokestatic 43, 3) := by decide +kernel
theorem dX0_copyFrom_60 : decode cX0_copyFrom 60 = .ok (.aload_n 0, 1) := by decide +kernel
theorem dX0_copyFrom_61 : decode cX0_copyFrom 61 = .ok (.aload_n 1, 1) := by decide +kernel
theorem dX0_copyFrom_62 : decode cX0_copyFrom 62 = .ok (.getfield 30, 3) := by decide +kernel
theorem dX0_copyFrom_65 : decode cX0_copyFrom 65 = .ok (.putfield 30, 3) := by decide +kernel
theorem dX0_copyFrom_68 : decode cX0_copyFrom 68 = .ok (.aload_n 0, 1) := by decide +kernel
theorem dX0_copyFrom_69 : decode cX0_copyFrom 69 = .ok (.aload_n 1, 1) := by decide +kernel
theorem dX0_copyFrom_70 : decode cX0_copyFrom 70 = .ok (.getfield 34, 3) := by decide +kernel
theorem dX0_copyFrom_73 : decode cX0_copyFrom 73 = .ok (.putfield 34, 3) := by decide +kernel
theorem dX0_copyFrom_76 : decode cX0_copyFrom 76 = .ok (.aload_n 0, 1) := by decide +kernel
theorem dX0_copyFrom_77 : decode cX0_copyFrom 77 = .ok (.aload_n 1, 1) := by decide +kernel
theorem dX0_copyFrom_78 : decode cX0_copyFrom 78 = .ok (.getfield 49, 3) := by decide +kernel
theorem dX0_copyFrom_81 : decode cX0_copyFrom 81 = .ok (.putfield 49, 3) := by decide +kernel
theorem dX0_copyFrom_84 : decode cX0_copyFrom 84 = .ok (.aload_n 0, 1) := by decide +kernel
theorem dX0_copyFrom_85 : decode cX0_copyFrom 85 = .ok (.aload_n 1, 1) := by decide +kernel
theorem dX0_copyFrom_86 : decode cX0_copyFrom 86 = .ok (.getfield 37, 3) := by decide +kernel
theorem dX0_copyFrom_89 : decode cX0_copyFrom 89 = .ok (.putfield 37, 3) := by decide +kernel
theorem dX0_copyFrom_92 : decode cX0_copyFrom 92 = .ok (.aload_n 0, 1) := by decide +kernel
theorem dX0_copyFrom_93 : decode cX0_copyFrom 93 = .ok (.aload_n 1, 1) := by decide +kernel
theorem dX0_copyFrom_94 : decode cX0_copyFrom 94 = .ok (.getfield 40, 3) := by decide +kernel
theorem dX0_copyFrom_97 : decode cX0_copyFrom 97 = .ok (.putfield 40, 3) := by decide +kernel
theorem dX0_copyFrom_100 : decode cX0_copyFrom 100 = .ok (.aload_n 0, 1) := by decide +kernel
theorem dX0_copyFrom_101 : decode cX0_copyFrom 101 = .ok (.aload_n 1, 1) := by decide +kernel
theorem dX0_copyFrom_102 : decode cX0_copyFrom 102 = .ok (.getfield 52, 3) := by decide +kernel
theorem dX0_copyFrom_105 : decode cX0_copyFrom 105 = .ok (.putfield 52, 3) := by decide +kernel
theorem dX0_copyFrom_108 : decode cX0_copyFrom 108 = .ok (.aload_n 0, 1) := by decide +kernel
theorem dX0_copyFrom_109 : decode cX0_copyFrom 109 = .ok (.aload_n 1, 1) := by decide +kernel
theorem dX0_copyFrom_110 : decode cX0_copyFrom 110 = .ok (.getfield 56, 3) := by decide +kernel
theorem dX0_copyFrom_113 : decode cX0_copyFrom 113 = .ok (.putfield 56, 3) := by decide +kernel
theorem dX0_copyFrom_116 : decode cX0_copyFrom 116 = .ok (.aload_n 0, 1) := by decide +kernel
theorem dX0_copyFrom_117 : decode cX0_copyFrom 117 = .ok (.aload_n 1, 1) := by decide +kernel
theorem dX0_copyFrom_118 : decode cX0_copyFrom 118 = .ok (.getfield 59, 3) := by decide +kernel
theorem dX0_copyFrom_121 : decode cX0_copyFrom 121 = .ok (.putfield 59, 3) := by decide +kernel
theorem dX0_copyFrom_124 : decode cX0_copyFrom 124 = .ok (.aload_n 0, 1) := by decide +kernel
theorem dX0_copyFrom_125 : decode cX0_copyFrom 125 = .ok (.aload_n 1, 1) := by decide +kernel
theorem dX0_copyFrom_126 : decode cX0_copyFrom 126 = .ok (.getfield 62, 3) := by decide +kernel
theorem dX0_copyFrom_129 : decode cX0_copyFrom 129 = .ok (.putfield 62, 3) := by decide +kernel
theorem dX0_copyFrom_132 : decode cX0_copyFrom 132 = .ok (.aload_n 0, 1) := by decide +kernel
theorem dX0_copyFrom_133 : decode cX0_copyFrom 133 = .ok (.aload_n 1, 1) := by decide +kernel
theorem dX0_copyFrom_134 : decode cX0_copyFrom 134 = .ok (.getfield 65, 3) := by decide +kernel
theorem dX0_copyFrom_137 : decode cX0_copyFrom 137 = .ok (.putfield 65, 3) := by decide +kernel
theorem dX0_copyFrom_140 : decode cX0_copyFrom 140 = .ok (.aload_n 0, 1) := by decide +kernel
theorem dX0_copyFrom_141 : decode cX0_copyFrom 141 = .ok (.aload_n 1, 1) := by decide +kernel
theorem dX0_copyFrom_142 : decode cX0_copyFrom 142 = .ok (.getfield 68, 3) := by decide +kernel
theorem dX0_copyFrom_145 : decode cX0_copyFrom 145 = .ok (.putfield 68, 3) := by decide +kernel
theorem dX0_copyFrom_148 : decode cX0_copyFrom 148 = .ok (.aload_n 0, 1) := by decide +kernel
theorem dX0_copyFrom_149 : decode cX0_copyFrom 149 = .ok (.aload_n 1, 1) := by decide +kernel
theorem dX0_copyFrom_150 : decode cX0_copyFrom 150 = .ok (.getfield 71, 3) := by decide +kernel
theorem dX0_copyFrom_153 : decode cX0_copyFrom 153 = .ok (.putfield 71, 3) := by decide +kernel
theorem dX0_copyFrom_156 : decode cX0_copyFrom 156 = .ok (.aload_n 0, 1) := by decide +kernel
theorem dX0_copyFrom_157 : decode cX0_copyFrom 157 = .ok (.aload_n 1, 1) := by decide +kernel
theorem dX0_copyFrom_158 : decode cX0_copyFrom 158 = .ok (.getfield 74, 3) := by decide +kernel
theorem dX0_copyFrom_161 : decode cX0_copyFrom 161 = .ok (.putfield 74, 3) := by decide +kernel
theorem dX0_copyFrom_164 : decode cX0_copyFrom 164 = .ok (.aload_n 0, 1) := by decide +kernel
theorem dX0_copyFrom_165 : decode cX0_copyFrom 165 = .ok (.aload_n 1, 1) := by decide +kernel
theorem dX0_copyFrom_166 : decode cX0_copyFrom 166 = .ok (.getfield 78, 3) := by decide +kernel
theorem dX0_copyFrom_169 : decode cX0_copyFrom 169 = .ok (.putfield 78, 3) := by decide +kernel
theorem dX0_copyFrom_172 : decode cX0_copyFrom 172 = .ok (.aload_n 0, 1) := by decide +kernel
theorem dX0_copyFrom_173 : decode cX0_copyFrom 173 = .ok (.aload_n 1, 1) := by decide +kernel
theorem dX0_copyFrom_174 : decode cX0_copyFrom 174 = .ok (.getfield 81, 3) := by decide +kernel
theorem dX0_copyFrom_177 : decode cX0_copyFrom 177 = .ok (.putfield 81, 3) := by decide +kernel
theorem dX0_copyFrom_180 : decode cX0_copyFrom 180 = .ok (.return_, 1) := by decide +kernel
theorem dX0_beginWorkload_0 : decode cX0_beginWorkload 0 = .ok (.aload_n 0, 1) := by decide +kernel
theorem dX0_beginWorkload_1 : decode cX0_beginWorkload 1 = .ok (.iload_n 1, 1) := by decide +kernel
theorem dX0_beginWorkload_2 : decode cX0_beginWorkload 2 = .ok (.putfield 34, 3) := by decide +kernel
theorem dX0_beginWorkload_5 : decode cX0_beginWorkload 5 = .ok (.aload_n 0, 1) := by decide +kernel
theorem dX0_beginWorkload_6 : decode cX0_beginWorkload 6 = .ok (.iconst 0, 1) := by decide +kernel
theorem dX0_beginWorkload_7 : decode cX0_beginWorkload 7 = .ok (.putfield 49, 3) := by decide +kernel
theorem dX0_beginWorkload_10 : decode cX0_beginWorkload 10 = .ok (.return_, 1) := by decide +kernel
theorem dX0_beginWindow_0 : decode cX0_beginWindow 0 = .ok (.aload_n 0, 1) := by decide +kernel
theorem dX0_beginWindow_1 : decode cX0_beginWindow 1 = .ok (.iconst 0, 1) := by decide +kernel
theorem dX0_beginWindow_2 : decode cX0_beginWindow 2 = .ok (.putfield 56, 3) := by decide +kernel
theorem dX0_beginWindow_5 : decode cX0_beginWindow 5 = .ok (.aload_n 0, 1) := by decide +kernel
theorem dX0_beginWindow_6 : decode cX0_beginWindow 6 = .ok (.iconst 0, 1) := by decide +kernel
theorem dX0_beginWindow_7 : decode cX0_beginWindow 7 = .ok (.putfield 59, 3) := by decide +kernel
theorem dX0_beginWindow_10 : decode cX0_beginWindow 10 = .ok (.return_, 1) := by decide +kernel
theorem dX0_delayOf_0 : decode cX0_delayOf 0 = .ok (.iload_n 0, 1) := by decide +kernel
theorem dX0_delayOf_1 : decode cX0_delayOf 1 = .ok (.sipush 1000, 3) := by decide +kernel
theorem dX0_delayOf_4 : decode cX0_delayOf 4 = .ok (.imul, 1) := by decide +kernel
theorem dX0_delayOf_5 : decode cX0_delayOf 5 = .ok (.iload_n 1, 1) := by decide +kernel
theorem dX0_delayOf_6 : decode cX0_delayOf 6 = .ok (.sipush 300, 3) := by decide +kernel
theorem dX0_delayOf_9 : decode cX0_delayOf 9 = .ok (.isub, 1) := by decide +kernel
theorem dX0_delayOf_10 : decode cX0_delayOf 10 = .ok (.idiv, 1) := by decide +kernel
theorem dX0_delayOf_11 : decode cX0_delayOf 11 = .ok (.istore_n 3, 1) := by decide +kernel
theorem dX0_delayOf_12 : decode cX0_delayOf 12 = .ok (.iload_n 3, 1) := by decide +kernel
theorem dX0_delayOf_13 : decode cX0_delayOf 13 = .ok (.sipush 900, 3) := by decide +kernel
theorem dX0_delayOf_16 : decode cX0_delayOf 16 = .ok (.iload_n 2, 1) := by decide +kernel
theorem dX0_delayOf_17 : decode cX0_delayOf 17 = .ok (.iconst 5, 1) := by decide +kernel
theorem dX0_delayOf_18 : decode cX0_delayOf 18 = .ok (.imul, 1) := by decide +kernel
theorem dX0_delayOf_19 : decode cX0_delayOf 19 = .ok (.iadd, 1) := by decide +kernel
theorem dX0_delayOf_20 : decode cX0_delayOf 20 = .ok (.imul, 1) := by decide +kernel
theorem dX0_delayOf_21 : decode cX0_delayOf 21 = .ok (.sipush 1000, 3) := by decide +kernel
theorem dX0_delayOf_24 : decode cX0_delayOf 24 = .ok (.idiv, 1) := by decide +kernel
theorem dX0_delayOf_25 : decode cX0_delayOf 25 = .ok (.ireturn, 1) := by decide +kernel
theorem dX0_delayNow_0 : decode cX0_delayNow 0 = .ok (.aload_n 0, 1) := by decide +kernel
theorem dX0_delayNow_1 : decode cX0_delayNow 1 = .ok (.getfield 9, 3) := by decide +kernel
theorem dX0_delayNow_4 : decode cX0_delayNow 4 = .ok (.iload_n 1, 1) := by decide +kernel
theorem dX0_delayNow_5 : decode cX0_delayNow 5 = .ok (.iaload, 1) := by decide +kernel
theorem dX0_delayNow_6 : decode cX0_delayNow 6 = .ok (.aload_n 0, 1) := by decide +kernel
theorem dX0_delayNow_7 : decode cX0_delayNow 7 = .ok (.getfield 37, 3) := by decide +kernel
theorem dX0_delayNow_10 : decode cX0_delayNow 10 = .ok (.aload_n 0, 1) := by decide +kernel
theorem dX0_delayNow_11 : decode cX0_delayNow 11 = .ok (.getfield 40, 3) := by decide +kernel
theorem dX0_delayNow_14 : decode cX0_delayNow 14 = .ok (.invokestatic 84, 3) := by decide +kernel
theorem dX0_delayNow_17 : decode cX0_delayNow 17 = .ok (.ireturn, 1) := by decide +kernel
theorem dX0_judge_0 : decode cX0_judge 0 = .ok (.iload_n 1, 1) := by decide +kernel
theorem dX0_judge_1 : decode cX0_judge 1 = .ok (.aload_n 0, 1) := by decide +kernel
theorem dX0_judge_2 : decode cX0_judge 2 = .ok (.getfield 27, 3) := by decide +kernel
theorem dX0_judge_5 : decode cX0_judge 5 = .ok (.iconst 0, 1) := by decide +kernel
theorem dX0_judge_6 : decode cX0_judge 6 = .ok (.iaload, 1) := by decide +kernel
theorem dX0_judge_7 : decode cX0_judge 7 = .ok (.if_icmp .gt 5, 3) := by decide +kernel
theorem dX0_judge_10 : decode cX0_judge 10 = .ok (.iconst 0, 1) := by decide +kernel
theorem dX0_judge_11 : decode cX0_judge 11 = .ok (.ireturn, 1) := by decide +kernel
theorem dX0_judge_12 : decode cX0_judge 12 = .ok (.iload_n 1, 1) := by decide +kernel
theorem dX0_judge_13 : decode cX0_judge 13 = .ok (.aload_n 0, 1) := by decide +kernel
theorem dX0_judge_14 : decode cX0_judge 14 = .ok (.getfield 27, 3) := by decide +kernel
theorem dX0_judge_17 : decode cX0_judge 17 = .ok (.iconst 0, 1) := by decide +kernel
theorem dX0_judge_18 : decode cX0_judge 18 = .ok (.iaload, 1) := by decide +kernel
theorem dX0_judge_19 : decode cX0_judge 19 = .ok (.aload_n 0, 1) := by decide +kernel
theorem dX0_judge_20 : decode cX0_judge 20 = .ok (.getfield 27, 3) := by decide +kernel
theorem dX0_judge_23 : decode cX0_judge 23 = .ok (.iconst 1, 1) := by decide +kernel
theorem dX0_judge_24 : decode cX0_judge 24 = .ok (.iaload, 1) := by decide +kernel
theorem dX0_judge_25 : decode cX0_judge 25 = .ok (.iadd, 1) := by decide +kernel
theorem dX0_judge_26 : decode cX0_judge 26 = .ok (.if_icmp .gt 7, 3) := by decide +kernel
theorem dX0_judge_29 : decode cX0_judge 29 = .ok (.iconst 1, 1) := by decide +kernel
theorem dX0_judge_30 : decode cX0_judge 30 = .ok (.goto 4, 3) := by decide +kernel
theorem dX0_judge_33 : decode cX0_judge 33 = .ok (.iconst 2, 1) := by decide +kernel
theorem dX0_judge_34 : decode cX0_judge 34 = .ok (.ireturn, 1) := by decide +kernel
theorem dX0_pathsJudged_0 : decode cX0_pathsJudged 0 = .ok (.iconst 0, 1) := by decide +kernel
theorem dX0_pathsJudged_1 : decode cX0_pathsJudged 1 = .ok (.istore_n 2, 1) := by decide +kernel
theorem dX0_pathsJudged_2 : decode cX0_pathsJudged 2 = .ok (.iconst 0, 1) := by decide +kernel
theorem dX0_pathsJudged_3 : decode cX0_pathsJudged 3 = .ok (.istore_n 3, 1) := by decide +kernel
theorem dX0_pathsJudged_4 : decode cX0_pathsJudged 4 = .ok (.iload_n 3, 1) := by decide +kernel
theorem dX0_pathsJudged_5 : decode cX0_pathsJudged 5 = .ok (.aload_n 0, 1) := by decide +kernel
theorem dX0_pathsJudged_6 : decode cX0_pathsJudged 6 = .ok (.getfield 30, 3) := by decide +kernel
theorem dX0_pathsJudged_9 : decode cX0_pathsJudged 9 = .ok (.if_icmp .ge 28, 3) := by decide +kernel
theorem dX0_pathsJudged_12 : decode cX0_pathsJudged 12 = .ok (.aload_n 0, 1) := by decide +kernel
theorem dX0_pathsJudged_13 : decode cX0_pathsJudged 13 = .ok (.aload_n 0, 1) := by decide +kernel
theorem dX0_pathsJudged_14 : decode cX0_pathsJudged 14 = .ok (.iload_n 3, 1) := by decide +kernel
theorem dX0_pathsJudged_15 : decode cX0_pathsJudged 15 = .ok (.invokevirtual 88, 3) := by decide +kernel
theorem dX0_pathsJudged_18 : decode cX0_pathsJudged 18 = .ok (.invokevirtual 92, 3) := by decide +kernel
theorem dX0_pathsJudged_21 : decode cX0_pathsJudged 21 = .ok (.iload_n 1, 1) := by decide +kernel
theorem dX0_pathsJudged_22 : decode cX0_pathsJudged 22 = .ok (.if_icmp .ne 9, 3) := by decide +kernel
theorem dX0_pathsJudged_25 : decode cX0_pathsJudged 25 = .ok (.iload_n 2, 1) := by decide +kernel
theorem dX0_pathsJudged_26 : decode cX0_pathsJudged 26 = .ok (.iconst 1, 1) := by decide +kernel
theorem dX0_pathsJudged_27 : decode cX0_pathsJudged 27 = .ok (.iload_n 3, 1) := by decide +kernel
theorem dX0_pathsJudged_28 : decode cX0_pathsJudged 28 = .ok (.ishl, 1) := by decide +kernel
theorem dX0_pathsJudged_29 : decode cX0_pathsJudged 29 = .ok (.ior, 1) := by decide +kernel
theorem dX0_pathsJudged_30 : decode cX0_pathsJudged 30 = .ok (.istore_n 2, 1) := by decide +kernel
theorem dX0_pathsJudged_31 : decode cX0_pathsJudged 31 = .ok (.iinc 3 1, 3) := by decide +kernel
theorem dX0_pathsJudged_34 : decode cX0_pathsJudged 34 = .ok (.goto (-30), 3) := by decide +kernel
theorem dX0_pathsJudged_37 : decode cX0_pathsJudged 37 = .ok (.iload_n 2, 1) := by decide +kernel
theorem dX0_pathsJudged_38 : decode cX0_pathsJudged 38 = .ok (.ireturn, 1) := by decide +kernel
theorem dX0_setsWith_0 : decode cX0_setsWith 0 = .ok (.iconst 0, 1) := by decide +kernel
theorem dX0_setsWith_1 : decode cX0_setsWith 1 = .ok (.istore_n 2, 1) := by decide +kernel
theorem dX0_setsWith_2 : decode cX0_setsWith 2 = .ok (.iconst 0, 1) := by decide +kernel
theorem dX0_setsWith_3 : decode cX0_setsWith 3 = .ok (.istore_n 3, 1) := by decide +kernel
theorem dX0_setsWith_4 : decode cX0_setsWith 4 = .ok (.iload_n 3, 1) := by decide +kernel
theorem dX0_setsWith_5 : decode cX0_setsWith 5 = .ok (.aload_n 0, 1) := by decide +kernel
theorem dX0_setsWith_6 : decode cX0_setsWith 6 = .ok (.getfield 34, 3) := by decide +kernel
theorem dX0_setsWith_9 : decode cX0_setsWith 9 = .ok (.if_icmp .ge 22, 3) := by decide +kernel
theorem dX0_setsWith_12 : decode cX0_setsWith 12 = .ok (.iload_n 2, 1) := by decide +kernel
theorem dX0_setsWith_13 : decode cX0_setsWith 13 = .ok (.aload_n 0, 1) := by decide +kernel
theorem dX0_setsWith_14 : decode cX0_setsWith 14 = .ok (.getfield 16, 3) := by decide +kernel
theorem dX0_setsWith_17 : decode cX0_setsWith 17 = .ok (.iload_n 3, 1) := by decide +kernel
theorem dX0_setsWith_18 : decode cX0_setsWith 18 = .ok (.iaload, 1) := by decide +kernel
theorem dX0_setsWith_19 : decode cX0_setsWith 19 = .ok (.iload_n 1, 1) := by decide +kernel
theorem dX0_setsWith_20 : decode cX0_setsWith 20 = .ok (.ishr, 1) := by decide +kernel
theorem dX0_setsWith_21 : decode cX0_setsWith 21 = .ok (.iconst 1, 1) := by decide +kernel
theorem dX0_setsWith_22 : decode cX0_setsWith 22 = .ok (.iand, 1) := by decide +kernel
theorem dX0_setsWith_23 : decode cX0_setsWith 23 = .ok (.iadd, 1) := by decide +kernel
theorem dX0_setsWith_24 : decode cX0_setsWith 24 = .ok (.istore_n 2, 1) := by decide +kernel
theorem dX0_setsWith_25 : decode cX0_setsWith 25 = .ok (.iinc 3 1, 3) := by decide +kernel
theorem dX0_setsWith_28 : decode cX0_setsWith 28 = .ok (.goto (-24), 3) := by decide +kernel
theorem dX0_setsWith_31 : decode cX0_setsWith 31 = .ok (.iload_n 2, 1) := by decide +kernel
theorem dX0_setsWith_32 : decode cX0_setsWith 32 = .ok (.ireturn, 1) := by decide +kernel
theorem dX0_longestOf_0 : decode cX0_longestOf 0 = .ok (.iconst 0, 1) := by decide +kernel
theorem dX0_longestOf_1 : decode cX0_longestOf 1 = .ok (.istore_n 2, 1) := by decide +kernel
theorem dX0_longestOf_2 : decode cX0_longestOf 2 = .ok (.iconst 0, 1) := by decide +kernel
theorem dX0_longestOf_3 : decode cX0_longestOf 3 = .ok (.istore_n 3, 1) := by decide +kernel
theorem dX0_longestOf_4 : decode cX0_longestOf 4 = .ok (.iload_n 3, 1) := by decide +kernel
theorem dX0_longestOf_5 : decode cX0_longestOf 5 = .ok (.aload_n 0, 1) := by decide +kernel
theorem dX0_longestOf_6 : decode cX0_longestOf 6 = .ok (.getfield 30, 3) := by decide +kernel
theorem dX0_longestOf_9 : decode cX0_longestOf 9 = .ok (.if_icmp .ge 29, 3) := by decide +kernel
theorem dX0_longestOf_12 : decode cX0_longestOf 12 = .ok (.iload_n 1, 1) := by decide +kernel
theorem dX0_longestOf_13 : decode cX0_longestOf 13 = .ok (.iload_n 3, 1) := by decide +kernel
theorem dX0_longestOf_14 : decode cX0_longestOf 14 = .ok (.ishr, 1) := by decide +kernel
theorem dX0_longestOf_15 : decode cX0_longestOf 15 = .ok (.iconst 1, 1) := by decide +kernel
theorem dX0_longestOf_16 : decode cX0_longestOf 16 = .ok (.iand, 1) := by decide +kernel
theorem dX0_longestOf_17 : decode cX0_longestOf 17 = .ok (.iconst 1, 1) := by decide +kernel
theorem dX0_longestOf_18 : decode cX0_longestOf 18 = .ok (.if_icmp .ne 14, 3) := by decide +kernel
theorem dX0_longestOf_21 : decode cX0_longestOf 21 = .ok (.iload_n 2, 1) := by decide +kernel
theorem dX0_longestOf_22 : decode cX0_longestOf 22 = .ok (.aload_n 0, 1) := by decide +kernel
theorem dX0_longestOf_23 : decode cX0_longestOf 23 = .ok (.getfield 9, 3) := by decide +kernel
theorem dX0_longestOf_26 : decode cX0_longestOf 26 = .ok (.iload_n 3, 1) := by decide +kernel
theorem dX0_longestOf_27 : decode cX0_longestOf 27 = .ok (.iaload, 1) := by decide +kernel
theorem dX0_longestOf_28 : decode cX0_longestOf 28 = .ok (.invokestatic 95, 3) := by decide +kernel
theorem dX0_longestOf_31 : decode cX0_longestOf 31 = .ok (.istore_n 2, 1) := by decide +kernel
theorem dX0_longestOf_32 : decode cX0_longestOf 32 = .ok (.iinc 3 1, 3) := by decide +kernel
theorem dX0_longestOf_35 : decode cX0_longestOf 35 = .ok (.goto (-31), 3) := by decide +kernel
theorem dX0_longestOf_38 : decode cX0_longestOf 38 = .ok (.iload_n 2, 1) := by decide +kernel
theorem dX0_longestOf_39 : decode cX0_longestOf 39 = .ok (.ireturn, 1) := by decide +kernel
theorem dX0_longestInWorkload_0 : decode cX0_longestInWorkload 0 = .ok (.iconst 0, 1) := by decide +kernel
theorem dX0_longestInWorkload_1 : decode cX0_longestInWorkload 1 = .ok (.istore_n 1, 1) := by decide +kernel
theorem dX0_longestInWorkload_2 : decode cX0_longestInWorkload 2 = .ok (.iconst 0, 1) := by decide +kernel
theorem dX0_longestInWorkload_3 : decode cX0_longestInWorkload 3 = .ok (.istore_n 2, 1) := by decide +kernel
theorem dX0_longestInWorkload_4 : decode cX0_longestInWorkload 4 = .ok (.iload_n 2, 1) := by decide +kernel
theorem dX0_longestInWorkload_5 : decode cX0_longestInWorkload 5 = .ok (.aload_n 0, 1) := by decide +kernel
theorem dX0_longestInWorkload_6 : decode cX0_longestInWorkload 6 = .ok (.getfield 34, 3) := by decide +kernel
theorem dX0_longestInWorkload_9 : decode cX0_longestInWorkload 9 = .ok (.if_icmp .ge 18, 3) := by decide +kernel
theorem dX0_longestInWorkload_12 : decode cX0_longestInWorkload 12 = .ok (.iload_n 1, 1) := by decide +kernel
theorem dX0_longestInWorkload_13 : decode cX0_longestInWorkload 13 = .ok (.aload_n 0, 1) := by decide +kernel
theorem dX0_longestInWorkload_14 : decode cX0_longestInWorkload 14 = .ok (.getfield 16, 3) := by decide +kernel
theorem dX0_longestInWorkload_17 : decode cX0_longestInWorkload 17 = .ok (.iload_n 2, 1) := by decide +kernel
theorem dX0_longestInWorkload_18 : decode cX0_longestInWorkload 18 = .ok (.iaload, 1) := by decide +kernel
theorem dX0_longestInWorkload_19 : decode cX0_longestInWorkload 19 = .ok (.ior, 1) := by decide +kernel
theorem dX0_longestInWorkload_20 : decode cX0_longestInWorkload 20 = .ok (.istore_n 1, 1) := by decide +kernel
theorem dX0_longestInWorkload_21 : decode cX0_longestInWorkload 21 = .ok (.iinc 2 1, 3) := by decide +kernel
theorem dX0_longestInWorkload_24 : decode cX0_longestInWorkload 24 = .ok (.goto (-20), 3) := by decide +kernel
theorem dX0_longestInWorkload_27 : decode cX0_longestInWorkload 27 = .ok (.aload_n 0, 1) := by decide +kernel
theorem dX0_longestInWorkload_28 : decode cX0_longestInWorkload 28 = .ok (.iload_n 1, 1) := by decide +kernel
theorem dX0_longestInWorkload_29 : decode cX0_longestInWorkload 29 = .ok (.invokevirtual 101, 3) := by decide +kernel
theorem dX0_longestInWorkload_32 : decode cX0_longestInWorkload 32 = .ok (.ireturn, 1) := by decide +kernel
theorem dX0_runCycles_0 : decode cX0_runCycles 0 = .ok (.iconst 0, 1) := by decide +kernel
theorem dX0_runCycles_1 : decode cX0_runCycles 1 = .ok (.istore_n 2, 1) := by decide +kernel
theorem dX0_runCycles_2 : decode cX0_runCycles 2 = .ok (.iload_n 2, 1) := by decide +kernel
theorem dX0_runCycles_3 : decode cX0_runCycles 3 = .ok (.iload_n 1, 1) := by decide +kernel
theorem dX0_runCycles_4 : decode cX0_runCycles 4 = .ok (.if_icmp .ge 37, 3) := by decide +kernel
theorem dX0_runCycles_7 : decode cX0_runCycles 7 = .ok (.aload_n 0, 1) := by decide +kernel
theorem dX0_runCycles_8 : decode cX0_runCycles 8 = .ok (.invokevirtual 104, 3) := by decide +kernel
theorem dX0_runCycles_11 : decode cX0_runCycles 11 = .ok (.aload_n 0, 1) := by decide +kernel
theorem dX0_runCycles_12 : decode cX0_runCycles 12 = .ok (.getfield 52, 3) := by decide +kernel
theorem dX0_runCycles_15 : decode cX0_runCycles 15 = .ok (.ifCond .eq 20, 3) := by decide +kernel
theorem dX0_runCycles_18 : decode cX0_runCycles 18 = .ok (.aload_n 0, 1) := by decide +kernel
theorem dX0_runCycles_19 : decode cX0_runCycles 19 = .ok (.getfield 56, 3) := by decide +kernel
theorem dX0_runCycles_22 : decode cX0_runCycles 22 = .ok (.aload_n 0, 1) := by decide +kernel
theorem dX0_runCycles_23 : decode cX0_runCycles 23 = .ok (.getfield 27, 3) := by decide +kernel
theorem dX0_runCycles_26 : decode cX0_runCycles 26 = .ok (.iconst 3, 1) := by decide +kernel
theorem dX0_runCycles_27 : decode cX0_runCycles 27 = .ok (.iaload, 1) := by decide +kernel
theorem dX0_runCycles_28 : decode cX0_runCycles 28 = .ok (.if_icmp .lt 7, 3) := by decide +kernel
theorem dX0_runCycles_31 : decode cX0_runCycles 31 = .ok (.aload_n 0, 1) := by decide +kernel
theorem dX0_runCycles_32 : decode cX0_runCycles 32 = .ok (.invokevirtual 107, 3) := by decide +kernel
theorem dX0_runCycles_35 : decode cX0_runCycles 35 = .ok (.iinc 2 1, 3) := by decide +kernel
theorem dX0_runCycles_38 : decode cX0_runCycles 38 = .ok (.goto (-36), 3) := by decide +kernel
theorem dX0_runCycles_41 : decode cX0_runCycles 41 = .ok (.return_, 1) := by decide +kernel
theorem dX0_runOneCycle_0 : decode cX0_runOneCycle 0 = .ok (.aload_n 0, 1) := by decide +kernel
theorem dX0_runOneCycle_1 : decode cX0_runOneCycle 1 = .ok (.getfield 16, 3) := by decide +kernel
theorem dX0_runOneCycle_4 : decode cX0_runOneCycle 4 = .ok (.aload_n 0, 1) := by decide +kernel
theorem dX0_runOneCycle_5 : decode cX0_runOneCycle 5 = .ok (.getfield 49, 3) := by decide +kernel
theorem dX0_runOneCycle_8 : decode cX0_runOneCycle 8 = .ok (.iaload, 1) := by decide +kernel
theorem dX0_runOneCycle_9 : decode cX0_runOneCycle 9 = .ok (.istore_n 1, 1) := by decide +kernel
theorem dX0_runOneCycle_10 : decode cX0_runOneCycle 10 = .ok (.aload_n 0, 1) := by decide +kernel
theorem dX0_runOneCycle_11 : decode cX0_runOneCycle 11 = .ok (.aload_n 0, 1) := by decide +kernel
theorem dX0_runOneCycle_12 : decode cX0_runOneCycle 12 = .ok (.getfield 49, 3) := by decide +kernel
theorem dX0_runOneCycle_15 : decode cX0_runOneCycle 15 = .ok (.iconst 1, 1) := by decide +kernel
theorem dX0_runOneCycle_16 : decode cX0_runOneCycle 16 = .ok (.iadd, 1) := by decide +kernel
theorem dX0_runOneCycle_17 : decode cX0_runOneCycle 17 = .ok (.aload_n 0, 1) := by decide +kernel
theorem dX0_runOneCycle_18 : decode cX0_runOneCycle 18 = .ok (.getfield 34, 3) := by decide +kernel
theorem dX0_runOneCycle_21 : decode cX0_runOneCycle 21 = .ok (.if_icmp .ge 12, 3) := by decide +kernel
theorem dX0_runOneCycle_24 : decode cX0_runOneCycle 24 = .ok (.aload_n 0, 1) := by decide +kernel
theorem dX0_runOneCycle_25 : decode cX0_runOneCycle 25 = .ok (.getfield 49, 3) := by decide +kernel
theorem dX0_runOneCycle_28 : decode cX0_runOneCycle 28 = .ok (.iconst 1, 1) := by decide +kernel
theorem dX0_runOneCycle_29 : decode cX0_runOneCycle 29 = .ok (.iadd, 1) := by decide +kernel
theorem dX0_runOneCycle_30 : decode cX0_runOneCycle 30 = .ok (.goto 4, 3) := by decide +kernel
theorem dX0_runOneCycle_33 : decode cX0_runOneCycle 33 = .ok (.iconst 0, 1) := by decide +kernel
theorem dX0_runOneCycle_34 : decode cX0_runOneCycle 34 = .ok (.putfield 49, 3) := by decide +kernel
theorem dX0_runOneCycle_37 : decode cX0_runOneCycle 37 = .ok (.aload_n 0, 1) := by decide +kernel
theorem dX0_runOneCycle_38 : decode cX0_runOneCycle 38 = .ok (.aload_n 0, 1) := by decide +kernel
theorem dX0_runOneCycle_39 : decode cX0_runOneCycle 39 = .ok (.iload_n 1, 1) := by decide +kernel
theorem dX0_runOneCycle_40 : decode cX0_runOneCycle 40 = .ok (.invokevirtual 101, 3) := by decide +kernel
theorem dX0_runOneCycle_43 : decode cX0_runOneCycle 43 = .ok (.aload_n 0, 1) := by decide +kernel
theorem dX0_runOneCycle_44 : decode cX0_runOneCycle 44 = .ok (.getfield 37, 3) := by decide +kernel
theorem dX0_runOneCycle_47 : decode cX0_runOneCycle 47 = .ok (.aload_n 0, 1) := by decide +kernel
theorem dX0_runOneCycle_48 : decode cX0_runOneCycle 48 = .ok (.getfield 40, 3) := by decide +kernel
theorem dX0_runOneCycle_51 : decode cX0_runOneCycle 51 = .ok (.invokestatic 84, 3) := by decide +kernel
theorem dX0_runOneCycle_54 : decode cX0_runOneCycle 54 = .ok (.invokevirtual 92, 3) := by decide +kernel
theorem dX0_runOneCycle_57 : decode cX0_runOneCycle 57 = .ok (.istore_n 2, 1) := by decide +kernel
theorem dX0_runOneCycle_58 : decode cX0_runOneCycle 58 = .ok (.aload_n 0, 1) := by decide +kernel
theorem dX0_runOneCycle_59 : decode cX0_runOneCycle 59 = .ok (.iload_n 1, 1) := by decide +kernel
theorem dX0_runOneCycle_60 : decode cX0_runOneCycle 60 = .ok (.invokevirtual 110, 3) := by decide +kernel
theorem dX0_runOneCycle_63 : decode cX0_runOneCycle 63 = .ok (.aload_n 0, 1) := by decide +kernel
theorem dX0_runOneCycle_64 : decode cX0_runOneCycle 64 = .ok (.iload_n 1, 1) := by decide +kernel
theorem dX0_runOneCycle_65 : decode cX0_runOneCycle 65 = .ok (.invokestatic 114, 3) := by decide +kernel
theorem dX0_runOneCycle_68 : decode cX0_runOneCycle 68 = .ok (.invokevirtual 119, 3) := by decide +kernel
theorem dX0_runOneCycle_71 : decode cX0_runOneCycle 71 = .ok (.iload_n 2, 1) := by decide +kernel
theorem dX0_runOneCycle_72 : decode cX0_runOneCycle 72 = .ok (.iconst 2, 1) := by decide +kernel
theorem dX0_runOneCycle_73 : decode cX0_runOneCycle 73 = .ok (.if_icmp .ne 14, 3) := by decide +kernel
theorem dX0_runOneCycle_76 : decode cX0_runOneCycle 76 = .ok (.aload_n 0, 1) := by decide +kernel
theorem dX0_runOneCycle_77 : decode cX0_runOneCycle 77 = .ok (.dup, 1) := by decide +kernel
theorem dX0_runOneCycle_78 : decode cX0_runOneCycle 78 = .ok (.getfield 71, 3) := by decide +kernel
theorem dX0_runOneCycle_81 : decode cX0_runOneCycle 81 = .ok (.iconst 1, 1) := by decide +kernel
theorem dX0_runOneCycle_82 : decode cX0_runOneCycle 82 = .ok (.iadd, 1) := by decide +kernel
theorem dX0_runOneCycle_83 : decode cX0_runOneCycle 83 = .ok (.putfield 71, 3) := by decide +kernel
theorem dX0_runOneCycle_86 : decode cX0_runOneCycle 86 = .ok (.return_, 1) := by decide +kernel
theorem dX0_runOneCycle_87 : decode cX0_runOneCycle 87 = .ok (.iload_n 2, 1) := by decide +kernel
theorem dX0_runOneCycle_88 : decode cX0_runOneCycle 88 = .ok (.iconst 1, 1) := by decide +kernel
theorem dX0_runOneCycle_89 : decode cX0_runOneCycle 89 = .ok (.if_icmp .ne 7, 3) := by decide +kernel
theorem dX0_runOneCycle_92 : decode cX0_runOneCycle 92 = .ok (.aload_n 0, 1) := by decide +kernel
theorem dX0_runOneCycle_93 : decode cX0_runOneCycle 93 = .ok (.invokevirtual 122, 3) := by decide +kernel
theorem dX0_runOneCycle_96 : decode cX0_runOneCycle 96 = .ok (.aload_n 0, 1) := by decide +kernel
theorem dX0_runOneCycle_97 : decode cX0_runOneCycle 97 = .ok (.dup, 1) := by decide +kernel
theorem dX0_runOneCycle_98 : decode cX0_runOneCycle 98 = .ok (.getfield 65, 3) := by decide +kernel
theorem dX0_runOneCycle_101 : decode cX0_runOneCycle 101 = .ok (.iconst 1, 1) := by decide +kernel
theorem dX0_runOneCycle_102 : decode cX0_runOneCycle 102 = .ok (.iadd, 1) := by decide +kernel
theorem dX0_runOneCycle_103 : decode cX0_runOneCycle 103 = .ok (.putfield 65, 3) := by decide +kernel
theorem dX0_runOneCycle_106 : decode cX0_runOneCycle 106 = .ok (.return_, 1) := by decide +kernel
theorem dX0_countUses_0 : decode cX0_countUses 0 = .ok (.iconst 0, 1) := by decide +kernel
theorem dX0_countUses_1 : decode cX0_countUses 1 = .ok (.istore_n 2, 1) := by decide +kernel
theorem dX0_countUses_2 : decode cX0_countUses 2 = .ok (.iload_n 2, 1) := by decide +kernel
theorem dX0_countUses_3 : decode cX0_countUses 3 = .ok (.aload_n 0, 1) := by decide +kernel
theorem dX0_countUses_4 : decode cX0_countUses 4 = .ok (.getfield 30, 3) := by decide +kernel
theorem dX0_countUses_7 : decode cX0_countUses 7 = .ok (.if_icmp .ge 23, 3) := by decide +kernel
theorem dX0_countUses_10 : decode cX0_countUses 10 = .ok (.aload_n 0, 1) := by decide +kernel
theorem dX0_countUses_11 : decode cX0_countUses 11 = .ok (.getfield 13, 3) := by decide +kernel
theorem dX0_countUses_14 : decode cX0_countUses 14 = .ok (.iload_n 2, 1) := by decide +kernel
theorem dX0_countUses_15 : decode cX0_countUses 15 = .ok (.dup2, 1) := by decide +kernel
theorem dX0_countUses_16 : decode cX0_countUses 16 = .ok (.iaload, 1) := by decide +kernel
theorem dX0_countUses_17 : decode cX0_countUses 17 = .ok (.iload_n 1, 1) := by decide +kernel
theorem dX0_countUses_18 : decode cX0_countUses 18 = .ok (.iload_n 2, 1) := by decide +kernel
theorem dX0_countUses_19 : decode cX0_countUses 19 = .ok (.ishr, 1) := by decide +kernel
theorem dX0_countUses_20 : decode cX0_countUses 20 = .ok (.iconst 1, 1) := by decide +kernel
theorem dX0_countUses_21 : decode cX0_countUses 21 = .ok (.iand, 1) := by decide +kernel
theorem dX0_countUses_22 : decode cX0_countUses 22 = .ok (.iadd, 1) := by decide +kernel
theorem dX0_countUses_23 : decode cX0_countUses 23 = .ok (.iastore, 1) := by decide +kernel
theorem dX0_countUses_24 : decode cX0_countUses 24 = .ok (.iinc 2 1, 3) := by decide +kernel
theorem dX0_countUses_27 : decode cX0_countUses 27 = .ok (.goto (-25), 3) := by decide +kernel
theorem dX0_countUses_30 : decode cX0_countUses 30 = .ok (.return_, 1) := by decide +kernel
theorem dX0_complain_0 : decode cX0_complain 0 = .ok (.aload_n 0, 1) := by decide +kernel
theorem dX0_complain_1 : decode cX0_complain 1 = .ok (.dup, 1) := by decide +kernel
theorem dX0_complain_2 : decode cX0_complain 2 = .ok (.getfield 68, 3) := by decide +kernel
theorem dX0_complain_5 : decode cX0_complain 5 = .ok (.iconst 1, 1) := by decide +kernel
theorem dX0_complain_6 : decode cX0_complain 6 = .ok (.iadd, 1) := by decide +kernel
theorem dX0_complain_7 : decode cX0_complain 7 = .ok (.putfield 68, 3) := by decide +kernel
theorem dX0_complain_10 : decode cX0_complain 10 = .ok (.aload_n 0, 1) := by decide +kernel
theorem dX0_complain_11 : decode cX0_complain 11 = .ok (.getfield 52, 3) := by decide +kernel
theorem dX0_complain_14 : decode cX0_complain 14 = .ok (.ifCond .eq 13, 3) := by decide +kernel
theorem dX0_complain_17 : decode cX0_complain 17 = .ok (.aload_n 0, 1) := by decide +kernel
theorem dX0_complain_18 : decode cX0_complain 18 = .ok (.dup, 1) := by decide +kernel
theorem dX0_complain_19 : decode cX0_complain 19 = .ok (.getfield 59, 3) := by decide +kernel
theorem dX0_complain_22 : decode cX0_complain 22 = .ok (.iconst 1, 1) := by decide +kernel
theorem dX0_complain_23 : decode cX0_complain 23 = .ok (.iadd, 1) := by decide +kernel
theorem dX0_complain_24 : decode cX0_complain 24 = .ok (.putfield 59, 3) := by decide +kernel
theorem dX0_complain_27 : decode cX0_complain 27 = .ok (.iconst 0, 1) := by decide +kernel
theorem dX0_complain_28 : decode cX0_complain 28 = .ok (.istore_n 1, 1) := by decide +kernel
theorem dX0_complain_29 : decode cX0_complain 29 = .ok (.iload_n 1, 1) := by decide +kernel
theorem dX0_complain_30 : decode cX0_complain 30 = .ok (.aload_n 0, 1) := by decide +kernel
theorem dX0_complain_31 : decode cX0_complain 31 = .ok (.getfield 27, 3) := by decide +kernel
theorem dX0_complain_34 : decode cX0_complain 34 = .ok (.iconst 2, 1) := by decide +kernel
theorem dX0_complain_35 : decode cX0_complain 35 = .ok (.iaload, 1) := by decide +kernel
theorem dX0_complain_36 : decode cX0_complain 36 = .ok (.if_icmp .ge 14, 3) := by decide +kernel
theorem dX0_complain_39 : decode cX0_complain 39 = .ok (.aload_n 0, 1) := by decide +kernel
theorem dX0_complain_40 : decode cX0_complain 40 = .ok (.iconst 0, 1) := by decide +kernel
theorem dX0_complain_41 : decode cX0_complain 41 = .ok (.invokevirtual 119, 3) := by decide +kernel
theorem dX0_complain_44 : decode cX0_complain 44 = .ok (.iinc 1 1, 3) := by decide +kernel
theorem dX0_complain_47 : decode cX0_complain 47 = .ok (.goto (-18), 3) := by decide +kernel
theorem dX0_complain_50 : decode cX0_complain 50 = .ok (.return_, 1) := by decide +kernel
theorem dX0_spendCycle_0 : decode cX0_spendCycle 0 = .ok (.aload_n 0, 1) := by decide +kernel
theorem dX0_spendCycle_1 : decode cX0_spendCycle 1 = .ok (.dup, 1) := by decide +kernel
theorem dX0_spendCycle_2 : decode cX0_spendCycle 2 = .ok (.getfield 62, 3) := by decide +kernel
theorem dX0_spendCycle_5 : decode cX0_spendCycle 5 = .ok (.iconst 1, 1) := by decide +kernel
theorem dX0_spendCycle_6 : decode cX0_spendCycle 6 = .ok (.iadd, 1) := by decide +kernel
theorem dX0_spendCycle_7 : decode cX0_spendCycle 7 = .ok (.putfield 62, 3) := by decide +kernel
theorem dX0_spendCycle_10 : decode cX0_spendCycle 10 = .ok (.aload_n 0, 1) := by decide +kernel
theorem dX0_spendCycle_11 : decode cX0_spendCycle 11 = .ok (.getfield 52, 3) := by decide +kernel
theorem dX0_spendCycle_14 : decode cX0_spendCycle 14 = .ok (.ifCond .eq 13, 3) := by decide +kernel
theorem dX0_spendCycle_17 : decode cX0_spendCycle 17 = .ok (.aload_n 0, 1) := by decide +kernel
theorem dX0_spendCycle_18 : decode cX0_spendCycle 18 = .ok (.dup, 1) := by decide +kernel
theorem dX0_spendCycle_19 : decode cX0_spendCycle 19 = .ok (.getfield 56, 3) := by decide +kernel
theorem dX0_spendCycle_22 : decode cX0_spendCycle 22 = .ok (.iconst 1, 1) := by decide +kernel
theorem dX0_spendCycle_23 : decode cX0_spendCycle 23 = .ok (.iadd, 1) := by decide +kernel
theorem dX0_spendCycle_24 : decode cX0_spendCycle 24 = .ok (.putfield 56, 3) := by decide +kernel
theorem dX0_spendCycle_27 : decode cX0_spendCycle 27 = .ok (.aload_n 0, 1) := by decide +kernel
theorem dX0_spendCycle_28 : decode cX0_spendCycle 28 = .ok (.dup, 1) := by decide +kernel
theorem dX0_spendCycle_29 : decode cX0_spendCycle 29 = .ok (.getfield 74, 3) := by decide +kernel
theorem dX0_spendCycle_32 : decode cX0_spendCycle 32 = .ok (.aload_n 0, 1) := by decide +kernel
theorem dX0_spendCycle_33 : decode cX0_spendCycle 33 = .ok (.getfield 37, 3) := by decide +kernel
theorem dX0_spendCycle_36 : decode cX0_spendCycle 36 = .ok (.aload_n 0, 1) := by decide +kernel
theorem dX0_spendCycle_37 : decode cX0_spendCycle 37 = .ok (.getfield 37, 3) := by decide +kernel
theorem dX0_spendCycle_40 : decode cX0_spendCycle 40 = .ok (.imul, 1) := by decide +kernel
theorem dX0_spendCycle_41 : decode cX0_spendCycle 41 = .ok (.sipush 10000, 3) := by decide +kernel
theorem dX0_spendCycle_44 : decode cX0_spendCycle 44 = .ok (.idiv, 1) := by decide +kernel
theorem dX0_spendCycle_45 : decode cX0_spendCycle 45 = .ok (.i2l, 1) := by decide +kernel
theorem dX0_spendCycle_46 : decode cX0_spendCycle 46 = .ok (.ladd, 1) := by decide +kernel
theorem dX0_spendCycle_47 : decode cX0_spendCycle 47 = .ok (.putfield 74, 3) := by decide +kernel
theorem dX0_spendCycle_50 : decode cX0_spendCycle 50 = .ok (.aload_n 0, 1) := by decide +kernel
theorem dX0_spendCycle_51 : decode cX0_spendCycle 51 = .ok (.getfield 62, 3) := by decide +kernel
theorem dX0_spendCycle_54 : decode cX0_spendCycle 54 = .ok (.iconst 4, 1) := by decide +kernel
theorem dX0_spendCycle_55 : decode cX0_spendCycle 55 = .ok (.irem, 1) := by decide +kernel
theorem dX0_spendCycle_56 : decode cX0_spendCycle 56 = .ok (.ifCond .ne 24, 3) := by decide +kernel
theorem dX0_spendCycle_59 : decode cX0_spendCycle 59 = .ok (.aload_n 0, 1) := by decide +kernel
theorem dX0_spendCycle_60 : decode cX0_spendCycle 60 = .ok (.bipush 120, 2) := by decide +kernel
theorem dX0_spendCycle_62 : decode cX0_spendCycle 62 = .ok (.bipush 20, 2) := by decide +kernel
theorem dX0_spendCycle_64 : decode cX0_spendCycle 64 = .ok (.iload_n 1, 1) := by decide +kernel
theorem dX0_spendCycle_65 : decode cX0_spendCycle 65 = .ok (.aload_n 0, 1) := by decide +kernel
theorem dX0_spendCycle_66 : decode cX0_spendCycle 66 = .ok (.getfield 37, 3) := by decide +kernel
theorem dX0_spendCycle_69 : decode cX0_spendCycle 69 = .ok (.imul, 1) := by decide +kernel
theorem dX0_spendCycle_70 : decode cX0_spendCycle 70 = .ok (.bipush 100, 2) := by decide +kernel
theorem dX0_spendCycle_72 : decode cX0_spendCycle 72 = .ok (.idiv, 1) := by decide +kernel
theorem dX0_spendCycle_73 : decode cX0_spendCycle 73 = .ok (.iadd, 1) := by decide +kernel
theorem dX0_spendCycle_74 : decode cX0_spendCycle 74 = .ok (.invokestatic 125, 3) := by decide +kernel
theorem dX0_spendCycle_77 : decode cX0_spendCycle 77 = .ok (.invokevirtual 128, 3) := by decide +kernel
theorem dX0_spendCycle_80 : decode cX0_spendCycle 80 = .ok (.return_, 1) := by decide +kernel
theorem dX0_changeHeat_0 : decode cX0_changeHeat 0 = .ok (.aload_n 0, 1) := by decide +kernel
theorem dX0_changeHeat_1 : decode cX0_changeHeat 1 = .ok (.getfield 40, 3) := by decide +kernel
theorem dX0_changeHeat_4 : decode cX0_changeHeat 4 = .ok (.iload_n 1, 1) := by decide +kernel
theorem dX0_changeHeat_5 : decode cX0_changeHeat 5 = .ok (.if_icmp .ge 16, 3) := by decide +kernel
theorem dX0_changeHeat_8 : decode cX0_changeHeat 8 = .ok (.aload_n 0, 1) := by decide +kernel
theorem dX0_changeHeat_9 : decode cX0_changeHeat 9 = .ok (.dup, 1) := by decide +kernel
theorem dX0_changeHeat_10 : decode cX0_changeHeat 10 = .ok (.getfield 40, 3) := by decide +kernel
theorem dX0_changeHeat_13 : decode cX0_changeHeat 13 = .ok (.iconst 1, 1) := by decide +kernel
theorem dX0_changeHeat_14 : decode cX0_changeHeat 14 = .ok (.iadd, 1) := by decide +kernel
theorem dX0_changeHeat_15 : decode cX0_changeHeat 15 = .ok (.putfield 40, 3) := by decide +kernel
theorem dX0_changeHeat_18 : decode cX0_changeHeat 18 = .ok (.goto 21, 3) := by decide +kernel
theorem dX0_changeHeat_21 : decode cX0_changeHeat 21 = .ok (.aload_n 0, 1) := by decide +kernel
theorem dX0_changeHeat_22 : decode cX0_changeHeat 22 = .ok (.getfield 40, 3) := by decide +kernel
theorem dX0_changeHeat_25 : decode cX0_changeHeat 25 = .ok (.iload_n 1, 1) := by decide +kernel
theorem dX0_changeHeat_26 : decode cX0_changeHeat 26 = .ok (.if_icmp .le 13, 3) := by decide +kernel
theorem dX0_changeHeat_29 : decode cX0_changeHeat 29 = .ok (.aload_n 0, 1) := by decide +kernel
theorem dX0_changeHeat_30 : decode cX0_changeHeat 30 = .ok (.dup, 1) := by decide +kernel
theorem dX0_changeHeat_31 : decode cX0_changeHeat 31 = .ok (.getfield 40, 3) := by decide +kernel
theorem dX0_changeHeat_34 : decode cX0_changeHeat 34 = .ok (.iconst 1, 1) := by decide +kernel
theorem dX0_changeHeat_35 : decode cX0_changeHeat 35 = .ok (.isub, 1) := by decide +kernel
theorem dX0_changeHeat_36 : decode cX0_changeHeat 36 = .ok (.putfield 40, 3) := by decide +kernel
theorem dX0_changeHeat_39 : decode cX0_changeHeat 39 = .ok (.return_, 1) := by decide +kernel
theorem dX0_lookAtWindow_0 : decode cX0_lookAtWindow 0 = .ok (.aload_n 0, 1) := by decide +kernel
theorem dX0_lookAtWindow_1 : decode cX0_lookAtWindow 1 = .ok (.getfield 59, 3) := by decide +kernel
theorem dX0_lookAtWindow_4 : decode cX0_lookAtWindow 4 = .ok (.aload_n 0, 1) := by decide +kernel
theorem dX0_lookAtWindow_5 : decode cX0_lookAtWindow 5 = .ok (.getfield 27, 3) := by decide +kernel
theorem dX0_lookAtWindow_8 : decode cX0_lookAtWindow 8 = .ok (.iconst 4, 1) := by decide +kernel
theorem dX0_lookAtWindow_9 : decode cX0_lookAtWindow 9 = .ok (.iaload, 1) := by decide +kernel
theorem dX0_lookAtWindow_10 : decode cX0_lookAtWindow 10 = .ok (.isub, 1) := by decide +kernel
theorem dX0_lookAtWindow_11 : decode cX0_lookAtWindow 11 = .ok (.istore_n 1, 1) := by decide +kernel
theorem dX0_lookAtWindow_12 : decode cX0_lookAtWindow 12 = .ok (.iload_n 1, 1) := by decide +kernel
theorem dX0_lookAtWindow_13 : decode cX0_lookAtWindow 13 = .ok (.ifCond .ge 37, 3) := by decide +kernel
theorem dX0_lookAtWindow_16 : decode cX0_lookAtWindow 16 = .ok (.aload_n 0, 1) := by decide +kernel
theorem dX0_lookAtWindow_17 : decode cX0_lookAtWindow 17 = .ok (.sipush 500, 3) := by decide +kernel
theorem dX0_lookAtWindow_20 : decode cX0_lookAtWindow 20 = .ok (.aload_n 0, 1) := by decide +kernel
theorem dX0_lookAtWindow_21 : decode cX0_lookAtWindow 21 = .ok (.getfield 37, 3) := by decide +kernel
theorem dX0_lookAtWindow_24 : decode cX0_lookAtWindow 24 = .ok (.aload_n 0, 1) := by decide +kernel
theorem dX0_lookAtWindow_25 : decode cX0_lookAtWindow 25 = .ok (.getfield 27, 3) := by decide +kernel
theorem dX0_lookAtWindow_28 : decode cX0_lookAtWindow 28 = .ok (.iconst 5, 1) := by decide +kernel
theorem dX0_lookAtWindow_29 : decode cX0_lookAtWindow 29 = .ok (.iaload, 1) := by decide +kernel
theorem dX0_lookAtWindow_30 : decode cX0_lookAtWindow 30 = .ok (.isub, 1) := by decide +kernel
theorem dX0_lookAtWindow_31 : decode cX0_lookAtWindow 31 = .ok (.invokestatic 95, 3) := by decide +kernel
theorem dX0_lookAtWindow_34 : decode cX0_lookAtWindow 34 = .ok (.putfield 37, 3) := by decide +kernel
theorem dX0_lookAtWindow_37 : decode cX0_lookAtWindow 37 = .ok (.aload_n 0, 1) := by decide +kernel
theorem dX0_lookAtWindow_38 : decode cX0_lookAtWindow 38 = .ok (.dup, 1) := by decide +kernel
theorem dX0_lookAtWindow_39 : decode cX0_lookAtWindow 39 = .ok (.getfield 81, 3) := by decide +kernel
theorem dX0_lookAtWindow_42 : decode cX0_lookAtWindow 42 = .ok (.iconst 1, 1) := by decide +kernel
theorem dX0_lookAtWindow_43 : decode cX0_lookAtWindow 43 = .ok (.iadd, 1) := by decide +kernel
theorem dX0_lookAtWindow_44 : decode cX0_lookAtWindow 44 = .ok (.putfield 81, 3) := by decide +kernel
theorem dX0_lookAtWindow_47 : decode cX0_lookAtWindow 47 = .ok (.goto 48, 3) := by decide +kernel
theorem dX0_lookAtWindow_50 : decode cX0_lookAtWindow 50 = .ok (.iload_n 1, 1) := by decide +kernel
theorem dX0_lookAtWindow_51 : decode cX0_lookAtWindow 51 = .ok (.aload_n 0, 1) := by decide +kernel
theorem dX0_lookAtWindow_52 : decode cX0_lookAtWindow 52 = .ok (.getfield 27, 3) := by decide +kernel
theorem dX0_lookAtWindow_55 : decode cX0_lookAtWindow 55 = .ok (.bipush 6, 2) := by decide +kernel
theorem dX0_lookAtWindow_57 : decode cX0_lookAtWindow 57 = .ok (.iaload, 1) := by decide +kernel
theorem dX0_lookAtWindow_58 : decode cX0_lookAtWindow 58 = .ok (.invokestatic 125, 3) := by decide +kernel
theorem dX0_lookAtWindow_61 : decode cX0_lookAtWindow 61 = .ok (.istore_n 2, 1) := by decide +kernel
theorem dX0_lookAtWindow_62 : decode cX0_lookAtWindow 62 = .ok (.aload_n 0, 1) := by decide +kernel
theorem dX0_lookAtWindow_63 : decode cX0_lookAtWindow 63 = .ok (.sipush 1200, 3) := by decide +kernel
theorem dX0_lookAtWindow_66 : decode cX0_lookAtWindow 66 = .ok (.aload_n 0, 1) := by decide +kernel
theorem dX0_lookAtWindow_67 : decode cX0_lookAtWindow 67 = .ok (.getfield 37, 3) := by decide +kernel
theorem dX0_lookAtWindow_70 : decode cX0_lookAtWindow 70 = .ok (.iload_n 2, 1) := by decide +kernel
theorem dX0_lookAtWindow_71 : decode cX0_lookAtWindow 71 = .ok (.aload_n 0, 1) := by decide +kernel
theorem dX0_lookAtWindow_72 : decode cX0_lookAtWindow 72 = .ok (.getfield 27, 3) := by decide +kernel
theorem dX0_lookAtWindow_75 : decode cX0_lookAtWindow 75 = .ok (.iconst 5, 1) := by decide +kernel
theorem dX0_lookAtWindow_76 : decode cX0_lookAtWindow 76 = .ok (.iaload, 1) := by decide +kernel
theorem dX0_lookAtWindow_77 : decode cX0_lookAtWindow 77 = .ok (.imul, 1) := by decide +kernel
theorem dX0_lookAtWindow_78 : decode cX0_lookAtWindow 78 = .ok (.iadd, 1) := by decide +kernel
theorem dX0_lookAtWindow_79 : decode cX0_lookAtWindow 79 = .ok (.invokestatic 125, 3) := by decide +kernel
theorem dX0_lookAtWindow_82 : decode cX0_lookAtWindow 82 = .ok (.putfield 37, 3) := by decide +kernel
theorem dX0_lookAtWindow_85 : decode cX0_lookAtWindow 85 = .ok (.aload_n 0, 1) := by decide +kernel
theorem dX0_lookAtWindow_86 : decode cX0_lookAtWindow 86 = .ok (.dup, 1) := by decide +kernel
theorem dX0_lookAtWindow_87 : decode cX0_lookAtWindow 87 = .ok (.getfield 78, 3) := by decide +kernel
theorem dX0_lookAtWindow_90 : decode cX0_lookAtWindow 90 = .ok (.iload_n 2, 1) := by decide +kernel
theorem dX0_lookAtWindow_91 : decode cX0_lookAtWindow 91 = .ok (.iadd, 1) := by decide +kernel
theorem dX0_lookAtWindow_92 : decode cX0_lookAtWindow 92 = .ok (.putfield 78, 3) := by decide +kernel
theorem dX0_lookAtWindow_95 : decode cX0_lookAtWindow 95 = .ok (.aload_n 0, 1) := by decide +kernel
theorem dX0_lookAtWindow_96 : decode cX0_lookAtWindow 96 = .ok (.invokevirtual 131, 3) := by decide +kernel
theorem dX0_lookAtWindow_99 : decode cX0_lookAtWindow 99 = .ok (.return_, 1) := by decide +kernel
theorem dX1_init_0 : decode cX1_init 0 = .ok (.aload_n 0, 1) := by decide +kernel
theorem dX1_init_1 : decode cX1_init 1 = .ok (.invokespecial 1, 3) := by decide +kernel
theorem dX1_init_4 : decode cX1_init 4 = .ok (.aload_n 0, 1) := by decide +kernel
theorem dX1_init_5 : decode cX1_init 5 = .ok (.bipush 60, 2) := by decide +kernel
theorem dX1_init_7 : decode cX1_init 7 = .ok (.newarray .char, 2) := by decide +kernel
theorem dX1_init_9 : decode cX1_init 9 = .ok (.putfield 9, 3) := by decide +kernel
theorem dX1_init_12 : decode cX1_init 12 = .ok (.aload_n 0, 1) := by decide +kernel
theorem dX1_init_13 : decode cX1_init 13 = .ok (.bipush 16, 2) := by decide +kernel
theorem dX1_init_15 : decode cX1_init 15 = .ok (.newarray .int, 2) := by decide +kernel
theorem dX1_init_17 : decode cX1_init 17 = .ok (.putfield 15, 3) := by decide +kernel
theorem dX1_init_20 : decode cX1_init 20 = .ok (.return_, 1) := by decide +kernel
theorem dX1_append_0 : decode cX1_append 0 = .ok (.aload_n 0, 1) := by decide +kernel
theorem dX1_append_1 : decode cX1_append 1 = .ok (.getfield 19, 3) := by decide +kernel
theorem dX1_append_4 : decode cX1_append 4 = .ok (.bipush 60, 2) := by decide +kernel
theorem dX1_append_6 : decode cX1_append 6 = .ok (.if_icmp .lt 5, 3) := by decide +kernel
theorem dX1_append_9 : decode cX1_append 9 = .ok (.iconst 0, 1) := by decide +kernel
theorem dX1_append_10 : decode cX1_append 10 = .ok (.ireturn, 1) := by decide +kernel
theorem dX1_append_11 : decode cX1_append 11 = .ok (.aload_n 0, 1) := by decide +kernel
theorem dX1_append_12 : decode cX1_append 12 = .ok (.getfield 9, 3) := by decide +kernel
theorem dX1_append_15 : decode cX1_append 15 = .ok (.aload_n 0, 1) := by decide +kernel
theorem dX1_append_16 : decode cX1_append 16 = .ok (.getfield 19, 3) := by decide +kernel
theorem dX1_append_19 : decode cX1_append 19 = .ok (.iload_n 1, 1) := by decide +kernel
theorem dX1_append_20 : decode cX1_append 20 = .ok (.castore, 1) := by decide +kernel
theorem dX1_append_21 : decode cX1_append 21 = .ok (.aload_n 0, 1) := by decide +kernel
theorem dX1_append_22 : decode cX1_append 22 = .ok (.dup, 1) := by decide +kernel
theorem dX1_append_23 : decode cX1_append 23 = .ok (.getfield 19, 3) := by decide +kernel
theorem dX1_append_26 : decode cX1_append 26 = .ok (.iconst 1, 1) := by decide +kernel
theorem dX1_append_27 : decode cX1_append 27 = .ok (.iadd, 1) := by decide +kernel
theorem dX1_append_28 : decode cX1_append 28 = .ok (.putfield 19, 3) := by decide +kernel
theorem dX1_append_31 : decode cX1_append 31 = .ok (.iconst 1, 1) := by decide +kernel
theorem dX1_append_32 : decode cX1_append 32 = .ok (.ireturn, 1) := by decide +kernel
theorem dX1_read_0 : decode cX1_read 0 = .ok (.iconst (-1), 1) := by decide +kernel
theorem dX1_read_1 : decode cX1_read 1 = .ok (.istore_n 1, 1) := by decide +kernel
theorem dX1_read_2 : decode cX1_read 2 = .ok (.aload_n 0, 1) := by decide +kernel
theorem dX1_read_3 : decode cX1_read 3 = .ok (.getfield 15, 3) := by decide +kernel
theorem dX1_read_6 : decode cX1_read 6 = .ok (.iconst 0, 1) := by decide +kernel
theorem dX1_read_7 : decode cX1_read 7 = .ok (.iconst 0, 1) := by decide +kernel
theorem dX1_read_8 : decode cX1_read 8 = .ok (.iastore, 1) := by decide +kernel
theorem dX1_read_9 : decode cX1_read 9 = .ok (.aload_n 0, 1) := by decide +kernel
theorem dX1_read_10 : decode cX1_read 10 = .ok (.iconst 1, 1) := by decide +kernel
theorem dX1_read_11 : decode cX1_read 11 = .ok (.putfield 23, 3) := by decide +kernel
theorem dX1_read_14 : decode cX1_read 14 = .ok (.iconst 0, 1) := by decide +kernel
theorem dX1_read_15 : decode cX1_read 15 = .ok (.istore_n 2, 1) := by decide +kernel
theorem dX1_read_16 : decode cX1_read 16 = .ok (.iload_n 2, 1) := by decide +kernel
theorem dX1_read_17 : decode cX1_read 17 = .ok (.aload_n 0, 1) := by decide +kernel
theorem dX1_read_18 : decode cX1_read 18 = .ok (.getfield 19, 3) := by decide +kernel
theorem dX1_read_21 : decode cX1_read 21 = .ok (.if_icmp .ge 125, 3) := by decide +kernel
theorem dX1_read_24 : decode cX1_read 24 = .ok (.aload_n 0, 1) := by decide +kernel
theorem dX1_read_25 : decode cX1_read 25 = .ok (.getfield 9, 3) := by decide +kernel
theorem dX1_read_28 : decode cX1_read 28 = .ok (.iload_n 2, 1) := by decide +kernel
theorem dX1_read_29 : decode cX1_read 29 = .ok (.caload, 1) := by decide +kernel
theorem dX1_read_30 : decode cX1_read 30 = .ok (.istore_n 3, 1) := by decide +kernel
theorem dX1_read_31 : decode cX1_read 31 = .ok (.iload_n 3, 1) := by decide +kernel
theorem dX1_read_32 : decode cX1_read 32 = .ok (.bipush 44, 2) := by decide +kernel
theorem dX1_read_34 : decode cX1_read 34 = .ok (.if_icmp .ne 42, 3) := by decide +kernel
theorem dX1_read_37 : decode cX1_read 37 = .ok (.iload_n 1, 1) := by decide +kernel
theorem dX1_read_38 : decode cX1_read 38 = .ok (.iconst (-1), 1) := by decide +kernel
theorem dX1_read_39 : decode cX1_read 39 = .ok (.if_icmp .eq 37, 3) := by decide +kernel
theorem dX1_read_42 : decode cX1_read 42 = .ok (.aload_n 0, 1) := by decide +kernel
theorem dX1_read_43 : decode cX1_read 43 = .ok (.getfield 23, 3) := by decide +kernel
theorem dX1_read_46 : decode cX1_read 46 = .ok (.bipush 16, 2) := by decide +kernel
theorem dX1_read_48 : decode cX1_read 48 = .ok (.if_icmp .ge 28, 3) := by decide +kernel
theorem dX1_read_51 : decode cX1_read 51 = .ok (.aload_n 0, 1) := by decide +kernel
theorem dX1_read_52 : decode cX1_read 52 = .ok (.getfield 15, 3) := by decide +kernel
theorem dX1_read_55 : decode cX1_read 55 = .ok (.aload_n 0, 1) := by decide +kernel
theorem dX1_read_56 : decode cX1_read 56 = .ok (.getfield 23, 3) := by decide +kernel
theorem dX1_read_59 : decode cX1_read 59 = .ok (.iconst 0, 1) := by decide +kernel
theorem dX1_read_60 : decode cX1_read 60 = .ok (.iastore, 1) := by decide +kernel
theorem dX1_read_61 : decode cX1_read 61 = .ok (.aload_n 0, 1) := by decide +kernel
theorem dX1_read_62 : decode cX1_read 62 = .ok (.dup, 1) := by decide +kernel
theorem dX1_read_63 : decode cX1_read 63 = .ok (.getfield 23, 3) := by decide +kernel
theorem dX1_read_66 : decode cX1_read 66 = .ok (.iconst 1, 1) := by decide +kernel
theorem dX1_read_67 : decode cX1_read 67 = .ok (.iadd, 1) := by decide +kernel
theorem dX1_read_68 : decode cX1_read 68 = .ok (.putfield 23, 3) := by decide +kernel
theorem dX1_read_71 : decode cX1_read 71 = .ok (.iconst (-1), 1) := by decide +kernel
theorem dX1_read_72 : decode cX1_read 72 = .ok (.istore_n 1, 1) := by decide +kernel
theorem dX1_read_73 : decode cX1_read 73 = .ok (.goto 67, 3) := by decide +kernel
theorem dX1_read_76 : decode cX1_read 76 = .ok (.iload_n 3, 1) := by decide +kernel
theorem dX1_read_77 : decode cX1_read 77 = .ok (.bipush 45, 2) := by decide +kernel
theorem dX1_read_79 : decode cX1_read 79 = .ok (.if_icmp .ne 14, 3) := by decide +kernel
theorem dX1_read_82 : decode cX1_read 82 = .ok (.iload_n 1, 1) := by decide +kernel
theorem dX1_read_83 : decode cX1_read 83 = .ok (.iconst (-1), 1) := by decide +kernel
theorem dX1_read_84 : decode cX1_read 84 = .ok (.if_icmp .ne 9, 3) := by decide +kernel
theorem dX1_read_87 : decode cX1_read 87 = .ok (.bipush 8, 2) := by decide +kernel
theorem dX1_read_89 : decode cX1_read 89 = .ok (.istore_n 1, 1) := by decide +kernel
theorem dX1_read_90 : decode cX1_read 90 = .ok (.goto 50, 3) := by decide +kernel
theorem dX1_read_93 : decode cX1_read 93 = .ok (.iload_n 3, 1) := by decide +kernel
theorem dX1_read_94 : decode cX1_read 94 = .ok (.bipush 48, 2) := by decide +kernel
theorem dX1_read_96 : decode cX1_read 96 = .ok (.if_icmp .lt 42, 3) := by decide +kernel
theorem dX1_read_99 : decode cX1_read 99 = .ok (.iload_n 3, 1) := by decide +kernel
theorem dX1_read_100 : decode cX1_read 100 = .ok (.bipush 55, 2) := by decide +kernel
theorem dX1_read_102 : decode cX1_read 102 = .ok (.if_icmp .gt 36, 3) := by decide +kernel
theorem dX1_read_105 : decode cX1_read 105 = .ok (.iload_n 3, 1) := by decide +kernel
theorem dX1_read_106 : decode cX1_read 106 = .ok (.bipush 48, 2) := by decide +kernel
theorem dX1_read_108 : decode cX1_read 108 = .ok (.isub, 1) := by decide +kernel
theorem dX1_read_109 : decode cX1_read 109 = .ok (.iload_n 1, 1) := by decide +kernel
theorem dX1_read_110 : decode cX1_read 110 = .ok (.if_icmp .le 28, 3) := by decide +kernel
theorem dX1_read_113 : decode cX1_read 113 = .ok (.iload_n 3, 1) := by decide +kernel
theorem dX1_read_114 : decode cX1_read 114 = .ok (.bipush 48, 2) := by decide +kernel
theorem dX1_read_116 : decode cX1_read 116 = .ok (.isub, 1) := by decide +kernel
theorem dX1_read_117 : decode cX1_read 117 = .ok (.istore_n 1, 1) := by decide +kernel
theorem dX1_read_118 : decode cX1_read 118 = .ok (.aload_n 0, 1) := by decide +kernel
theorem dX1_read_119 : decode cX1_read 119 = .ok (.getfield 15, 3) := by decide +kernel
theorem dX1_read_122 : decode cX1_read 122 = .ok (.aload_n 0, 1) := by decide +kernel
theorem dX1_read_123 : decode cX1_read 123 = .ok (.getfield 23, 3) := by decide +kernel
theorem dX1_read_126 : decode cX1_read 126 = .ok (.iconst 1, 1) := by decide +kernel
theorem dX1_read_127 : decode cX1_read 127 = .ok (.isub, 1) := by decide +kernel
theorem dX1_read_128 : decode cX1_read 128 = .ok (.dup2, 1) := by decide +kernel
theorem dX1_read_129 : decode cX1_read 129 = .ok (.iaload, 1) := by decide +kernel
theorem dX1_read_130 : decode cX1_read 130 = .ok (.iconst 1, 1) := by decide +kernel
theorem dX1_read_131 : decode cX1_read 131 = .ok (.iload_n 1, 1) := by decide +kernel
theorem dX1_read_132 : decode cX1_read 132 = .ok (.ishl, 1) := by decide +kernel
theorem dX1_read_133 : decode cX1_read 133 = .ok (.ior, 1) := by decide +kernel
theorem dX1_read_134 : decode cX1_read 134 = .ok (.iastore, 1) := by decide +kernel
theorem dX1_read_135 : decode cX1_read 135 = .ok (.goto 5, 3) := by decide +kernel
theorem dX1_read_138 : decode cX1_read 138 = .ok (.iload_n 2, 1) := by decide +kernel
theorem dX1_read_139 : decode cX1_read 139 = .ok (.ireturn, 1) := by decide +kernel
theorem dX1_read_140 : decode cX1_read 140 = .ok (.iinc 2 1, 3) := by decide +kernel
theorem dX1_read_143 : decode cX1_read 143 = .ok (.goto (-127), 3) := by decide +kernel
theorem dX1_read_146 : decode cX1_read 146 = .ok (.iload_n 1, 1) := by decide +kernel
theorem dX1_read_147 : decode cX1_read 147 = .ok (.iconst (-1), 1) := by decide +kernel
theorem dX1_read_148 : decode cX1_read 148 = .ok (.if_icmp .ne 10, 3) := by decide +kernel
theorem dX1_read_151 : decode cX1_read 151 = .ok (.aload_n 0, 1) := by decide +kernel
theorem dX1_read_152 : decode cX1_read 152 = .ok (.getfield 19, 3) := by decide +kernel
theorem dX1_read_155 : decode cX1_read 155 = .ok (.goto 4, 3) := by decide +kernel
theorem dX1_read_158 : decode cX1_read 158 = .ok (.iconst (-1), 1) := by decide +kernel
theorem dX1_read_159 : decode cX1_read 159 = .ok (.ireturn, 1) := by decide +kernel
theorem dX2_init_0 : decode cX2_init 0 = .ok (.aload_n 0, 1) := by decide +kernel
theorem dX2_init_1 : decode cX2_init 1 = .ok (.invokespecial 1, 3) := by decide +kernel
theorem dX2_init_4 : decode cX2_init 4 = .ok (.aload_n 0, 1) := by decide +kernel
theorem dX2_init_5 : decode cX2_init 5 = .ok (.new 7, 3) := by decide +kernel
theorem dX2_init_8 : decode cX2_init 8 = .ok (.dup, 1) := by decide +kernel
theorem dX2_init_9 : decode cX2_init 9 = .ok (.invokespecial 9, 3) := by decide +kernel
theorem dX2_init_12 : decode cX2_init 12 = .ok (.putfield 10, 3) := by decide +kernel
theorem dX2_init_15 : decode cX2_init 15 = .ok (.aload_n 0, 1) := by decide +kernel
theorem dX2_init_16 : decode cX2_init 16 = .ok (.new 7, 3) := by decide +kernel
theorem dX2_init_19 : decode cX2_init 19 = .ok (.dup, 1) := by decide +kernel
theorem dX2_init_20 : decode cX2_init 20 = .ok (.invokespecial 9, 3) := by decide +kernel
theorem dX2_init_23 : decode cX2_init 23 = .ok (.putfield 16, 3) := by decide +kernel
theorem dX2_init_26 : decode cX2_init 26 = .ok (.aload_n 0, 1) := by decide +kernel
theorem dX2_init_27 : decode cX2_init 27 = .ok (.new 7, 3) := by decide +kernel
theorem dX2_init_30 : decode cX2_init 30 = .ok (.dup, 1) := by decide +kernel
theorem dX2_init_31 : decode cX2_init 31 = .ok (.invokespecial 9, 3) := by decide +kernel
theorem dX2_init_34 : decode cX2_init 34 = .ok (.putfield 19, 3) := by decide +kernel
theorem dX2_init_37 : decode cX2_init 37 = .ok (.aload_n 0, 1) := by decide +kernel
theorem dX2_init_38 : decode cX2_init 38 = .ok (.iconst 4, 1) := by decide +kernel
theorem dX2_init_39 : decode cX2_init 39 = .ok (.anewarray 7, 3) := by decide +kernel
theorem dX2_init_42 : decode cX2_init 42 = .ok (.putfield 22, 3) := by decide +kernel
theorem dX2_init_45 : decode cX2_init 45 = .ok (.iconst 0, 1) := by decide +kernel
theorem dX2_init_46 : decode cX2_init 46 = .ok (.istore_n 1, 1) := by decide +kernel
theorem dX2_init_47 : decode cX2_init 47 = .ok (.iload_n 1, 1) := by decide +kernel
theorem dX2_init_48 : decode cX2_init 48 = .ok (.iconst 4, 1) := by decide +kernel
theorem dX2_init_49 : decode cX2_init 49 = .ok (.if_icmp .ge 22, 3) := by decide +kernel
theorem dX2_init_52 : decode cX2_init 52 = .ok (.aload_n 0, 1) := by decide +kernel
theorem dX2_init_53 : decode cX2_init 53 = .ok (.getfield 22, 3) := by decide +kernel
theorem dX2_init_56 : decode cX2_init 56 = .ok (.iload_n 1, 1) := by decide +kernel
theorem dX2_init_57 : decode cX2_init 57 = .ok (.new 7, 3) := by decide +kernel
theorem dX2_init_60 : decode cX2_init 60 = .ok (.dup, 1) := by decide +kernel
theorem dX2_init_61 : decode cX2_init 61 = .ok (.invokespecial 9, 3) := by decide +kernel
theorem dX2_init_64 : decode cX2_init 64 = .ok (.aastore, 1) := by decide +kernel
theorem dX2_init_65 : decode cX2_init 65 = .ok (.iinc 1 1, 3) := by decide +kernel
theorem dX2_init_68 : decode cX2_init 68 = .ok (.goto (-21), 3) := by decide +kernel
theorem dX2_init_71 : decode cX2_init 71 = .ok (.aload_n 0, 1) := by decide +kernel
theorem dX2_init_72 : decode cX2_init 72 = .ok (.new 26, 3) := by decide +kernel
theorem dX2_init_75 : decode cX2_init 75 = .ok (.dup, 1) := by decide +kernel
theorem dX2_init_76 : decode cX2_init 76 = .ok (.invokespecial 28, 3) := by decide +kernel
theorem dX2_init_79 : decode cX2_init 79 = .ok (.putfield 29, 3) := by decide +kernel
theorem dX2_init_82 : decode cX2_init 82 = .ok (.return_, 1) := by decide +kernel
theorem dX2_addPath_0 : decode cX2_addPath 0 = .ok (.iload_n 1, 1) := by decide +kernel
theorem dX2_addPath_1 : decode cX2_addPath 1 = .ok (.invokestatic 33, 3) := by decide +kernel
theorem dX2_addPath_4 : decode cX2_addPath 4 = .ok (.ifCond .ne 6, 3) := by decide +kernel
theorem dX2_addPath_7 : decode cX2_addPath 7 = .ok (.bipush (-2), 2) := by decide +kernel
theorem dX2_addPath_9 : decode cX2_addPath 9 = .ok (.ireturn, 1) := by decide +kernel
theorem dX2_addPath_10 : decode cX2_addPath 10 = .ok (.aload_n 0, 1) := by decide +kernel
theorem dX2_addPath_11 : decode cX2_addPath 11 = .ok (.getfield 10, 3) := by decide +kernel
theorem dX2_addPath_14 : decode cX2_addPath 14 = .ok (.getfield 37, 3) := by decide +kernel
theorem dX2_addPath_17 : decode cX2_addPath 17 = .ok (.bipush 8, 2) := by decide +kernel
theorem dX2_addPath_19 : decode cX2_addPath 19 = .ok (.if_icmp .lt 6, 3) := by decide +kernel
theorem dX2_addPath_22 : decode cX2_addPath 22 = .ok (.bipush (-3), 2) := by decide +kernel
theorem dX2_addPath_24 : decode cX2_addPath 24 = .ok (.ireturn, 1) := by decide +kernel
theorem dX2_addPath_25 : decode cX2_addPath 25 = .ok (.aload_n 0, 1) := by decide +kernel
theorem dX2_addPath_26 : decode cX2_addPath 26 = .ok (.invokevirtual 41, 3) := by decide +kernel
theorem dX2_addPath_29 : decode cX2_addPath 29 = .ok (.aload_n 0, 1) := by decide +kernel
theorem dX2_addPath_30 : decode cX2_addPath 30 = .ok (.getfield 10, 3) := by decide +kernel
theorem dX2_addPath_33 : decode cX2_addPath 33 = .ok (.getfield 37, 3) := by decide +kernel
theorem dX2_addPath_36 : decode cX2_addPath 36 = .ok (.istore_n 2, 1) := by decide +kernel
theorem dX2_addPath_37 : decode cX2_addPath 37 = .ok (.aload_n 0, 1) := by decide +kernel
theorem dX2_addPath_38 : decode cX2_addPath 38 = .ok (.getfield 10, 3) := by decide +kernel
theorem dX2_addPath_41 : decode cX2_addPath 41 = .ok (.getfield 44, 3) := by decide +kernel
theorem dX2_addPath_44 : decode cX2_addPath 44 = .ok (.iload_n 2, 1) := by decide +kernel
theorem dX2_addPath_45 : decode cX2_addPath 45 = .ok (.iload_n 1, 1) := by decide +kernel
theorem dX2_addPath_46 : decode cX2_addPath 46 = .ok (.iastore, 1) := by decide +kernel
theorem dX2_addPath_47 : decode cX2_addPath 47 = .ok (.aload_n 0, 1) := by decide +kernel
theorem dX2_addPath_48 : decode cX2_addPath 48 = .ok (.getfield 10, 3) := by decide +kernel
theorem dX2_addPath_51 : decode cX2_addPath 51 = .ok (.iload_n 2, 1) := by decide +kernel
theorem dX2_addPath_52 : decode cX2_addPath 52 = .ok (.iconst 1, 1) := by decide +kernel
theorem dX2_addPath_53 : decode cX2_addPath 53 = .ok (.iadd, 1) := by decide +kernel
theorem dX2_addPath_54 : decode cX2_addPath 54 = .ok (.putfield 37, 3) := by decide +kernel
theorem dX2_addPath_57 : decode cX2_addPath 57 = .ok (.iload_n 2, 1) := by decide +kernel
theorem dX2_addPath_58 : decode cX2_addPath 58 = .ok (.ireturn, 1) := by decide +kernel
theorem dX2_setLength_0 : decode cX2_setLength 0 = .ok (.aload_n 0, 1) := by decide +kernel
theorem dX2_setLength_1 : decode cX2_setLength 1 = .ok (.iload_n 1, 1) := by decide +kernel
theorem dX2_setLength_2 : decode cX2_setLength 2 = .ok (.invokevirtual 48, 3) := by decide +kernel
theorem dX2_setLength_5 : decode cX2_setLength 5 = .ok (.ifCond .ne 5, 3) := by decide +kernel
theorem dX2_setLength_8 : decode cX2_setLength 8 = .ok (.iconst (-1), 1) := by decide +kernel
theorem dX2_setLength_9 : decode cX2_setLength 9 = .ok (.ireturn, 1) := by decide +kernel
theorem dX2_setLength_10 : decode cX2_setLength 10 = .ok (.iload_n 2, 1) := by decide +kernel
theorem dX2_setLength_11 : decode cX2_setLength 11 = .ok (.invokestatic 33, 3) := by decide +kernel
theorem dX2_setLength_14 : decode cX2_setLength 14 = .ok (.ifCond .ne 6, 3) := by decide +kernel
theorem dX2_setLength_17 : decode cX2_setLength 17 = .ok (.bipush (-2), 2) := by decide +kernel
theorem dX2_setLength_19 : decode cX2_setLength 19 = .ok (.ireturn, 1) := by decide +kernel
theorem dX2_setLength_20 : decode cX2_setLength 20 = .ok (.aload_n 0, 1) := by decide +kernel
theorem dX2_setLength_21 : decode cX2_setLength 21 = .ok (.getfield 10, 3) := by decide +kernel
theorem dX2_setLength_24 : decode cX2_setLength 24 = .ok (.getfield 44, 3) := by decide +kernel
theorem dX2_setLength_27 : decode cX2_setLength 27 = .ok (.iload_n 1, 1) := by decide +kernel
theorem dX2_setLength_28 : decode cX2_setLength 28 = .ok (.iaload, 1) := by decide +kernel
theorem dX2_setLength_29 : decode cX2_setLength 29 = .ok (.istore_n 3, 1) := by decide +kernel
theorem dX2_setLength_30 : decode cX2_setLength 30 = .ok (.iload_n 3, 1) := by decide +kernel
theorem dX2_setLength_31 : decode cX2_setLength 31 = .ok (.iload_n 2, 1) := by decide +kernel
theorem dX2_setLength_32 : decode cX2_setLength 32 = .ok (.if_icmp .ne 6, 3) := by decide +kernel
theorem dX2_setLength_35 : decode cX2_setLength 35 = .ok (.bipush (-5), 2) := by decide +kernel
theorem dX2_setLength_37 : decode cX2_setLength 37 = .ok (.ireturn, 1) := by decide +kernel
theorem dX2_setLength_38 : decode cX2_setLength 38 = .ok (.aload_n 0, 1) := by decide +kernel
theorem dX2_setLength_39 : decode cX2_setLength 39 = .ok (.invokevirtual 41, 3) := by decide +kernel
theorem dX2_setLength_42 : decode cX2_setLength 42 = .ok (.aload_n 0, 1) := by decide +kernel
theorem dX2_setLength_43 : decode cX2_setLength 43 = .ok (.getfield 10, 3) := by decide +kernel
theorem dX2_setLength_46 : decode cX2_setLength 46 = .ok (.getfield 44, 3) := by decide +kernel
theorem dX2_setLength_49 : decode cX2_setLength 49 = .ok (.iload_n 1, 1) := by decide +kernel
theorem dX2_setLength_50 : decode cX2_setLength 50 = .ok (.iload_n 2, 1) := by decide +kernel
theorem dX2_setLength_51 : decode cX2_setLength 51 = .ok (.iastore, 1) := by decide +kernel
theorem dX2_setLength_52 : decode cX2_setLength 52 = .ok (.iload_n 3, 1) := by decide +kernel
theorem dX2_setLength_53 : decode cX2_setLength 53 = .ok (.ireturn, 1) := by decide +kernel
theorem dX2_takeWorkload_0 : decode cX2_takeWorkload 0 = .ok (.aload_n 0, 1) := by decide +kernel
theorem dX2_takeWorkload_1 : decode cX2_takeWorkload 1 = .ok (.getfield 29, 3) := by decide +kernel
theorem dX2_takeWorkload_4 : decode cX2_takeWorkload 4 = .ok (.invokevirtual 51, 3) := by decide +kernel
theorem dX2_takeWorkload_7 : decode cX2_takeWorkload 7 = .ok (.istore_n 1, 1) := by decide +kernel
theorem dX2_takeWorkload_8 : decode cX2_takeWorkload 8 = .ok (.iload_n 1, 1) := by decide +kernel
theorem dX2_takeWorkload_9 : decode cX2_takeWorkload 9 = .ok (.iconst (-1), 1) := by decide +kernel
theorem dX2_takeWorkload_10 : decode cX2_takeWorkload 10 = .ok (.if_icmp .eq 8, 3) := by decide +kernel
theorem dX2_takeWorkload_13 : decode cX2_takeWorkload 13 = .ok (.bipush (-100), 2) := by decide +kernel
theorem dX2_takeWorkload_15 : decode cX2_takeWorkload 15 = .ok (.iload_n 1, 1) := by decide +kernel
theorem dX2_takeWorkload_16 : decode cX2_takeWorkload 16 = .ok (.isub, 1) := by decide +kernel
theorem dX2_takeWorkload_17 : decode cX2_takeWorkload 17 = .ok (.ireturn, 1) := by decide +kernel
theorem dX2_takeWorkload_18 : decode cX2_takeWorkload 18 = .ok (.iconst 0, 1) := by decide +kernel
theorem dX2_takeWorkload_19 : decode cX2_takeWorkload 19 = .ok (.istore_n 2, 1) := by decide +kernel
theorem dX2_takeWorkload_20 : decode cX2_takeWorkload 20 = .ok (.iload_n 2, 1) := by decide +kernel
theorem dX2_takeWorkload_21 : decode cX2_takeWorkload 21 = .ok (.aload_n 0, 1) := by decide +kernel
theorem dX2_takeWorkload_22 : decode cX2_takeWorkload 22 = .ok (.getfield 29, 3) := by decide +kernel
theorem dX2_takeWorkload_25 : decode cX2_takeWorkload 25 = .ok (.getfield 55, 3) := by decide +kernel
theorem dX2_takeWorkload_28 : decode cX2_takeWorkload 28 = .ok (.if_icmp .ge 32, 3) := by decide +kernel
theorem dX2_takeWorkload_31 : decode cX2_takeWorkload 31 = .ok (.aload_n 0, 1) := by decide +kernel
theorem dX2_takeWorkload_32 : decode cX2_takeWorkload 32 = .ok (.getfield 29, 3) := by decide +kernel
theorem dX2_takeWorkload_35 : decode cX2_takeWorkload 35 = .ok (.getfield 58, 3) := by decide +kernel
theorem dX2_takeWorkload_38 : decode cX2_takeWorkload 38 = .ok (.iload_n 2, 1) := by decide +kernel
theorem dX2_takeWorkload_39 : decode cX2_takeWorkload 39 = .ok (.iaload, 1) := by decide +kernel
theorem dX2_takeWorkload_40 : decode cX2_takeWorkload 40 = .ok (.iconst 1, 1) := by decide +kernel
theorem dX2_takeWorkload_41 : decode cX2_takeWorkload 41 = .ok (.aload_n 0, 1) := by decide +kernel
theorem dX2_takeWorkload_42 : decode cX2_takeWorkload 42 = .ok (.getfield 10, 3) := by decide +kernel
theorem dX2_takeWorkload_45 : decode cX2_takeWorkload 45 = .ok (.getfield 37, 3) := by decide +kernel
theorem dX2_takeWorkload_48 : decode cX2_takeWorkload 48 = .ok (.ishl, 1) := by decide +kernel
theorem dX2_takeWorkload_49 : decode cX2_takeWorkload 49 = .ok (.if_icmp .lt 5, 3) := by decide +kernel
theorem dX2_takeWorkload_52 : decode cX2_takeWorkload 52 = .ok (.iconst (-1), 1) := by decide +kernel
theorem dX2_takeWorkload_53 : decode cX2_takeWorkload 53 = .ok (.ireturn, 1) := by decide +kernel
theorem dX2_takeWorkload_54 : decode cX2_takeWorkload 54 = .ok (.iinc 2 1, 3) := by decide +kernel
theorem dX2_takeWorkload_57 : decode cX2_takeWorkload 57 = .ok (.goto (-37), 3) := by decide +kernel
theorem dX2_takeWorkload_60 : decode cX2_takeWorkload 60 = .ok (.aload_n 0, 1) := by decide +kernel
theorem dX2_takeWorkload_61 : decode cX2_takeWorkload 61 = .ok (.invokevirtual 41, 3) := by decide +kernel
theorem dX2_takeWorkload_64 : decode cX2_takeWorkload 64 = .ok (.iconst 0, 1) := by decide +kernel
theorem dX2_takeWorkload_65 : decode cX2_takeWorkload 65 = .ok (.istore_n 2, 1) := by decide +kernel
theorem dX2_takeWorkload_66 : decode cX2_takeWorkload 66 = .ok (.iload_n 2, 1) := by decide +kernel
theorem dX2_takeWorkload_67 : decode cX2_takeWorkload 67 = .ok (.aload_n 0, 1) := by decide +kernel
theorem dX2_takeWorkload_68 : decode cX2_takeWorkload 68 = .ok (.getfield 29, 3) := by decide +kernel
theorem dX2_takeWorkload_71 : decode cX2_takeWorkload 71 = .ok (.getfield 55, 3) := by decide +kernel
theorem dX2_takeWorkload_74 : decode cX2_takeWorkload 74 = .ok (.if_icmp .ge 27, 3) := by decide +kernel
theorem dX2_takeWorkload_77 : decode cX2_takeWorkload 77 = .ok (.aload_n 0, 1) := by decide +kernel
theorem dX2_takeWorkload_78 : decode cX2_takeWorkload 78 = .ok (.getfield 10, 3) := by decide +kernel
theorem dX2_takeWorkload_81 : decode cX2_takeWorkload 81 = .ok (.getfield 61, 3) := by decide +kernel
theorem dX2_takeWorkload_84 : decode cX2_takeWorkload 84 = .ok (.iload_n 2, 1) := by decide +kernel
theorem dX2_takeWorkload_85 : decode cX2_takeWorkload 85 = .ok (.aload_n 0, 1) := by decide +kernel
theorem dX2_takeWorkload_86 : decode cX2_takeWorkload 86 = .ok (.getfield 29, 3) := by decide +kernel
theorem dX2_takeWorkload_89 : decode cX2_takeWorkload 89 = .ok (.getfield 58, 3) := by decide +kernel
theorem dX2_takeWorkload_92 : decode cX2_takeWorkload 92 = .ok (.iload_n 2, 1) := by decide +kernel
theorem dX2_takeWorkload_93 : decode cX2_takeWorkload 93 = .ok (.iaload, 1) := by decide +kernel
theorem dX2_takeWorkload_94 : decode cX2_takeWorkload 94 = .ok (.iastore, 1) := by decide +kernel
theorem dX2_takeWorkload_95 : decode cX2_takeWorkload 95 = .ok (.iinc 2 1, 3) := by decide +kernel
theorem dX2_takeWorkload_98 : decode cX2_takeWorkload 98 = .ok (.goto (-32), 3) := by decide +kernel
theorem dX2_takeWorkload_101 : decode cX2_takeWorkload 101 = .ok (.aload_n 0, 1) := by decide +kernel
theorem dX2_takeWorkload_102 : decode cX2_takeWorkload 102 = .ok (.getfield 10, 3) := by decide +kernel
theorem dX2_takeWorkload_105 : decode cX2_takeWorkload 105 = .ok (.aload_n 0, 1) := by decide +kernel
theorem dX2_takeWorkload_106 : decode cX2_takeWorkload 106 = .ok (.getfield 29, 3) := by decide +kernel
theorem dX2_takeWorkload_109 : decode cX2_takeWorkload 109 = .ok (.getfield 55, 3) := by decide +kernel
theorem dX2_takeWorkload_112 : decode cX2_takeWorkload 112 = .ok (.invokevirtual 62, 3) := by decide +kernel
theorem dX2_takeWorkload_115 : decode cX2_takeWorkload 115 = .ok (.aload_n 0, 1) := by decide +kernel
theorem dX2_takeWorkload_116 : decode cX2_takeWorkload 116 = .ok (.getfield 29, 3) := by decide +kernel
theorem dX2_takeWorkload_119 : decode cX2_takeWorkload 119 = .ok (.getfield 55, 3) := by decide +kernel
theorem dX2_takeWorkload_122 : decode cX2_takeWorkload 122 = .ok (.ireturn, 1) := by decide +kernel
theorem dX2_layWorkload_0 : decode cX2_layWorkload 0 = .ok (.iload_n 1, 1) := by decide +kernel
theorem dX2_layWorkload_1 : decode cX2_layWorkload 1 = .ok (.iconst 1, 1) := by decide +kernel
theorem dX2_layWorkload_2 : decode cX2_layWorkload 2 = .ok (.bipush 16, 2) := by decide +kernel
theorem dX2_layWorkload_4 : decode cX2_layWorkload 4 = .ok (.invokestatic 66, 3) := by decide +kernel
theorem dX2_layWorkload_7 : decode cX2_layWorkload 7 = .ok (.ifCond .eq 14, 3) := by decide +kernel
theorem dX2_layWorkload_10 : decode cX2_layWorkload 10 = .ok (.iload_n 2, 1) := by decide +kernel
theorem dX2_layWorkload_11 : decode cX2_layWorkload 11 = .ok (.iconst 0, 1) := by decide +kernel
theorem dX2_layWorkload_12 : decode cX2_layWorkload 12 = .ok (.sipush 9999, 3) := by decide +kernel
theorem dX2_layWorkload_15 : decode cX2_layWorkload 15 = .ok (.invokestatic 66, 3) := by decide +kernel
theorem dX2_layWorkload_18 : decode cX2_layWorkload 18 = .ok (.ifCond .ne 6, 3) := by decide +kernel
theorem dX2_layWorkload_21 : decode cX2_layWorkload 21 = .ok (.bipush (-2), 2) := by decide +kernel
theorem dX2_layWorkload_23 : decode cX2_layWorkload 23 = .ok (.ireturn, 1) := by decide +kernel
theorem dX2_layWorkload_24 : decode cX2_layWorkload 24 = .ok (.aload_n 0, 1) := by decide +kernel
theorem dX2_layWorkload_25 : decode cX2_layWorkload 25 = .ok (.invokevirtual 41, 3) := by decide +kernel
theorem dX2_layWorkload_28 : decode cX2_layWorkload 28 = .ok (.iload_n 2, 1) := by decide +kernel
theorem dX2_layWorkload_29 : decode cX2_layWorkload 29 = .ok (.istore_n 3, 1) := by decide +kernel
theorem dX2_layWorkload_30 : decode cX2_layWorkload 30 = .ok (.iconst 0, 1) := by decide +kernel
theorem dX2_layWorkload_31 : decode cX2_layWorkload 31 = .ok (.istore 4, 2) := by decide +kernel
theorem dX2_layWorkload_33 : decode cX2_layWorkload 33 = .ok (.iconst 0, 1) := by decide +kernel
theorem dX2_layWorkload_34 : decode cX2_layWorkload 34 = .ok (.istore 5, 2) := by decide +kernel
theorem dX2_layWorkload_36 : decode cX2_layWorkload 36 = .ok (.iload 5, 2) := by decide +kernel
theorem dX2_layWorkload_38 : decode cX2_layWorkload 38 = .ok (.iload_n 1, 1) := by decide +kernel
theorem dX2_layWorkload_39 : decode cX2_layWorkload 39 = .ok (.if_icmp .ge 65, 3) := by decide +kernel
theorem dX2_layWorkload_42 : decode cX2_layWorkload 42 = .ok (.sipush 421, 3) := by decide +kernel
theorem dX2_layWorkload_45 : decode cX2_layWorkload 45 = .ok (.iload_n 3, 1) := by decide +kernel
theorem dX2_layWorkload_46 : decode cX2_layWorkload 46 = .ok (.imul, 1) := by decide +kernel
theorem dX2_layWorkload_47 : decode cX2_layWorkload 47 = .ok (.sipush 1663, 3) := by decide +kernel
theorem dX2_layWorkload_50 : decode cX2_layWorkload 50 = .ok (.iadd, 1) := by decide +kernel
theorem dX2_layWorkload_51 : decode cX2_layWorkload 51 = .ok (.sipush 10000, 3) := by decide +kernel
theorem dX2_layWorkload_54 : decode cX2_layWorkload 54 = .ok (.irem, 1) := by decide +kernel
theorem dX2_layWorkload_55 : decode cX2_layWorkload 55 = .ok (.istore_n 3, 1) := by decide +kernel
theorem dX2_layWorkload_56 : decode cX2_layWorkload 56 = .ok (.aload_n 0, 1) := by decide +kernel
theorem dX2_layWorkload_57 : decode cX2_layWorkload 57 = .ok (.getfield 10, 3) := by decide +kernel
theorem dX2_layWorkload_60 : decode cX2_layWorkload 60 = .ok (.getfield 61, 3) := by decide +kernel
theorem dX2_layWorkload_63 : decode cX2_layWorkload 63 = .ok (.iload 5, 2) := by decide +kernel
theorem dX2_layWorkload_65 : decode cX2_layWorkload 65 = .ok (.iload_n 3, 1) := by decide +kernel
theorem dX2_layWorkload_66 : decode cX2_layWorkload 66 = .ok (.bipush 16, 2) := by decide +kernel
theorem dX2_layWorkload_68 : decode cX2_layWorkload 68 = .ok (.idiv, 1) := by decide +kernel
theorem dX2_layWorkload_69 : decode cX2_layWorkload 69 = .ok (.iconst 1, 1) := by decide +kernel
theorem dX2_layWorkload_70 : decode cX2_layWorkload 70 = .ok (.aload_n 0, 1) := by decide +kernel
theorem dX2_layWorkload_71 : decode cX2_layWorkload 71 = .ok (.getfield 10, 3) := by decide +kernel
theorem dX2_layWorkload_74 : decode cX2_layWorkload 74 = .ok (.getfield 37, 3) := by decide +kernel
theorem dX2_layWorkload_77 : decode cX2_layWorkload 77 = .ok (.ishl, 1) := by decide +kernel
theorem dX2_layWorkload_78 : decode cX2_layWorkload 78 = .ok (.irem, 1) := by decide +kernel
theorem dX2_layWorkload_79 : decode cX2_layWorkload 79 = .ok (.iastore, 1) := by decide +kernel
theorem dX2_layWorkload_80 : decode cX2_layWorkload 80 = .ok (.iload 4, 2) := by decide +kernel
theorem dX2_layWorkload_82 : decode cX2_layWorkload 82 = .ok (.aload_n 0, 1) := by decide +kernel
theorem dX2_layWorkload_83 : decode cX2_layWorkload 83 = .ok (.getfield 10, 3) := by decide +kernel
theorem dX2_layWorkload_86 : decode cX2_layWorkload 86 = .ok (.getfield 61, 3) := by decide +kernel
theorem dX2_layWorkload_89 : decode cX2_layWorkload 89 = .ok (.iload 5, 2) := by decide +kernel
theorem dX2_layWorkload_91 : decode cX2_layWorkload 91 = .ok (.iaload, 1) := by decide +kernel
theorem dX2_layWorkload_92 : decode cX2_layWorkload 92 = .ok (.invokestatic 70, 3) := by decide +kernel
theorem dX2_layWorkload_95 : decode cX2_layWorkload 95 = .ok (.iadd, 1) := by decide +kernel
theorem dX2_layWorkload_96 : decode cX2_layWorkload 96 = .ok (.istore 4, 2) := by decide +kernel
theorem dX2_layWorkload_98 : decode cX2_layWorkload 98 = .ok (.iinc 5 1, 3) := by decide +kernel
theorem dX2_layWorkload_101 : decode cX2_layWorkload 101 = .ok (.goto (-65), 3) := by decide +kernel
theorem dX2_layWorkload_104 : decode cX2_layWorkload 104 = .ok (.aload_n 0, 1) := by decide +kernel
theorem dX2_layWorkload_105 : decode cX2_layWorkload 105 = .ok (.getfield 10, 3) := by decide +kernel
theorem dX2_layWorkload_108 : decode cX2_layWorkload 108 = .ok (.iload_n 1, 1) := by decide +kernel
theorem dX2_layWorkload_109 : decode cX2_layWorkload 109 = .ok (.invokevirtual 62, 3) := by decide +kernel
theorem dX2_layWorkload_112 : decode cX2_layWorkload 112 = .ok (.iload 4, 2) := by decide +kernel
theorem dX2_layWorkload_114 : decode cX2_layWorkload 114 = .ok (.ireturn, 1) := by decide +kernel
theorem dX2_setVoltage_0 : decode cX2_setVoltage 0 = .ok (.iload_n 1, 1) := by decide +kernel
theorem dX2_setVoltage_1 : decode cX2_setVoltage 1 = .ok (.invokestatic 76, 3) := by decide +kernel
theorem dX2_setVoltage_4 : decode cX2_setVoltage 4 = .ok (.ifCond .ne 6, 3) := by decide +kernel
theorem dX2_setVoltage_7 : decode cX2_setVoltage 7 = .ok (.bipush (-2), 2) := by decide +kernel
theorem dX2_setVoltage_9 : decode cX2_setVoltage 9 = .ok (.ireturn, 1) := by decide +kernel
theorem dX2_setVoltage_10 : decode cX2_setVoltage 10 = .ok (.aload_n 0, 1) := by decide +kernel
theorem dX2_setVoltage_11 : decode cX2_setVoltage 11 = .ok (.getfield 10, 3) := by decide +kernel
theorem dX2_setVoltage_14 : decode cX2_setVoltage 14 = .ok (.getfield 79, 3) := by decide +kernel
end
section
theorem dX2_setVoltage_17 : decode cX2_setVoltage 17 = .ok (.istore_n 2, 1) := by decide +kernel
theorem dX2_setVoltage_18 : decode cX2_setVoltage 18 = .ok (.iload_n 2, 1) := by decide +kernel
theorem dX2_setVoltage_19 : decode cX2_setVoltage 19 = .ok (.iload_n 1, 1) := by decide +kernel
theorem dX2_setVoltage_20 : decode cX2_setVoltage 20 = .ok (.if_icmp .ne 6, 3) := by decide +kernel
theorem dX2_setVoltage_23 : decode cX2_setVoltage 23 = .ok (.bipush (-5), 2) := by decide +kernel
theorem dX2_setVoltage_25 : decode cX2_setVoltage 25 = .ok (.ireturn, 1) := by decide +kernel
theorem dX2_setVoltage_26 : decode cX2_setVoltage 26 = .ok (.aload_n 0, 1) := by decide +kernel
theorem dX2_setVoltage_27 : decode cX2_setVoltage 27 = .ok (.invokevirtual 41, 3) := by decide +kernel
theorem dX2_setVoltage_30 : decode cX2_setVoltage 30 = .ok (.aload_n 0, 1) := by decide +kernel
theorem dX2_setVoltage_31 : decode cX2_setVoltage 31 = .ok (.getfield 10, 3) := by decide +kernel
theorem dX2_setVoltage_34 : decode cX2_setVoltage 34 = .ok (.iload_n 1, 1) := by decide +kernel
theorem dX2_setVoltage_35 : decode cX2_setVoltage 35 = .ok (.putfield 79, 3) := by decide +kernel
theorem dX2_setVoltage_38 : decode cX2_setVoltage 38 = .ok (.iload_n 2, 1) := by decide +kernel
theorem dX2_setVoltage_39 : decode cX2_setVoltage 39 = .ok (.ireturn, 1) := by decide +kernel
theorem dX2_govern_0 : decode cX2_govern 0 = .ok (.aload_n 0, 1) := by decide +kernel
theorem dX2_govern_1 : decode cX2_govern 1 = .ok (.getfield 10, 3) := by decide +kernel
theorem dX2_govern_4 : decode cX2_govern 4 = .ok (.getfield 82, 3) := by decide +kernel
theorem dX2_govern_7 : decode cX2_govern 7 = .ok (.iload_n 1, 1) := by decide +kernel
theorem dX2_govern_8 : decode cX2_govern 8 = .ok (.if_icmp .ne 6, 3) := by decide +kernel
theorem dX2_govern_11 : decode cX2_govern 11 = .ok (.bipush (-5), 2) := by decide +kernel
theorem dX2_govern_13 : decode cX2_govern 13 = .ok (.ireturn, 1) := by decide +kernel
theorem dX2_govern_14 : decode cX2_govern 14 = .ok (.aload_n 0, 1) := by decide +kernel
theorem dX2_govern_15 : decode cX2_govern 15 = .ok (.invokevirtual 41, 3) := by decide +kernel
theorem dX2_govern_18 : decode cX2_govern 18 = .ok (.aload_n 0, 1) := by decide +kernel
theorem dX2_govern_19 : decode cX2_govern 19 = .ok (.getfield 10, 3) := by decide +kernel
theorem dX2_govern_22 : decode cX2_govern 22 = .ok (.iload_n 1, 1) := by decide +kernel
theorem dX2_govern_23 : decode cX2_govern 23 = .ok (.putfield 82, 3) := by decide +kernel
theorem dX2_govern_26 : decode cX2_govern 26 = .ok (.aload_n 0, 1) := by decide +kernel
theorem dX2_govern_27 : decode cX2_govern 27 = .ok (.getfield 10, 3) := by decide +kernel
theorem dX2_govern_30 : decode cX2_govern 30 = .ok (.invokevirtual 86, 3) := by decide +kernel
theorem dX2_govern_33 : decode cX2_govern 33 = .ok (.aload_n 0, 1) := by decide +kernel
theorem dX2_govern_34 : decode cX2_govern 34 = .ok (.getfield 10, 3) := by decide +kernel
theorem dX2_govern_37 : decode cX2_govern 37 = .ok (.getfield 79, 3) := by decide +kernel
theorem dX2_govern_40 : decode cX2_govern 40 = .ok (.ireturn, 1) := by decide +kernel
theorem dX2_set_0 : decode cX2_set 0 = .ok (.iload_n 1, 1) := by decide +kernel
theorem dX2_set_1 : decode cX2_set 1 = .ok (.iconst 0, 1) := by decide +kernel
theorem dX2_set_2 : decode cX2_set 2 = .ok (.bipush 6, 2) := by decide +kernel
theorem dX2_set_4 : decode cX2_set 4 = .ok (.invokestatic 66, 3) := by decide +kernel
theorem dX2_set_7 : decode cX2_set 7 = .ok (.ifCond .ne 6, 3) := by decide +kernel
theorem dX2_set_10 : decode cX2_set 10 = .ok (.bipush (-2), 2) := by decide +kernel
theorem dX2_set_12 : decode cX2_set 12 = .ok (.ireturn, 1) := by decide +kernel
theorem dX2_set_13 : decode cX2_set 13 = .ok (.iload_n 2, 1) := by decide +kernel
theorem dX2_set_14 : decode cX2_set 14 = .ok (.getstatic 89, 3) := by decide +kernel
theorem dX2_set_17 : decode cX2_set 17 = .ok (.iload_n 1, 1) := by decide +kernel
theorem dX2_set_18 : decode cX2_set 18 = .ok (.iaload, 1) := by decide +kernel
theorem dX2_set_19 : decode cX2_set 19 = .ok (.getstatic 92, 3) := by decide +kernel
theorem dX2_set_22 : decode cX2_set 22 = .ok (.iload_n 1, 1) := by decide +kernel
theorem dX2_set_23 : decode cX2_set 23 = .ok (.iaload, 1) := by decide +kernel
theorem dX2_set_24 : decode cX2_set 24 = .ok (.invokestatic 66, 3) := by decide +kernel
theorem dX2_set_27 : decode cX2_set 27 = .ok (.ifCond .ne 6, 3) := by decide +kernel
theorem dX2_set_30 : decode cX2_set 30 = .ok (.bipush (-2), 2) := by decide +kernel
theorem dX2_set_32 : decode cX2_set 32 = .ok (.ireturn, 1) := by decide +kernel
theorem dX2_set_33 : decode cX2_set 33 = .ok (.aload_n 0, 1) := by decide +kernel
theorem dX2_set_34 : decode cX2_set 34 = .ok (.getfield 10, 3) := by decide +kernel
theorem dX2_set_37 : decode cX2_set 37 = .ok (.getfield 95, 3) := by decide +kernel
theorem dX2_set_40 : decode cX2_set 40 = .ok (.iload_n 1, 1) := by decide +kernel
theorem dX2_set_41 : decode cX2_set 41 = .ok (.iaload, 1) := by decide +kernel
theorem dX2_set_42 : decode cX2_set 42 = .ok (.istore_n 3, 1) := by decide +kernel
theorem dX2_set_43 : decode cX2_set 43 = .ok (.iload_n 3, 1) := by decide +kernel
theorem dX2_set_44 : decode cX2_set 44 = .ok (.iload_n 2, 1) := by decide +kernel
theorem dX2_set_45 : decode cX2_set 45 = .ok (.if_icmp .ne 6, 3) := by decide +kernel
theorem dX2_set_48 : decode cX2_set 48 = .ok (.bipush (-5), 2) := by decide +kernel
theorem dX2_set_50 : decode cX2_set 50 = .ok (.ireturn, 1) := by decide +kernel
theorem dX2_set_51 : decode cX2_set 51 = .ok (.aload_n 0, 1) := by decide +kernel
theorem dX2_set_52 : decode cX2_set 52 = .ok (.invokevirtual 41, 3) := by decide +kernel
theorem dX2_set_55 : decode cX2_set 55 = .ok (.aload_n 0, 1) := by decide +kernel
theorem dX2_set_56 : decode cX2_set 56 = .ok (.getfield 10, 3) := by decide +kernel
theorem dX2_set_59 : decode cX2_set 59 = .ok (.getfield 95, 3) := by decide +kernel
theorem dX2_set_62 : decode cX2_set 62 = .ok (.iload_n 1, 1) := by decide +kernel
theorem dX2_set_63 : decode cX2_set 63 = .ok (.iload_n 2, 1) := by decide +kernel
theorem dX2_set_64 : decode cX2_set 64 = .ok (.iastore, 1) := by decide +kernel
theorem dX2_set_65 : decode cX2_set 65 = .ok (.iload_n 3, 1) := by decide +kernel
theorem dX2_set_66 : decode cX2_set 66 = .ok (.ireturn, 1) := by decide +kernel
theorem dX2_run_0 : decode cX2_run 0 = .ok (.iload_n 1, 1) := by decide +kernel
theorem dX2_run_1 : decode cX2_run 1 = .ok (.iconst 1, 1) := by decide +kernel
theorem dX2_run_2 : decode cX2_run 2 = .ok (.sipush 2000, 3) := by decide +kernel
theorem dX2_run_5 : decode cX2_run 5 = .ok (.invokestatic 66, 3) := by decide +kernel
theorem dX2_run_8 : decode cX2_run 8 = .ok (.ifCond .ne 6, 3) := by decide +kernel
theorem dX2_run_11 : decode cX2_run 11 = .ok (.bipush (-2), 2) := by decide +kernel
theorem dX2_run_13 : decode cX2_run 13 = .ok (.ireturn, 1) := by decide +kernel
theorem dX2_run_14 : decode cX2_run 14 = .ok (.aload_n 0, 1) := by decide +kernel
theorem dX2_run_15 : decode cX2_run 15 = .ok (.invokevirtual 41, 3) := by decide +kernel
theorem dX2_run_18 : decode cX2_run 18 = .ok (.aload_n 0, 1) := by decide +kernel
theorem dX2_run_19 : decode cX2_run 19 = .ok (.getfield 10, 3) := by decide +kernel
theorem dX2_run_22 : decode cX2_run 22 = .ok (.getfield 98, 3) := by decide +kernel
theorem dX2_run_25 : decode cX2_run 25 = .ok (.istore_n 2, 1) := by decide +kernel
theorem dX2_run_26 : decode cX2_run 26 = .ok (.aload_n 0, 1) := by decide +kernel
theorem dX2_run_27 : decode cX2_run 27 = .ok (.getfield 10, 3) := by decide +kernel
theorem dX2_run_30 : decode cX2_run 30 = .ok (.iload_n 1, 1) := by decide +kernel
theorem dX2_run_31 : decode cX2_run 31 = .ok (.invokevirtual 101, 3) := by decide +kernel
theorem dX2_run_34 : decode cX2_run 34 = .ok (.aload_n 0, 1) := by decide +kernel
theorem dX2_run_35 : decode cX2_run 35 = .ok (.getfield 10, 3) := by decide +kernel
theorem dX2_run_38 : decode cX2_run 38 = .ok (.getfield 98, 3) := by decide +kernel
theorem dX2_run_41 : decode cX2_run 41 = .ok (.iload_n 2, 1) := by decide +kernel
theorem dX2_run_42 : decode cX2_run 42 = .ok (.isub, 1) := by decide +kernel
theorem dX2_run_43 : decode cX2_run 43 = .ok (.ireturn, 1) := by decide +kernel
theorem dX2_type_0 : decode cX2_type 0 = .ok (.aload_n 0, 1) := by decide +kernel
theorem dX2_type_1 : decode cX2_type 1 = .ok (.getfield 29, 3) := by decide +kernel
theorem dX2_type_4 : decode cX2_type 4 = .ok (.iload_n 1, 1) := by decide +kernel
theorem dX2_type_5 : decode cX2_type 5 = .ok (.invokevirtual 104, 3) := by decide +kernel
theorem dX2_type_8 : decode cX2_type 8 = .ok (.ifCond .eq 13, 3) := by decide +kernel
theorem dX2_type_11 : decode cX2_type 11 = .ok (.aload_n 0, 1) := by decide +kernel
theorem dX2_type_12 : decode cX2_type 12 = .ok (.getfield 29, 3) := by decide +kernel
theorem dX2_type_15 : decode cX2_type 15 = .ok (.getfield 108, 3) := by decide +kernel
theorem dX2_type_18 : decode cX2_type 18 = .ok (.goto 5, 3) := by decide +kernel
theorem dX2_type_21 : decode cX2_type 21 = .ok (.bipush (-3), 2) := by decide +kernel
theorem dX2_type_23 : decode cX2_type 23 = .ok (.ireturn, 1) := by decide +kernel
theorem dX2_clearText_0 : decode cX2_clearText 0 = .ok (.aload_n 0, 1) := by decide +kernel
theorem dX2_clearText_1 : decode cX2_clearText 1 = .ok (.getfield 29, 3) := by decide +kernel
theorem dX2_clearText_4 : decode cX2_clearText 4 = .ok (.getfield 108, 3) := by decide +kernel
theorem dX2_clearText_7 : decode cX2_clearText 7 = .ok (.istore_n 1, 1) := by decide +kernel
theorem dX2_clearText_8 : decode cX2_clearText 8 = .ok (.aload_n 0, 1) := by decide +kernel
theorem dX2_clearText_9 : decode cX2_clearText 9 = .ok (.getfield 29, 3) := by decide +kernel
theorem dX2_clearText_12 : decode cX2_clearText 12 = .ok (.iconst 0, 1) := by decide +kernel
theorem dX2_clearText_13 : decode cX2_clearText 13 = .ok (.putfield 108, 3) := by decide +kernel
theorem dX2_clearText_16 : decode cX2_clearText 16 = .ok (.iload_n 1, 1) := by decide +kernel
theorem dX2_clearText_17 : decode cX2_clearText 17 = .ok (.ireturn, 1) := by decide +kernel
theorem dX2_undo_0 : decode cX2_undo 0 = .ok (.aload_n 0, 1) := by decide +kernel
theorem dX2_undo_1 : decode cX2_undo 1 = .ok (.getfield 111, 3) := by decide +kernel
theorem dX2_undo_4 : decode cX2_undo 4 = .ok (.ifCond .ne 6, 3) := by decide +kernel
theorem dX2_undo_7 : decode cX2_undo 7 = .ok (.bipush (-5), 2) := by decide +kernel
theorem dX2_undo_9 : decode cX2_undo 9 = .ok (.ireturn, 1) := by decide +kernel
theorem dX2_undo_10 : decode cX2_undo 10 = .ok (.aload_n 0, 1) := by decide +kernel
theorem dX2_undo_11 : decode cX2_undo 11 = .ok (.dup, 1) := by decide +kernel
theorem dX2_undo_12 : decode cX2_undo 12 = .ok (.getfield 111, 3) := by decide +kernel
theorem dX2_undo_15 : decode cX2_undo 15 = .ok (.iconst 1, 1) := by decide +kernel
theorem dX2_undo_16 : decode cX2_undo 16 = .ok (.isub, 1) := by decide +kernel
theorem dX2_undo_17 : decode cX2_undo 17 = .ok (.putfield 111, 3) := by decide +kernel
theorem dX2_undo_20 : decode cX2_undo 20 = .ok (.aload_n 0, 1) := by decide +kernel
theorem dX2_undo_21 : decode cX2_undo 21 = .ok (.getfield 10, 3) := by decide +kernel
theorem dX2_undo_24 : decode cX2_undo 24 = .ok (.aload_n 0, 1) := by decide +kernel
theorem dX2_undo_25 : decode cX2_undo 25 = .ok (.getfield 22, 3) := by decide +kernel
theorem dX2_undo_28 : decode cX2_undo 28 = .ok (.aload_n 0, 1) := by decide +kernel
theorem dX2_undo_29 : decode cX2_undo 29 = .ok (.getfield 111, 3) := by decide +kernel
theorem dX2_undo_32 : decode cX2_undo 32 = .ok (.aaload, 1) := by decide +kernel
theorem dX2_undo_33 : decode cX2_undo 33 = .ok (.invokevirtual 114, 3) := by decide +kernel
theorem dX2_undo_36 : decode cX2_undo 36 = .ok (.aload_n 0, 1) := by decide +kernel
theorem dX2_undo_37 : decode cX2_undo 37 = .ok (.getfield 111, 3) := by decide +kernel
theorem dX2_undo_40 : decode cX2_undo 40 = .ok (.ireturn, 1) := by decide +kernel
theorem dX2_keep_0 : decode cX2_keep 0 = .ok (.aload_n 0, 1) := by decide +kernel
theorem dX2_keep_1 : decode cX2_keep 1 = .ok (.getfield 16, 3) := by decide +kernel
theorem dX2_keep_4 : decode cX2_keep 4 = .ok (.aload_n 0, 1) := by decide +kernel
theorem dX2_keep_5 : decode cX2_keep 5 = .ok (.getfield 10, 3) := by decide +kernel
theorem dX2_keep_8 : decode cX2_keep 8 = .ok (.invokevirtual 114, 3) := by decide +kernel
theorem dX2_keep_11 : decode cX2_keep 11 = .ok (.aload_n 0, 1) := by decide +kernel
theorem dX2_keep_12 : decode cX2_keep 12 = .ok (.iconst 1, 1) := by decide +kernel
theorem dX2_keep_13 : decode cX2_keep 13 = .ok (.putfield 118, 3) := by decide +kernel
theorem dX2_keep_16 : decode cX2_keep 16 = .ok (.aload_n 0, 1) := by decide +kernel
theorem dX2_keep_17 : decode cX2_keep 17 = .ok (.getfield 10, 3) := by decide +kernel
theorem dX2_keep_20 : decode cX2_keep 20 = .ok (.getfield 79, 3) := by decide +kernel
theorem dX2_keep_23 : decode cX2_keep 23 = .ok (.ireturn, 1) := by decide +kernel
theorem dX2_restore_0 : decode cX2_restore 0 = .ok (.aload_n 0, 1) := by decide +kernel
theorem dX2_restore_1 : decode cX2_restore 1 = .ok (.getfield 118, 3) := by decide +kernel
theorem dX2_restore_4 : decode cX2_restore 4 = .ok (.ifCond .ne 6, 3) := by decide +kernel
theorem dX2_restore_7 : decode cX2_restore 7 = .ok (.bipush (-5), 2) := by decide +kernel
theorem dX2_restore_9 : decode cX2_restore 9 = .ok (.ireturn, 1) := by decide +kernel
theorem dX2_restore_10 : decode cX2_restore 10 = .ok (.aload_n 0, 1) := by decide +kernel
theorem dX2_restore_11 : decode cX2_restore 11 = .ok (.invokevirtual 41, 3) := by decide +kernel
theorem dX2_restore_14 : decode cX2_restore 14 = .ok (.aload_n 0, 1) := by decide +kernel
theorem dX2_restore_15 : decode cX2_restore 15 = .ok (.getfield 10, 3) := by decide +kernel
theorem dX2_restore_18 : decode cX2_restore 18 = .ok (.aload_n 0, 1) := by decide +kernel
theorem dX2_restore_19 : decode cX2_restore 19 = .ok (.getfield 16, 3) := by decide +kernel
theorem dX2_restore_22 : decode cX2_restore 22 = .ok (.invokevirtual 114, 3) := by decide +kernel
theorem dX2_restore_25 : decode cX2_restore 25 = .ok (.aload_n 0, 1) := by decide +kernel
theorem dX2_restore_26 : decode cX2_restore 26 = .ok (.getfield 10, 3) := by decide +kernel
theorem dX2_restore_29 : decode cX2_restore 29 = .ok (.getfield 79, 3) := by decide +kernel
theorem dX2_restore_32 : decode cX2_restore 32 = .ok (.ireturn, 1) := by decide +kernel
theorem dX2_path_0 : decode cX2_path 0 = .ok (.aload_n 0, 1) := by decide +kernel
theorem dX2_path_1 : decode cX2_path 1 = .ok (.iload_n 1, 1) := by decide +kernel
theorem dX2_path_2 : decode cX2_path 2 = .ok (.invokevirtual 48, 3) := by decide +kernel
theorem dX2_path_5 : decode cX2_path 5 = .ok (.ifCond .ne 5, 3) := by decide +kernel
theorem dX2_path_8 : decode cX2_path 8 = .ok (.iconst (-1), 1) := by decide +kernel
theorem dX2_path_9 : decode cX2_path 9 = .ok (.ireturn, 1) := by decide +kernel
theorem dX2_path_10 : decode cX2_path 10 = .ok (.iload_n 2, 1) := by decide +kernel
theorem dX2_path_11 : decode cX2_path 11 = .ok (.tableswitch 87 0 4 #[33, 43, 52, 68, 78], 33) := by decide +kernel
theorem dX2_path_44 : decode cX2_path 44 = .ok (.aload_n 0, 1) := by decide +kernel
theorem dX2_path_45 : decode cX2_path 45 = .ok (.getfield 10, 3) := by decide +kernel
theorem dX2_path_48 : decode cX2_path 48 = .ok (.getfield 44, 3) := by decide +kernel
theorem dX2_path_51 : decode cX2_path 51 = .ok (.iload_n 1, 1) := by decide +kernel
theorem dX2_path_52 : decode cX2_path 52 = .ok (.iaload, 1) := by decide +kernel
theorem dX2_path_53 : decode cX2_path 53 = .ok (.ireturn, 1) := by decide +kernel
theorem dX2_path_54 : decode cX2_path 54 = .ok (.aload_n 0, 1) := by decide +kernel
theorem dX2_path_55 : decode cX2_path 55 = .ok (.getfield 10, 3) := by decide +kernel
theorem dX2_path_58 : decode cX2_path 58 = .ok (.iload_n 1, 1) := by decide +kernel
theorem dX2_path_59 : decode cX2_path 59 = .ok (.invokevirtual 121, 3) := by decide +kernel
theorem dX2_path_62 : decode cX2_path 62 = .ok (.ireturn, 1) := by decide +kernel
theorem dX2_path_63 : decode cX2_path 63 = .ok (.aload_n 0, 1) := by decide +kernel
theorem dX2_path_64 : decode cX2_path 64 = .ok (.getfield 10, 3) := by decide +kernel
theorem dX2_path_67 : decode cX2_path 67 = .ok (.aload_n 0, 1) := by decide +kernel
theorem dX2_path_68 : decode cX2_path 68 = .ok (.getfield 10, 3) := by decide +kernel
theorem dX2_path_71 : decode cX2_path 71 = .ok (.iload_n 1, 1) := by decide +kernel
theorem dX2_path_72 : decode cX2_path 72 = .ok (.invokevirtual 121, 3) := by decide +kernel
theorem dX2_path_75 : decode cX2_path 75 = .ok (.invokevirtual 124, 3) := by decide +kernel
theorem dX2_path_78 : decode cX2_path 78 = .ok (.ireturn, 1) := by decide +kernel
theorem dX2_path_79 : decode cX2_path 79 = .ok (.aload_n 0, 1) := by decide +kernel
theorem dX2_path_80 : decode cX2_path 80 = .ok (.getfield 10, 3) := by decide +kernel
theorem dX2_path_83 : decode cX2_path 83 = .ok (.getfield 127, 3) := by decide +kernel
theorem dX2_path_86 : decode cX2_path 86 = .ok (.iload_n 1, 1) := by decide +kernel
theorem dX2_path_87 : decode cX2_path 87 = .ok (.iaload, 1) := by decide +kernel
theorem dX2_path_88 : decode cX2_path 88 = .ok (.ireturn, 1) := by decide +kernel
theorem dX2_path_89 : decode cX2_path 89 = .ok (.aload_n 0, 1) := by decide +kernel
theorem dX2_path_90 : decode cX2_path 90 = .ok (.getfield 10, 3) := by decide +kernel
theorem dX2_path_93 : decode cX2_path 93 = .ok (.iload_n 1, 1) := by decide +kernel
theorem dX2_path_94 : decode cX2_path 94 = .ok (.invokevirtual 130, 3) := by decide +kernel
theorem dX2_path_97 : decode cX2_path 97 = .ok (.ireturn, 1) := by decide +kernel
theorem dX2_path_98 : decode cX2_path 98 = .ok (.bipush (-2), 2) := by decide +kernel
theorem dX2_path_100 : decode cX2_path 100 = .ok (.ireturn, 1) := by decide +kernel
theorem dX2_delay_0 : decode cX2_delay 0 = .ok (.aload_n 0, 1) := by decide +kernel
theorem dX2_delay_1 : decode cX2_delay 1 = .ok (.iload_n 1, 1) := by decide +kernel
theorem dX2_delay_2 : decode cX2_delay 2 = .ok (.invokevirtual 48, 3) := by decide +kernel
theorem dX2_delay_5 : decode cX2_delay 5 = .ok (.ifCond .ne 5, 3) := by decide +kernel
theorem dX2_delay_8 : decode cX2_delay 8 = .ok (.iconst (-1), 1) := by decide +kernel
theorem dX2_delay_9 : decode cX2_delay 9 = .ok (.ireturn, 1) := by decide +kernel
theorem dX2_delay_10 : decode cX2_delay 10 = .ok (.iload_n 2, 1) := by decide +kernel
theorem dX2_delay_11 : decode cX2_delay 11 = .ok (.invokestatic 76, 3) := by decide +kernel
theorem dX2_delay_14 : decode cX2_delay 14 = .ok (.ifCond .eq 14, 3) := by decide +kernel
theorem dX2_delay_17 : decode cX2_delay 17 = .ok (.iload_n 3, 1) := by decide +kernel
theorem dX2_delay_18 : decode cX2_delay 18 = .ok (.bipush 20, 2) := by decide +kernel
theorem dX2_delay_20 : decode cX2_delay 20 = .ok (.bipush 120, 2) := by decide +kernel
theorem dX2_delay_22 : decode cX2_delay 22 = .ok (.invokestatic 66, 3) := by decide +kernel
theorem dX2_delay_25 : decode cX2_delay 25 = .ok (.ifCond .ne 6, 3) := by decide +kernel
theorem dX2_delay_28 : decode cX2_delay 28 = .ok (.bipush (-2), 2) := by decide +kernel
theorem dX2_delay_30 : decode cX2_delay 30 = .ok (.ireturn, 1) := by decide +kernel
theorem dX2_delay_31 : decode cX2_delay 31 = .ok (.aload_n 0, 1) := by decide +kernel
theorem dX2_delay_32 : decode cX2_delay 32 = .ok (.getfield 10, 3) := by decide +kernel
theorem dX2_delay_35 : decode cX2_delay 35 = .ok (.getfield 44, 3) := by decide +kernel
theorem dX2_delay_38 : decode cX2_delay 38 = .ok (.iload_n 1, 1) := by decide +kernel
theorem dX2_delay_39 : decode cX2_delay 39 = .ok (.iaload, 1) := by decide +kernel
theorem dX2_delay_40 : decode cX2_delay 40 = .ok (.iload_n 2, 1) := by decide +kernel
theorem dX2_delay_41 : decode cX2_delay 41 = .ok (.iload_n 3, 1) := by decide +kernel
theorem dX2_delay_42 : decode cX2_delay 42 = .ok (.invokestatic 133, 3) := by decide +kernel
theorem dX2_delay_45 : decode cX2_delay 45 = .ok (.ireturn, 1) := by decide +kernel
theorem dX2_workload_0 : decode cX2_workload 0 = .ok (.iload_n 1, 1) := by decide +kernel
theorem dX2_workload_1 : decode cX2_workload 1 = .ok (.ifCond .ge 6, 3) := by decide +kernel
theorem dX2_workload_4 : decode cX2_workload 4 = .ok (.bipush (-2), 2) := by decide +kernel
theorem dX2_workload_6 : decode cX2_workload 6 = .ok (.ireturn, 1) := by decide +kernel
theorem dX2_workload_7 : decode cX2_workload 7 = .ok (.iload_n 1, 1) := by decide +kernel
theorem dX2_workload_8 : decode cX2_workload 8 = .ok (.aload_n 0, 1) := by decide +kernel
theorem dX2_workload_9 : decode cX2_workload 9 = .ok (.getfield 10, 3) := by decide +kernel
theorem dX2_workload_12 : decode cX2_workload 12 = .ok (.getfield 137, 3) := by decide +kernel
theorem dX2_workload_15 : decode cX2_workload 15 = .ok (.if_icmp .ge 15, 3) := by decide +kernel
theorem dX2_workload_18 : decode cX2_workload 18 = .ok (.aload_n 0, 1) := by decide +kernel
theorem dX2_workload_19 : decode cX2_workload 19 = .ok (.getfield 10, 3) := by decide +kernel
theorem dX2_workload_22 : decode cX2_workload 22 = .ok (.getfield 61, 3) := by decide +kernel
theorem dX2_workload_25 : decode cX2_workload 25 = .ok (.iload_n 1, 1) := by decide +kernel
theorem dX2_workload_26 : decode cX2_workload 26 = .ok (.iaload, 1) := by decide +kernel
theorem dX2_workload_27 : decode cX2_workload 27 = .ok (.goto 5, 3) := by decide +kernel
theorem dX2_workload_30 : decode cX2_workload 30 = .ok (.bipush (-5), 2) := by decide +kernel
theorem dX2_workload_32 : decode cX2_workload 32 = .ok (.ireturn, 1) := by decide +kernel
theorem dX2_least_0 : decode cX2_least 0 = .ok (.aload_n 0, 1) := by decide +kernel
theorem dX2_least_1 : decode cX2_least 1 = .ok (.getfield 10, 3) := by decide +kernel
theorem dX2_least_4 : decode cX2_least 4 = .ok (.invokevirtual 138, 3) := by decide +kernel
theorem dX2_least_7 : decode cX2_least 7 = .ok (.istore_n 2, 1) := by decide +kernel
theorem dX2_least_8 : decode cX2_least 8 = .ok (.iload_n 1, 1) := by decide +kernel
theorem dX2_least_9 : decode cX2_least 9 = .ok (.ifCond .eq 7, 3) := by decide +kernel
theorem dX2_least_12 : decode cX2_least 12 = .ok (.iconst 1, 1) := by decide +kernel
theorem dX2_least_13 : decode cX2_least 13 = .ok (.goto 4, 3) := by decide +kernel
theorem dX2_least_16 : decode cX2_least 16 = .ok (.iconst 0, 1) := by decide +kernel
theorem dX2_least_17 : decode cX2_least 17 = .ok (.istore_n 3, 1) := by decide +kernel
theorem dX2_least_18 : decode cX2_least 18 = .ok (.sipush 500, 3) := by decide +kernel
theorem dX2_least_21 : decode cX2_least 21 = .ok (.istore 4, 2) := by decide +kernel
theorem dX2_least_23 : decode cX2_least 23 = .ok (.iload 4, 2) := by decide +kernel
theorem dX2_least_25 : decode cX2_least 25 = .ok (.sipush 1200, 3) := by decide +kernel
theorem dX2_least_28 : decode cX2_least 28 = .ok (.if_icmp .gt 36, 3) := by decide +kernel
theorem dX2_least_31 : decode cX2_least 31 = .ok (.aload_n 0, 1) := by decide +kernel
theorem dX2_least_32 : decode cX2_least 32 = .ok (.getfield 10, 3) := by decide +kernel
theorem dX2_least_35 : decode cX2_least 35 = .ok (.iload_n 2, 1) := by decide +kernel
theorem dX2_least_36 : decode cX2_least 36 = .ok (.iload 4, 2) := by decide +kernel
theorem dX2_least_38 : decode cX2_least 38 = .ok (.aload_n 0, 1) := by decide +kernel
theorem dX2_least_39 : decode cX2_least 39 = .ok (.getfield 10, 3) := by decide +kernel
theorem dX2_least_42 : decode cX2_least 42 = .ok (.getfield 141, 3) := by decide +kernel
theorem dX2_least_45 : decode cX2_least 45 = .ok (.invokestatic 133, 3) := by decide +kernel
theorem dX2_least_48 : decode cX2_least 48 = .ok (.invokevirtual 124, 3) := by decide +kernel
theorem dX2_least_51 : decode cX2_least 51 = .ok (.iload_n 3, 1) := by decide +kernel
theorem dX2_least_52 : decode cX2_least 52 = .ok (.if_icmp .gt 6, 3) := by decide +kernel
theorem dX2_least_55 : decode cX2_least 55 = .ok (.iload 4, 2) := by decide +kernel
theorem dX2_least_57 : decode cX2_least 57 = .ok (.ireturn, 1) := by decide +kernel
theorem dX2_least_58 : decode cX2_least 58 = .ok (.iinc 4 1, 3) := by decide +kernel
theorem dX2_least_61 : decode cX2_least 61 = .ok (.goto (-38), 3) := by decide +kernel
theorem dX2_least_64 : decode cX2_least 64 = .ok (.bipush (-5), 2) := by decide +kernel
theorem dX2_least_66 : decode cX2_least 66 = .ok (.ireturn, 1) := by decide +kernel
theorem dX2_would_0 : decode cX2_would 0 = .ok (.iload_n 1, 1) := by decide +kernel
theorem dX2_would_1 : decode cX2_would 1 = .ok (.invokestatic 76, 3) := by decide +kernel
theorem dX2_would_4 : decode cX2_would 4 = .ok (.ifCond .eq 23, 3) := by decide +kernel
theorem dX2_would_7 : decode cX2_would 7 = .ok (.iload_n 2, 1) := by decide +kernel
theorem dX2_would_8 : decode cX2_would 8 = .ok (.iconst 1, 1) := by decide +kernel
theorem dX2_would_9 : decode cX2_would 9 = .ok (.sipush 500, 3) := by decide +kernel
theorem dX2_would_12 : decode cX2_would 12 = .ok (.invokestatic 66, 3) := by decide +kernel
theorem dX2_would_15 : decode cX2_would 15 = .ok (.ifCond .eq 12, 3) := by decide +kernel
theorem dX2_would_18 : decode cX2_would 18 = .ok (.iload_n 3, 1) := by decide +kernel
theorem dX2_would_19 : decode cX2_would 19 = .ok (.iconst 0, 1) := by decide +kernel
theorem dX2_would_20 : decode cX2_would 20 = .ok (.iconst 4, 1) := by decide +kernel
theorem dX2_would_21 : decode cX2_would 21 = .ok (.invokestatic 66, 3) := by decide +kernel
theorem dX2_would_24 : decode cX2_would 24 = .ok (.ifCond .ne 6, 3) := by decide +kernel
theorem dX2_would_27 : decode cX2_would 27 = .ok (.bipush (-2), 2) := by decide +kernel
theorem dX2_would_29 : decode cX2_would 29 = .ok (.ireturn, 1) := by decide +kernel
theorem dX2_would_30 : decode cX2_would 30 = .ok (.aload_n 0, 1) := by decide +kernel
theorem dX2_would_31 : decode cX2_would 31 = .ok (.iload_n 1, 1) := by decide +kernel
theorem dX2_would_32 : decode cX2_would 32 = .ok (.iload_n 2, 1) := by decide +kernel
theorem dX2_would_33 : decode cX2_would 33 = .ok (.invokevirtual 144, 3) := by decide +kernel
theorem dX2_would_36 : decode cX2_would 36 = .ok (.iload_n 3, 1) := by decide +kernel
theorem dX2_would_37 : decode cX2_would 37 = .ok (.tableswitch 96 0 3 #[31, 47, 63, 80], 31) := by decide +kernel
theorem dX2_would_68 : decode cX2_would 68 = .ok (.aload_n 0, 1) := by decide +kernel
theorem dX2_would_69 : decode cX2_would 69 = .ok (.getfield 19, 3) := by decide +kernel
theorem dX2_would_72 : decode cX2_would 72 = .ok (.getfield 98, 3) := by decide +kernel
theorem dX2_would_75 : decode cX2_would 75 = .ok (.aload_n 0, 1) := by decide +kernel
theorem dX2_would_76 : decode cX2_would 76 = .ok (.getfield 10, 3) := by decide +kernel
theorem dX2_would_79 : decode cX2_would 79 = .ok (.getfield 98, 3) := by decide +kernel
theorem dX2_would_82 : decode cX2_would 82 = .ok (.isub, 1) := by decide +kernel
theorem dX2_would_83 : decode cX2_would 83 = .ok (.ireturn, 1) := by decide +kernel
theorem dX2_would_84 : decode cX2_would 84 = .ok (.aload_n 0, 1) := by decide +kernel
theorem dX2_would_85 : decode cX2_would 85 = .ok (.getfield 19, 3) := by decide +kernel
theorem dX2_would_88 : decode cX2_would 88 = .ok (.getfield 148, 3) := by decide +kernel
theorem dX2_would_91 : decode cX2_would 91 = .ok (.aload_n 0, 1) := by decide +kernel
theorem dX2_would_92 : decode cX2_would 92 = .ok (.getfield 10, 3) := by decide +kernel
theorem dX2_would_95 : decode cX2_would 95 = .ok (.getfield 148, 3) := by decide +kernel
theorem dX2_would_98 : decode cX2_would 98 = .ok (.isub, 1) := by decide +kernel
theorem dX2_would_99 : decode cX2_would 99 = .ok (.ireturn, 1) := by decide +kernel
theorem dX2_would_100 : decode cX2_would 100 = .ok (.aload_n 0, 1) := by decide +kernel
theorem dX2_would_101 : decode cX2_would 101 = .ok (.getfield 19, 3) := by decide +kernel
theorem dX2_would_104 : decode cX2_would 104 = .ok (.getfield 151, 3) := by decide +kernel
theorem dX2_would_107 : decode cX2_would 107 = .ok (.aload_n 0, 1) := by decide +kernel
theorem dX2_would_108 : decode cX2_would 108 = .ok (.getfield 10, 3) := by decide +kernel
theorem dX2_would_111 : decode cX2_would 111 = .ok (.getfield 151, 3) := by decide +kernel
theorem dX2_would_114 : decode cX2_would 114 = .ok (.lsub, 1) := by decide +kernel
theorem dX2_would_115 : decode cX2_would 115 = .ok (.l2i, 1) := by decide +kernel
theorem dX2_would_116 : decode cX2_would 116 = .ok (.ireturn, 1) := by decide +kernel
theorem dX2_would_117 : decode cX2_would 117 = .ok (.aload_n 0, 1) := by decide +kernel
theorem dX2_would_118 : decode cX2_would 118 = .ok (.getfield 19, 3) := by decide +kernel
theorem dX2_would_121 : decode cX2_would 121 = .ok (.getfield 155, 3) := by decide +kernel
theorem dX2_would_124 : decode cX2_would 124 = .ok (.aload_n 0, 1) := by decide +kernel
theorem dX2_would_125 : decode cX2_would 125 = .ok (.getfield 10, 3) := by decide +kernel
theorem dX2_would_128 : decode cX2_would 128 = .ok (.getfield 155, 3) := by decide +kernel
theorem dX2_would_131 : decode cX2_would 131 = .ok (.isub, 1) := by decide +kernel
theorem dX2_would_132 : decode cX2_would 132 = .ok (.ireturn, 1) := by decide +kernel
theorem dX2_would_133 : decode cX2_would 133 = .ok (.aload_n 0, 1) := by decide +kernel
theorem dX2_would_134 : decode cX2_would 134 = .ok (.getfield 19, 3) := by decide +kernel
theorem dX2_would_137 : decode cX2_would 137 = .ok (.getfield 141, 3) := by decide +kernel
theorem dX2_would_140 : decode cX2_would 140 = .ok (.ireturn, 1) := by decide +kernel
theorem dX2_best_0 : decode cX2_best 0 = .ok (.iload_n 1, 1) := by decide +kernel
theorem dX2_best_1 : decode cX2_best 1 = .ok (.iconst 1, 1) := by decide +kernel
theorem dX2_best_2 : decode cX2_best 2 = .ok (.sipush 200, 3) := by decide +kernel
theorem dX2_best_5 : decode cX2_best 5 = .ok (.invokestatic 66, 3) := by decide +kernel
theorem dX2_best_8 : decode cX2_best 8 = .ok (.ifCond .ne 6, 3) := by decide +kernel
theorem dX2_best_11 : decode cX2_best 11 = .ok (.bipush (-2), 2) := by decide +kernel
theorem dX2_best_13 : decode cX2_best 13 = .ok (.ireturn, 1) := by decide +kernel
theorem dX2_best_14 : decode cX2_best 14 = .ok (.bipush (-5), 2) := by decide +kernel
theorem dX2_best_16 : decode cX2_best 16 = .ok (.istore_n 2, 1) := by decide +kernel
theorem dX2_best_17 : decode cX2_best 17 = .ok (.lconst 0, 1) := by decide +kernel
theorem dX2_best_18 : decode cX2_best 18 = .ok (.lstore_n 3, 1) := by decide +kernel
theorem dX2_best_19 : decode cX2_best 19 = .ok (.sipush 500, 3) := by decide +kernel
theorem dX2_best_22 : decode cX2_best 22 = .ok (.istore 5, 2) := by decide +kernel
theorem dX2_best_24 : decode cX2_best 24 = .ok (.iload 5, 2) := by decide +kernel
theorem dX2_best_26 : decode cX2_best 26 = .ok (.sipush 1200, 3) := by decide +kernel
theorem dX2_best_29 : decode cX2_best 29 = .ok (.if_icmp .gt 69, 3) := by decide +kernel
theorem dX2_best_32 : decode cX2_best 32 = .ok (.aload_n 0, 1) := by decide +kernel
theorem dX2_best_33 : decode cX2_best 33 = .ok (.iload 5, 2) := by decide +kernel
theorem dX2_best_35 : decode cX2_best 35 = .ok (.iload_n 1, 1) := by decide +kernel
theorem dX2_best_36 : decode cX2_best 36 = .ok (.invokevirtual 144, 3) := by decide +kernel
theorem dX2_best_39 : decode cX2_best 39 = .ok (.aload_n 0, 1) := by decide +kernel
theorem dX2_best_40 : decode cX2_best 40 = .ok (.getfield 19, 3) := by decide +kernel
theorem dX2_best_43 : decode cX2_best 43 = .ok (.getfield 151, 3) := by decide +kernel
theorem dX2_best_46 : decode cX2_best 46 = .ok (.aload_n 0, 1) := by decide +kernel
theorem dX2_best_47 : decode cX2_best 47 = .ok (.getfield 10, 3) := by decide +kernel
theorem dX2_best_50 : decode cX2_best 50 = .ok (.getfield 151, 3) := by decide +kernel
theorem dX2_best_53 : decode cX2_best 53 = .ok (.lsub, 1) := by decide +kernel
theorem dX2_best_54 : decode cX2_best 54 = .ok (.lstore 6, 2) := by decide +kernel
theorem dX2_best_56 : decode cX2_best 56 = .ok (.aload_n 0, 1) := by decide +kernel
theorem dX2_best_57 : decode cX2_best 57 = .ok (.getfield 19, 3) := by decide +kernel
theorem dX2_best_60 : decode cX2_best 60 = .ok (.getfield 148, 3) := by decide +kernel
theorem dX2_best_63 : decode cX2_best 63 = .ok (.aload_n 0, 1) := by decide +kernel
theorem dX2_best_64 : decode cX2_best 64 = .ok (.getfield 10, 3) := by decide +kernel
theorem dX2_best_67 : decode cX2_best 67 = .ok (.getfield 148, 3) := by decide +kernel
theorem dX2_best_70 : decode cX2_best 70 = .ok (.if_icmp .ne 22, 3) := by decide +kernel
theorem dX2_best_73 : decode cX2_best 73 = .ok (.iload_n 2, 1) := by decide +kernel
theorem dX2_best_74 : decode cX2_best 74 = .ok (.bipush (-5), 2) := by decide +kernel
theorem dX2_best_76 : decode cX2_best 76 = .ok (.if_icmp .eq 10, 3) := by decide +kernel
theorem dX2_best_79 : decode cX2_best 79 = .ok (.lload 6, 2) := by decide +kernel
theorem dX2_best_81 : decode cX2_best 81 = .ok (.lload_n 3, 1) := by decide +kernel
theorem dX2_best_82 : decode cX2_best 82 = .ok (.lcmp, 1) := by decide +kernel
theorem dX2_best_83 : decode cX2_best 83 = .ok (.ifCond .ge 9, 3) := by decide +kernel
theorem dX2_best_86 : decode cX2_best 86 = .ok (.iload 5, 2) := by decide +kernel
theorem dX2_best_88 : decode cX2_best 88 = .ok (.istore_n 2, 1) := by decide +kernel
theorem dX2_best_89 : decode cX2_best 89 = .ok (.lload 6, 2) := by decide +kernel
theorem dX2_best_91 : decode cX2_best 91 = .ok (.lstore_n 3, 1) := by decide +kernel
theorem dX2_best_92 : decode cX2_best 92 = .ok (.iinc 5 50, 3) := by decide +kernel
theorem dX2_best_95 : decode cX2_best 95 = .ok (.goto (-71), 3) := by decide +kernel
theorem dX2_best_98 : decode cX2_best 98 = .ok (.iload_n 2, 1) := by decide +kernel
theorem dX2_best_99 : decode cX2_best 99 = .ok (.ireturn, 1) := by decide +kernel
theorem dX2_count_0 : decode cX2_count 0 = .ok (.iload_n 1, 1) := by decide +kernel
theorem dX2_count_1 : decode cX2_count 1 = .ok (.bipush 17, 2) := by decide +kernel
theorem dX2_count_3 : decode cX2_count 3 = .ok (.bipush 23, 2) := by decide +kernel
theorem dX2_count_5 : decode cX2_count 5 = .ok (.invokestatic 66, 3) := by decide +kernel
theorem dX2_count_8 : decode cX2_count 8 = .ok (.ifCond .eq 16, 3) := by decide +kernel
theorem dX2_count_11 : decode cX2_count 11 = .ok (.aload_n 0, 1) := by decide +kernel
theorem dX2_count_12 : decode cX2_count 12 = .ok (.getfield 10, 3) := by decide +kernel
theorem dX2_count_15 : decode cX2_count 15 = .ok (.getfield 95, 3) := by decide +kernel
theorem dX2_count_18 : decode cX2_count 18 = .ok (.iload_n 1, 1) := by decide +kernel
theorem dX2_count_19 : decode cX2_count 19 = .ok (.bipush 17, 2) := by decide +kernel
theorem dX2_count_21 : decode cX2_count 21 = .ok (.isub, 1) := by decide +kernel
theorem dX2_count_22 : decode cX2_count 22 = .ok (.iaload, 1) := by decide +kernel
theorem dX2_count_23 : decode cX2_count 23 = .ok (.ireturn, 1) := by decide +kernel
theorem dX2_count_24 : decode cX2_count 24 = .ok (.iload_n 1, 1) := by decide +kernel
theorem dX2_count_25 : decode cX2_count 25 = .ok (.tableswitch 283 0 25 #[119, 127, 135, 151, 159, 167, 175, 183, 196, 204, 212, 220, 228, 236, 245, 254, 262, 283, 283, 283, 283, 283, 283, 283, 270, 275], 119) := by decide +kernel
theorem dX2_count_144 : decode cX2_count 144 = .ok (.aload_n 0, 1) := by decide +kernel
theorem dX2_count_145 : decode cX2_count 145 = .ok (.getfield 10, 3) := by decide +kernel
theorem dX2_count_148 : decode cX2_count 148 = .ok (.getfield 79, 3) := by decide +kernel
theorem dX2_count_151 : decode cX2_count 151 = .ok (.ireturn, 1) := by decide +kernel
theorem dX2_count_152 : decode cX2_count 152 = .ok (.aload_n 0, 1) := by decide +kernel
theorem dX2_count_153 : decode cX2_count 153 = .ok (.getfield 10, 3) := by decide +kernel
theorem dX2_count_156 : decode cX2_count 156 = .ok (.getfield 141, 3) := by decide +kernel
theorem dX2_count_159 : decode cX2_count 159 = .ok (.ireturn, 1) := by decide +kernel
theorem dX2_count_160 : decode cX2_count 160 = .ok (.aload_n 0, 1) := by decide +kernel
theorem dX2_count_161 : decode cX2_count 161 = .ok (.getfield 10, 3) := by decide +kernel
theorem dX2_count_164 : decode cX2_count 164 = .ok (.getfield 82, 3) := by decide +kernel
theorem dX2_count_167 : decode cX2_count 167 = .ok (.ifCond .eq 7, 3) := by decide +kernel
theorem dX2_count_170 : decode cX2_count 170 = .ok (.iconst 1, 1) := by decide +kernel
theorem dX2_count_171 : decode cX2_count 171 = .ok (.goto 4, 3) := by decide +kernel
theorem dX2_count_174 : decode cX2_count 174 = .ok (.iconst 0, 1) := by decide +kernel
theorem dX2_count_175 : decode cX2_count 175 = .ok (.ireturn, 1) := by decide +kernel
theorem dX2_count_176 : decode cX2_count 176 = .ok (.aload_n 0, 1) := by decide +kernel
theorem dX2_count_177 : decode cX2_count 177 = .ok (.getfield 10, 3) := by decide +kernel
theorem dX2_count_180 : decode cX2_count 180 = .ok (.getfield 155, 3) := by decide +kernel
theorem dX2_count_183 : decode cX2_count 183 = .ok (.ireturn, 1) := by decide +kernel
theorem dX2_count_184 : decode cX2_count 184 = .ok (.aload_n 0, 1) := by decide +kernel
theorem dX2_count_185 : decode cX2_count 185 = .ok (.getfield 10, 3) := by decide +kernel
theorem dX2_count_188 : decode cX2_count 188 = .ok (.getfield 158, 3) := by decide +kernel
theorem dX2_count_191 : decode cX2_count 191 = .ok (.ireturn, 1) := by decide +kernel
theorem dX2_count_192 : decode cX2_count 192 = .ok (.aload_n 0, 1) := by decide +kernel
theorem dX2_count_193 : decode cX2_count 193 = .ok (.getfield 10, 3) := by decide +kernel
theorem dX2_count_196 : decode cX2_count 196 = .ok (.getfield 98, 3) := by decide +kernel
theorem dX2_count_199 : decode cX2_count 199 = .ok (.ireturn, 1) := by decide +kernel
theorem dX2_count_200 : decode cX2_count 200 = .ok (.aload_n 0, 1) := by decide +kernel
theorem dX2_count_201 : decode cX2_count 201 = .ok (.getfield 10, 3) := by decide +kernel
theorem dX2_count_204 : decode cX2_count 204 = .ok (.getfield 148, 3) := by decide +kernel
theorem dX2_count_207 : decode cX2_count 207 = .ok (.ireturn, 1) := by decide +kernel
theorem dX2_count_208 : decode cX2_count 208 = .ok (.aload_n 0, 1) := by decide +kernel
theorem dX2_count_209 : decode cX2_count 209 = .ok (.getfield 10, 3) := by decide +kernel
theorem dX2_count_212 : decode cX2_count 212 = .ok (.getfield 151, 3) := by decide +kernel
theorem dX2_count_215 : decode cX2_count 215 = .ok (.ldc2_w 161, 3) := by decide +kernel
theorem dX2_count_218 : decode cX2_count 218 = .ok (.ldiv, 1) := by decide +kernel
theorem dX2_count_219 : decode cX2_count 219 = .ok (.l2i, 1) := by decide +kernel
theorem dX2_count_220 : decode cX2_count 220 = .ok (.ireturn, 1) := by decide +kernel
theorem dX2_count_221 : decode cX2_count 221 = .ok (.aload_n 0, 1) := by decide +kernel
theorem dX2_count_222 : decode cX2_count 222 = .ok (.getfield 10, 3) := by decide +kernel
theorem dX2_count_225 : decode cX2_count 225 = .ok (.getfield 163, 3) := by decide +kernel
theorem dX2_count_228 : decode cX2_count 228 = .ok (.ireturn, 1) := by decide +kernel
theorem dX2_count_229 : decode cX2_count 229 = .ok (.aload_n 0, 1) := by decide +kernel
theorem dX2_count_230 : decode cX2_count 230 = .ok (.getfield 10, 3) := by decide +kernel
theorem dX2_count_233 : decode cX2_count 233 = .ok (.getfield 166, 3) := by decide +kernel
theorem dX2_count_236 : decode cX2_count 236 = .ok (.ireturn, 1) := by decide +kernel
theorem dX2_count_237 : decode cX2_count 237 = .ok (.aload_n 0, 1) := by decide +kernel
theorem dX2_count_238 : decode cX2_count 238 = .ok (.getfield 10, 3) := by decide +kernel
theorem dX2_count_241 : decode cX2_count 241 = .ok (.getfield 137, 3) := by decide +kernel
theorem dX2_count_244 : decode cX2_count 244 = .ok (.ireturn, 1) := by decide +kernel
theorem dX2_count_245 : decode cX2_count 245 = .ok (.aload_n 0, 1) := by decide +kernel
theorem dX2_count_246 : decode cX2_count 246 = .ok (.getfield 10, 3) := by decide +kernel
theorem dX2_count_249 : decode cX2_count 249 = .ok (.getfield 169, 3) := by decide +kernel
theorem dX2_count_252 : decode cX2_count 252 = .ok (.ireturn, 1) := by decide +kernel
theorem dX2_count_253 : decode cX2_count 253 = .ok (.aload_n 0, 1) := by decide +kernel
theorem dX2_count_254 : decode cX2_count 254 = .ok (.getfield 10, 3) := by decide +kernel
theorem dX2_count_257 : decode cX2_count 257 = .ok (.getfield 37, 3) := by decide +kernel
theorem dX2_count_260 : decode cX2_count 260 = .ok (.ireturn, 1) := by decide +kernel
theorem dX2_count_261 : decode cX2_count 261 = .ok (.aload_n 0, 1) := by decide +kernel
theorem dX2_count_262 : decode cX2_count 262 = .ok (.getfield 10, 3) := by decide +kernel
theorem dX2_count_265 : decode cX2_count 265 = .ok (.iconst 1, 1) := by decide +kernel
theorem dX2_count_266 : decode cX2_count 266 = .ok (.invokevirtual 172, 3) := by decide +kernel
theorem dX2_count_269 : decode cX2_count 269 = .ok (.ireturn, 1) := by decide +kernel
theorem dX2_count_270 : decode cX2_count 270 = .ok (.aload_n 0, 1) := by decide +kernel
theorem dX2_count_271 : decode cX2_count 271 = .ok (.getfield 10, 3) := by decide +kernel
theorem dX2_count_274 : decode cX2_count 274 = .ok (.iconst 2, 1) := by decide +kernel
theorem dX2_count_275 : decode cX2_count 275 = .ok (.invokevirtual 172, 3) := by decide +kernel
theorem dX2_count_278 : decode cX2_count 278 = .ok (.ireturn, 1) := by decide +kernel
theorem dX2_count_279 : decode cX2_count 279 = .ok (.aload_n 0, 1) := by decide +kernel
theorem dX2_count_280 : decode cX2_count 280 = .ok (.getfield 10, 3) := by decide +kernel
theorem dX2_count_283 : decode cX2_count 283 = .ok (.getfield 175, 3) := by decide +kernel
theorem dX2_count_286 : decode cX2_count 286 = .ok (.ireturn, 1) := by decide +kernel
theorem dX2_count_287 : decode cX2_count 287 = .ok (.aload_n 0, 1) := by decide +kernel
theorem dX2_count_288 : decode cX2_count 288 = .ok (.getfield 10, 3) := by decide +kernel
theorem dX2_count_291 : decode cX2_count 291 = .ok (.getfield 178, 3) := by decide +kernel
theorem dX2_count_294 : decode cX2_count 294 = .ok (.ireturn, 1) := by decide +kernel
theorem dX2_count_295 : decode cX2_count 295 = .ok (.aload_n 0, 1) := by decide +kernel
theorem dX2_count_296 : decode cX2_count 296 = .ok (.getfield 111, 3) := by decide +kernel
theorem dX2_count_299 : decode cX2_count 299 = .ok (.ireturn, 1) := by decide +kernel
theorem dX2_count_300 : decode cX2_count 300 = .ok (.aload_n 0, 1) := by decide +kernel
theorem dX2_count_301 : decode cX2_count 301 = .ok (.getfield 29, 3) := by decide +kernel
theorem dX2_count_304 : decode cX2_count 304 = .ok (.getfield 108, 3) := by decide +kernel
theorem dX2_count_307 : decode cX2_count 307 = .ok (.ireturn, 1) := by decide +kernel
theorem dX2_count_308 : decode cX2_count 308 = .ok (.bipush (-2), 2) := by decide +kernel
theorem dX2_count_310 : decode cX2_count 310 = .ok (.ireturn, 1) := by decide +kernel
theorem dX2_isWithin_0 : decode cX2_isWithin 0 = .ok (.iload_n 0, 1) := by decide +kernel
theorem dX2_isWithin_1 : decode cX2_isWithin 1 = .ok (.iload_n 1, 1) := by decide +kernel
theorem dX2_isWithin_2 : decode cX2_isWithin 2 = .ok (.if_icmp .lt 12, 3) := by decide +kernel
theorem dX2_isWithin_5 : decode cX2_isWithin 5 = .ok (.iload_n 0, 1) := by decide +kernel
theorem dX2_isWithin_6 : decode cX2_isWithin 6 = .ok (.iload_n 2, 1) := by decide +kernel
theorem dX2_isWithin_7 : decode cX2_isWithin 7 = .ok (.if_icmp .gt 7, 3) := by decide +kernel
theorem dX2_isWithin_10 : decode cX2_isWithin 10 = .ok (.iconst 1, 1) := by decide +kernel
theorem dX2_isWithin_11 : decode cX2_isWithin 11 = .ok (.goto 4, 3) := by decide +kernel
theorem dX2_isWithin_14 : decode cX2_isWithin 14 = .ok (.iconst 0, 1) := by decide +kernel
theorem dX2_isWithin_15 : decode cX2_isWithin 15 = .ok (.ireturn, 1) := by decide +kernel
theorem dX2_isLength_0 : decode cX2_isLength 0 = .ok (.iload_n 0, 1) := by decide +kernel
theorem dX2_isLength_1 : decode cX2_isLength 1 = .ok (.bipush 10, 2) := by decide +kernel
theorem dX2_isLength_3 : decode cX2_isLength 3 = .ok (.sipush 400, 3) := by decide +kernel
theorem dX2_isLength_6 : decode cX2_isLength 6 = .ok (.invokestatic 66, 3) := by decide +kernel
theorem dX2_isLength_9 : decode cX2_isLength 9 = .ok (.ireturn, 1) := by decide +kernel
theorem dX2_isVoltage_0 : decode cX2_isVoltage 0 = .ok (.iload_n 0, 1) := by decide +kernel
theorem dX2_isVoltage_1 : decode cX2_isVoltage 1 = .ok (.sipush 500, 3) := by decide +kernel
theorem dX2_isVoltage_4 : decode cX2_isVoltage 4 = .ok (.sipush 1200, 3) := by decide +kernel
theorem dX2_isVoltage_7 : decode cX2_isVoltage 7 = .ok (.invokestatic 66, 3) := by decide +kernel
theorem dX2_isVoltage_10 : decode cX2_isVoltage 10 = .ok (.ireturn, 1) := by decide +kernel
theorem dX2_isPath_0 : decode cX2_isPath 0 = .ok (.iload_n 1, 1) := by decide +kernel
theorem dX2_isPath_1 : decode cX2_isPath 1 = .ok (.iconst 0, 1) := by decide +kernel
theorem dX2_isPath_2 : decode cX2_isPath 2 = .ok (.aload_n 0, 1) := by decide +kernel
theorem dX2_isPath_3 : decode cX2_isPath 3 = .ok (.getfield 10, 3) := by decide +kernel
theorem dX2_isPath_6 : decode cX2_isPath 6 = .ok (.getfield 37, 3) := by decide +kernel
theorem dX2_isPath_9 : decode cX2_isPath 9 = .ok (.iconst 1, 1) := by decide +kernel
theorem dX2_isPath_10 : decode cX2_isPath 10 = .ok (.isub, 1) := by decide +kernel
theorem dX2_isPath_11 : decode cX2_isPath 11 = .ok (.invokestatic 66, 3) := by decide +kernel
theorem dX2_isPath_14 : decode cX2_isPath 14 = .ok (.ireturn, 1) := by decide +kernel
theorem dX2_recordState_0 : decode cX2_recordState 0 = .ok (.aload_n 0, 1) := by decide +kernel
theorem dX2_recordState_1 : decode cX2_recordState 1 = .ok (.getfield 111, 3) := by decide +kernel
theorem dX2_recordState_4 : decode cX2_recordState 4 = .ok (.iconst 4, 1) := by decide +kernel
theorem dX2_recordState_5 : decode cX2_recordState 5 = .ok (.if_icmp .ne 7, 3) := by decide +kernel
theorem dX2_recordState_8 : decode cX2_recordState 8 = .ok (.aload_n 0, 1) := by decide +kernel
theorem dX2_recordState_9 : decode cX2_recordState 9 = .ok (.invokevirtual 181, 3) := by decide +kernel
theorem dX2_recordState_12 : decode cX2_recordState 12 = .ok (.aload_n 0, 1) := by decide +kernel
theorem dX2_recordState_13 : decode cX2_recordState 13 = .ok (.getfield 22, 3) := by decide +kernel
theorem dX2_recordState_16 : decode cX2_recordState 16 = .ok (.aload_n 0, 1) := by decide +kernel
theorem dX2_recordState_17 : decode cX2_recordState 17 = .ok (.getfield 111, 3) := by decide +kernel
theorem dX2_recordState_20 : decode cX2_recordState 20 = .ok (.aaload, 1) := by decide +kernel
theorem dX2_recordState_21 : decode cX2_recordState 21 = .ok (.aload_n 0, 1) := by decide +kernel
theorem dX2_recordState_22 : decode cX2_recordState 22 = .ok (.getfield 10, 3) := by decide +kernel
theorem dX2_recordState_25 : decode cX2_recordState 25 = .ok (.invokevirtual 114, 3) := by decide +kernel
theorem dX2_recordState_28 : decode cX2_recordState 28 = .ok (.aload_n 0, 1) := by decide +kernel
theorem dX2_recordState_29 : decode cX2_recordState 29 = .ok (.dup, 1) := by decide +kernel
theorem dX2_recordState_30 : decode cX2_recordState 30 = .ok (.getfield 111, 3) := by decide +kernel
theorem dX2_recordState_33 : decode cX2_recordState 33 = .ok (.iconst 1, 1) := by decide +kernel
theorem dX2_recordState_34 : decode cX2_recordState 34 = .ok (.iadd, 1) := by decide +kernel
theorem dX2_recordState_35 : decode cX2_recordState 35 = .ok (.putfield 111, 3) := by decide +kernel
theorem dX2_recordState_38 : decode cX2_recordState 38 = .ok (.return_, 1) := by decide +kernel
theorem dX2_dropOldestState_0 : decode cX2_dropOldestState 0 = .ok (.aload_n 0, 1) := by decide +kernel
theorem dX2_dropOldestState_1 : decode cX2_dropOldestState 1 = .ok (.getfield 22, 3) := by decide +kernel
theorem dX2_dropOldestState_4 : decode cX2_dropOldestState 4 = .ok (.iconst 0, 1) := by decide +kernel
theorem dX2_dropOldestState_5 : decode cX2_dropOldestState 5 = .ok (.aaload, 1) := by decide +kernel
theorem dX2_dropOldestState_6 : decode cX2_dropOldestState 6 = .ok (.astore_n 1, 1) := by decide +kernel
theorem dX2_dropOldestState_7 : decode cX2_dropOldestState 7 = .ok (.iconst 1, 1) := by decide +kernel
theorem dX2_dropOldestState_8 : decode cX2_dropOldestState 8 = .ok (.istore_n 2, 1) := by decide +kernel
theorem dX2_dropOldestState_9 : decode cX2_dropOldestState 9 = .ok (.iload_n 2, 1) := by decide +kernel
theorem dX2_dropOldestState_10 : decode cX2_dropOldestState 10 = .ok (.iconst 4, 1) := by decide +kernel
theorem dX2_dropOldestState_11 : decode cX2_dropOldestState 11 = .ok (.if_icmp .ge 23, 3) := by decide +kernel
theorem dX2_dropOldestState_14 : decode cX2_dropOldestState 14 = .ok (.aload_n 0, 1) := by decide +kernel
theorem dX2_dropOldestState_15 : decode cX2_dropOldestState 15 = .ok (.getfield 22, 3) := by decide +kernel
theorem dX2_dropOldestState_18 : decode cX2_dropOldestState 18 = .ok (.iload_n 2, 1) := by decide +kernel
theorem dX2_dropOldestState_19 : decode cX2_dropOldestState 19 = .ok (.iconst 1, 1) := by decide +kernel
theorem dX2_dropOldestState_20 : decode cX2_dropOldestState 20 = .ok (.isub, 1) := by decide +kernel
theorem dX2_dropOldestState_21 : decode cX2_dropOldestState 21 = .ok (.aload_n 0, 1) := by decide +kernel
theorem dX2_dropOldestState_22 : decode cX2_dropOldestState 22 = .ok (.getfield 22, 3) := by decide +kernel
theorem dX2_dropOldestState_25 : decode cX2_dropOldestState 25 = .ok (.iload_n 2, 1) := by decide +kernel
theorem dX2_dropOldestState_26 : decode cX2_dropOldestState 26 = .ok (.aaload, 1) := by decide +kernel
theorem dX2_dropOldestState_27 : decode cX2_dropOldestState 27 = .ok (.aastore, 1) := by decide +kernel
theorem dX2_dropOldestState_28 : decode cX2_dropOldestState 28 = .ok (.iinc 2 1, 3) := by decide +kernel
theorem dX2_dropOldestState_31 : decode cX2_dropOldestState 31 = .ok (.goto (-22), 3) := by decide +kernel
theorem dX2_dropOldestState_34 : decode cX2_dropOldestState 34 = .ok (.aload_n 0, 1) := by decide +kernel
theorem dX2_dropOldestState_35 : decode cX2_dropOldestState 35 = .ok (.getfield 22, 3) := by decide +kernel
theorem dX2_dropOldestState_38 : decode cX2_dropOldestState 38 = .ok (.iconst 3, 1) := by decide +kernel
theorem dX2_dropOldestState_39 : decode cX2_dropOldestState 39 = .ok (.aload_n 1, 1) := by decide +kernel
theorem dX2_dropOldestState_40 : decode cX2_dropOldestState 40 = .ok (.aastore, 1) := by decide +kernel
theorem dX2_dropOldestState_41 : decode cX2_dropOldestState 41 = .ok (.aload_n 0, 1) := by decide +kernel
theorem dX2_dropOldestState_42 : decode cX2_dropOldestState 42 = .ok (.iconst 3, 1) := by decide +kernel
theorem dX2_dropOldestState_43 : decode cX2_dropOldestState 43 = .ok (.putfield 111, 3) := by decide +kernel
theorem dX2_dropOldestState_46 : decode cX2_dropOldestState 46 = .ok (.return_, 1) := by decide +kernel
theorem dX2_tryCycles_0 : decode cX2_tryCycles 0 = .ok (.aload_n 0, 1) := by decide +kernel
theorem dX2_tryCycles_1 : decode cX2_tryCycles 1 = .ok (.getfield 19, 3) := by decide +kernel
theorem dX2_tryCycles_4 : decode cX2_tryCycles 4 = .ok (.aload_n 0, 1) := by decide +kernel
theorem dX2_tryCycles_5 : decode cX2_tryCycles 5 = .ok (.getfield 10, 3) := by decide +kernel
theorem dX2_tryCycles_8 : decode cX2_tryCycles 8 = .ok (.invokevirtual 114, 3) := by decide +kernel
theorem dX2_tryCycles_11 : decode cX2_tryCycles 11 = .ok (.aload_n 0, 1) := by decide +kernel
theorem dX2_tryCycles_12 : decode cX2_tryCycles 12 = .ok (.getfield 19, 3) := by decide +kernel
theorem dX2_tryCycles_15 : decode cX2_tryCycles 15 = .ok (.iconst 0, 1) := by decide +kernel
theorem dX2_tryCycles_16 : decode cX2_tryCycles 16 = .ok (.putfield 82, 3) := by decide +kernel
theorem dX2_tryCycles_19 : decode cX2_tryCycles 19 = .ok (.aload_n 0, 1) := by decide +kernel
theorem dX2_tryCycles_20 : decode cX2_tryCycles 20 = .ok (.getfield 19, 3) := by decide +kernel
theorem dX2_tryCycles_23 : decode cX2_tryCycles 23 = .ok (.iload_n 1, 1) := by decide +kernel
theorem dX2_tryCycles_24 : decode cX2_tryCycles 24 = .ok (.putfield 79, 3) := by decide +kernel
theorem dX2_tryCycles_27 : decode cX2_tryCycles 27 = .ok (.aload_n 0, 1) := by decide +kernel
theorem dX2_tryCycles_28 : decode cX2_tryCycles 28 = .ok (.getfield 19, 3) := by decide +kernel
theorem dX2_tryCycles_31 : decode cX2_tryCycles 31 = .ok (.iload_n 2, 1) := by decide +kernel
theorem dX2_tryCycles_32 : decode cX2_tryCycles 32 = .ok (.invokevirtual 101, 3) := by decide +kernel
theorem dX2_tryCycles_35 : decode cX2_tryCycles 35 = .ok (.return_, 1) := by decide +kernel
theorem dX3_init_0 : decode cX3_init 0 = .ok (.aload_n 0, 1) := by decide +kernel
theorem dX3_init_1 : decode cX3_init 1 = .ok (.invokespecial 1, 3) := by decide +kernel
theorem dX3_init_4 : decode cX3_init 4 = .ok (.aload_n 0, 1) := by decide +kernel
theorem dX3_init_5 : decode cX3_init 5 = .ok (.bipush 55, 2) := by decide +kernel
theorem dX3_init_7 : decode cX3_init 7 = .ok (.newarray .int, 2) := by decide +kernel
theorem dX3_init_9 : decode cX3_init 9 = .ok (.putfield 7, 3) := by decide +kernel
theorem dX3_init_12 : decode cX3_init 12 = .ok (.aload_n 0, 1) := by decide +kernel
theorem dX3_init_13 : decode cX3_init 13 = .ok (.bipush 55, 2) := by decide +kernel
theorem dX3_init_15 : decode cX3_init 15 = .ok (.newarray .int, 2) := by decide +kernel
theorem dX3_init_17 : decode cX3_init 17 = .ok (.putfield 13, 3) := by decide +kernel
theorem dX3_init_20 : decode cX3_init 20 = .ok (.aload_n 0, 1) := by decide +kernel
theorem dX3_init_21 : decode cX3_init 21 = .ok (.bipush 55, 2) := by decide +kernel
theorem dX3_init_23 : decode cX3_init 23 = .ok (.newarray .int, 2) := by decide +kernel
theorem dX3_init_25 : decode cX3_init 25 = .ok (.putfield 16, 3) := by decide +kernel
theorem dX3_init_28 : decode cX3_init 28 = .ok (.aload_n 0, 1) := by decide +kernel
theorem dX3_init_29 : decode cX3_init 29 = .ok (.sipush 220, 3) := by decide +kernel
theorem dX3_init_32 : decode cX3_init 32 = .ok (.newarray .int, 2) := by decide +kernel
theorem dX3_init_34 : decode cX3_init 34 = .ok (.putfield 19, 3) := by decide +kernel
theorem dX3_init_37 : decode cX3_init 37 = .ok (.aload_n 0, 1) := by decide +kernel
theorem dX3_init_38 : decode cX3_init 38 = .ok (.bipush 55, 2) := by decide +kernel
theorem dX3_init_40 : decode cX3_init 40 = .ok (.newarray .int, 2) := by decide +kernel
theorem dX3_init_42 : decode cX3_init 42 = .ok (.putfield 22, 3) := by decide +kernel
theorem dX3_init_45 : decode cX3_init 45 = .ok (.aload_n 0, 1) := by decide +kernel
theorem dX3_init_46 : decode cX3_init 46 = .ok (.bipush 60, 2) := by decide +kernel
theorem dX3_init_48 : decode cX3_init 48 = .ok (.newarray .int, 2) := by decide +kernel
theorem dX3_init_50 : decode cX3_init 50 = .ok (.putfield 25, 3) := by decide +kernel
theorem dX3_init_53 : decode cX3_init 53 = .ok (.aload_n 0, 1) := by decide +kernel
theorem dX3_init_54 : decode cX3_init 54 = .ok (.bipush 16, 2) := by decide +kernel
theorem dX3_init_56 : decode cX3_init 56 = .ok (.newarray .int, 2) := by decide +kernel
theorem dX3_init_58 : decode cX3_init 58 = .ok (.putfield 28, 3) := by decide +kernel
theorem dX3_init_61 : decode cX3_init 61 = .ok (.aload_n 0, 1) := by decide +kernel
theorem dX3_init_62 : decode cX3_init 62 = .ok (.getfield 7, 3) := by decide +kernel
theorem dX3_init_65 : decode cX3_init 65 = .ok (.iconst 0, 1) := by decide +kernel
theorem dX3_init_66 : decode cX3_init 66 = .ok (.bipush 100, 2) := by decide +kernel
theorem dX3_init_68 : decode cX3_init 68 = .ok (.iastore, 1) := by decide +kernel
theorem dX3_init_69 : decode cX3_init 69 = .ok (.aload_n 0, 1) := by decide +kernel
theorem dX3_init_70 : decode cX3_init 70 = .ok (.getfield 7, 3) := by decide +kernel
theorem dX3_init_73 : decode cX3_init 73 = .ok (.bipush 51, 2) := by decide +kernel
theorem dX3_init_75 : decode cX3_init 75 = .ok (.iconst 1, 1) := by decide +kernel
theorem dX3_init_76 : decode cX3_init 76 = .ok (.iastore, 1) := by decide +kernel
theorem dX3_init_77 : decode cX3_init 77 = .ok (.aload_n 0, 1) := by decide +kernel
theorem dX3_init_78 : decode cX3_init 78 = .ok (.getfield 7, 3) := by decide +kernel
theorem dX3_init_81 : decode cX3_init 81 = .ok (.bipush 49, 2) := by decide +kernel
theorem dX3_init_83 : decode cX3_init 83 = .ok (.iconst 1, 1) := by decide +kernel
theorem dX3_init_84 : decode cX3_init 84 = .ok (.iastore, 1) := by decide +kernel
theorem dX3_init_85 : decode cX3_init 85 = .ok (.aload_n 0, 1) := by decide +kernel
theorem dX3_init_86 : decode cX3_init 86 = .ok (.getfield 7, 3) := by decide +kernel
theorem dX3_init_89 : decode cX3_init 89 = .ok (.bipush 32, 2) := by decide +kernel
theorem dX3_init_91 : decode cX3_init 91 = .ok (.sipush 200, 3) := by decide +kernel
theorem dX3_init_94 : decode cX3_init 94 = .ok (.iastore, 1) := by decide +kernel
theorem dX3_init_95 : decode cX3_init 95 = .ok (.aload_n 0, 1) := by decide +kernel
theorem dX3_init_96 : decode cX3_init 96 = .ok (.getfield 7, 3) := by decide +kernel
theorem dX3_init_99 : decode cX3_init 99 = .ok (.bipush 33, 2) := by decide +kernel
theorem dX3_init_101 : decode cX3_init 101 = .ok (.bipush 40, 2) := by decide +kernel
theorem dX3_init_103 : decode cX3_init 103 = .ok (.iastore, 1) := by decide +kernel
theorem dX3_init_104 : decode cX3_init 104 = .ok (.aload_n 0, 1) := by decide +kernel
theorem dX3_init_105 : decode cX3_init 105 = .ok (.getfield 7, 3) := by decide +kernel
theorem dX3_init_108 : decode cX3_init 108 = .ok (.bipush 34, 2) := by decide +kernel
theorem dX3_init_110 : decode cX3_init 110 = .ok (.iconst 5, 1) := by decide +kernel
theorem dX3_init_111 : decode cX3_init 111 = .ok (.iastore, 1) := by decide +kernel
theorem dX3_init_112 : decode cX3_init 112 = .ok (.aload_n 0, 1) := by decide +kernel
theorem dX3_init_113 : decode cX3_init 113 = .ok (.getfield 7, 3) := by decide +kernel
theorem dX3_init_116 : decode cX3_init 116 = .ok (.bipush 35, 2) := by decide +kernel
theorem dX3_init_118 : decode cX3_init 118 = .ok (.bipush 100, 2) := by decide +kernel
theorem dX3_init_120 : decode cX3_init 120 = .ok (.iastore, 1) := by decide +kernel
theorem dX3_init_121 : decode cX3_init 121 = .ok (.aload_n 0, 1) := by decide +kernel
theorem dX3_init_122 : decode cX3_init 122 = .ok (.getfield 7, 3) := by decide +kernel
theorem dX3_init_125 : decode cX3_init 125 = .ok (.bipush 36, 2) := by decide +kernel
theorem dX3_init_127 : decode cX3_init 127 = .ok (.iconst 2, 1) := by decide +kernel
theorem dX3_init_128 : decode cX3_init 128 = .ok (.iastore, 1) := by decide +kernel
theorem dX3_init_129 : decode cX3_init 129 = .ok (.aload_n 0, 1) := by decide +kernel
theorem dX3_init_130 : decode cX3_init 130 = .ok (.getfield 7, 3) := by decide +kernel
theorem dX3_init_133 : decode cX3_init 133 = .ok (.bipush 37, 2) := by decide +kernel
theorem dX3_init_135 : decode cX3_init 135 = .ok (.bipush 10, 2) := by decide +kernel
theorem dX3_init_137 : decode cX3_init 137 = .ok (.iastore, 1) := by decide +kernel
theorem dX3_init_138 : decode cX3_init 138 = .ok (.aload_n 0, 1) := by decide +kernel
theorem dX3_init_139 : decode cX3_init 139 = .ok (.getfield 7, 3) := by decide +kernel
theorem dX3_init_142 : decode cX3_init 142 = .ok (.bipush 38, 2) := by decide +kernel
theorem dX3_init_144 : decode cX3_init 144 = .ok (.iconst 4, 1) := by decide +kernel
theorem dX3_init_145 : decode cX3_init 145 = .ok (.iastore, 1) := by decide +kernel
theorem dX3_init_146 : decode cX3_init 146 = .ok (.aload_n 0, 1) := by decide +kernel
theorem dX3_init_147 : decode cX3_init 147 = .ok (.getfield 7, 3) := by decide +kernel
theorem dX3_init_150 : decode cX3_init 150 = .ok (.bipush 39, 2) := by decide +kernel
theorem dX3_init_152 : decode cX3_init 152 = .ok (.sipush 1000, 3) := by decide +kernel
theorem dX3_init_155 : decode cX3_init 155 = .ok (.iastore, 1) := by decide +kernel
theorem dX3_init_156 : decode cX3_init 156 = .ok (.aload_n 0, 1) := by decide +kernel
theorem dX3_init_157 : decode cX3_init 157 = .ok (.getfield 7, 3) := by decide +kernel
theorem dX3_init_160 : decode cX3_init 160 = .ok (.bipush 40, 2) := by decide +kernel
theorem dX3_init_162 : decode cX3_init 162 = .ok (.bipush 20, 2) := by decide +kernel
theorem dX3_init_164 : decode cX3_init 164 = .ok (.iastore, 1) := by decide +kernel
theorem dX3_init_165 : decode cX3_init 165 = .ok (.return_, 1) := by decide +kernel
theorem dX3_in_0 : decode cX3_in 0 = .ok (.lload_n 0, 1) := by decide +kernel
theorem dX3_in_1 : decode cX3_in 1 = .ok (.lload_n 2, 1) := by decide +kernel
theorem dX3_in_2 : decode cX3_in 2 = .ok (.lcmp, 1) := by decide +kernel
theorem dX3_in_3 : decode cX3_in 3 = .ok (.ifCond .lt 14, 3) := by decide +kernel
theorem dX3_in_6 : decode cX3_in 6 = .ok (.lload_n 0, 1) := by decide +kernel
theorem dX3_in_7 : decode cX3_in 7 = .ok (.lload 4, 2) := by decide +kernel
theorem dX3_in_9 : decode cX3_in 9 = .ok (.lcmp, 1) := by decide +kernel
theorem dX3_in_10 : decode cX3_in 10 = .ok (.ifCond .gt 7, 3) := by decide +kernel
theorem dX3_in_13 : decode cX3_in 13 = .ok (.iconst 1, 1) := by decide +kernel
theorem dX3_in_14 : decode cX3_in 14 = .ok (.goto 4, 3) := by decide +kernel
theorem dX3_in_17 : decode cX3_in 17 = .ok (.iconst 0, 1) := by decide +kernel
theorem dX3_in_18 : decode cX3_in 18 = .ok (.ireturn, 1) := by decide +kernel
theorem dX3_copy_0 : decode cX3_copy 0 = .ok (.iconst 0, 1) := by decide +kernel
theorem dX3_copy_1 : decode cX3_copy 1 = .ok (.istore_n 2, 1) := by decide +kernel
theorem dX3_copy_2 : decode cX3_copy 2 = .ok (.iload_n 2, 1) := by decide +kernel
theorem dX3_copy_3 : decode cX3_copy 3 = .ok (.bipush 55, 2) := by decide +kernel
theorem dX3_copy_5 : decode cX3_copy 5 = .ok (.if_icmp .ge 15, 3) := by decide +kernel
theorem dX3_copy_8 : decode cX3_copy 8 = .ok (.aload_n 1, 1) := by decide +kernel
theorem dX3_copy_9 : decode cX3_copy 9 = .ok (.iload_n 2, 1) := by decide +kernel
theorem dX3_copy_10 : decode cX3_copy 10 = .ok (.aload_n 0, 1) := by decide +kernel
theorem dX3_copy_11 : decode cX3_copy 11 = .ok (.iload_n 2, 1) := by decide +kernel
theorem dX3_copy_12 : decode cX3_copy 12 = .ok (.iaload, 1) := by decide +kernel
theorem dX3_copy_13 : decode cX3_copy 13 = .ok (.iastore, 1) := by decide +kernel
theorem dX3_copy_14 : decode cX3_copy 14 = .ok (.iinc 2 1, 3) := by decide +kernel
theorem dX3_copy_17 : decode cX3_copy 17 = .ok (.goto (-15), 3) := by decide +kernel
theorem dX3_copy_20 : decode cX3_copy 20 = .ok (.return_, 1) := by decide +kernel
theorem dX3_remember_0 : decode cX3_remember 0 = .ok (.aload_n 0, 1) := by decide +kernel
theorem dX3_remember_1 : decode cX3_remember 1 = .ok (.getfield 7, 3) := by decide +kernel
theorem dX3_remember_4 : decode cX3_remember 4 = .ok (.aload_n 0, 1) := by decide +kernel
theorem dX3_remember_5 : decode cX3_remember 5 = .ok (.getfield 13, 3) := by decide +kernel
theorem dX3_remember_8 : decode cX3_remember 8 = .ok (.invokestatic 31, 3) := by decide +kernel
theorem dX3_remember_11 : decode cX3_remember 11 = .ok (.return_, 1) := by decide +kernel
theorem dX3_acted_0 : decode cX3_acted 0 = .ok (.aload_n 0, 1) := by decide +kernel
theorem dX3_acted_1 : decode cX3_acted 1 = .ok (.getfield 35, 3) := by decide +kernel
theorem dX3_acted_4 : decode cX3_acted 4 = .ok (.iconst 4, 1) := by decide +kernel
theorem dX3_acted_5 : decode cX3_acted 5 = .ok (.if_icmp .ne 43, 3) := by decide +kernel
theorem dX3_acted_8 : decode cX3_acted 8 = .ok (.iconst 0, 1) := by decide +kernel
theorem dX3_acted_9 : decode cX3_acted 9 = .ok (.istore_n 2, 1) := by decide +kernel
theorem dX3_acted_10 : decode cX3_acted 10 = .ok (.iload_n 2, 1) := by decide +kernel
theorem dX3_acted_11 : decode cX3_acted 11 = .ok (.sipush 165, 3) := by decide +kernel
theorem dX3_acted_14 : decode cX3_acted 14 = .ok (.if_icmp .ge 24, 3) := by decide +kernel
theorem dX3_acted_17 : decode cX3_acted 17 = .ok (.aload_n 0, 1) := by decide +kernel
theorem dX3_acted_18 : decode cX3_acted 18 = .ok (.getfield 19, 3) := by decide +kernel
theorem dX3_acted_21 : decode cX3_acted 21 = .ok (.iload_n 2, 1) := by decide +kernel
theorem dX3_acted_22 : decode cX3_acted 22 = .ok (.aload_n 0, 1) := by decide +kernel
theorem dX3_acted_23 : decode cX3_acted 23 = .ok (.getfield 19, 3) := by decide +kernel
theorem dX3_acted_26 : decode cX3_acted 26 = .ok (.iload_n 2, 1) := by decide +kernel
theorem dX3_acted_27 : decode cX3_acted 27 = .ok (.bipush 55, 2) := by decide +kernel
theorem dX3_acted_29 : decode cX3_acted 29 = .ok (.iadd, 1) := by decide +kernel
theorem dX3_acted_30 : decode cX3_acted 30 = .ok (.iaload, 1) := by decide +kernel
theorem dX3_acted_31 : decode cX3_acted 31 = .ok (.iastore, 1) := by decide +kernel
theorem dX3_acted_32 : decode cX3_acted 32 = .ok (.iinc 2 1, 3) := by decide +kernel
theorem dX3_acted_35 : decode cX3_acted 35 = .ok (.goto (-25), 3) := by decide +kernel
theorem dX3_acted_38 : decode cX3_acted 38 = .ok (.aload_n 0, 1) := by decide +kernel
theorem dX3_acted_39 : decode cX3_acted 39 = .ok (.dup, 1) := by decide +kernel
theorem dX3_acted_40 : decode cX3_acted 40 = .ok (.getfield 35, 3) := by decide +kernel
theorem dX3_acted_43 : decode cX3_acted 43 = .ok (.iconst 1, 1) := by decide +kernel
theorem dX3_acted_44 : decode cX3_acted 44 = .ok (.isub, 1) := by decide +kernel
theorem dX3_acted_45 : decode cX3_acted 45 = .ok (.putfield 35, 3) := by decide +kernel
theorem dX3_acted_48 : decode cX3_acted 48 = .ok (.iconst 0, 1) := by decide +kernel
theorem dX3_acted_49 : decode cX3_acted 49 = .ok (.istore_n 2, 1) := by decide +kernel
theorem dX3_acted_50 : decode cX3_acted 50 = .ok (.iload_n 2, 1) := by decide +kernel
theorem dX3_acted_51 : decode cX3_acted 51 = .ok (.bipush 55, 2) := by decide +kernel
theorem dX3_acted_53 : decode cX3_acted 53 = .ok (.if_icmp .ge 29, 3) := by decide +kernel
theorem dX3_acted_56 : decode cX3_acted 56 = .ok (.aload_n 0, 1) := by decide +kernel
theorem dX3_acted_57 : decode cX3_acted 57 = .ok (.getfield 19, 3) := by decide +kernel
theorem dX3_acted_60 : decode cX3_acted 60 = .ok (.bipush 55, 2) := by decide +kernel
theorem dX3_acted_62 : decode cX3_acted 62 = .ok (.aload_n 0, 1) := by decide +kernel
theorem dX3_acted_63 : decode cX3_acted 63 = .ok (.getfield 35, 3) := by decide +kernel
theorem dX3_acted_66 : decode cX3_acted 66 = .ok (.imul, 1) := by decide +kernel
theorem dX3_acted_67 : decode cX3_acted 67 = .ok (.iload_n 2, 1) := by decide +kernel
theorem dX3_acted_68 : decode cX3_acted 68 = .ok (.iadd, 1) := by decide +kernel
theorem dX3_acted_69 : decode cX3_acted 69 = .ok (.aload_n 0, 1) := by decide +kernel
theorem dX3_acted_70 : decode cX3_acted 70 = .ok (.getfield 13, 3) := by decide +kernel
theorem dX3_acted_73 : decode cX3_acted 73 = .ok (.iload_n 2, 1) := by decide +kernel
theorem dX3_acted_74 : decode cX3_acted 74 = .ok (.iaload, 1) := by decide +kernel
theorem dX3_acted_75 : decode cX3_acted 75 = .ok (.iastore, 1) := by decide +kernel
theorem dX3_acted_76 : decode cX3_acted 76 = .ok (.iinc 2 1, 3) := by decide +kernel
theorem dX3_acted_79 : decode cX3_acted 79 = .ok (.goto (-29), 3) := by decide +kernel
theorem dX3_acted_82 : decode cX3_acted 82 = .ok (.aload_n 0, 1) := by decide +kernel
theorem dX3_acted_83 : decode cX3_acted 83 = .ok (.dup, 1) := by decide +kernel
theorem dX3_acted_84 : decode cX3_acted 84 = .ok (.getfield 35, 3) := by decide +kernel
theorem dX3_acted_87 : decode cX3_acted 87 = .ok (.iconst 1, 1) := by decide +kernel
theorem dX3_acted_88 : decode cX3_acted 88 = .ok (.iadd, 1) := by decide +kernel
theorem dX3_acted_89 : decode cX3_acted 89 = .ok (.putfield 35, 3) := by decide +kernel
theorem dX3_acted_92 : decode cX3_acted 92 = .ok (.iload_n 1, 1) := by decide +kernel
theorem dX3_acted_93 : decode cX3_acted 93 = .ok (.ireturn, 1) := by decide +kernel
theorem dX3_isPath_0 : decode cX3_isPath 0 = .ok (.iload_n 1, 1) := by decide +kernel
theorem dX3_isPath_1 : decode cX3_isPath 1 = .ok (.i2l, 1) := by decide +kernel
theorem dX3_isPath_2 : decode cX3_isPath 2 = .ok (.lconst 0, 1) := by decide +kernel
theorem dX3_isPath_3 : decode cX3_isPath 3 = .ok (.aload_n 0, 1) := by decide +kernel
theorem dX3_isPath_4 : decode cX3_isPath 4 = .ok (.getfield 7, 3) := by decide +kernel
theorem dX3_isPath_7 : decode cX3_isPath 7 = .ok (.bipush 51, 2) := by decide +kernel
theorem dX3_isPath_9 : decode cX3_isPath 9 = .ok (.iaload, 1) := by decide +kernel
theorem dX3_isPath_10 : decode cX3_isPath 10 = .ok (.i2l, 1) := by decide +kernel
theorem dX3_isPath_11 : decode cX3_isPath 11 = .ok (.lconst 1, 1) := by decide +kernel
theorem dX3_isPath_12 : decode cX3_isPath 12 = .ok (.lsub, 1) := by decide +kernel
theorem dX3_isPath_13 : decode cX3_isPath 13 = .ok (.invokestatic 39, 3) := by decide +kernel
theorem dX3_isPath_16 : decode cX3_isPath 16 = .ok (.ireturn, 1) := by decide +kernel
theorem dX3_has_0 : decode cX3_has 0 = .ok (.iload_n 0, 1) := by decide +kernel
theorem dX3_has_1 : decode cX3_has 1 = .ok (.iload_n 1, 1) := by decide +kernel
theorem dX3_has_2 : decode cX3_has 2 = .ok (.ishr, 1) := by decide +kernel
theorem dX3_has_3 : decode cX3_has 3 = .ok (.iconst 1, 1) := by decide +kernel
theorem dX3_has_4 : decode cX3_has 4 = .ok (.iand, 1) := by decide +kernel
theorem dX3_has_5 : decode cX3_has 5 = .ok (.iconst 1, 1) := by decide +kernel
theorem dX3_has_6 : decode cX3_has 6 = .ok (.if_icmp .ne 7, 3) := by decide +kernel
theorem dX3_has_9 : decode cX3_has 9 = .ok (.iconst 1, 1) := by decide +kernel
theorem dX3_has_10 : decode cX3_has 10 = .ok (.goto 4, 3) := by decide +kernel
theorem dX3_has_13 : decode cX3_has 13 = .ok (.iconst 0, 1) := by decide +kernel
theorem dX3_has_14 : decode cX3_has 14 = .ok (.ireturn, 1) := by decide +kernel
theorem dX3_delayWith_0 : decode cX3_delayWith 0 = .ok (.aload_n 0, 1) := by decide +kernel
theorem dX3_delayWith_1 : decode cX3_delayWith 1 = .ok (.getfield 7, 3) := by decide +kernel
theorem dX3_delayWith_4 : decode cX3_delayWith 4 = .ok (.iconst 0, 1) := by decide +kernel
theorem dX3_delayWith_5 : decode cX3_delayWith 5 = .ok (.iload_n 1, 1) := by decide +kernel
theorem dX3_delayWith_6 : decode cX3_delayWith 6 = .ok (.iadd, 1) := by decide +kernel
theorem dX3_delayWith_7 : decode cX3_delayWith 7 = .ok (.iaload, 1) := by decide +kernel
theorem dX3_delayWith_8 : decode cX3_delayWith 8 = .ok (.sipush 1000, 3) := by decide +kernel
theorem dX3_delayWith_11 : decode cX3_delayWith 11 = .ok (.imul, 1) := by decide +kernel
theorem dX3_delayWith_12 : decode cX3_delayWith 12 = .ok (.iload_n 2, 1) := by decide +kernel
theorem dX3_delayWith_13 : decode cX3_delayWith 13 = .ok (.sipush 300, 3) := by decide +kernel
theorem dX3_delayWith_16 : decode cX3_delayWith 16 = .ok (.isub, 1) := by decide +kernel
theorem dX3_delayWith_17 : decode cX3_delayWith 17 = .ok (.idiv, 1) := by decide +kernel
theorem dX3_delayWith_18 : decode cX3_delayWith 18 = .ok (.sipush 900, 3) := by decide +kernel
theorem dX3_delayWith_21 : decode cX3_delayWith 21 = .ok (.iload_n 3, 1) := by decide +kernel
theorem dX3_delayWith_22 : decode cX3_delayWith 22 = .ok (.iconst 5, 1) := by decide +kernel
theorem dX3_delayWith_23 : decode cX3_delayWith 23 = .ok (.imul, 1) := by decide +kernel
theorem dX3_delayWith_24 : decode cX3_delayWith 24 = .ok (.iadd, 1) := by decide +kernel
theorem dX3_delayWith_25 : decode cX3_delayWith 25 = .ok (.imul, 1) := by decide +kernel
theorem dX3_delayWith_26 : decode cX3_delayWith 26 = .ok (.sipush 1000, 3) := by decide +kernel
theorem dX3_delayWith_29 : decode cX3_delayWith 29 = .ok (.idiv, 1) := by decide +kernel
theorem dX3_delayWith_30 : decode cX3_delayWith 30 = .ok (.ireturn, 1) := by decide +kernel
theorem dX3_stateWith_0 : decode cX3_stateWith 0 = .ok (.aload_n 0, 1) := by decide +kernel
theorem dX3_stateWith_1 : decode cX3_stateWith 1 = .ok (.iload_n 1, 1) := by decide +kernel
theorem dX3_stateWith_2 : decode cX3_stateWith 2 = .ok (.iload_n 2, 1) := by decide +kernel
theorem dX3_stateWith_3 : decode cX3_stateWith 3 = .ok (.aload_n 0, 1) := by decide +kernel
theorem dX3_stateWith_4 : decode cX3_stateWith 4 = .ok (.getfield 7, 3) := by decide +kernel
theorem dX3_stateWith_7 : decode cX3_stateWith 7 = .ok (.bipush 40, 2) := by decide +kernel
theorem dX3_stateWith_9 : decode cX3_stateWith 9 = .ok (.iaload, 1) := by decide +kernel
theorem dX3_stateWith_10 : decode cX3_stateWith 10 = .ok (.invokevirtual 43, 3) := by decide +kernel
theorem dX3_stateWith_13 : decode cX3_stateWith 13 = .ok (.istore_n 3, 1) := by decide +kernel
theorem dX3_stateWith_14 : decode cX3_stateWith 14 = .ok (.iload_n 3, 1) := by decide +kernel
theorem dX3_stateWith_15 : decode cX3_stateWith 15 = .ok (.aload_n 0, 1) := by decide +kernel
theorem dX3_stateWith_16 : decode cX3_stateWith 16 = .ok (.getfield 7, 3) := by decide +kernel
theorem dX3_stateWith_19 : decode cX3_stateWith 19 = .ok (.bipush 32, 2) := by decide +kernel
theorem dX3_stateWith_21 : decode cX3_stateWith 21 = .ok (.iaload, 1) := by decide +kernel
theorem dX3_stateWith_22 : decode cX3_stateWith 22 = .ok (.if_icmp .gt 7, 3) := by decide +kernel
theorem dX3_stateWith_25 : decode cX3_stateWith 25 = .ok (.iconst 0, 1) := by decide +kernel
theorem dX3_stateWith_26 : decode cX3_stateWith 26 = .ok (.goto 27, 3) := by decide +kernel
theorem dX3_stateWith_29 : decode cX3_stateWith 29 = .ok (.iload_n 3, 1) := by decide +kernel
theorem dX3_stateWith_30 : decode cX3_stateWith 30 = .ok (.aload_n 0, 1) := by decide +kernel
theorem dX3_stateWith_31 : decode cX3_stateWith 31 = .ok (.getfield 7, 3) := by decide +kernel
theorem dX3_stateWith_34 : decode cX3_stateWith 34 = .ok (.bipush 32, 2) := by decide +kernel
theorem dX3_stateWith_36 : decode cX3_stateWith 36 = .ok (.iaload, 1) := by decide +kernel
theorem dX3_stateWith_37 : decode cX3_stateWith 37 = .ok (.aload_n 0, 1) := by decide +kernel
theorem dX3_stateWith_38 : decode cX3_stateWith 38 = .ok (.getfield 7, 3) := by decide +kernel
theorem dX3_stateWith_41 : decode cX3_stateWith 41 = .ok (.bipush 33, 2) := by decide +kernel
theorem dX3_stateWith_43 : decode cX3_stateWith 43 = .ok (.iaload, 1) := by decide +kernel
theorem dX3_stateWith_44 : decode cX3_stateWith 44 = .ok (.iadd, 1) := by decide +kernel
theorem dX3_stateWith_45 : decode cX3_stateWith 45 = .ok (.if_icmp .gt 7, 3) := by decide +kernel
theorem dX3_stateWith_48 : decode cX3_stateWith 48 = .ok (.iconst 1, 1) := by decide +kernel
theorem dX3_stateWith_49 : decode cX3_stateWith 49 = .ok (.goto 4, 3) := by decide +kernel
theorem dX3_stateWith_52 : decode cX3_stateWith 52 = .ok (.iconst 2, 1) := by decide +kernel
theorem dX3_stateWith_53 : decode cX3_stateWith 53 = .ok (.ireturn, 1) := by decide +kernel
theorem dX3_worstOf_0 : decode cX3_worstOf 0 = .ok (.iconst 0, 1) := by decide +kernel
theorem dX3_worstOf_1 : decode cX3_worstOf 1 = .ok (.istore_n 2, 1) := by decide +kernel
theorem dX3_worstOf_2 : decode cX3_worstOf 2 = .ok (.iconst 0, 1) := by decide +kernel
theorem dX3_worstOf_3 : decode cX3_worstOf 3 = .ok (.istore_n 3, 1) := by decide +kernel
theorem dX3_worstOf_4 : decode cX3_worstOf 4 = .ok (.iload_n 3, 1) := by decide +kernel
theorem dX3_worstOf_5 : decode cX3_worstOf 5 = .ok (.aload_n 0, 1) := by decide +kernel
theorem dX3_worstOf_6 : decode cX3_worstOf 6 = .ok (.getfield 7, 3) := by decide +kernel
theorem dX3_worstOf_9 : decode cX3_worstOf 9 = .ok (.bipush 51, 2) := by decide +kernel
theorem dX3_worstOf_11 : decode cX3_worstOf 11 = .ok (.iaload, 1) := by decide +kernel
theorem dX3_worstOf_12 : decode cX3_worstOf 12 = .ok (.if_icmp .ge 48, 3) := by decide +kernel
theorem dX3_worstOf_15 : decode cX3_worstOf 15 = .ok (.iload_n 1, 1) := by decide +kernel
theorem dX3_worstOf_16 : decode cX3_worstOf 16 = .ok (.iload_n 3, 1) := by decide +kernel
theorem dX3_worstOf_17 : decode cX3_worstOf 17 = .ok (.invokestatic 47, 3) := by decide +kernel
theorem dX3_worstOf_20 : decode cX3_worstOf 20 = .ok (.ifCond .eq 18, 3) := by decide +kernel
theorem dX3_worstOf_23 : decode cX3_worstOf 23 = .ok (.aload_n 0, 1) := by decide +kernel
theorem dX3_worstOf_24 : decode cX3_worstOf 24 = .ok (.iload_n 3, 1) := by decide +kernel
theorem dX3_worstOf_25 : decode cX3_worstOf 25 = .ok (.aload_n 0, 1) := by decide +kernel
theorem dX3_worstOf_26 : decode cX3_worstOf 26 = .ok (.getfield 7, 3) := by decide +kernel
theorem dX3_worstOf_29 : decode cX3_worstOf 29 = .ok (.bipush 39, 2) := by decide +kernel
theorem dX3_worstOf_31 : decode cX3_worstOf 31 = .ok (.iaload, 1) := by decide +kernel
theorem dX3_worstOf_32 : decode cX3_worstOf 32 = .ok (.invokevirtual 51, 3) := by decide +kernel
theorem dX3_worstOf_35 : decode cX3_worstOf 35 = .ok (.goto 4, 3) := by decide +kernel
theorem dX3_worstOf_38 : decode cX3_worstOf 38 = .ok (.iconst 0, 1) := by decide +kernel
theorem dX3_worstOf_39 : decode cX3_worstOf 39 = .ok (.istore 4, 2) := by decide +kernel
theorem dX3_worstOf_41 : decode cX3_worstOf 41 = .ok (.iload 4, 2) := by decide +kernel
theorem dX3_worstOf_43 : decode cX3_worstOf 43 = .ok (.iload_n 2, 1) := by decide +kernel
theorem dX3_worstOf_44 : decode cX3_worstOf 44 = .ok (.if_icmp .le 8, 3) := by decide +kernel
theorem dX3_worstOf_47 : decode cX3_worstOf 47 = .ok (.iload 4, 2) := by decide +kernel
theorem dX3_worstOf_49 : decode cX3_worstOf 49 = .ok (.goto 4, 3) := by decide +kernel
theorem dX3_worstOf_52 : decode cX3_worstOf 52 = .ok (.iload_n 2, 1) := by decide +kernel
theorem dX3_worstOf_53 : decode cX3_worstOf 53 = .ok (.istore_n 2, 1) := by decide +kernel
theorem dX3_worstOf_54 : decode cX3_worstOf 54 = .ok (.iinc 3 1, 3) := by decide +kernel
theorem dX3_worstOf_57 : decode cX3_worstOf 57 = .ok (.goto (-53), 3) := by decide +kernel
theorem dX3_worstOf_60 : decode cX3_worstOf 60 = .ok (.iload_n 2, 1) := by decide +kernel
theorem dX3_worstOf_61 : decode cX3_worstOf 61 = .ok (.ireturn, 1) := by decide +kernel
theorem dX3_many_0 : decode cX3_many 0 = .ok (.iconst 0, 1) := by decide +kernel
theorem dX3_many_1 : decode cX3_many 1 = .ok (.istore_n 1, 1) := by decide +kernel
theorem dX3_many_2 : decode cX3_many 2 = .ok (.iload_n 0, 1) := by decide +kernel
theorem dX3_many_3 : decode cX3_many 3 = .ok (.istore_n 2, 1) := by decide +kernel
theorem dX3_many_4 : decode cX3_many 4 = .ok (.iload_n 2, 1) := by decide +kernel
theorem dX3_many_5 : decode cX3_many 5 = .ok (.ifCond .eq 15, 3) := by decide +kernel
theorem dX3_many_8 : decode cX3_many 8 = .ok (.iinc 1 1, 3) := by decide +kernel
theorem dX3_many_11 : decode cX3_many 11 = .ok (.iload_n 2, 1) := by decide +kernel
theorem dX3_many_12 : decode cX3_many 12 = .ok (.iload_n 2, 1) := by decide +kernel
theorem dX3_many_13 : decode cX3_many 13 = .ok (.iconst 1, 1) := by decide +kernel
theorem dX3_many_14 : decode cX3_many 14 = .ok (.isub, 1) := by decide +kernel
theorem dX3_many_15 : decode cX3_many 15 = .ok (.iand, 1) := by decide +kernel
theorem dX3_many_16 : decode cX3_many 16 = .ok (.istore_n 2, 1) := by decide +kernel
theorem dX3_many_17 : decode cX3_many 17 = .ok (.goto (-13), 3) := by decide +kernel
theorem dX3_many_20 : decode cX3_many 20 = .ok (.iload_n 1, 1) := by decide +kernel
theorem dX3_many_21 : decode cX3_many 21 = .ok (.ireturn, 1) := by decide +kernel
theorem dX3_spends_0 : decode cX3_spends 0 = .ok (.aload_n 0, 1) := by decide +kernel
theorem dX3_spends_1 : decode cX3_spends 1 = .ok (.getfield 7, 3) := by decide +kernel
theorem dX3_spends_4 : decode cX3_spends 4 = .ok (.bipush 54, 2) := by decide +kernel
theorem dX3_spends_6 : decode cX3_spends 6 = .ok (.iaload, 1) := by decide +kernel
theorem dX3_spends_7 : decode cX3_spends 7 = .ok (.aload_n 0, 1) := by decide +kernel
theorem dX3_spends_8 : decode cX3_spends 8 = .ok (.getfield 7, 3) := by decide +kernel
theorem dX3_spends_11 : decode cX3_spends 11 = .ok (.bipush 39, 2) := by decide +kernel
theorem dX3_spends_13 : decode cX3_spends 13 = .ok (.iaload, 1) := by decide +kernel
theorem dX3_spends_14 : decode cX3_spends 14 = .ok (.aload_n 0, 1) := by decide +kernel
theorem dX3_spends_15 : decode cX3_spends 15 = .ok (.getfield 7, 3) := by decide +kernel
theorem dX3_spends_18 : decode cX3_spends 18 = .ok (.bipush 39, 2) := by decide +kernel
theorem dX3_spends_20 : decode cX3_spends 20 = .ok (.iaload, 1) := by decide +kernel
theorem dX3_spends_21 : decode cX3_spends 21 = .ok (.imul, 1) := by decide +kernel
theorem dX3_spends_22 : decode cX3_spends 22 = .ok (.sipush 10000, 3) := by decide +kernel
theorem dX3_spends_25 : decode cX3_spends 25 = .ok (.idiv, 1) := by decide +kernel
theorem dX3_spends_26 : decode cX3_spends 26 = .ok (.iadd, 1) := by decide +kernel
theorem dX3_spends_27 : decode cX3_spends 27 = .ok (.istore_n 2, 1) := by decide +kernel
theorem dX3_spends_28 : decode cX3_spends 28 = .ok (.aload_n 0, 1) := by decide +kernel
theorem dX3_spends_29 : decode cX3_spends 29 = .ok (.getfield 7, 3) := by decide +kernel
theorem dX3_spends_32 : decode cX3_spends 32 = .ok (.bipush 46, 2) := by decide +kernel
end
section
theorem dX3_spends_34 : decode cX3_spends 34 = .ok (.dup2, 1) := by decide +kernel
theorem dX3_spends_35 : decode cX3_spends 35 = .ok (.iaload, 1) := by decide +kernel
theorem dX3_spends_36 : decode cX3_spends 36 = .ok (.iload_n 2, 1) := by decide +kernel
theorem dX3_spends_37 : decode cX3_spends 37 = .ok (.sipush 1000, 3) := by decide +kernel
theorem dX3_spends_40 : decode cX3_spends 40 = .ok (.idiv, 1) := by decide +kernel
theorem dX3_spends_41 : decode cX3_spends 41 = .ok (.iadd, 1) := by decide +kernel
theorem dX3_spends_42 : decode cX3_spends 42 = .ok (.iastore, 1) := by decide +kernel
theorem dX3_spends_43 : decode cX3_spends 43 = .ok (.aload_n 0, 1) := by decide +kernel
theorem dX3_spends_44 : decode cX3_spends 44 = .ok (.getfield 7, 3) := by decide +kernel
theorem dX3_spends_47 : decode cX3_spends 47 = .ok (.bipush 54, 2) := by decide +kernel
theorem dX3_spends_49 : decode cX3_spends 49 = .ok (.iload_n 2, 1) := by decide +kernel
theorem dX3_spends_50 : decode cX3_spends 50 = .ok (.sipush 1000, 3) := by decide +kernel
theorem dX3_spends_53 : decode cX3_spends 53 = .ok (.irem, 1) := by decide +kernel
theorem dX3_spends_54 : decode cX3_spends 54 = .ok (.iastore, 1) := by decide +kernel
theorem dX3_spends_55 : decode cX3_spends 55 = .ok (.aload_n 0, 1) := by decide +kernel
theorem dX3_spends_56 : decode cX3_spends 56 = .ok (.getfield 7, 3) := by decide +kernel
theorem dX3_spends_59 : decode cX3_spends 59 = .ok (.bipush 42, 2) := by decide +kernel
theorem dX3_spends_61 : decode cX3_spends 61 = .ok (.dup2, 1) := by decide +kernel
theorem dX3_spends_62 : decode cX3_spends 62 = .ok (.iaload, 1) := by decide +kernel
theorem dX3_spends_63 : decode cX3_spends 63 = .ok (.iconst 1, 1) := by decide +kernel
theorem dX3_spends_64 : decode cX3_spends 64 = .ok (.iadd, 1) := by decide +kernel
theorem dX3_spends_65 : decode cX3_spends 65 = .ok (.iastore, 1) := by decide +kernel
theorem dX3_spends_66 : decode cX3_spends 66 = .ok (.aload_n 0, 1) := by decide +kernel
theorem dX3_spends_67 : decode cX3_spends 67 = .ok (.getfield 7, 3) := by decide +kernel
theorem dX3_spends_70 : decode cX3_spends 70 = .ok (.bipush 47, 2) := by decide +kernel
theorem dX3_spends_72 : decode cX3_spends 72 = .ok (.dup2, 1) := by decide +kernel
theorem dX3_spends_73 : decode cX3_spends 73 = .ok (.iaload, 1) := by decide +kernel
theorem dX3_spends_74 : decode cX3_spends 74 = .ok (.aload_n 0, 1) := by decide +kernel
theorem dX3_spends_75 : decode cX3_spends 75 = .ok (.getfield 7, 3) := by decide +kernel
theorem dX3_spends_78 : decode cX3_spends 78 = .ok (.bipush 41, 2) := by decide +kernel
theorem dX3_spends_80 : decode cX3_spends 80 = .ok (.iaload, 1) := by decide +kernel
theorem dX3_spends_81 : decode cX3_spends 81 = .ok (.iadd, 1) := by decide +kernel
theorem dX3_spends_82 : decode cX3_spends 82 = .ok (.iastore, 1) := by decide +kernel
theorem dX3_spends_83 : decode cX3_spends 83 = .ok (.bipush 20, 2) := by decide +kernel
theorem dX3_spends_85 : decode cX3_spends 85 = .ok (.iload_n 1, 1) := by decide +kernel
theorem dX3_spends_86 : decode cX3_spends 86 = .ok (.aload_n 0, 1) := by decide +kernel
theorem dX3_spends_87 : decode cX3_spends 87 = .ok (.getfield 7, 3) := by decide +kernel
theorem dX3_spends_90 : decode cX3_spends 90 = .ok (.bipush 39, 2) := by decide +kernel
theorem dX3_spends_92 : decode cX3_spends 92 = .ok (.iaload, 1) := by decide +kernel
theorem dX3_spends_93 : decode cX3_spends 93 = .ok (.imul, 1) := by decide +kernel
theorem dX3_spends_94 : decode cX3_spends 94 = .ok (.bipush 100, 2) := by decide +kernel
theorem dX3_spends_96 : decode cX3_spends 96 = .ok (.idiv, 1) := by decide +kernel
theorem dX3_spends_97 : decode cX3_spends 97 = .ok (.iadd, 1) := by decide +kernel
theorem dX3_spends_98 : decode cX3_spends 98 = .ok (.istore_n 3, 1) := by decide +kernel
theorem dX3_spends_99 : decode cX3_spends 99 = .ok (.iload_n 3, 1) := by decide +kernel
theorem dX3_spends_100 : decode cX3_spends 100 = .ok (.bipush 120, 2) := by decide +kernel
theorem dX3_spends_102 : decode cX3_spends 102 = .ok (.if_icmp .le 8, 3) := by decide +kernel
theorem dX3_spends_105 : decode cX3_spends 105 = .ok (.bipush 120, 2) := by decide +kernel
theorem dX3_spends_107 : decode cX3_spends 107 = .ok (.goto 4, 3) := by decide +kernel
theorem dX3_spends_110 : decode cX3_spends 110 = .ok (.iload_n 3, 1) := by decide +kernel
theorem dX3_spends_111 : decode cX3_spends 111 = .ok (.istore_n 3, 1) := by decide +kernel
theorem dX3_spends_112 : decode cX3_spends 112 = .ok (.aload_n 0, 1) := by decide +kernel
theorem dX3_spends_113 : decode cX3_spends 113 = .ok (.getfield 7, 3) := by decide +kernel
theorem dX3_spends_116 : decode cX3_spends 116 = .ok (.bipush 42, 2) := by decide +kernel
theorem dX3_spends_118 : decode cX3_spends 118 = .ok (.iaload, 1) := by decide +kernel
theorem dX3_spends_119 : decode cX3_spends 119 = .ok (.iconst 4, 1) := by decide +kernel
theorem dX3_spends_120 : decode cX3_spends 120 = .ok (.irem, 1) := by decide +kernel
theorem dX3_spends_121 : decode cX3_spends 121 = .ok (.ifCond .ne 44, 3) := by decide +kernel
theorem dX3_spends_124 : decode cX3_spends 124 = .ok (.aload_n 0, 1) := by decide +kernel
theorem dX3_spends_125 : decode cX3_spends 125 = .ok (.getfield 7, 3) := by decide +kernel
theorem dX3_spends_128 : decode cX3_spends 128 = .ok (.bipush 40, 2) := by decide +kernel
theorem dX3_spends_130 : decode cX3_spends 130 = .ok (.dup2, 1) := by decide +kernel
theorem dX3_spends_131 : decode cX3_spends 131 = .ok (.iaload, 1) := by decide +kernel
theorem dX3_spends_132 : decode cX3_spends 132 = .ok (.aload_n 0, 1) := by decide +kernel
theorem dX3_spends_133 : decode cX3_spends 133 = .ok (.getfield 7, 3) := by decide +kernel
theorem dX3_spends_136 : decode cX3_spends 136 = .ok (.bipush 40, 2) := by decide +kernel
theorem dX3_spends_138 : decode cX3_spends 138 = .ok (.iaload, 1) := by decide +kernel
theorem dX3_spends_139 : decode cX3_spends 139 = .ok (.iload_n 3, 1) := by decide +kernel
theorem dX3_spends_140 : decode cX3_spends 140 = .ok (.if_icmp .ge 7, 3) := by decide +kernel
theorem dX3_spends_143 : decode cX3_spends 143 = .ok (.iconst 1, 1) := by decide +kernel
theorem dX3_spends_144 : decode cX3_spends 144 = .ok (.goto 19, 3) := by decide +kernel
theorem dX3_spends_147 : decode cX3_spends 147 = .ok (.aload_n 0, 1) := by decide +kernel
theorem dX3_spends_148 : decode cX3_spends 148 = .ok (.getfield 7, 3) := by decide +kernel
theorem dX3_spends_151 : decode cX3_spends 151 = .ok (.bipush 40, 2) := by decide +kernel
theorem dX3_spends_153 : decode cX3_spends 153 = .ok (.iaload, 1) := by decide +kernel
theorem dX3_spends_154 : decode cX3_spends 154 = .ok (.iload_n 3, 1) := by decide +kernel
theorem dX3_spends_155 : decode cX3_spends 155 = .ok (.if_icmp .le 7, 3) := by decide +kernel
theorem dX3_spends_158 : decode cX3_spends 158 = .ok (.iconst (-1), 1) := by decide +kernel
theorem dX3_spends_159 : decode cX3_spends 159 = .ok (.goto 4, 3) := by decide +kernel
theorem dX3_spends_162 : decode cX3_spends 162 = .ok (.iconst 0, 1) := by decide +kernel
theorem dX3_spends_163 : decode cX3_spends 163 = .ok (.iadd, 1) := by decide +kernel
theorem dX3_spends_164 : decode cX3_spends 164 = .ok (.iastore, 1) := by decide +kernel
theorem dX3_spends_165 : decode cX3_spends 165 = .ok (.return_, 1) := by decide +kernel
theorem dX3_looks_0 : decode cX3_looks 0 = .ok (.aload_n 0, 1) := by decide +kernel
theorem dX3_looks_1 : decode cX3_looks 1 = .ok (.getfield 7, 3) := by decide +kernel
theorem dX3_looks_4 : decode cX3_looks 4 = .ok (.bipush 48, 2) := by decide +kernel
theorem dX3_looks_6 : decode cX3_looks 6 = .ok (.iaload, 1) := by decide +kernel
theorem dX3_looks_7 : decode cX3_looks 7 = .ok (.aload_n 0, 1) := by decide +kernel
theorem dX3_looks_8 : decode cX3_looks 8 = .ok (.getfield 7, 3) := by decide +kernel
theorem dX3_looks_11 : decode cX3_looks 11 = .ok (.bipush 36, 2) := by decide +kernel
theorem dX3_looks_13 : decode cX3_looks 13 = .ok (.iaload, 1) := by decide +kernel
theorem dX3_looks_14 : decode cX3_looks 14 = .ok (.isub, 1) := by decide +kernel
theorem dX3_looks_15 : decode cX3_looks 15 = .ok (.istore_n 1, 1) := by decide +kernel
theorem dX3_looks_16 : decode cX3_looks 16 = .ok (.iload_n 1, 1) := by decide +kernel
theorem dX3_looks_17 : decode cX3_looks 17 = .ok (.ifCond .ge 34, 3) := by decide +kernel
theorem dX3_looks_20 : decode cX3_looks 20 = .ok (.aload_n 0, 1) := by decide +kernel
theorem dX3_looks_21 : decode cX3_looks 21 = .ok (.getfield 7, 3) := by decide +kernel
theorem dX3_looks_24 : decode cX3_looks 24 = .ok (.bipush 39, 2) := by decide +kernel
theorem dX3_looks_26 : decode cX3_looks 26 = .ok (.dup2, 1) := by decide +kernel
theorem dX3_looks_27 : decode cX3_looks 27 = .ok (.iaload, 1) := by decide +kernel
theorem dX3_looks_28 : decode cX3_looks 28 = .ok (.aload_n 0, 1) := by decide +kernel
theorem dX3_looks_29 : decode cX3_looks 29 = .ok (.getfield 7, 3) := by decide +kernel
theorem dX3_looks_32 : decode cX3_looks 32 = .ok (.bipush 37, 2) := by decide +kernel
theorem dX3_looks_34 : decode cX3_looks 34 = .ok (.iaload, 1) := by decide +kernel
theorem dX3_looks_35 : decode cX3_looks 35 = .ok (.isub, 1) := by decide +kernel
theorem dX3_looks_36 : decode cX3_looks 36 = .ok (.iastore, 1) := by decide +kernel
theorem dX3_looks_37 : decode cX3_looks 37 = .ok (.aload_n 0, 1) := by decide +kernel
theorem dX3_looks_38 : decode cX3_looks 38 = .ok (.getfield 7, 3) := by decide +kernel
theorem dX3_looks_41 : decode cX3_looks 41 = .ok (.bipush 53, 2) := by decide +kernel
theorem dX3_looks_43 : decode cX3_looks 43 = .ok (.dup2, 1) := by decide +kernel
theorem dX3_looks_44 : decode cX3_looks 44 = .ok (.iaload, 1) := by decide +kernel
theorem dX3_looks_45 : decode cX3_looks 45 = .ok (.iconst 1, 1) := by decide +kernel
theorem dX3_looks_46 : decode cX3_looks 46 = .ok (.iadd, 1) := by decide +kernel
theorem dX3_looks_47 : decode cX3_looks 47 = .ok (.iastore, 1) := by decide +kernel
theorem dX3_looks_48 : decode cX3_looks 48 = .ok (.goto 60, 3) := by decide +kernel
theorem dX3_looks_51 : decode cX3_looks 51 = .ok (.iload_n 1, 1) := by decide +kernel
theorem dX3_looks_52 : decode cX3_looks 52 = .ok (.ifCond .le 56, 3) := by decide +kernel
theorem dX3_looks_55 : decode cX3_looks 55 = .ok (.iload_n 1, 1) := by decide +kernel
theorem dX3_looks_56 : decode cX3_looks 56 = .ok (.aload_n 0, 1) := by decide +kernel
theorem dX3_looks_57 : decode cX3_looks 57 = .ok (.getfield 7, 3) := by decide +kernel
theorem dX3_looks_60 : decode cX3_looks 60 = .ok (.bipush 38, 2) := by decide +kernel
theorem dX3_looks_62 : decode cX3_looks 62 = .ok (.iaload, 1) := by decide +kernel
theorem dX3_looks_63 : decode cX3_looks 63 = .ok (.if_icmp .ge 7, 3) := by decide +kernel
theorem dX3_looks_66 : decode cX3_looks 66 = .ok (.iload_n 1, 1) := by decide +kernel
theorem dX3_looks_67 : decode cX3_looks 67 = .ok (.goto 10, 3) := by decide +kernel
theorem dX3_looks_70 : decode cX3_looks 70 = .ok (.aload_n 0, 1) := by decide +kernel
theorem dX3_looks_71 : decode cX3_looks 71 = .ok (.getfield 7, 3) := by decide +kernel
theorem dX3_looks_74 : decode cX3_looks 74 = .ok (.bipush 38, 2) := by decide +kernel
theorem dX3_looks_76 : decode cX3_looks 76 = .ok (.iaload, 1) := by decide +kernel
theorem dX3_looks_77 : decode cX3_looks 77 = .ok (.istore_n 2, 1) := by decide +kernel
theorem dX3_looks_78 : decode cX3_looks 78 = .ok (.aload_n 0, 1) := by decide +kernel
theorem dX3_looks_79 : decode cX3_looks 79 = .ok (.getfield 7, 3) := by decide +kernel
theorem dX3_looks_82 : decode cX3_looks 82 = .ok (.bipush 39, 2) := by decide +kernel
theorem dX3_looks_84 : decode cX3_looks 84 = .ok (.dup2, 1) := by decide +kernel
theorem dX3_looks_85 : decode cX3_looks 85 = .ok (.iaload, 1) := by decide +kernel
theorem dX3_looks_86 : decode cX3_looks 86 = .ok (.iload_n 2, 1) := by decide +kernel
theorem dX3_looks_87 : decode cX3_looks 87 = .ok (.aload_n 0, 1) := by decide +kernel
theorem dX3_looks_88 : decode cX3_looks 88 = .ok (.getfield 7, 3) := by decide +kernel
theorem dX3_looks_91 : decode cX3_looks 91 = .ok (.bipush 37, 2) := by decide +kernel
theorem dX3_looks_93 : decode cX3_looks 93 = .ok (.iaload, 1) := by decide +kernel
theorem dX3_looks_94 : decode cX3_looks 94 = .ok (.imul, 1) := by decide +kernel
theorem dX3_looks_95 : decode cX3_looks 95 = .ok (.iadd, 1) := by decide +kernel
theorem dX3_looks_96 : decode cX3_looks 96 = .ok (.iastore, 1) := by decide +kernel
theorem dX3_looks_97 : decode cX3_looks 97 = .ok (.aload_n 0, 1) := by decide +kernel
theorem dX3_looks_98 : decode cX3_looks 98 = .ok (.getfield 7, 3) := by decide +kernel
theorem dX3_looks_101 : decode cX3_looks 101 = .ok (.bipush 52, 2) := by decide +kernel
theorem dX3_looks_103 : decode cX3_looks 103 = .ok (.dup2, 1) := by decide +kernel
theorem dX3_looks_104 : decode cX3_looks 104 = .ok (.iaload, 1) := by decide +kernel
theorem dX3_looks_105 : decode cX3_looks 105 = .ok (.iload_n 2, 1) := by decide +kernel
theorem dX3_looks_106 : decode cX3_looks 106 = .ok (.iadd, 1) := by decide +kernel
theorem dX3_looks_107 : decode cX3_looks 107 = .ok (.iastore, 1) := by decide +kernel
theorem dX3_looks_108 : decode cX3_looks 108 = .ok (.aload_n 0, 1) := by decide +kernel
theorem dX3_looks_109 : decode cX3_looks 109 = .ok (.getfield 7, 3) := by decide +kernel
theorem dX3_looks_112 : decode cX3_looks 112 = .ok (.bipush 39, 2) := by decide +kernel
theorem dX3_looks_114 : decode cX3_looks 114 = .ok (.aload_n 0, 1) := by decide +kernel
theorem dX3_looks_115 : decode cX3_looks 115 = .ok (.getfield 7, 3) := by decide +kernel
theorem dX3_looks_118 : decode cX3_looks 118 = .ok (.bipush 39, 2) := by decide +kernel
theorem dX3_looks_120 : decode cX3_looks 120 = .ok (.iaload, 1) := by decide +kernel
theorem dX3_looks_121 : decode cX3_looks 121 = .ok (.sipush 500, 3) := by decide +kernel
theorem dX3_looks_124 : decode cX3_looks 124 = .ok (.if_icmp .ge 9, 3) := by decide +kernel
theorem dX3_looks_127 : decode cX3_looks 127 = .ok (.sipush 500, 3) := by decide +kernel
theorem dX3_looks_130 : decode cX3_looks 130 = .ok (.goto 29, 3) := by decide +kernel
theorem dX3_looks_133 : decode cX3_looks 133 = .ok (.aload_n 0, 1) := by decide +kernel
theorem dX3_looks_134 : decode cX3_looks 134 = .ok (.getfield 7, 3) := by decide +kernel
theorem dX3_looks_137 : decode cX3_looks 137 = .ok (.bipush 39, 2) := by decide +kernel
theorem dX3_looks_139 : decode cX3_looks 139 = .ok (.iaload, 1) := by decide +kernel
theorem dX3_looks_140 : decode cX3_looks 140 = .ok (.sipush 1200, 3) := by decide +kernel
theorem dX3_looks_143 : decode cX3_looks 143 = .ok (.if_icmp .le 9, 3) := by decide +kernel
theorem dX3_looks_146 : decode cX3_looks 146 = .ok (.sipush 1200, 3) := by decide +kernel
theorem dX3_looks_149 : decode cX3_looks 149 = .ok (.goto 10, 3) := by decide +kernel
theorem dX3_looks_152 : decode cX3_looks 152 = .ok (.aload_n 0, 1) := by decide +kernel
theorem dX3_looks_153 : decode cX3_looks 153 = .ok (.getfield 7, 3) := by decide +kernel
theorem dX3_looks_156 : decode cX3_looks 156 = .ok (.bipush 39, 2) := by decide +kernel
theorem dX3_looks_158 : decode cX3_looks 158 = .ok (.iaload, 1) := by decide +kernel
theorem dX3_looks_159 : decode cX3_looks 159 = .ok (.iastore, 1) := by decide +kernel
theorem dX3_looks_160 : decode cX3_looks 160 = .ok (.aload_n 0, 1) := by decide +kernel
theorem dX3_looks_161 : decode cX3_looks 161 = .ok (.getfield 7, 3) := by decide +kernel
theorem dX3_looks_164 : decode cX3_looks 164 = .ok (.bipush 47, 2) := by decide +kernel
theorem dX3_looks_166 : decode cX3_looks 166 = .ok (.iconst 0, 1) := by decide +kernel
theorem dX3_looks_167 : decode cX3_looks 167 = .ok (.iastore, 1) := by decide +kernel
theorem dX3_looks_168 : decode cX3_looks 168 = .ok (.aload_n 0, 1) := by decide +kernel
theorem dX3_looks_169 : decode cX3_looks 169 = .ok (.getfield 7, 3) := by decide +kernel
theorem dX3_looks_172 : decode cX3_looks 172 = .ok (.bipush 48, 2) := by decide +kernel
theorem dX3_looks_174 : decode cX3_looks 174 = .ok (.iconst 0, 1) := by decide +kernel
theorem dX3_looks_175 : decode cX3_looks 175 = .ok (.iastore, 1) := by decide +kernel
theorem dX3_looks_176 : decode cX3_looks 176 = .ok (.return_, 1) := by decide +kernel
theorem dX3_cycles_0 : decode cX3_cycles 0 = .ok (.aload_n 0, 1) := by decide +kernel
theorem dX3_cycles_1 : decode cX3_cycles 1 = .ok (.getfield 7, 3) := by decide +kernel
theorem dX3_cycles_4 : decode cX3_cycles 4 = .ok (.bipush 16, 2) := by decide +kernel
theorem dX3_cycles_6 : decode cX3_cycles 6 = .ok (.aload_n 0, 1) := by decide +kernel
theorem dX3_cycles_7 : decode cX3_cycles 7 = .ok (.getfield 7, 3) := by decide +kernel
theorem dX3_cycles_10 : decode cX3_cycles 10 = .ok (.bipush 50, 2) := by decide +kernel
theorem dX3_cycles_12 : decode cX3_cycles 12 = .ok (.iaload, 1) := by decide +kernel
theorem dX3_cycles_13 : decode cX3_cycles 13 = .ok (.iadd, 1) := by decide +kernel
theorem dX3_cycles_14 : decode cX3_cycles 14 = .ok (.iaload, 1) := by decide +kernel
theorem dX3_cycles_15 : decode cX3_cycles 15 = .ok (.istore_n 1, 1) := by decide +kernel
theorem dX3_cycles_16 : decode cX3_cycles 16 = .ok (.aload_n 0, 1) := by decide +kernel
theorem dX3_cycles_17 : decode cX3_cycles 17 = .ok (.iload_n 1, 1) := by decide +kernel
theorem dX3_cycles_18 : decode cX3_cycles 18 = .ok (.invokevirtual 55, 3) := by decide +kernel
theorem dX3_cycles_21 : decode cX3_cycles 21 = .ok (.istore_n 2, 1) := by decide +kernel
theorem dX3_cycles_22 : decode cX3_cycles 22 = .ok (.aload_n 0, 1) := by decide +kernel
theorem dX3_cycles_23 : decode cX3_cycles 23 = .ok (.getfield 7, 3) := by decide +kernel
theorem dX3_cycles_26 : decode cX3_cycles 26 = .ok (.bipush 50, 2) := by decide +kernel
theorem dX3_cycles_28 : decode cX3_cycles 28 = .ok (.aload_n 0, 1) := by decide +kernel
theorem dX3_cycles_29 : decode cX3_cycles 29 = .ok (.getfield 7, 3) := by decide +kernel
theorem dX3_cycles_32 : decode cX3_cycles 32 = .ok (.bipush 50, 2) := by decide +kernel
theorem dX3_cycles_34 : decode cX3_cycles 34 = .ok (.iaload, 1) := by decide +kernel
theorem dX3_cycles_35 : decode cX3_cycles 35 = .ok (.iconst 1, 1) := by decide +kernel
theorem dX3_cycles_36 : decode cX3_cycles 36 = .ok (.iadd, 1) := by decide +kernel
theorem dX3_cycles_37 : decode cX3_cycles 37 = .ok (.aload_n 0, 1) := by decide +kernel
theorem dX3_cycles_38 : decode cX3_cycles 38 = .ok (.getfield 7, 3) := by decide +kernel
theorem dX3_cycles_41 : decode cX3_cycles 41 = .ok (.bipush 49, 2) := by decide +kernel
theorem dX3_cycles_43 : decode cX3_cycles 43 = .ok (.iaload, 1) := by decide +kernel
theorem dX3_cycles_44 : decode cX3_cycles 44 = .ok (.irem, 1) := by decide +kernel
theorem dX3_cycles_45 : decode cX3_cycles 45 = .ok (.iastore, 1) := by decide +kernel
theorem dX3_cycles_46 : decode cX3_cycles 46 = .ok (.iconst 0, 1) := by decide +kernel
theorem dX3_cycles_47 : decode cX3_cycles 47 = .ok (.istore_n 3, 1) := by decide +kernel
theorem dX3_cycles_48 : decode cX3_cycles 48 = .ok (.iload_n 3, 1) := by decide +kernel
theorem dX3_cycles_49 : decode cX3_cycles 49 = .ok (.aload_n 0, 1) := by decide +kernel
theorem dX3_cycles_50 : decode cX3_cycles 50 = .ok (.getfield 7, 3) := by decide +kernel
theorem dX3_cycles_53 : decode cX3_cycles 53 = .ok (.bipush 51, 2) := by decide +kernel
theorem dX3_cycles_55 : decode cX3_cycles 55 = .ok (.iaload, 1) := by decide +kernel
theorem dX3_cycles_56 : decode cX3_cycles 56 = .ok (.if_icmp .ge 34, 3) := by decide +kernel
theorem dX3_cycles_59 : decode cX3_cycles 59 = .ok (.aload_n 0, 1) := by decide +kernel
theorem dX3_cycles_60 : decode cX3_cycles 60 = .ok (.getfield 7, 3) := by decide +kernel
theorem dX3_cycles_63 : decode cX3_cycles 63 = .ok (.bipush 8, 2) := by decide +kernel
theorem dX3_cycles_65 : decode cX3_cycles 65 = .ok (.iload_n 3, 1) := by decide +kernel
theorem dX3_cycles_66 : decode cX3_cycles 66 = .ok (.iadd, 1) := by decide +kernel
theorem dX3_cycles_67 : decode cX3_cycles 67 = .ok (.dup2, 1) := by decide +kernel
theorem dX3_cycles_68 : decode cX3_cycles 68 = .ok (.iaload, 1) := by decide +kernel
theorem dX3_cycles_69 : decode cX3_cycles 69 = .ok (.iload_n 1, 1) := by decide +kernel
theorem dX3_cycles_70 : decode cX3_cycles 70 = .ok (.iload_n 3, 1) := by decide +kernel
theorem dX3_cycles_71 : decode cX3_cycles 71 = .ok (.invokestatic 47, 3) := by decide +kernel
theorem dX3_cycles_74 : decode cX3_cycles 74 = .ok (.ifCond .eq 7, 3) := by decide +kernel
theorem dX3_cycles_77 : decode cX3_cycles 77 = .ok (.iconst 1, 1) := by decide +kernel
theorem dX3_cycles_78 : decode cX3_cycles 78 = .ok (.goto 4, 3) := by decide +kernel
theorem dX3_cycles_81 : decode cX3_cycles 81 = .ok (.iconst 0, 1) := by decide +kernel
theorem dX3_cycles_82 : decode cX3_cycles 82 = .ok (.iadd, 1) := by decide +kernel
theorem dX3_cycles_83 : decode cX3_cycles 83 = .ok (.iastore, 1) := by decide +kernel
theorem dX3_cycles_84 : decode cX3_cycles 84 = .ok (.iinc 3 1, 3) := by decide +kernel
theorem dX3_cycles_87 : decode cX3_cycles 87 = .ok (.goto (-39), 3) := by decide +kernel
theorem dX3_cycles_90 : decode cX3_cycles 90 = .ok (.aload_n 0, 1) := by decide +kernel
theorem dX3_cycles_91 : decode cX3_cycles 91 = .ok (.iload_n 1, 1) := by decide +kernel
theorem dX3_cycles_92 : decode cX3_cycles 92 = .ok (.invokestatic 59, 3) := by decide +kernel
theorem dX3_cycles_95 : decode cX3_cycles 95 = .ok (.invokevirtual 62, 3) := by decide +kernel
theorem dX3_cycles_98 : decode cX3_cycles 98 = .ok (.iload_n 2, 1) := by decide +kernel
theorem dX3_cycles_99 : decode cX3_cycles 99 = .ok (.iconst 2, 1) := by decide +kernel
theorem dX3_cycles_100 : decode cX3_cycles 100 = .ok (.if_icmp .ne 17, 3) := by decide +kernel
theorem dX3_cycles_103 : decode cX3_cycles 103 = .ok (.aload_n 0, 1) := by decide +kernel
theorem dX3_cycles_104 : decode cX3_cycles 104 = .ok (.getfield 7, 3) := by decide +kernel
theorem dX3_cycles_107 : decode cX3_cycles 107 = .ok (.bipush 45, 2) := by decide +kernel
theorem dX3_cycles_109 : decode cX3_cycles 109 = .ok (.dup2, 1) := by decide +kernel
theorem dX3_cycles_110 : decode cX3_cycles 110 = .ok (.iaload, 1) := by decide +kernel
theorem dX3_cycles_111 : decode cX3_cycles 111 = .ok (.iconst 1, 1) := by decide +kernel
theorem dX3_cycles_112 : decode cX3_cycles 112 = .ok (.iadd, 1) := by decide +kernel
theorem dX3_cycles_113 : decode cX3_cycles 113 = .ok (.iastore, 1) := by decide +kernel
theorem dX3_cycles_114 : decode cX3_cycles 114 = .ok (.goto 14, 3) := by decide +kernel
theorem dX3_cycles_117 : decode cX3_cycles 117 = .ok (.aload_n 0, 1) := by decide +kernel
theorem dX3_cycles_118 : decode cX3_cycles 118 = .ok (.getfield 7, 3) := by decide +kernel
theorem dX3_cycles_121 : decode cX3_cycles 121 = .ok (.bipush 43, 2) := by decide +kernel
theorem dX3_cycles_123 : decode cX3_cycles 123 = .ok (.dup2, 1) := by decide +kernel
theorem dX3_cycles_124 : decode cX3_cycles 124 = .ok (.iaload, 1) := by decide +kernel
theorem dX3_cycles_125 : decode cX3_cycles 125 = .ok (.iconst 1, 1) := by decide +kernel
theorem dX3_cycles_126 : decode cX3_cycles 126 = .ok (.iadd, 1) := by decide +kernel
theorem dX3_cycles_127 : decode cX3_cycles 127 = .ok (.iastore, 1) := by decide +kernel
theorem dX3_cycles_128 : decode cX3_cycles 128 = .ok (.iload_n 2, 1) := by decide +kernel
theorem dX3_cycles_129 : decode cX3_cycles 129 = .ok (.iconst 1, 1) := by decide +kernel
theorem dX3_cycles_130 : decode cX3_cycles 130 = .ok (.if_icmp .ne 55, 3) := by decide +kernel
theorem dX3_cycles_133 : decode cX3_cycles 133 = .ok (.aload_n 0, 1) := by decide +kernel
theorem dX3_cycles_134 : decode cX3_cycles 134 = .ok (.getfield 7, 3) := by decide +kernel
theorem dX3_cycles_137 : decode cX3_cycles 137 = .ok (.bipush 44, 2) := by decide +kernel
theorem dX3_cycles_139 : decode cX3_cycles 139 = .ok (.dup2, 1) := by decide +kernel
theorem dX3_cycles_140 : decode cX3_cycles 140 = .ok (.iaload, 1) := by decide +kernel
theorem dX3_cycles_141 : decode cX3_cycles 141 = .ok (.iconst 1, 1) := by decide +kernel
theorem dX3_cycles_142 : decode cX3_cycles 142 = .ok (.iadd, 1) := by decide +kernel
theorem dX3_cycles_143 : decode cX3_cycles 143 = .ok (.iastore, 1) := by decide +kernel
theorem dX3_cycles_144 : decode cX3_cycles 144 = .ok (.aload_n 0, 1) := by decide +kernel
theorem dX3_cycles_145 : decode cX3_cycles 145 = .ok (.getfield 7, 3) := by decide +kernel
theorem dX3_cycles_148 : decode cX3_cycles 148 = .ok (.bipush 48, 2) := by decide +kernel
theorem dX3_cycles_150 : decode cX3_cycles 150 = .ok (.dup2, 1) := by decide +kernel
theorem dX3_cycles_151 : decode cX3_cycles 151 = .ok (.iaload, 1) := by decide +kernel
theorem dX3_cycles_152 : decode cX3_cycles 152 = .ok (.aload_n 0, 1) := by decide +kernel
theorem dX3_cycles_153 : decode cX3_cycles 153 = .ok (.getfield 7, 3) := by decide +kernel
theorem dX3_cycles_156 : decode cX3_cycles 156 = .ok (.bipush 41, 2) := by decide +kernel
theorem dX3_cycles_158 : decode cX3_cycles 158 = .ok (.iaload, 1) := by decide +kernel
theorem dX3_cycles_159 : decode cX3_cycles 159 = .ok (.iadd, 1) := by decide +kernel
theorem dX3_cycles_160 : decode cX3_cycles 160 = .ok (.iastore, 1) := by decide +kernel
theorem dX3_cycles_161 : decode cX3_cycles 161 = .ok (.iconst 0, 1) := by decide +kernel
theorem dX3_cycles_162 : decode cX3_cycles 162 = .ok (.istore_n 3, 1) := by decide +kernel
theorem dX3_cycles_163 : decode cX3_cycles 163 = .ok (.iload_n 3, 1) := by decide +kernel
theorem dX3_cycles_164 : decode cX3_cycles 164 = .ok (.aload_n 0, 1) := by decide +kernel
theorem dX3_cycles_165 : decode cX3_cycles 165 = .ok (.getfield 7, 3) := by decide +kernel
theorem dX3_cycles_168 : decode cX3_cycles 168 = .ok (.bipush 34, 2) := by decide +kernel
theorem dX3_cycles_170 : decode cX3_cycles 170 = .ok (.iaload, 1) := by decide +kernel
theorem dX3_cycles_171 : decode cX3_cycles 171 = .ok (.if_icmp .ge 14, 3) := by decide +kernel
theorem dX3_cycles_174 : decode cX3_cycles 174 = .ok (.aload_n 0, 1) := by decide +kernel
theorem dX3_cycles_175 : decode cX3_cycles 175 = .ok (.iconst 0, 1) := by decide +kernel
theorem dX3_cycles_176 : decode cX3_cycles 176 = .ok (.invokevirtual 62, 3) := by decide +kernel
theorem dX3_cycles_179 : decode cX3_cycles 179 = .ok (.iinc 3 1, 3) := by decide +kernel
theorem dX3_cycles_182 : decode cX3_cycles 182 = .ok (.goto (-19), 3) := by decide +kernel
theorem dX3_cycles_185 : decode cX3_cycles 185 = .ok (.aload_n 0, 1) := by decide +kernel
theorem dX3_cycles_186 : decode cX3_cycles 186 = .ok (.getfield 7, 3) := by decide +kernel
theorem dX3_cycles_189 : decode cX3_cycles 189 = .ok (.bipush 41, 2) := by decide +kernel
theorem dX3_cycles_191 : decode cX3_cycles 191 = .ok (.iaload, 1) := by decide +kernel
theorem dX3_cycles_192 : decode cX3_cycles 192 = .ok (.iconst 1, 1) := by decide +kernel
theorem dX3_cycles_193 : decode cX3_cycles 193 = .ok (.if_icmp .ne 24, 3) := by decide +kernel
theorem dX3_cycles_196 : decode cX3_cycles 196 = .ok (.aload_n 0, 1) := by decide +kernel
theorem dX3_cycles_197 : decode cX3_cycles 197 = .ok (.getfield 7, 3) := by decide +kernel
theorem dX3_cycles_200 : decode cX3_cycles 200 = .ok (.bipush 47, 2) := by decide +kernel
theorem dX3_cycles_202 : decode cX3_cycles 202 = .ok (.iaload, 1) := by decide +kernel
theorem dX3_cycles_203 : decode cX3_cycles 203 = .ok (.aload_n 0, 1) := by decide +kernel
theorem dX3_cycles_204 : decode cX3_cycles 204 = .ok (.getfield 7, 3) := by decide +kernel
theorem dX3_cycles_207 : decode cX3_cycles 207 = .ok (.bipush 35, 2) := by decide +kernel
theorem dX3_cycles_209 : decode cX3_cycles 209 = .ok (.iaload, 1) := by decide +kernel
theorem dX3_cycles_210 : decode cX3_cycles 210 = .ok (.if_icmp .lt 7, 3) := by decide +kernel
theorem dX3_cycles_213 : decode cX3_cycles 213 = .ok (.aload_n 0, 1) := by decide +kernel
theorem dX3_cycles_214 : decode cX3_cycles 214 = .ok (.invokevirtual 66, 3) := by decide +kernel
theorem dX3_cycles_217 : decode cX3_cycles 217 = .ok (.return_, 1) := by decide +kernel
theorem dX3_isLength_0 : decode cX3_isLength 0 = .ok (.iload_n 0, 1) := by decide +kernel
theorem dX3_isLength_1 : decode cX3_isLength 1 = .ok (.i2l, 1) := by decide +kernel
theorem dX3_isLength_2 : decode cX3_isLength 2 = .ok (.ldc2_w 69, 3) := by decide +kernel
theorem dX3_isLength_5 : decode cX3_isLength 5 = .ok (.ldc2_w 71, 3) := by decide +kernel
theorem dX3_isLength_8 : decode cX3_isLength 8 = .ok (.invokestatic 39, 3) := by decide +kernel
theorem dX3_isLength_11 : decode cX3_isLength 11 = .ok (.ireturn, 1) := by decide +kernel
theorem dX3_addPath_0 : decode cX3_addPath 0 = .ok (.iload_n 1, 1) := by decide +kernel
theorem dX3_addPath_1 : decode cX3_addPath 1 = .ok (.invokestatic 73, 3) := by decide +kernel
theorem dX3_addPath_4 : decode cX3_addPath 4 = .ok (.ifCond .ne 6, 3) := by decide +kernel
theorem dX3_addPath_7 : decode cX3_addPath 7 = .ok (.bipush (-2), 2) := by decide +kernel
theorem dX3_addPath_9 : decode cX3_addPath 9 = .ok (.ireturn, 1) := by decide +kernel
theorem dX3_addPath_10 : decode cX3_addPath 10 = .ok (.aload_n 0, 1) := by decide +kernel
theorem dX3_addPath_11 : decode cX3_addPath 11 = .ok (.getfield 7, 3) := by decide +kernel
theorem dX3_addPath_14 : decode cX3_addPath 14 = .ok (.bipush 51, 2) := by decide +kernel
theorem dX3_addPath_16 : decode cX3_addPath 16 = .ok (.iaload, 1) := by decide +kernel
theorem dX3_addPath_17 : decode cX3_addPath 17 = .ok (.bipush 8, 2) := by decide +kernel
theorem dX3_addPath_19 : decode cX3_addPath 19 = .ok (.if_icmp .ne 6, 3) := by decide +kernel
theorem dX3_addPath_22 : decode cX3_addPath 22 = .ok (.bipush (-3), 2) := by decide +kernel
theorem dX3_addPath_24 : decode cX3_addPath 24 = .ok (.ireturn, 1) := by decide +kernel
theorem dX3_addPath_25 : decode cX3_addPath 25 = .ok (.aload_n 0, 1) := by decide +kernel
theorem dX3_addPath_26 : decode cX3_addPath 26 = .ok (.invokevirtual 77, 3) := by decide +kernel
theorem dX3_addPath_29 : decode cX3_addPath 29 = .ok (.aload_n 0, 1) := by decide +kernel
theorem dX3_addPath_30 : decode cX3_addPath 30 = .ok (.getfield 7, 3) := by decide +kernel
theorem dX3_addPath_33 : decode cX3_addPath 33 = .ok (.iconst 0, 1) := by decide +kernel
theorem dX3_addPath_34 : decode cX3_addPath 34 = .ok (.aload_n 0, 1) := by decide +kernel
theorem dX3_addPath_35 : decode cX3_addPath 35 = .ok (.getfield 7, 3) := by decide +kernel
theorem dX3_addPath_38 : decode cX3_addPath 38 = .ok (.bipush 51, 2) := by decide +kernel
theorem dX3_addPath_40 : decode cX3_addPath 40 = .ok (.iaload, 1) := by decide +kernel
theorem dX3_addPath_41 : decode cX3_addPath 41 = .ok (.iadd, 1) := by decide +kernel
theorem dX3_addPath_42 : decode cX3_addPath 42 = .ok (.iload_n 1, 1) := by decide +kernel
theorem dX3_addPath_43 : decode cX3_addPath 43 = .ok (.iastore, 1) := by decide +kernel
theorem dX3_addPath_44 : decode cX3_addPath 44 = .ok (.aload_n 0, 1) := by decide +kernel
theorem dX3_addPath_45 : decode cX3_addPath 45 = .ok (.getfield 7, 3) := by decide +kernel
theorem dX3_addPath_48 : decode cX3_addPath 48 = .ok (.bipush 51, 2) := by decide +kernel
theorem dX3_addPath_50 : decode cX3_addPath 50 = .ok (.dup2, 1) := by decide +kernel
theorem dX3_addPath_51 : decode cX3_addPath 51 = .ok (.iaload, 1) := by decide +kernel
theorem dX3_addPath_52 : decode cX3_addPath 52 = .ok (.iconst 1, 1) := by decide +kernel
theorem dX3_addPath_53 : decode cX3_addPath 53 = .ok (.iadd, 1) := by decide +kernel
theorem dX3_addPath_54 : decode cX3_addPath 54 = .ok (.iastore, 1) := by decide +kernel
theorem dX3_addPath_55 : decode cX3_addPath 55 = .ok (.aload_n 0, 1) := by decide +kernel
theorem dX3_addPath_56 : decode cX3_addPath 56 = .ok (.aload_n 0, 1) := by decide +kernel
theorem dX3_addPath_57 : decode cX3_addPath 57 = .ok (.getfield 7, 3) := by decide +kernel
theorem dX3_addPath_60 : decode cX3_addPath 60 = .ok (.bipush 51, 2) := by decide +kernel
theorem dX3_addPath_62 : decode cX3_addPath 62 = .ok (.iaload, 1) := by decide +kernel
theorem dX3_addPath_63 : decode cX3_addPath 63 = .ok (.iconst 1, 1) := by decide +kernel
theorem dX3_addPath_64 : decode cX3_addPath 64 = .ok (.isub, 1) := by decide +kernel
theorem dX3_addPath_65 : decode cX3_addPath 65 = .ok (.invokevirtual 80, 3) := by decide +kernel
theorem dX3_addPath_68 : decode cX3_addPath 68 = .ok (.ireturn, 1) := by decide +kernel
theorem dX3_sets_0 : decode cX3_sets 0 = .ok (.aload_n 0, 1) := by decide +kernel
theorem dX3_sets_1 : decode cX3_sets 1 = .ok (.getfield 7, 3) := by decide +kernel
theorem dX3_sets_4 : decode cX3_sets 4 = .ok (.iload_n 1, 1) := by decide +kernel
theorem dX3_sets_5 : decode cX3_sets 5 = .ok (.iaload, 1) := by decide +kernel
theorem dX3_sets_6 : decode cX3_sets 6 = .ok (.istore_n 3, 1) := by decide +kernel
theorem dX3_sets_7 : decode cX3_sets 7 = .ok (.iload_n 3, 1) := by decide +kernel
theorem dX3_sets_8 : decode cX3_sets 8 = .ok (.iload_n 2, 1) := by decide +kernel
theorem dX3_sets_9 : decode cX3_sets 9 = .ok (.if_icmp .ne 6, 3) := by decide +kernel
theorem dX3_sets_12 : decode cX3_sets 12 = .ok (.bipush (-5), 2) := by decide +kernel
theorem dX3_sets_14 : decode cX3_sets 14 = .ok (.ireturn, 1) := by decide +kernel
theorem dX3_sets_15 : decode cX3_sets 15 = .ok (.aload_n 0, 1) := by decide +kernel
theorem dX3_sets_16 : decode cX3_sets 16 = .ok (.invokevirtual 77, 3) := by decide +kernel
theorem dX3_sets_19 : decode cX3_sets 19 = .ok (.aload_n 0, 1) := by decide +kernel
theorem dX3_sets_20 : decode cX3_sets 20 = .ok (.getfield 7, 3) := by decide +kernel
theorem dX3_sets_23 : decode cX3_sets 23 = .ok (.iload_n 1, 1) := by decide +kernel
theorem dX3_sets_24 : decode cX3_sets 24 = .ok (.iload_n 2, 1) := by decide +kernel
theorem dX3_sets_25 : decode cX3_sets 25 = .ok (.iastore, 1) := by decide +kernel
theorem dX3_sets_26 : decode cX3_sets 26 = .ok (.aload_n 0, 1) := by decide +kernel
theorem dX3_sets_27 : decode cX3_sets 27 = .ok (.iload_n 3, 1) := by decide +kernel
theorem dX3_sets_28 : decode cX3_sets 28 = .ok (.invokevirtual 80, 3) := by decide +kernel
theorem dX3_sets_31 : decode cX3_sets 31 = .ok (.ireturn, 1) := by decide +kernel
theorem dX3_setLength_0 : decode cX3_setLength 0 = .ok (.aload_n 0, 1) := by decide +kernel
theorem dX3_setLength_1 : decode cX3_setLength 1 = .ok (.iload_n 1, 1) := by decide +kernel
theorem dX3_setLength_2 : decode cX3_setLength 2 = .ok (.invokevirtual 83, 3) := by decide +kernel
theorem dX3_setLength_5 : decode cX3_setLength 5 = .ok (.ifCond .ne 5, 3) := by decide +kernel
theorem dX3_setLength_8 : decode cX3_setLength 8 = .ok (.iconst (-1), 1) := by decide +kernel
theorem dX3_setLength_9 : decode cX3_setLength 9 = .ok (.ireturn, 1) := by decide +kernel
theorem dX3_setLength_10 : decode cX3_setLength 10 = .ok (.iload_n 2, 1) := by decide +kernel
theorem dX3_setLength_11 : decode cX3_setLength 11 = .ok (.invokestatic 73, 3) := by decide +kernel
theorem dX3_setLength_14 : decode cX3_setLength 14 = .ok (.ifCond .eq 14, 3) := by decide +kernel
theorem dX3_setLength_17 : decode cX3_setLength 17 = .ok (.aload_n 0, 1) := by decide +kernel
theorem dX3_setLength_18 : decode cX3_setLength 18 = .ok (.iconst 0, 1) := by decide +kernel
theorem dX3_setLength_19 : decode cX3_setLength 19 = .ok (.iload_n 1, 1) := by decide +kernel
theorem dX3_setLength_20 : decode cX3_setLength 20 = .ok (.iadd, 1) := by decide +kernel
theorem dX3_setLength_21 : decode cX3_setLength 21 = .ok (.iload_n 2, 1) := by decide +kernel
theorem dX3_setLength_22 : decode cX3_setLength 22 = .ok (.invokevirtual 86, 3) := by decide +kernel
theorem dX3_setLength_25 : decode cX3_setLength 25 = .ok (.goto 5, 3) := by decide +kernel
theorem dX3_setLength_28 : decode cX3_setLength 28 = .ok (.bipush (-2), 2) := by decide +kernel
theorem dX3_setLength_30 : decode cX3_setLength 30 = .ok (.ireturn, 1) := by decide +kernel
theorem dX3_begins_0 : decode cX3_begins 0 = .ok (.aload_n 0, 1) := by decide +kernel
theorem dX3_begins_1 : decode cX3_begins 1 = .ok (.getfield 7, 3) := by decide +kernel
theorem dX3_begins_4 : decode cX3_begins 4 = .ok (.bipush 49, 2) := by decide +kernel
theorem dX3_begins_6 : decode cX3_begins 6 = .ok (.iload_n 1, 1) := by decide +kernel
theorem dX3_begins_7 : decode cX3_begins 7 = .ok (.iastore, 1) := by decide +kernel
theorem dX3_begins_8 : decode cX3_begins 8 = .ok (.aload_n 0, 1) := by decide +kernel
theorem dX3_begins_9 : decode cX3_begins 9 = .ok (.getfield 7, 3) := by decide +kernel
theorem dX3_begins_12 : decode cX3_begins 12 = .ok (.bipush 50, 2) := by decide +kernel
theorem dX3_begins_14 : decode cX3_begins 14 = .ok (.iconst 0, 1) := by decide +kernel
theorem dX3_begins_15 : decode cX3_begins 15 = .ok (.iastore, 1) := by decide +kernel
theorem dX3_begins_16 : decode cX3_begins 16 = .ok (.iload_n 1, 1) := by decide +kernel
theorem dX3_begins_17 : decode cX3_begins 17 = .ok (.istore_n 2, 1) := by decide +kernel
theorem dX3_begins_18 : decode cX3_begins 18 = .ok (.iload_n 2, 1) := by decide +kernel
theorem dX3_begins_19 : decode cX3_begins 19 = .ok (.bipush 16, 2) := by decide +kernel
theorem dX3_begins_21 : decode cX3_begins 21 = .ok (.if_icmp .ge 19, 3) := by decide +kernel
theorem dX3_begins_24 : decode cX3_begins 24 = .ok (.aload_n 0, 1) := by decide +kernel
theorem dX3_begins_25 : decode cX3_begins 25 = .ok (.getfield 7, 3) := by decide +kernel
theorem dX3_begins_28 : decode cX3_begins 28 = .ok (.bipush 16, 2) := by decide +kernel
theorem dX3_begins_30 : decode cX3_begins 30 = .ok (.iload_n 2, 1) := by decide +kernel
theorem dX3_begins_31 : decode cX3_begins 31 = .ok (.iadd, 1) := by decide +kernel
theorem dX3_begins_32 : decode cX3_begins 32 = .ok (.iconst 0, 1) := by decide +kernel
theorem dX3_begins_33 : decode cX3_begins 33 = .ok (.iastore, 1) := by decide +kernel
theorem dX3_begins_34 : decode cX3_begins 34 = .ok (.iinc 2 1, 3) := by decide +kernel
theorem dX3_begins_37 : decode cX3_begins 37 = .ok (.goto (-19), 3) := by decide +kernel
theorem dX3_begins_40 : decode cX3_begins 40 = .ok (.return_, 1) := by decide +kernel
theorem dX3_layWorkload_0 : decode cX3_layWorkload 0 = .ok (.iload_n 1, 1) := by decide +kernel
theorem dX3_layWorkload_1 : decode cX3_layWorkload 1 = .ok (.i2l, 1) := by decide +kernel
theorem dX3_layWorkload_2 : decode cX3_layWorkload 2 = .ok (.lconst 1, 1) := by decide +kernel
theorem dX3_layWorkload_3 : decode cX3_layWorkload 3 = .ok (.ldc2_w 89, 3) := by decide +kernel
theorem dX3_layWorkload_6 : decode cX3_layWorkload 6 = .ok (.invokestatic 39, 3) := by decide +kernel
theorem dX3_layWorkload_9 : decode cX3_layWorkload 9 = .ok (.ifCond .eq 15, 3) := by decide +kernel
theorem dX3_layWorkload_12 : decode cX3_layWorkload 12 = .ok (.iload_n 2, 1) := by decide +kernel
theorem dX3_layWorkload_13 : decode cX3_layWorkload 13 = .ok (.i2l, 1) := by decide +kernel
theorem dX3_layWorkload_14 : decode cX3_layWorkload 14 = .ok (.lconst 0, 1) := by decide +kernel
theorem dX3_layWorkload_15 : decode cX3_layWorkload 15 = .ok (.ldc2_w 91, 3) := by decide +kernel
theorem dX3_layWorkload_18 : decode cX3_layWorkload 18 = .ok (.invokestatic 39, 3) := by decide +kernel
theorem dX3_layWorkload_21 : decode cX3_layWorkload 21 = .ok (.ifCond .ne 6, 3) := by decide +kernel
theorem dX3_layWorkload_24 : decode cX3_layWorkload 24 = .ok (.bipush (-2), 2) := by decide +kernel
theorem dX3_layWorkload_26 : decode cX3_layWorkload 26 = .ok (.ireturn, 1) := by decide +kernel
theorem dX3_layWorkload_27 : decode cX3_layWorkload 27 = .ok (.aload_n 0, 1) := by decide +kernel
theorem dX3_layWorkload_28 : decode cX3_layWorkload 28 = .ok (.invokevirtual 77, 3) := by decide +kernel
theorem dX3_layWorkload_31 : decode cX3_layWorkload 31 = .ok (.iload_n 2, 1) := by decide +kernel
theorem dX3_layWorkload_32 : decode cX3_layWorkload 32 = .ok (.istore_n 3, 1) := by decide +kernel
theorem dX3_layWorkload_33 : decode cX3_layWorkload 33 = .ok (.iconst 0, 1) := by decide +kernel
theorem dX3_layWorkload_34 : decode cX3_layWorkload 34 = .ok (.istore 4, 2) := by decide +kernel
theorem dX3_layWorkload_36 : decode cX3_layWorkload 36 = .ok (.iconst 0, 1) := by decide +kernel
theorem dX3_layWorkload_37 : decode cX3_layWorkload 37 = .ok (.istore 5, 2) := by decide +kernel
theorem dX3_layWorkload_39 : decode cX3_layWorkload 39 = .ok (.iload 5, 2) := by decide +kernel
theorem dX3_layWorkload_41 : decode cX3_layWorkload 41 = .ok (.iload_n 1, 1) := by decide +kernel
theorem dX3_layWorkload_42 : decode cX3_layWorkload 42 = .ok (.if_icmp .ge 65, 3) := by decide +kernel
theorem dX3_layWorkload_45 : decode cX3_layWorkload 45 = .ok (.sipush 421, 3) := by decide +kernel
theorem dX3_layWorkload_48 : decode cX3_layWorkload 48 = .ok (.iload_n 3, 1) := by decide +kernel
theorem dX3_layWorkload_49 : decode cX3_layWorkload 49 = .ok (.imul, 1) := by decide +kernel
theorem dX3_layWorkload_50 : decode cX3_layWorkload 50 = .ok (.sipush 1663, 3) := by decide +kernel
theorem dX3_layWorkload_53 : decode cX3_layWorkload 53 = .ok (.iadd, 1) := by decide +kernel
theorem dX3_layWorkload_54 : decode cX3_layWorkload 54 = .ok (.sipush 10000, 3) := by decide +kernel
theorem dX3_layWorkload_57 : decode cX3_layWorkload 57 = .ok (.irem, 1) := by decide +kernel
theorem dX3_layWorkload_58 : decode cX3_layWorkload 58 = .ok (.istore_n 3, 1) := by decide +kernel
theorem dX3_layWorkload_59 : decode cX3_layWorkload 59 = .ok (.aload_n 0, 1) := by decide +kernel
theorem dX3_layWorkload_60 : decode cX3_layWorkload 60 = .ok (.getfield 7, 3) := by decide +kernel
theorem dX3_layWorkload_63 : decode cX3_layWorkload 63 = .ok (.bipush 16, 2) := by decide +kernel
theorem dX3_layWorkload_65 : decode cX3_layWorkload 65 = .ok (.iload 5, 2) := by decide +kernel
theorem dX3_layWorkload_67 : decode cX3_layWorkload 67 = .ok (.iadd, 1) := by decide +kernel
theorem dX3_layWorkload_68 : decode cX3_layWorkload 68 = .ok (.iload_n 3, 1) := by decide +kernel
theorem dX3_layWorkload_69 : decode cX3_layWorkload 69 = .ok (.bipush 16, 2) := by decide +kernel
theorem dX3_layWorkload_71 : decode cX3_layWorkload 71 = .ok (.idiv, 1) := by decide +kernel
theorem dX3_layWorkload_72 : decode cX3_layWorkload 72 = .ok (.iconst 1, 1) := by decide +kernel
theorem dX3_layWorkload_73 : decode cX3_layWorkload 73 = .ok (.aload_n 0, 1) := by decide +kernel
theorem dX3_layWorkload_74 : decode cX3_layWorkload 74 = .ok (.getfield 7, 3) := by decide +kernel
theorem dX3_layWorkload_77 : decode cX3_layWorkload 77 = .ok (.bipush 51, 2) := by decide +kernel
theorem dX3_layWorkload_79 : decode cX3_layWorkload 79 = .ok (.iaload, 1) := by decide +kernel
theorem dX3_layWorkload_80 : decode cX3_layWorkload 80 = .ok (.ishl, 1) := by decide +kernel
theorem dX3_layWorkload_81 : decode cX3_layWorkload 81 = .ok (.irem, 1) := by decide +kernel
theorem dX3_layWorkload_82 : decode cX3_layWorkload 82 = .ok (.iastore, 1) := by decide +kernel
theorem dX3_layWorkload_83 : decode cX3_layWorkload 83 = .ok (.iload 4, 2) := by decide +kernel
theorem dX3_layWorkload_85 : decode cX3_layWorkload 85 = .ok (.aload_n 0, 1) := by decide +kernel
theorem dX3_layWorkload_86 : decode cX3_layWorkload 86 = .ok (.getfield 7, 3) := by decide +kernel
theorem dX3_layWorkload_89 : decode cX3_layWorkload 89 = .ok (.bipush 16, 2) := by decide +kernel
theorem dX3_layWorkload_91 : decode cX3_layWorkload 91 = .ok (.iload 5, 2) := by decide +kernel
theorem dX3_layWorkload_93 : decode cX3_layWorkload 93 = .ok (.iadd, 1) := by decide +kernel
theorem dX3_layWorkload_94 : decode cX3_layWorkload 94 = .ok (.iaload, 1) := by decide +kernel
theorem dX3_layWorkload_95 : decode cX3_layWorkload 95 = .ok (.invokestatic 59, 3) := by decide +kernel
theorem dX3_layWorkload_98 : decode cX3_layWorkload 98 = .ok (.iadd, 1) := by decide +kernel
theorem dX3_layWorkload_99 : decode cX3_layWorkload 99 = .ok (.istore 4, 2) := by decide +kernel
theorem dX3_layWorkload_101 : decode cX3_layWorkload 101 = .ok (.iinc 5 1, 3) := by decide +kernel
theorem dX3_layWorkload_104 : decode cX3_layWorkload 104 = .ok (.goto (-65), 3) := by decide +kernel
theorem dX3_layWorkload_107 : decode cX3_layWorkload 107 = .ok (.aload_n 0, 1) := by decide +kernel
theorem dX3_layWorkload_108 : decode cX3_layWorkload 108 = .ok (.iload_n 1, 1) := by decide +kernel
theorem dX3_layWorkload_109 : decode cX3_layWorkload 109 = .ok (.invokevirtual 93, 3) := by decide +kernel
theorem dX3_layWorkload_112 : decode cX3_layWorkload 112 = .ok (.aload_n 0, 1) := by decide +kernel
theorem dX3_layWorkload_113 : decode cX3_layWorkload 113 = .ok (.iload 4, 2) := by decide +kernel
theorem dX3_layWorkload_115 : decode cX3_layWorkload 115 = .ok (.invokevirtual 80, 3) := by decide +kernel
theorem dX3_layWorkload_118 : decode cX3_layWorkload 118 = .ok (.ireturn, 1) := by decide +kernel
theorem dX3_type_0 : decode cX3_type 0 = .ok (.aload_n 0, 1) := by decide +kernel
theorem dX3_type_1 : decode cX3_type 1 = .ok (.getfield 96, 3) := by decide +kernel
theorem dX3_type_4 : decode cX3_type 4 = .ok (.bipush 60, 2) := by decide +kernel
theorem dX3_type_6 : decode cX3_type 6 = .ok (.if_icmp .ne 6, 3) := by decide +kernel
theorem dX3_type_9 : decode cX3_type 9 = .ok (.bipush (-3), 2) := by decide +kernel
theorem dX3_type_11 : decode cX3_type 11 = .ok (.ireturn, 1) := by decide +kernel
theorem dX3_type_12 : decode cX3_type 12 = .ok (.aload_n 0, 1) := by decide +kernel
theorem dX3_type_13 : decode cX3_type 13 = .ok (.getfield 25, 3) := by decide +kernel
theorem dX3_type_16 : decode cX3_type 16 = .ok (.aload_n 0, 1) := by decide +kernel
theorem dX3_type_17 : decode cX3_type 17 = .ok (.getfield 96, 3) := by decide +kernel
theorem dX3_type_20 : decode cX3_type 20 = .ok (.iload_n 1, 1) := by decide +kernel
theorem dX3_type_21 : decode cX3_type 21 = .ok (.iastore, 1) := by decide +kernel
theorem dX3_type_22 : decode cX3_type 22 = .ok (.aload_n 0, 1) := by decide +kernel
theorem dX3_type_23 : decode cX3_type 23 = .ok (.dup, 1) := by decide +kernel
theorem dX3_type_24 : decode cX3_type 24 = .ok (.getfield 96, 3) := by decide +kernel
theorem dX3_type_27 : decode cX3_type 27 = .ok (.iconst 1, 1) := by decide +kernel
theorem dX3_type_28 : decode cX3_type 28 = .ok (.iadd, 1) := by decide +kernel
theorem dX3_type_29 : decode cX3_type 29 = .ok (.putfield 96, 3) := by decide +kernel
theorem dX3_type_32 : decode cX3_type 32 = .ok (.aload_n 0, 1) := by decide +kernel
theorem dX3_type_33 : decode cX3_type 33 = .ok (.getfield 96, 3) := by decide +kernel
theorem dX3_type_36 : decode cX3_type 36 = .ok (.ireturn, 1) := by decide +kernel
theorem dX3_clearText_0 : decode cX3_clearText 0 = .ok (.aload_n 0, 1) := by decide +kernel
theorem dX3_clearText_1 : decode cX3_clearText 1 = .ok (.getfield 96, 3) := by decide +kernel
theorem dX3_clearText_4 : decode cX3_clearText 4 = .ok (.istore_n 1, 1) := by decide +kernel
theorem dX3_clearText_5 : decode cX3_clearText 5 = .ok (.aload_n 0, 1) := by decide +kernel
theorem dX3_clearText_6 : decode cX3_clearText 6 = .ok (.iconst 0, 1) := by decide +kernel
theorem dX3_clearText_7 : decode cX3_clearText 7 = .ok (.putfield 96, 3) := by decide +kernel
theorem dX3_clearText_10 : decode cX3_clearText 10 = .ok (.iload_n 1, 1) := by decide +kernel
theorem dX3_clearText_11 : decode cX3_clearText 11 = .ok (.ireturn, 1) := by decide +kernel
theorem dX3_isHere_0 : decode cX3_isHere 0 = .ok (.aload_n 0, 1) := by decide +kernel
theorem dX3_isHere_1 : decode cX3_isHere 1 = .ok (.getfield 99, 3) := by decide +kernel
theorem dX3_isHere_4 : decode cX3_isHere 4 = .ok (.aload_n 0, 1) := by decide +kernel
theorem dX3_isHere_5 : decode cX3_isHere 5 = .ok (.getfield 96, 3) := by decide +kernel
theorem dX3_isHere_8 : decode cX3_isHere 8 = .ok (.if_icmp .ge 27, 3) := by decide +kernel
theorem dX3_isHere_11 : decode cX3_isHere 11 = .ok (.aload_n 0, 1) := by decide +kernel
theorem dX3_isHere_12 : decode cX3_isHere 12 = .ok (.getfield 25, 3) := by decide +kernel
theorem dX3_isHere_15 : decode cX3_isHere 15 = .ok (.aload_n 0, 1) := by decide +kernel
theorem dX3_isHere_16 : decode cX3_isHere 16 = .ok (.getfield 99, 3) := by decide +kernel
theorem dX3_isHere_19 : decode cX3_isHere 19 = .ok (.iaload, 1) := by decide +kernel
theorem dX3_isHere_20 : decode cX3_isHere 20 = .ok (.i2l, 1) := by decide +kernel
theorem dX3_isHere_21 : decode cX3_isHere 21 = .ok (.iload_n 1, 1) := by decide +kernel
theorem dX3_isHere_22 : decode cX3_isHere 22 = .ok (.i2l, 1) := by decide +kernel
theorem dX3_isHere_23 : decode cX3_isHere 23 = .ok (.iload_n 2, 1) := by decide +kernel
theorem dX3_isHere_24 : decode cX3_isHere 24 = .ok (.i2l, 1) := by decide +kernel
theorem dX3_isHere_25 : decode cX3_isHere 25 = .ok (.invokestatic 39, 3) := by decide +kernel
theorem dX3_isHere_28 : decode cX3_isHere 28 = .ok (.ifCond .eq 7, 3) := by decide +kernel
theorem dX3_isHere_31 : decode cX3_isHere 31 = .ok (.iconst 1, 1) := by decide +kernel
theorem dX3_isHere_32 : decode cX3_isHere 32 = .ok (.goto 4, 3) := by decide +kernel
theorem dX3_isHere_35 : decode cX3_isHere 35 = .ok (.iconst 0, 1) := by decide +kernel
theorem dX3_isHere_36 : decode cX3_isHere 36 = .ok (.ireturn, 1) := by decide +kernel
theorem dX3_takes_0 : decode cX3_takes 0 = .ok (.aload_n 0, 1) := by decide +kernel
theorem dX3_takes_1 : decode cX3_takes 1 = .ok (.iload_n 1, 1) := by decide +kernel
theorem dX3_takes_2 : decode cX3_takes 2 = .ok (.iload_n 1, 1) := by decide +kernel
theorem dX3_takes_3 : decode cX3_takes 3 = .ok (.invokevirtual 102, 3) := by decide +kernel
theorem dX3_takes_6 : decode cX3_takes 6 = .ok (.istore_n 2, 1) := by decide +kernel
theorem dX3_takes_7 : decode cX3_takes 7 = .ok (.aload_n 0, 1) := by decide +kernel
theorem dX3_takes_8 : decode cX3_takes 8 = .ok (.dup, 1) := by decide +kernel
theorem dX3_takes_9 : decode cX3_takes 9 = .ok (.getfield 99, 3) := by decide +kernel
theorem dX3_takes_12 : decode cX3_takes 12 = .ok (.iload_n 2, 1) := by decide +kernel
theorem dX3_takes_13 : decode cX3_takes 13 = .ok (.ifCond .eq 7, 3) := by decide +kernel
theorem dX3_takes_16 : decode cX3_takes 16 = .ok (.iconst 1, 1) := by decide +kernel
theorem dX3_takes_17 : decode cX3_takes 17 = .ok (.goto 4, 3) := by decide +kernel
theorem dX3_takes_20 : decode cX3_takes 20 = .ok (.iconst 0, 1) := by decide +kernel
theorem dX3_takes_21 : decode cX3_takes 21 = .ok (.iadd, 1) := by decide +kernel
theorem dX3_takes_22 : decode cX3_takes 22 = .ok (.putfield 99, 3) := by decide +kernel
theorem dX3_takes_25 : decode cX3_takes 25 = .ok (.iload_n 2, 1) := by decide +kernel
theorem dX3_takes_26 : decode cX3_takes 26 = .ok (.ireturn, 1) := by decide +kernel
theorem dX3_readsSet_0 : decode cX3_readsSet 0 = .ok (.iconst 0, 1) := by decide +kernel
theorem dX3_readsSet_1 : decode cX3_readsSet 1 = .ok (.istore_n 1, 1) := by decide +kernel
theorem dX3_readsSet_2 : decode cX3_readsSet 2 = .ok (.aload_n 0, 1) := by decide +kernel
theorem dX3_readsSet_3 : decode cX3_readsSet 3 = .ok (.bipush 45, 2) := by decide +kernel
theorem dX3_readsSet_5 : decode cX3_readsSet 5 = .ok (.invokevirtual 105, 3) := by decide +kernel
theorem dX3_readsSet_8 : decode cX3_readsSet 8 = .ok (.ifCond .ne 63, 3) := by decide +kernel
theorem dX3_readsSet_11 : decode cX3_readsSet 11 = .ok (.aload_n 0, 1) := by decide +kernel
theorem dX3_readsSet_12 : decode cX3_readsSet 12 = .ok (.bipush 48, 2) := by decide +kernel
theorem dX3_readsSet_14 : decode cX3_readsSet 14 = .ok (.bipush 55, 2) := by decide +kernel
theorem dX3_readsSet_16 : decode cX3_readsSet 16 = .ok (.invokevirtual 102, 3) := by decide +kernel
theorem dX3_readsSet_19 : decode cX3_readsSet 19 = .ok (.ifCond .ne 5, 3) := by decide +kernel
theorem dX3_readsSet_22 : decode cX3_readsSet 22 = .ok (.iconst 0, 1) := by decide +kernel
theorem dX3_readsSet_23 : decode cX3_readsSet 23 = .ok (.ireturn, 1) := by decide +kernel
theorem dX3_readsSet_24 : decode cX3_readsSet 24 = .ok (.bipush 47, 2) := by decide +kernel
theorem dX3_readsSet_26 : decode cX3_readsSet 26 = .ok (.istore_n 2, 1) := by decide +kernel
theorem dX3_readsSet_27 : decode cX3_readsSet 27 = .ok (.aload_n 0, 1) := by decide +kernel
theorem dX3_readsSet_28 : decode cX3_readsSet 28 = .ok (.iload_n 2, 1) := by decide +kernel
theorem dX3_readsSet_29 : decode cX3_readsSet 29 = .ok (.iconst 1, 1) := by decide +kernel
theorem dX3_readsSet_30 : decode cX3_readsSet 30 = .ok (.iadd, 1) := by decide +kernel
theorem dX3_readsSet_31 : decode cX3_readsSet 31 = .ok (.bipush 55, 2) := by decide +kernel
theorem dX3_readsSet_33 : decode cX3_readsSet 33 = .ok (.invokevirtual 102, 3) := by decide +kernel
theorem dX3_readsSet_36 : decode cX3_readsSet 36 = .ok (.ifCond .eq 35, 3) := by decide +kernel
theorem dX3_readsSet_39 : decode cX3_readsSet 39 = .ok (.aload_n 0, 1) := by decide +kernel
theorem dX3_readsSet_40 : decode cX3_readsSet 40 = .ok (.getfield 25, 3) := by decide +kernel
theorem dX3_readsSet_43 : decode cX3_readsSet 43 = .ok (.aload_n 0, 1) := by decide +kernel
theorem dX3_readsSet_44 : decode cX3_readsSet 44 = .ok (.getfield 99, 3) := by decide +kernel
theorem dX3_readsSet_47 : decode cX3_readsSet 47 = .ok (.iaload, 1) := by decide +kernel
theorem dX3_readsSet_48 : decode cX3_readsSet 48 = .ok (.istore_n 2, 1) := by decide +kernel
theorem dX3_readsSet_49 : decode cX3_readsSet 49 = .ok (.iload_n 1, 1) := by decide +kernel
theorem dX3_readsSet_50 : decode cX3_readsSet 50 = .ok (.iconst 1, 1) := by decide +kernel
theorem dX3_readsSet_51 : decode cX3_readsSet 51 = .ok (.iload_n 2, 1) := by decide +kernel
theorem dX3_readsSet_52 : decode cX3_readsSet 52 = .ok (.bipush 48, 2) := by decide +kernel
theorem dX3_readsSet_54 : decode cX3_readsSet 54 = .ok (.isub, 1) := by decide +kernel
theorem dX3_readsSet_55 : decode cX3_readsSet 55 = .ok (.ishl, 1) := by decide +kernel
theorem dX3_readsSet_56 : decode cX3_readsSet 56 = .ok (.ior, 1) := by decide +kernel
theorem dX3_readsSet_57 : decode cX3_readsSet 57 = .ok (.istore_n 1, 1) := by decide +kernel
theorem dX3_readsSet_58 : decode cX3_readsSet 58 = .ok (.aload_n 0, 1) := by decide +kernel
theorem dX3_readsSet_59 : decode cX3_readsSet 59 = .ok (.dup, 1) := by decide +kernel
theorem dX3_readsSet_60 : decode cX3_readsSet 60 = .ok (.getfield 99, 3) := by decide +kernel
theorem dX3_readsSet_63 : decode cX3_readsSet 63 = .ok (.iconst 1, 1) := by decide +kernel
theorem dX3_readsSet_64 : decode cX3_readsSet 64 = .ok (.iadd, 1) := by decide +kernel
theorem dX3_readsSet_65 : decode cX3_readsSet 65 = .ok (.putfield 99, 3) := by decide +kernel
theorem dX3_readsSet_68 : decode cX3_readsSet 68 = .ok (.goto (-41), 3) := by decide +kernel
theorem dX3_readsSet_71 : decode cX3_readsSet 71 = .ok (.aload_n 0, 1) := by decide +kernel
theorem dX3_readsSet_72 : decode cX3_readsSet 72 = .ok (.getfield 28, 3) := by decide +kernel
theorem dX3_readsSet_75 : decode cX3_readsSet 75 = .ok (.aload_n 0, 1) := by decide +kernel
theorem dX3_readsSet_76 : decode cX3_readsSet 76 = .ok (.getfield 108, 3) := by decide +kernel
theorem dX3_readsSet_79 : decode cX3_readsSet 79 = .ok (.iload_n 1, 1) := by decide +kernel
theorem dX3_readsSet_80 : decode cX3_readsSet 80 = .ok (.iastore, 1) := by decide +kernel
theorem dX3_readsSet_81 : decode cX3_readsSet 81 = .ok (.aload_n 0, 1) := by decide +kernel
theorem dX3_readsSet_82 : decode cX3_readsSet 82 = .ok (.dup, 1) := by decide +kernel
theorem dX3_readsSet_83 : decode cX3_readsSet 83 = .ok (.getfield 108, 3) := by decide +kernel
theorem dX3_readsSet_86 : decode cX3_readsSet 86 = .ok (.iconst 1, 1) := by decide +kernel
theorem dX3_readsSet_87 : decode cX3_readsSet 87 = .ok (.iadd, 1) := by decide +kernel
theorem dX3_readsSet_88 : decode cX3_readsSet 88 = .ok (.putfield 108, 3) := by decide +kernel
theorem dX3_readsSet_91 : decode cX3_readsSet 91 = .ok (.iconst 1, 1) := by decide +kernel
theorem dX3_readsSet_92 : decode cX3_readsSet 92 = .ok (.ireturn, 1) := by decide +kernel
theorem dX3_fault_0 : decode cX3_fault 0 = .ok (.aload_n 0, 1) := by decide +kernel
theorem dX3_fault_1 : decode cX3_fault 1 = .ok (.iconst 0, 1) := by decide +kernel
theorem dX3_fault_2 : decode cX3_fault 2 = .ok (.putfield 99, 3) := by decide +kernel
theorem dX3_fault_5 : decode cX3_fault 5 = .ok (.aload_n 0, 1) := by decide +kernel
theorem dX3_fault_6 : decode cX3_fault 6 = .ok (.iconst 0, 1) := by decide +kernel
theorem dX3_fault_7 : decode cX3_fault 7 = .ok (.putfield 108, 3) := by decide +kernel
theorem dX3_fault_10 : decode cX3_fault 10 = .ok (.iconst 1, 1) := by decide +kernel
theorem dX3_fault_11 : decode cX3_fault 11 = .ok (.istore_n 1, 1) := by decide +kernel
theorem dX3_fault_12 : decode cX3_fault 12 = .ok (.iload_n 1, 1) := by decide +kernel
theorem dX3_fault_13 : decode cX3_fault 13 = .ok (.ifCond .eq 42, 3) := by decide +kernel
theorem dX3_fault_16 : decode cX3_fault 16 = .ok (.aload_n 0, 1) := by decide +kernel
theorem dX3_fault_17 : decode cX3_fault 17 = .ok (.invokevirtual 111, 3) := by decide +kernel
theorem dX3_fault_20 : decode cX3_fault 20 = .ok (.ifCond .ne 8, 3) := by decide +kernel
theorem dX3_fault_23 : decode cX3_fault 23 = .ok (.aload_n 0, 1) := by decide +kernel
theorem dX3_fault_24 : decode cX3_fault 24 = .ok (.getfield 99, 3) := by decide +kernel
theorem dX3_fault_27 : decode cX3_fault 27 = .ok (.ireturn, 1) := by decide +kernel
theorem dX3_fault_28 : decode cX3_fault 28 = .ok (.aload_n 0, 1) := by decide +kernel
theorem dX3_fault_29 : decode cX3_fault 29 = .ok (.getfield 108, 3) := by decide +kernel
theorem dX3_fault_32 : decode cX3_fault 32 = .ok (.bipush 16, 2) := by decide +kernel
theorem dX3_fault_34 : decode cX3_fault 34 = .ok (.if_icmp .ge 16, 3) := by decide +kernel
theorem dX3_fault_37 : decode cX3_fault 37 = .ok (.aload_n 0, 1) := by decide +kernel
theorem dX3_fault_38 : decode cX3_fault 38 = .ok (.bipush 44, 2) := by decide +kernel
theorem dX3_fault_40 : decode cX3_fault 40 = .ok (.invokevirtual 105, 3) := by decide +kernel
theorem dX3_fault_43 : decode cX3_fault 43 = .ok (.ifCond .eq 7, 3) := by decide +kernel
theorem dX3_fault_46 : decode cX3_fault 46 = .ok (.iconst 1, 1) := by decide +kernel
theorem dX3_fault_47 : decode cX3_fault 47 = .ok (.goto 4, 3) := by decide +kernel
theorem dX3_fault_50 : decode cX3_fault 50 = .ok (.iconst 0, 1) := by decide +kernel
theorem dX3_fault_51 : decode cX3_fault 51 = .ok (.istore_n 1, 1) := by decide +kernel
theorem dX3_fault_52 : decode cX3_fault 52 = .ok (.goto (-40), 3) := by decide +kernel
theorem dX3_fault_55 : decode cX3_fault 55 = .ok (.aload_n 0, 1) := by decide +kernel
theorem dX3_fault_56 : decode cX3_fault 56 = .ok (.getfield 99, 3) := by decide +kernel
theorem dX3_fault_59 : decode cX3_fault 59 = .ok (.aload_n 0, 1) := by decide +kernel
theorem dX3_fault_60 : decode cX3_fault 60 = .ok (.getfield 96, 3) := by decide +kernel
theorem dX3_fault_63 : decode cX3_fault 63 = .ok (.if_icmp .ne 8, 3) := by decide +kernel
theorem dX3_fault_66 : decode cX3_fault 66 = .ok (.bipush (-5), 2) := by decide +kernel
theorem dX3_fault_68 : decode cX3_fault 68 = .ok (.goto 7, 3) := by decide +kernel
theorem dX3_fault_71 : decode cX3_fault 71 = .ok (.aload_n 0, 1) := by decide +kernel
theorem dX3_fault_72 : decode cX3_fault 72 = .ok (.getfield 99, 3) := by decide +kernel
theorem dX3_fault_75 : decode cX3_fault 75 = .ok (.ireturn, 1) := by decide +kernel
theorem dX3_takeWorkload_0 : decode cX3_takeWorkload 0 = .ok (.aload_n 0, 1) := by decide +kernel
theorem dX3_takeWorkload_1 : decode cX3_takeWorkload 1 = .ok (.invokevirtual 115, 3) := by decide +kernel
theorem dX3_takeWorkload_4 : decode cX3_takeWorkload 4 = .ok (.istore_n 1, 1) := by decide +kernel
theorem dX3_takeWorkload_5 : decode cX3_takeWorkload 5 = .ok (.iload_n 1, 1) := by decide +kernel
theorem dX3_takeWorkload_6 : decode cX3_takeWorkload 6 = .ok (.bipush (-5), 2) := by decide +kernel
theorem dX3_takeWorkload_8 : decode cX3_takeWorkload 8 = .ok (.if_icmp .eq 8, 3) := by decide +kernel
theorem dX3_takeWorkload_11 : decode cX3_takeWorkload 11 = .ok (.bipush (-100), 2) := by decide +kernel
theorem dX3_takeWorkload_13 : decode cX3_takeWorkload 13 = .ok (.iload_n 1, 1) := by decide +kernel
theorem dX3_takeWorkload_14 : decode cX3_takeWorkload 14 = .ok (.isub, 1) := by decide +kernel
theorem dX3_takeWorkload_15 : decode cX3_takeWorkload 15 = .ok (.ireturn, 1) := by decide +kernel
theorem dX3_takeWorkload_16 : decode cX3_takeWorkload 16 = .ok (.iconst 0, 1) := by decide +kernel
theorem dX3_takeWorkload_17 : decode cX3_takeWorkload 17 = .ok (.istore_n 2, 1) := by decide +kernel
theorem dX3_takeWorkload_18 : decode cX3_takeWorkload 18 = .ok (.iload_n 2, 1) := by decide +kernel
theorem dX3_takeWorkload_19 : decode cX3_takeWorkload 19 = .ok (.aload_n 0, 1) := by decide +kernel
theorem dX3_takeWorkload_20 : decode cX3_takeWorkload 20 = .ok (.getfield 108, 3) := by decide +kernel
theorem dX3_takeWorkload_23 : decode cX3_takeWorkload 23 = .ok (.if_icmp .ge 29, 3) := by decide +kernel
theorem dX3_takeWorkload_26 : decode cX3_takeWorkload 26 = .ok (.aload_n 0, 1) := by decide +kernel
theorem dX3_takeWorkload_27 : decode cX3_takeWorkload 27 = .ok (.getfield 28, 3) := by decide +kernel
theorem dX3_takeWorkload_30 : decode cX3_takeWorkload 30 = .ok (.iload_n 2, 1) := by decide +kernel
theorem dX3_takeWorkload_31 : decode cX3_takeWorkload 31 = .ok (.iaload, 1) := by decide +kernel
theorem dX3_takeWorkload_32 : decode cX3_takeWorkload 32 = .ok (.iconst 1, 1) := by decide +kernel
theorem dX3_takeWorkload_33 : decode cX3_takeWorkload 33 = .ok (.aload_n 0, 1) := by decide +kernel
theorem dX3_takeWorkload_34 : decode cX3_takeWorkload 34 = .ok (.getfield 7, 3) := by decide +kernel
theorem dX3_takeWorkload_37 : decode cX3_takeWorkload 37 = .ok (.bipush 51, 2) := by decide +kernel
theorem dX3_takeWorkload_39 : decode cX3_takeWorkload 39 = .ok (.iaload, 1) := by decide +kernel
theorem dX3_takeWorkload_40 : decode cX3_takeWorkload 40 = .ok (.ishl, 1) := by decide +kernel
theorem dX3_takeWorkload_41 : decode cX3_takeWorkload 41 = .ok (.if_icmp .lt 5, 3) := by decide +kernel
theorem dX3_takeWorkload_44 : decode cX3_takeWorkload 44 = .ok (.iconst (-1), 1) := by decide +kernel
theorem dX3_takeWorkload_45 : decode cX3_takeWorkload 45 = .ok (.ireturn, 1) := by decide +kernel
theorem dX3_takeWorkload_46 : decode cX3_takeWorkload 46 = .ok (.iinc 2 1, 3) := by decide +kernel
theorem dX3_takeWorkload_49 : decode cX3_takeWorkload 49 = .ok (.goto (-31), 3) := by decide +kernel
theorem dX3_takeWorkload_52 : decode cX3_takeWorkload 52 = .ok (.aload_n 0, 1) := by decide +kernel
theorem dX3_takeWorkload_53 : decode cX3_takeWorkload 53 = .ok (.invokevirtual 77, 3) := by decide +kernel
theorem dX3_takeWorkload_56 : decode cX3_takeWorkload 56 = .ok (.iconst 0, 1) := by decide +kernel
theorem dX3_takeWorkload_57 : decode cX3_takeWorkload 57 = .ok (.istore_n 2, 1) := by decide +kernel
theorem dX3_takeWorkload_58 : decode cX3_takeWorkload 58 = .ok (.iload_n 2, 1) := by decide +kernel
theorem dX3_takeWorkload_59 : decode cX3_takeWorkload 59 = .ok (.aload_n 0, 1) := by decide +kernel
theorem dX3_takeWorkload_60 : decode cX3_takeWorkload 60 = .ok (.getfield 108, 3) := by decide +kernel
theorem dX3_takeWorkload_63 : decode cX3_takeWorkload 63 = .ok (.if_icmp .ge 24, 3) := by decide +kernel
theorem dX3_takeWorkload_66 : decode cX3_takeWorkload 66 = .ok (.aload_n 0, 1) := by decide +kernel
theorem dX3_takeWorkload_67 : decode cX3_takeWorkload 67 = .ok (.getfield 7, 3) := by decide +kernel
theorem dX3_takeWorkload_70 : decode cX3_takeWorkload 70 = .ok (.bipush 16, 2) := by decide +kernel
theorem dX3_takeWorkload_72 : decode cX3_takeWorkload 72 = .ok (.iload_n 2, 1) := by decide +kernel
theorem dX3_takeWorkload_73 : decode cX3_takeWorkload 73 = .ok (.iadd, 1) := by decide +kernel
theorem dX3_takeWorkload_74 : decode cX3_takeWorkload 74 = .ok (.aload_n 0, 1) := by decide +kernel
theorem dX3_takeWorkload_75 : decode cX3_takeWorkload 75 = .ok (.getfield 28, 3) := by decide +kernel
theorem dX3_takeWorkload_78 : decode cX3_takeWorkload 78 = .ok (.iload_n 2, 1) := by decide +kernel
theorem dX3_takeWorkload_79 : decode cX3_takeWorkload 79 = .ok (.iaload, 1) := by decide +kernel
theorem dX3_takeWorkload_80 : decode cX3_takeWorkload 80 = .ok (.iastore, 1) := by decide +kernel
theorem dX3_takeWorkload_81 : decode cX3_takeWorkload 81 = .ok (.iinc 2 1, 3) := by decide +kernel
theorem dX3_takeWorkload_84 : decode cX3_takeWorkload 84 = .ok (.goto (-26), 3) := by decide +kernel
theorem dX3_takeWorkload_87 : decode cX3_takeWorkload 87 = .ok (.aload_n 0, 1) := by decide +kernel
theorem dX3_takeWorkload_88 : decode cX3_takeWorkload 88 = .ok (.aload_n 0, 1) := by decide +kernel
theorem dX3_takeWorkload_89 : decode cX3_takeWorkload 89 = .ok (.getfield 108, 3) := by decide +kernel
theorem dX3_takeWorkload_92 : decode cX3_takeWorkload 92 = .ok (.invokevirtual 93, 3) := by decide +kernel
theorem dX3_takeWorkload_95 : decode cX3_takeWorkload 95 = .ok (.aload_n 0, 1) := by decide +kernel
theorem dX3_takeWorkload_96 : decode cX3_takeWorkload 96 = .ok (.aload_n 0, 1) := by decide +kernel
theorem dX3_takeWorkload_97 : decode cX3_takeWorkload 97 = .ok (.getfield 108, 3) := by decide +kernel
theorem dX3_takeWorkload_100 : decode cX3_takeWorkload 100 = .ok (.invokevirtual 80, 3) := by decide +kernel
theorem dX3_takeWorkload_103 : decode cX3_takeWorkload 103 = .ok (.ireturn, 1) := by decide +kernel
theorem dX3_isVoltage_0 : decode cX3_isVoltage 0 = .ok (.iload_n 0, 1) := by decide +kernel
theorem dX3_isVoltage_1 : decode cX3_isVoltage 1 = .ok (.i2l, 1) := by decide +kernel
theorem dX3_isVoltage_2 : decode cX3_isVoltage 2 = .ok (.ldc2_w 119, 3) := by decide +kernel
theorem dX3_isVoltage_5 : decode cX3_isVoltage 5 = .ok (.ldc2_w 121, 3) := by decide +kernel
theorem dX3_isVoltage_8 : decode cX3_isVoltage 8 = .ok (.invokestatic 39, 3) := by decide +kernel
theorem dX3_isVoltage_11 : decode cX3_isVoltage 11 = .ok (.ireturn, 1) := by decide +kernel
theorem dX3_setVoltage_0 : decode cX3_setVoltage 0 = .ok (.iload_n 1, 1) := by decide +kernel
theorem dX3_setVoltage_1 : decode cX3_setVoltage 1 = .ok (.invokestatic 123, 3) := by decide +kernel
theorem dX3_setVoltage_4 : decode cX3_setVoltage 4 = .ok (.ifCond .eq 13, 3) := by decide +kernel
theorem dX3_setVoltage_7 : decode cX3_setVoltage 7 = .ok (.aload_n 0, 1) := by decide +kernel
theorem dX3_setVoltage_8 : decode cX3_setVoltage 8 = .ok (.bipush 39, 2) := by decide +kernel
theorem dX3_setVoltage_10 : decode cX3_setVoltage 10 = .ok (.iload_n 1, 1) := by decide +kernel
theorem dX3_setVoltage_11 : decode cX3_setVoltage 11 = .ok (.invokevirtual 86, 3) := by decide +kernel
theorem dX3_setVoltage_14 : decode cX3_setVoltage 14 = .ok (.goto 5, 3) := by decide +kernel
theorem dX3_setVoltage_17 : decode cX3_setVoltage 17 = .ok (.bipush (-2), 2) := by decide +kernel
theorem dX3_setVoltage_19 : decode cX3_setVoltage 19 = .ok (.ireturn, 1) := by decide +kernel
theorem dX3_govern_0 : decode cX3_govern 0 = .ok (.iload_n 1, 1) := by decide +kernel
theorem dX3_govern_1 : decode cX3_govern 1 = .ok (.ifCond .eq 7, 3) := by decide +kernel
theorem dX3_govern_4 : decode cX3_govern 4 = .ok (.iconst 1, 1) := by decide +kernel
theorem dX3_govern_5 : decode cX3_govern 5 = .ok (.goto 4, 3) := by decide +kernel
theorem dX3_govern_8 : decode cX3_govern 8 = .ok (.iconst 0, 1) := by decide +kernel
theorem dX3_govern_9 : decode cX3_govern 9 = .ok (.istore_n 2, 1) := by decide +kernel
theorem dX3_govern_10 : decode cX3_govern 10 = .ok (.aload_n 0, 1) := by decide +kernel
theorem dX3_govern_11 : decode cX3_govern 11 = .ok (.getfield 7, 3) := by decide +kernel
theorem dX3_govern_14 : decode cX3_govern 14 = .ok (.bipush 41, 2) := by decide +kernel
theorem dX3_govern_16 : decode cX3_govern 16 = .ok (.iaload, 1) := by decide +kernel
theorem dX3_govern_17 : decode cX3_govern 17 = .ok (.iload_n 2, 1) := by decide +kernel
theorem dX3_govern_18 : decode cX3_govern 18 = .ok (.if_icmp .ne 6, 3) := by decide +kernel
theorem dX3_govern_21 : decode cX3_govern 21 = .ok (.bipush (-5), 2) := by decide +kernel
theorem dX3_govern_23 : decode cX3_govern 23 = .ok (.ireturn, 1) := by decide +kernel
theorem dX3_govern_24 : decode cX3_govern 24 = .ok (.aload_n 0, 1) := by decide +kernel
theorem dX3_govern_25 : decode cX3_govern 25 = .ok (.invokevirtual 77, 3) := by decide +kernel
theorem dX3_govern_28 : decode cX3_govern 28 = .ok (.aload_n 0, 1) := by decide +kernel
theorem dX3_govern_29 : decode cX3_govern 29 = .ok (.getfield 7, 3) := by decide +kernel
theorem dX3_govern_32 : decode cX3_govern 32 = .ok (.bipush 41, 2) := by decide +kernel
theorem dX3_govern_34 : decode cX3_govern 34 = .ok (.iload_n 2, 1) := by decide +kernel
theorem dX3_govern_35 : decode cX3_govern 35 = .ok (.iastore, 1) := by decide +kernel
theorem dX3_govern_36 : decode cX3_govern 36 = .ok (.aload_n 0, 1) := by decide +kernel
theorem dX3_govern_37 : decode cX3_govern 37 = .ok (.getfield 7, 3) := by decide +kernel
theorem dX3_govern_40 : decode cX3_govern 40 = .ok (.bipush 47, 2) := by decide +kernel
theorem dX3_govern_42 : decode cX3_govern 42 = .ok (.iconst 0, 1) := by decide +kernel
theorem dX3_govern_43 : decode cX3_govern 43 = .ok (.iastore, 1) := by decide +kernel
theorem dX3_govern_44 : decode cX3_govern 44 = .ok (.aload_n 0, 1) := by decide +kernel
theorem dX3_govern_45 : decode cX3_govern 45 = .ok (.getfield 7, 3) := by decide +kernel
theorem dX3_govern_48 : decode cX3_govern 48 = .ok (.bipush 48, 2) := by decide +kernel
theorem dX3_govern_50 : decode cX3_govern 50 = .ok (.iconst 0, 1) := by decide +kernel
theorem dX3_govern_51 : decode cX3_govern 51 = .ok (.iastore, 1) := by decide +kernel
theorem dX3_govern_52 : decode cX3_govern 52 = .ok (.aload_n 0, 1) := by decide +kernel
theorem dX3_govern_53 : decode cX3_govern 53 = .ok (.aload_n 0, 1) := by decide +kernel
theorem dX3_govern_54 : decode cX3_govern 54 = .ok (.getfield 7, 3) := by decide +kernel
theorem dX3_govern_57 : decode cX3_govern 57 = .ok (.bipush 39, 2) := by decide +kernel
theorem dX3_govern_59 : decode cX3_govern 59 = .ok (.iaload, 1) := by decide +kernel
theorem dX3_govern_60 : decode cX3_govern 60 = .ok (.invokevirtual 80, 3) := by decide +kernel
theorem dX3_govern_63 : decode cX3_govern 63 = .ok (.ireturn, 1) := by decide +kernel
theorem dX3_isSetting_0 : decode cX3_isSetting 0 = .ok (.iload_n 0, 1) := by decide +kernel
theorem dX3_isSetting_1 : decode cX3_isSetting 1 = .ok (.tableswitch 103 0 5 #[39, 51, 61, 71, 83, 93], 39) := by decide +kernel
theorem dX3_isSetting_40 : decode cX3_isSetting 40 = .ok (.iload_n 1, 1) := by decide +kernel
theorem dX3_isSetting_41 : decode cX3_isSetting 41 = .ok (.i2l, 1) := by decide +kernel
theorem dX3_isSetting_42 : decode cX3_isSetting 42 = .ok (.ldc2_w 126, 3) := by decide +kernel
theorem dX3_isSetting_45 : decode cX3_isSetting 45 = .ok (.ldc2_w 128, 3) := by decide +kernel
theorem dX3_isSetting_48 : decode cX3_isSetting 48 = .ok (.invokestatic 39, 3) := by decide +kernel
theorem dX3_isSetting_51 : decode cX3_isSetting 51 = .ok (.ireturn, 1) := by decide +kernel
theorem dX3_isSetting_52 : decode cX3_isSetting 52 = .ok (.iload_n 1, 1) := by decide +kernel
theorem dX3_isSetting_53 : decode cX3_isSetting 53 = .ok (.i2l, 1) := by decide +kernel
theorem dX3_isSetting_54 : decode cX3_isSetting 54 = .ok (.lconst 0, 1) := by decide +kernel
theorem dX3_isSetting_55 : decode cX3_isSetting 55 = .ok (.ldc2_w 130, 3) := by decide +kernel
theorem dX3_isSetting_58 : decode cX3_isSetting 58 = .ok (.invokestatic 39, 3) := by decide +kernel
theorem dX3_isSetting_61 : decode cX3_isSetting 61 = .ok (.ireturn, 1) := by decide +kernel
theorem dX3_isSetting_62 : decode cX3_isSetting 62 = .ok (.iload_n 1, 1) := by decide +kernel
theorem dX3_isSetting_63 : decode cX3_isSetting 63 = .ok (.i2l, 1) := by decide +kernel
theorem dX3_isSetting_64 : decode cX3_isSetting 64 = .ok (.lconst 1, 1) := by decide +kernel
theorem dX3_isSetting_65 : decode cX3_isSetting 65 = .ok (.ldc2_w 132, 3) := by decide +kernel
theorem dX3_isSetting_68 : decode cX3_isSetting 68 = .ok (.invokestatic 39, 3) := by decide +kernel
theorem dX3_isSetting_71 : decode cX3_isSetting 71 = .ok (.ireturn, 1) := by decide +kernel
theorem dX3_isSetting_72 : decode cX3_isSetting 72 = .ok (.iload_n 1, 1) := by decide +kernel
theorem dX3_isSetting_73 : decode cX3_isSetting 73 = .ok (.i2l, 1) := by decide +kernel
theorem dX3_isSetting_74 : decode cX3_isSetting 74 = .ok (.ldc2_w 69, 3) := by decide +kernel
theorem dX3_isSetting_77 : decode cX3_isSetting 77 = .ok (.ldc2_w 119, 3) := by decide +kernel
theorem dX3_isSetting_80 : decode cX3_isSetting 80 = .ok (.invokestatic 39, 3) := by decide +kernel
theorem dX3_isSetting_83 : decode cX3_isSetting 83 = .ok (.ireturn, 1) := by decide +kernel
theorem dX3_isSetting_84 : decode cX3_isSetting 84 = .ok (.iload_n 1, 1) := by decide +kernel
theorem dX3_isSetting_85 : decode cX3_isSetting 85 = .ok (.i2l, 1) := by decide +kernel
theorem dX3_isSetting_86 : decode cX3_isSetting 86 = .ok (.lconst 0, 1) := by decide +kernel
theorem dX3_isSetting_87 : decode cX3_isSetting 87 = .ok (.ldc2_w 134, 3) := by decide +kernel
theorem dX3_isSetting_90 : decode cX3_isSetting 90 = .ok (.invokestatic 39, 3) := by decide +kernel
theorem dX3_isSetting_93 : decode cX3_isSetting 93 = .ok (.ireturn, 1) := by decide +kernel
theorem dX3_isSetting_94 : decode cX3_isSetting 94 = .ok (.iload_n 1, 1) := by decide +kernel
theorem dX3_isSetting_95 : decode cX3_isSetting 95 = .ok (.i2l, 1) := by decide +kernel
theorem dX3_isSetting_96 : decode cX3_isSetting 96 = .ok (.lconst 1, 1) := by decide +kernel
theorem dX3_isSetting_97 : decode cX3_isSetting 97 = .ok (.ldc2_w 126, 3) := by decide +kernel
theorem dX3_isSetting_100 : decode cX3_isSetting 100 = .ok (.invokestatic 39, 3) := by decide +kernel
theorem dX3_isSetting_103 : decode cX3_isSetting 103 = .ok (.ireturn, 1) := by decide +kernel
theorem dX3_isSetting_104 : decode cX3_isSetting 104 = .ok (.iload_n 0, 1) := by decide +kernel
theorem dX3_isSetting_105 : decode cX3_isSetting 105 = .ok (.bipush 6, 2) := by decide +kernel
theorem dX3_isSetting_107 : decode cX3_isSetting 107 = .ok (.if_icmp .ne 19, 3) := by decide +kernel
theorem dX3_isSetting_110 : decode cX3_isSetting 110 = .ok (.iload_n 1, 1) := by decide +kernel
theorem dX3_isSetting_111 : decode cX3_isSetting 111 = .ok (.i2l, 1) := by decide +kernel
theorem dX3_isSetting_112 : decode cX3_isSetting 112 = .ok (.lconst 1, 1) := by decide +kernel
theorem dX3_isSetting_113 : decode cX3_isSetting 113 = .ok (.ldc2_w 69, 3) := by decide +kernel
theorem dX3_isSetting_116 : decode cX3_isSetting 116 = .ok (.invokestatic 39, 3) := by decide +kernel
theorem dX3_isSetting_119 : decode cX3_isSetting 119 = .ok (.ifCond .eq 7, 3) := by decide +kernel
theorem dX3_isSetting_122 : decode cX3_isSetting 122 = .ok (.iconst 1, 1) := by decide +kernel
theorem dX3_isSetting_123 : decode cX3_isSetting 123 = .ok (.goto 4, 3) := by decide +kernel
theorem dX3_isSetting_126 : decode cX3_isSetting 126 = .ok (.iconst 0, 1) := by decide +kernel
theorem dX3_isSetting_127 : decode cX3_isSetting 127 = .ok (.ireturn, 1) := by decide +kernel
theorem dX3_set_0 : decode cX3_set 0 = .ok (.iload_n 1, 1) := by decide +kernel
theorem dX3_set_1 : decode cX3_set 1 = .ok (.iload_n 2, 1) := by decide +kernel
theorem dX3_set_2 : decode cX3_set 2 = .ok (.invokestatic 136, 3) := by decide +kernel
theorem dX3_set_5 : decode cX3_set 5 = .ok (.ifCond .eq 15, 3) := by decide +kernel
theorem dX3_set_8 : decode cX3_set 8 = .ok (.aload_n 0, 1) := by decide +kernel
theorem dX3_set_9 : decode cX3_set 9 = .ok (.bipush 32, 2) := by decide +kernel
theorem dX3_set_11 : decode cX3_set 11 = .ok (.iload_n 1, 1) := by decide +kernel
theorem dX3_set_12 : decode cX3_set 12 = .ok (.iadd, 1) := by decide +kernel
theorem dX3_set_13 : decode cX3_set 13 = .ok (.iload_n 2, 1) := by decide +kernel
theorem dX3_set_14 : decode cX3_set 14 = .ok (.invokevirtual 86, 3) := by decide +kernel
theorem dX3_set_17 : decode cX3_set 17 = .ok (.goto 5, 3) := by decide +kernel
theorem dX3_set_20 : decode cX3_set 20 = .ok (.bipush (-2), 2) := by decide +kernel
theorem dX3_set_22 : decode cX3_set 22 = .ok (.ireturn, 1) := by decide +kernel
theorem dX3_run_0 : decode cX3_run 0 = .ok (.iload_n 1, 1) := by decide +kernel
theorem dX3_run_1 : decode cX3_run 1 = .ok (.i2l, 1) := by decide +kernel
theorem dX3_run_2 : decode cX3_run 2 = .ok (.lconst 1, 1) := by decide +kernel
theorem dX3_run_3 : decode cX3_run 3 = .ok (.ldc2_w 139, 3) := by decide +kernel
theorem dX3_run_6 : decode cX3_run 6 = .ok (.invokestatic 39, 3) := by decide +kernel
theorem dX3_run_9 : decode cX3_run 9 = .ok (.ifCond .ne 6, 3) := by decide +kernel
theorem dX3_run_12 : decode cX3_run 12 = .ok (.bipush (-2), 2) := by decide +kernel
theorem dX3_run_14 : decode cX3_run 14 = .ok (.ireturn, 1) := by decide +kernel
theorem dX3_run_15 : decode cX3_run 15 = .ok (.aload_n 0, 1) := by decide +kernel
theorem dX3_run_16 : decode cX3_run 16 = .ok (.invokevirtual 77, 3) := by decide +kernel
theorem dX3_run_19 : decode cX3_run 19 = .ok (.iconst 0, 1) := by decide +kernel
theorem dX3_run_20 : decode cX3_run 20 = .ok (.istore_n 2, 1) := by decide +kernel
theorem dX3_run_21 : decode cX3_run 21 = .ok (.iload_n 2, 1) := by decide +kernel
theorem dX3_run_22 : decode cX3_run 22 = .ok (.iload_n 1, 1) := by decide +kernel
theorem dX3_run_23 : decode cX3_run 23 = .ok (.if_icmp .ge 13, 3) := by decide +kernel
theorem dX3_run_26 : decode cX3_run 26 = .ok (.aload_n 0, 1) := by decide +kernel
theorem dX3_run_27 : decode cX3_run 27 = .ok (.invokevirtual 141, 3) := by decide +kernel
theorem dX3_run_30 : decode cX3_run 30 = .ok (.iinc 2 1, 3) := by decide +kernel
theorem dX3_run_33 : decode cX3_run 33 = .ok (.goto (-12), 3) := by decide +kernel
theorem dX3_run_36 : decode cX3_run 36 = .ok (.aload_n 0, 1) := by decide +kernel
theorem dX3_run_37 : decode cX3_run 37 = .ok (.aload_n 0, 1) := by decide +kernel
theorem dX3_run_38 : decode cX3_run 38 = .ok (.getfield 7, 3) := by decide +kernel
theorem dX3_run_41 : decode cX3_run 41 = .ok (.bipush 44, 2) := by decide +kernel
theorem dX3_run_43 : decode cX3_run 43 = .ok (.iaload, 1) := by decide +kernel
theorem dX3_run_44 : decode cX3_run 44 = .ok (.aload_n 0, 1) := by decide +kernel
theorem dX3_run_45 : decode cX3_run 45 = .ok (.getfield 13, 3) := by decide +kernel
theorem dX3_run_48 : decode cX3_run 48 = .ok (.bipush 44, 2) := by decide +kernel
theorem dX3_run_50 : decode cX3_run 50 = .ok (.iaload, 1) := by decide +kernel
theorem dX3_run_51 : decode cX3_run 51 = .ok (.isub, 1) := by decide +kernel
theorem dX3_run_52 : decode cX3_run 52 = .ok (.invokevirtual 80, 3) := by decide +kernel
theorem dX3_run_55 : decode cX3_run 55 = .ok (.ireturn, 1) := by decide +kernel
theorem dX3_undo_0 : decode cX3_undo 0 = .ok (.aload_n 0, 1) := by decide +kernel
theorem dX3_undo_1 : decode cX3_undo 1 = .ok (.getfield 35, 3) := by decide +kernel
theorem dX3_undo_4 : decode cX3_undo 4 = .ok (.ifCond .ne 6, 3) := by decide +kernel
theorem dX3_undo_7 : decode cX3_undo 7 = .ok (.bipush (-5), 2) := by decide +kernel
theorem dX3_undo_9 : decode cX3_undo 9 = .ok (.ireturn, 1) := by decide +kernel
theorem dX3_undo_10 : decode cX3_undo 10 = .ok (.aload_n 0, 1) := by decide +kernel
theorem dX3_undo_11 : decode cX3_undo 11 = .ok (.dup, 1) := by decide +kernel
theorem dX3_undo_12 : decode cX3_undo 12 = .ok (.getfield 35, 3) := by decide +kernel
theorem dX3_undo_15 : decode cX3_undo 15 = .ok (.iconst 1, 1) := by decide +kernel
theorem dX3_undo_16 : decode cX3_undo 16 = .ok (.isub, 1) := by decide +kernel
theorem dX3_undo_17 : decode cX3_undo 17 = .ok (.putfield 35, 3) := by decide +kernel
theorem dX3_undo_20 : decode cX3_undo 20 = .ok (.iconst 0, 1) := by decide +kernel
theorem dX3_undo_21 : decode cX3_undo 21 = .ok (.istore_n 1, 1) := by decide +kernel
theorem dX3_undo_22 : decode cX3_undo 22 = .ok (.iload_n 1, 1) := by decide +kernel
theorem dX3_undo_23 : decode cX3_undo 23 = .ok (.bipush 55, 2) := by decide +kernel
theorem dX3_undo_25 : decode cX3_undo 25 = .ok (.if_icmp .ge 29, 3) := by decide +kernel
theorem dX3_undo_28 : decode cX3_undo 28 = .ok (.aload_n 0, 1) := by decide +kernel
theorem dX3_undo_29 : decode cX3_undo 29 = .ok (.getfield 7, 3) := by decide +kernel
theorem dX3_undo_32 : decode cX3_undo 32 = .ok (.iload_n 1, 1) := by decide +kernel
theorem dX3_undo_33 : decode cX3_undo 33 = .ok (.aload_n 0, 1) := by decide +kernel
theorem dX3_undo_34 : decode cX3_undo 34 = .ok (.getfield 19, 3) := by decide +kernel
theorem dX3_undo_37 : decode cX3_undo 37 = .ok (.bipush 55, 2) := by decide +kernel
theorem dX3_undo_39 : decode cX3_undo 39 = .ok (.aload_n 0, 1) := by decide +kernel
theorem dX3_undo_40 : decode cX3_undo 40 = .ok (.getfield 35, 3) := by decide +kernel
theorem dX3_undo_43 : decode cX3_undo 43 = .ok (.imul, 1) := by decide +kernel
theorem dX3_undo_44 : decode cX3_undo 44 = .ok (.iload_n 1, 1) := by decide +kernel
theorem dX3_undo_45 : decode cX3_undo 45 = .ok (.iadd, 1) := by decide +kernel
theorem dX3_undo_46 : decode cX3_undo 46 = .ok (.iaload, 1) := by decide +kernel
theorem dX3_undo_47 : decode cX3_undo 47 = .ok (.iastore, 1) := by decide +kernel
theorem dX3_undo_48 : decode cX3_undo 48 = .ok (.iinc 1 1, 3) := by decide +kernel
theorem dX3_undo_51 : decode cX3_undo 51 = .ok (.goto (-29), 3) := by decide +kernel
theorem dX3_undo_54 : decode cX3_undo 54 = .ok (.aload_n 0, 1) := by decide +kernel
theorem dX3_undo_55 : decode cX3_undo 55 = .ok (.getfield 35, 3) := by decide +kernel
theorem dX3_undo_58 : decode cX3_undo 58 = .ok (.ireturn, 1) := by decide +kernel
theorem dX3_keep_0 : decode cX3_keep 0 = .ok (.aload_n 0, 1) := by decide +kernel
theorem dX3_keep_1 : decode cX3_keep 1 = .ok (.getfield 7, 3) := by decide +kernel
theorem dX3_keep_4 : decode cX3_keep 4 = .ok (.aload_n 0, 1) := by decide +kernel
theorem dX3_keep_5 : decode cX3_keep 5 = .ok (.getfield 22, 3) := by decide +kernel
theorem dX3_keep_8 : decode cX3_keep 8 = .ok (.invokestatic 31, 3) := by decide +kernel
theorem dX3_keep_11 : decode cX3_keep 11 = .ok (.aload_n 0, 1) := by decide +kernel
theorem dX3_keep_12 : decode cX3_keep 12 = .ok (.iconst 1, 1) := by decide +kernel
theorem dX3_keep_13 : decode cX3_keep 13 = .ok (.putfield 144, 3) := by decide +kernel
theorem dX3_keep_16 : decode cX3_keep 16 = .ok (.aload_n 0, 1) := by decide +kernel
theorem dX3_keep_17 : decode cX3_keep 17 = .ok (.getfield 7, 3) := by decide +kernel
end
section
theorem dX3_keep_20 : decode cX3_keep 20 = .ok (.bipush 39, 2) := by decide +kernel
theorem dX3_keep_22 : decode cX3_keep 22 = .ok (.iaload, 1) := by decide +kernel
theorem dX3_keep_23 : decode cX3_keep 23 = .ok (.ireturn, 1) := by decide +kernel
theorem dX3_restore_0 : decode cX3_restore 0 = .ok (.aload_n 0, 1) := by decide +kernel
theorem dX3_restore_1 : decode cX3_restore 1 = .ok (.getfield 144, 3) := by decide +kernel
theorem dX3_restore_4 : decode cX3_restore 4 = .ok (.ifCond .ne 6, 3) := by decide +kernel
theorem dX3_restore_7 : decode cX3_restore 7 = .ok (.bipush (-5), 2) := by decide +kernel
theorem dX3_restore_9 : decode cX3_restore 9 = .ok (.ireturn, 1) := by decide +kernel
theorem dX3_restore_10 : decode cX3_restore 10 = .ok (.aload_n 0, 1) := by decide +kernel
theorem dX3_restore_11 : decode cX3_restore 11 = .ok (.invokevirtual 77, 3) := by decide +kernel
theorem dX3_restore_14 : decode cX3_restore 14 = .ok (.aload_n 0, 1) := by decide +kernel
theorem dX3_restore_15 : decode cX3_restore 15 = .ok (.getfield 22, 3) := by decide +kernel
theorem dX3_restore_18 : decode cX3_restore 18 = .ok (.aload_n 0, 1) := by decide +kernel
theorem dX3_restore_19 : decode cX3_restore 19 = .ok (.getfield 7, 3) := by decide +kernel
theorem dX3_restore_22 : decode cX3_restore 22 = .ok (.invokestatic 31, 3) := by decide +kernel
theorem dX3_restore_25 : decode cX3_restore 25 = .ok (.aload_n 0, 1) := by decide +kernel
theorem dX3_restore_26 : decode cX3_restore 26 = .ok (.aload_n 0, 1) := by decide +kernel
theorem dX3_restore_27 : decode cX3_restore 27 = .ok (.getfield 7, 3) := by decide +kernel
theorem dX3_restore_30 : decode cX3_restore 30 = .ok (.bipush 39, 2) := by decide +kernel
theorem dX3_restore_32 : decode cX3_restore 32 = .ok (.iaload, 1) := by decide +kernel
theorem dX3_restore_33 : decode cX3_restore 33 = .ok (.invokevirtual 80, 3) := by decide +kernel
theorem dX3_restore_36 : decode cX3_restore 36 = .ok (.ireturn, 1) := by decide +kernel
theorem dX3_setsWith_0 : decode cX3_setsWith 0 = .ok (.iconst 0, 1) := by decide +kernel
theorem dX3_setsWith_1 : decode cX3_setsWith 1 = .ok (.istore_n 2, 1) := by decide +kernel
theorem dX3_setsWith_2 : decode cX3_setsWith 2 = .ok (.iconst 0, 1) := by decide +kernel
theorem dX3_setsWith_3 : decode cX3_setsWith 3 = .ok (.istore_n 3, 1) := by decide +kernel
theorem dX3_setsWith_4 : decode cX3_setsWith 4 = .ok (.iload_n 3, 1) := by decide +kernel
theorem dX3_setsWith_5 : decode cX3_setsWith 5 = .ok (.aload_n 0, 1) := by decide +kernel
theorem dX3_setsWith_6 : decode cX3_setsWith 6 = .ok (.getfield 7, 3) := by decide +kernel
theorem dX3_setsWith_9 : decode cX3_setsWith 9 = .ok (.bipush 49, 2) := by decide +kernel
theorem dX3_setsWith_11 : decode cX3_setsWith 11 = .ok (.iaload, 1) := by decide +kernel
theorem dX3_setsWith_12 : decode cX3_setsWith 12 = .ok (.if_icmp .ge 33, 3) := by decide +kernel
theorem dX3_setsWith_15 : decode cX3_setsWith 15 = .ok (.iload_n 2, 1) := by decide +kernel
theorem dX3_setsWith_16 : decode cX3_setsWith 16 = .ok (.aload_n 0, 1) := by decide +kernel
theorem dX3_setsWith_17 : decode cX3_setsWith 17 = .ok (.getfield 7, 3) := by decide +kernel
theorem dX3_setsWith_20 : decode cX3_setsWith 20 = .ok (.bipush 16, 2) := by decide +kernel
theorem dX3_setsWith_22 : decode cX3_setsWith 22 = .ok (.iload_n 3, 1) := by decide +kernel
theorem dX3_setsWith_23 : decode cX3_setsWith 23 = .ok (.iadd, 1) := by decide +kernel
theorem dX3_setsWith_24 : decode cX3_setsWith 24 = .ok (.iaload, 1) := by decide +kernel
theorem dX3_setsWith_25 : decode cX3_setsWith 25 = .ok (.iload_n 1, 1) := by decide +kernel
theorem dX3_setsWith_26 : decode cX3_setsWith 26 = .ok (.invokestatic 47, 3) := by decide +kernel
theorem dX3_setsWith_29 : decode cX3_setsWith 29 = .ok (.ifCond .eq 7, 3) := by decide +kernel
theorem dX3_setsWith_32 : decode cX3_setsWith 32 = .ok (.iconst 1, 1) := by decide +kernel
theorem dX3_setsWith_33 : decode cX3_setsWith 33 = .ok (.goto 4, 3) := by decide +kernel
theorem dX3_setsWith_36 : decode cX3_setsWith 36 = .ok (.iconst 0, 1) := by decide +kernel
theorem dX3_setsWith_37 : decode cX3_setsWith 37 = .ok (.iadd, 1) := by decide +kernel
theorem dX3_setsWith_38 : decode cX3_setsWith 38 = .ok (.istore_n 2, 1) := by decide +kernel
theorem dX3_setsWith_39 : decode cX3_setsWith 39 = .ok (.iinc 3 1, 3) := by decide +kernel
theorem dX3_setsWith_42 : decode cX3_setsWith 42 = .ok (.goto (-38), 3) := by decide +kernel
theorem dX3_setsWith_45 : decode cX3_setsWith 45 = .ok (.iload_n 2, 1) := by decide +kernel
theorem dX3_setsWith_46 : decode cX3_setsWith 46 = .ok (.ireturn, 1) := by decide +kernel
theorem dX3_path_0 : decode cX3_path 0 = .ok (.aload_n 0, 1) := by decide +kernel
theorem dX3_path_1 : decode cX3_path 1 = .ok (.iload_n 1, 1) := by decide +kernel
theorem dX3_path_2 : decode cX3_path 2 = .ok (.invokevirtual 83, 3) := by decide +kernel
theorem dX3_path_5 : decode cX3_path 5 = .ok (.ifCond .ne 5, 3) := by decide +kernel
theorem dX3_path_8 : decode cX3_path 8 = .ok (.iconst (-1), 1) := by decide +kernel
theorem dX3_path_9 : decode cX3_path 9 = .ok (.ireturn, 1) := by decide +kernel
theorem dX3_path_10 : decode cX3_path 10 = .ok (.iload_n 2, 1) := by decide +kernel
theorem dX3_path_11 : decode cX3_path 11 = .ok (.tableswitch 91 0 4 #[33, 42, 62, 75, 85], 33) := by decide +kernel
theorem dX3_path_44 : decode cX3_path 44 = .ok (.aload_n 0, 1) := by decide +kernel
theorem dX3_path_45 : decode cX3_path 45 = .ok (.getfield 7, 3) := by decide +kernel
theorem dX3_path_48 : decode cX3_path 48 = .ok (.iconst 0, 1) := by decide +kernel
theorem dX3_path_49 : decode cX3_path 49 = .ok (.iload_n 1, 1) := by decide +kernel
theorem dX3_path_50 : decode cX3_path 50 = .ok (.iadd, 1) := by decide +kernel
theorem dX3_path_51 : decode cX3_path 51 = .ok (.iaload, 1) := by decide +kernel
theorem dX3_path_52 : decode cX3_path 52 = .ok (.ireturn, 1) := by decide +kernel
theorem dX3_path_53 : decode cX3_path 53 = .ok (.aload_n 0, 1) := by decide +kernel
theorem dX3_path_54 : decode cX3_path 54 = .ok (.iload_n 1, 1) := by decide +kernel
theorem dX3_path_55 : decode cX3_path 55 = .ok (.aload_n 0, 1) := by decide +kernel
theorem dX3_path_56 : decode cX3_path 56 = .ok (.getfield 7, 3) := by decide +kernel
theorem dX3_path_59 : decode cX3_path 59 = .ok (.bipush 39, 2) := by decide +kernel
theorem dX3_path_61 : decode cX3_path 61 = .ok (.iaload, 1) := by decide +kernel
theorem dX3_path_62 : decode cX3_path 62 = .ok (.aload_n 0, 1) := by decide +kernel
theorem dX3_path_63 : decode cX3_path 63 = .ok (.getfield 7, 3) := by decide +kernel
theorem dX3_path_66 : decode cX3_path 66 = .ok (.bipush 40, 2) := by decide +kernel
theorem dX3_path_68 : decode cX3_path 68 = .ok (.iaload, 1) := by decide +kernel
theorem dX3_path_69 : decode cX3_path 69 = .ok (.invokevirtual 43, 3) := by decide +kernel
theorem dX3_path_72 : decode cX3_path 72 = .ok (.ireturn, 1) := by decide +kernel
theorem dX3_path_73 : decode cX3_path 73 = .ok (.aload_n 0, 1) := by decide +kernel
theorem dX3_path_74 : decode cX3_path 74 = .ok (.iload_n 1, 1) := by decide +kernel
theorem dX3_path_75 : decode cX3_path 75 = .ok (.aload_n 0, 1) := by decide +kernel
theorem dX3_path_76 : decode cX3_path 76 = .ok (.getfield 7, 3) := by decide +kernel
theorem dX3_path_79 : decode cX3_path 79 = .ok (.bipush 39, 2) := by decide +kernel
theorem dX3_path_81 : decode cX3_path 81 = .ok (.iaload, 1) := by decide +kernel
theorem dX3_path_82 : decode cX3_path 82 = .ok (.invokevirtual 51, 3) := by decide +kernel
theorem dX3_path_85 : decode cX3_path 85 = .ok (.ireturn, 1) := by decide +kernel
theorem dX3_path_86 : decode cX3_path 86 = .ok (.aload_n 0, 1) := by decide +kernel
theorem dX3_path_87 : decode cX3_path 87 = .ok (.getfield 7, 3) := by decide +kernel
theorem dX3_path_90 : decode cX3_path 90 = .ok (.bipush 8, 2) := by decide +kernel
theorem dX3_path_92 : decode cX3_path 92 = .ok (.iload_n 1, 1) := by decide +kernel
theorem dX3_path_93 : decode cX3_path 93 = .ok (.iadd, 1) := by decide +kernel
theorem dX3_path_94 : decode cX3_path 94 = .ok (.iaload, 1) := by decide +kernel
theorem dX3_path_95 : decode cX3_path 95 = .ok (.ireturn, 1) := by decide +kernel
theorem dX3_path_96 : decode cX3_path 96 = .ok (.aload_n 0, 1) := by decide +kernel
theorem dX3_path_97 : decode cX3_path 97 = .ok (.iload_n 1, 1) := by decide +kernel
theorem dX3_path_98 : decode cX3_path 98 = .ok (.invokevirtual 147, 3) := by decide +kernel
theorem dX3_path_101 : decode cX3_path 101 = .ok (.ireturn, 1) := by decide +kernel
theorem dX3_path_102 : decode cX3_path 102 = .ok (.bipush (-2), 2) := by decide +kernel
theorem dX3_path_104 : decode cX3_path 104 = .ok (.ireturn, 1) := by decide +kernel
theorem dX3_delay_0 : decode cX3_delay 0 = .ok (.aload_n 0, 1) := by decide +kernel
theorem dX3_delay_1 : decode cX3_delay 1 = .ok (.iload_n 1, 1) := by decide +kernel
theorem dX3_delay_2 : decode cX3_delay 2 = .ok (.invokevirtual 83, 3) := by decide +kernel
theorem dX3_delay_5 : decode cX3_delay 5 = .ok (.ifCond .ne 5, 3) := by decide +kernel
theorem dX3_delay_8 : decode cX3_delay 8 = .ok (.iconst (-1), 1) := by decide +kernel
theorem dX3_delay_9 : decode cX3_delay 9 = .ok (.ireturn, 1) := by decide +kernel
theorem dX3_delay_10 : decode cX3_delay 10 = .ok (.iload_n 2, 1) := by decide +kernel
theorem dX3_delay_11 : decode cX3_delay 11 = .ok (.invokestatic 123, 3) := by decide +kernel
theorem dX3_delay_14 : decode cX3_delay 14 = .ok (.ifCond .eq 27, 3) := by decide +kernel
theorem dX3_delay_17 : decode cX3_delay 17 = .ok (.iload_n 3, 1) := by decide +kernel
theorem dX3_delay_18 : decode cX3_delay 18 = .ok (.i2l, 1) := by decide +kernel
theorem dX3_delay_19 : decode cX3_delay 19 = .ok (.ldc2_w 132, 3) := by decide +kernel
theorem dX3_delay_22 : decode cX3_delay 22 = .ok (.ldc2_w 150, 3) := by decide +kernel
theorem dX3_delay_25 : decode cX3_delay 25 = .ok (.invokestatic 39, 3) := by decide +kernel
theorem dX3_delay_28 : decode cX3_delay 28 = .ok (.ifCond .eq 13, 3) := by decide +kernel
theorem dX3_delay_31 : decode cX3_delay 31 = .ok (.aload_n 0, 1) := by decide +kernel
theorem dX3_delay_32 : decode cX3_delay 32 = .ok (.iload_n 1, 1) := by decide +kernel
theorem dX3_delay_33 : decode cX3_delay 33 = .ok (.iload_n 2, 1) := by decide +kernel
theorem dX3_delay_34 : decode cX3_delay 34 = .ok (.iload_n 3, 1) := by decide +kernel
theorem dX3_delay_35 : decode cX3_delay 35 = .ok (.invokevirtual 43, 3) := by decide +kernel
theorem dX3_delay_38 : decode cX3_delay 38 = .ok (.goto 5, 3) := by decide +kernel
theorem dX3_delay_41 : decode cX3_delay 41 = .ok (.bipush (-2), 2) := by decide +kernel
theorem dX3_delay_43 : decode cX3_delay 43 = .ok (.ireturn, 1) := by decide +kernel
theorem dX3_workload_0 : decode cX3_workload 0 = .ok (.iload_n 1, 1) := by decide +kernel
theorem dX3_workload_1 : decode cX3_workload 1 = .ok (.ifCond .ge 6, 3) := by decide +kernel
theorem dX3_workload_4 : decode cX3_workload 4 = .ok (.bipush (-2), 2) := by decide +kernel
theorem dX3_workload_6 : decode cX3_workload 6 = .ok (.ireturn, 1) := by decide +kernel
theorem dX3_workload_7 : decode cX3_workload 7 = .ok (.iload_n 1, 1) := by decide +kernel
theorem dX3_workload_8 : decode cX3_workload 8 = .ok (.aload_n 0, 1) := by decide +kernel
theorem dX3_workload_9 : decode cX3_workload 9 = .ok (.getfield 7, 3) := by decide +kernel
theorem dX3_workload_12 : decode cX3_workload 12 = .ok (.bipush 49, 2) := by decide +kernel
theorem dX3_workload_14 : decode cX3_workload 14 = .ok (.iaload, 1) := by decide +kernel
theorem dX3_workload_15 : decode cX3_workload 15 = .ok (.if_icmp .ge 15, 3) := by decide +kernel
theorem dX3_workload_18 : decode cX3_workload 18 = .ok (.aload_n 0, 1) := by decide +kernel
theorem dX3_workload_19 : decode cX3_workload 19 = .ok (.getfield 7, 3) := by decide +kernel
theorem dX3_workload_22 : decode cX3_workload 22 = .ok (.bipush 16, 2) := by decide +kernel
theorem dX3_workload_24 : decode cX3_workload 24 = .ok (.iload_n 1, 1) := by decide +kernel
theorem dX3_workload_25 : decode cX3_workload 25 = .ok (.iadd, 1) := by decide +kernel
theorem dX3_workload_26 : decode cX3_workload 26 = .ok (.iaload, 1) := by decide +kernel
theorem dX3_workload_27 : decode cX3_workload 27 = .ok (.goto 5, 3) := by decide +kernel
theorem dX3_workload_30 : decode cX3_workload 30 = .ok (.bipush (-5), 2) := by decide +kernel
theorem dX3_workload_32 : decode cX3_workload 32 = .ok (.ireturn, 1) := by decide +kernel
theorem dX3_areWell_0 : decode cX3_areWell 0 = .ok (.iconst 1, 1) := by decide +kernel
theorem dX3_areWell_1 : decode cX3_areWell 1 = .ok (.istore_n 3, 1) := by decide +kernel
theorem dX3_areWell_2 : decode cX3_areWell 2 = .ok (.iconst 0, 1) := by decide +kernel
theorem dX3_areWell_3 : decode cX3_areWell 3 = .ok (.istore 4, 2) := by decide +kernel
theorem dX3_areWell_5 : decode cX3_areWell 5 = .ok (.iload 4, 2) := by decide +kernel
theorem dX3_areWell_7 : decode cX3_areWell 7 = .ok (.aload_n 0, 1) := by decide +kernel
theorem dX3_areWell_8 : decode cX3_areWell 8 = .ok (.getfield 7, 3) := by decide +kernel
theorem dX3_areWell_11 : decode cX3_areWell 11 = .ok (.bipush 51, 2) := by decide +kernel
theorem dX3_areWell_13 : decode cX3_areWell 13 = .ok (.iaload, 1) := by decide +kernel
theorem dX3_areWell_14 : decode cX3_areWell 14 = .ok (.if_icmp .ge 39, 3) := by decide +kernel
theorem dX3_areWell_17 : decode cX3_areWell 17 = .ok (.iload_n 3, 1) := by decide +kernel
theorem dX3_areWell_18 : decode cX3_areWell 18 = .ok (.ifCond .eq 27, 3) := by decide +kernel
theorem dX3_areWell_21 : decode cX3_areWell 21 = .ok (.aload_n 0, 1) := by decide +kernel
theorem dX3_areWell_22 : decode cX3_areWell 22 = .ok (.iload 4, 2) := by decide +kernel
theorem dX3_areWell_24 : decode cX3_areWell 24 = .ok (.invokevirtual 147, 3) := by decide +kernel
theorem dX3_areWell_27 : decode cX3_areWell 27 = .ok (.ifCond .eq 14, 3) := by decide +kernel
theorem dX3_areWell_30 : decode cX3_areWell 30 = .ok (.aload_n 0, 1) := by decide +kernel
theorem dX3_areWell_31 : decode cX3_areWell 31 = .ok (.iload 4, 2) := by decide +kernel
theorem dX3_areWell_33 : decode cX3_areWell 33 = .ok (.iload_n 1, 1) := by decide +kernel
theorem dX3_areWell_34 : decode cX3_areWell 34 = .ok (.invokevirtual 51, 3) := by decide +kernel
theorem dX3_areWell_37 : decode cX3_areWell 37 = .ok (.iload_n 2, 1) := by decide +kernel
theorem dX3_areWell_38 : decode cX3_areWell 38 = .ok (.if_icmp .gt 7, 3) := by decide +kernel
theorem dX3_areWell_41 : decode cX3_areWell 41 = .ok (.iconst 1, 1) := by decide +kernel
theorem dX3_areWell_42 : decode cX3_areWell 42 = .ok (.goto 4, 3) := by decide +kernel
theorem dX3_areWell_45 : decode cX3_areWell 45 = .ok (.iconst 0, 1) := by decide +kernel
theorem dX3_areWell_46 : decode cX3_areWell 46 = .ok (.istore_n 3, 1) := by decide +kernel
theorem dX3_areWell_47 : decode cX3_areWell 47 = .ok (.iinc 4 1, 3) := by decide +kernel
theorem dX3_areWell_50 : decode cX3_areWell 50 = .ok (.goto (-45), 3) := by decide +kernel
theorem dX3_areWell_53 : decode cX3_areWell 53 = .ok (.iload_n 3, 1) := by decide +kernel
theorem dX3_areWell_54 : decode cX3_areWell 54 = .ok (.ireturn, 1) := by decide +kernel
theorem dX3_least_0 : decode cX3_least 0 = .ok (.sipush 500, 3) := by decide +kernel
theorem dX3_least_3 : decode cX3_least 3 = .ok (.istore_n 2, 1) := by decide +kernel
theorem dX3_least_4 : decode cX3_least 4 = .ok (.iload_n 2, 1) := by decide +kernel
theorem dX3_least_5 : decode cX3_least 5 = .ok (.sipush 1200, 3) := by decide +kernel
theorem dX3_least_8 : decode cX3_least 8 = .ok (.if_icmp .gt 28, 3) := by decide +kernel
theorem dX3_least_11 : decode cX3_least 11 = .ok (.aload_n 0, 1) := by decide +kernel
theorem dX3_least_12 : decode cX3_least 12 = .ok (.iload_n 2, 1) := by decide +kernel
theorem dX3_least_13 : decode cX3_least 13 = .ok (.iload_n 1, 1) := by decide +kernel
theorem dX3_least_14 : decode cX3_least 14 = .ok (.ifCond .eq 7, 3) := by decide +kernel
theorem dX3_least_17 : decode cX3_least 17 = .ok (.iconst 1, 1) := by decide +kernel
theorem dX3_least_18 : decode cX3_least 18 = .ok (.goto 4, 3) := by decide +kernel
theorem dX3_least_21 : decode cX3_least 21 = .ok (.iconst 0, 1) := by decide +kernel
theorem dX3_least_22 : decode cX3_least 22 = .ok (.invokevirtual 152, 3) := by decide +kernel
theorem dX3_least_25 : decode cX3_least 25 = .ok (.ifCond .eq 5, 3) := by decide +kernel
theorem dX3_least_28 : decode cX3_least 28 = .ok (.iload_n 2, 1) := by decide +kernel
theorem dX3_least_29 : decode cX3_least 29 = .ok (.ireturn, 1) := by decide +kernel
theorem dX3_least_30 : decode cX3_least 30 = .ok (.iinc 2 1, 3) := by decide +kernel
theorem dX3_least_33 : decode cX3_least 33 = .ok (.goto (-29), 3) := by decide +kernel
theorem dX3_least_36 : decode cX3_least 36 = .ok (.bipush (-5), 2) := by decide +kernel
theorem dX3_least_38 : decode cX3_least 38 = .ok (.ireturn, 1) := by decide +kernel
theorem dX3_energySince_0 : decode cX3_energySince 0 = .ok (.aload_n 0, 1) := by decide +kernel
theorem dX3_energySince_1 : decode cX3_energySince 1 = .ok (.getfield 7, 3) := by decide +kernel
theorem dX3_energySince_4 : decode cX3_energySince 4 = .ok (.bipush 46, 2) := by decide +kernel
theorem dX3_energySince_6 : decode cX3_energySince 6 = .ok (.iaload, 1) := by decide +kernel
theorem dX3_energySince_7 : decode cX3_energySince 7 = .ok (.aload_n 1, 1) := by decide +kernel
theorem dX3_energySince_8 : decode cX3_energySince 8 = .ok (.bipush 46, 2) := by decide +kernel
theorem dX3_energySince_10 : decode cX3_energySince 10 = .ok (.iaload, 1) := by decide +kernel
theorem dX3_energySince_11 : decode cX3_energySince 11 = .ok (.isub, 1) := by decide +kernel
theorem dX3_energySince_12 : decode cX3_energySince 12 = .ok (.sipush 1000, 3) := by decide +kernel
theorem dX3_energySince_15 : decode cX3_energySince 15 = .ok (.imul, 1) := by decide +kernel
theorem dX3_energySince_16 : decode cX3_energySince 16 = .ok (.aload_n 0, 1) := by decide +kernel
theorem dX3_energySince_17 : decode cX3_energySince 17 = .ok (.getfield 7, 3) := by decide +kernel
theorem dX3_energySince_20 : decode cX3_energySince 20 = .ok (.bipush 54, 2) := by decide +kernel
theorem dX3_energySince_22 : decode cX3_energySince 22 = .ok (.iaload, 1) := by decide +kernel
theorem dX3_energySince_23 : decode cX3_energySince 23 = .ok (.iadd, 1) := by decide +kernel
theorem dX3_energySince_24 : decode cX3_energySince 24 = .ok (.aload_n 1, 1) := by decide +kernel
theorem dX3_energySince_25 : decode cX3_energySince 25 = .ok (.bipush 54, 2) := by decide +kernel
theorem dX3_energySince_27 : decode cX3_energySince 27 = .ok (.iaload, 1) := by decide +kernel
theorem dX3_energySince_28 : decode cX3_energySince 28 = .ok (.isub, 1) := by decide +kernel
theorem dX3_energySince_29 : decode cX3_energySince 29 = .ok (.ireturn, 1) := by decide +kernel
theorem dX3_brings_0 : decode cX3_brings 0 = .ok (.aload_n 0, 1) := by decide +kernel
theorem dX3_brings_1 : decode cX3_brings 1 = .ok (.getfield 7, 3) := by decide +kernel
theorem dX3_brings_4 : decode cX3_brings 4 = .ok (.aload_n 0, 1) := by decide +kernel
theorem dX3_brings_5 : decode cX3_brings 5 = .ok (.getfield 16, 3) := by decide +kernel
theorem dX3_brings_8 : decode cX3_brings 8 = .ok (.invokestatic 31, 3) := by decide +kernel
theorem dX3_brings_11 : decode cX3_brings 11 = .ok (.aload_n 0, 1) := by decide +kernel
theorem dX3_brings_12 : decode cX3_brings 12 = .ok (.getfield 7, 3) := by decide +kernel
theorem dX3_brings_15 : decode cX3_brings 15 = .ok (.bipush 39, 2) := by decide +kernel
theorem dX3_brings_17 : decode cX3_brings 17 = .ok (.iload_n 1, 1) := by decide +kernel
theorem dX3_brings_18 : decode cX3_brings 18 = .ok (.iastore, 1) := by decide +kernel
theorem dX3_brings_19 : decode cX3_brings 19 = .ok (.aload_n 0, 1) := by decide +kernel
theorem dX3_brings_20 : decode cX3_brings 20 = .ok (.getfield 7, 3) := by decide +kernel
theorem dX3_brings_23 : decode cX3_brings 23 = .ok (.bipush 41, 2) := by decide +kernel
theorem dX3_brings_25 : decode cX3_brings 25 = .ok (.iconst 0, 1) := by decide +kernel
theorem dX3_brings_26 : decode cX3_brings 26 = .ok (.iastore, 1) := by decide +kernel
theorem dX3_brings_27 : decode cX3_brings 27 = .ok (.iconst 0, 1) := by decide +kernel
theorem dX3_brings_28 : decode cX3_brings 28 = .ok (.istore 4, 2) := by decide +kernel
theorem dX3_brings_30 : decode cX3_brings 30 = .ok (.iload 4, 2) := by decide +kernel
theorem dX3_brings_32 : decode cX3_brings 32 = .ok (.iload_n 2, 1) := by decide +kernel
theorem dX3_brings_33 : decode cX3_brings 33 = .ok (.if_icmp .ge 13, 3) := by decide +kernel
theorem dX3_brings_36 : decode cX3_brings 36 = .ok (.aload_n 0, 1) := by decide +kernel
theorem dX3_brings_37 : decode cX3_brings 37 = .ok (.invokevirtual 141, 3) := by decide +kernel
theorem dX3_brings_40 : decode cX3_brings 40 = .ok (.iinc 4 1, 3) := by decide +kernel
theorem dX3_brings_43 : decode cX3_brings 43 = .ok (.goto (-13), 3) := by decide +kernel
theorem dX3_brings_46 : decode cX3_brings 46 = .ok (.iload_n 3, 1) := by decide +kernel
theorem dX3_brings_47 : decode cX3_brings 47 = .ok (.ifCond .ne 21, 3) := by decide +kernel
theorem dX3_brings_50 : decode cX3_brings 50 = .ok (.aload_n 0, 1) := by decide +kernel
theorem dX3_brings_51 : decode cX3_brings 51 = .ok (.getfield 7, 3) := by decide +kernel
theorem dX3_brings_54 : decode cX3_brings 54 = .ok (.bipush 44, 2) := by decide +kernel
theorem dX3_brings_56 : decode cX3_brings 56 = .ok (.iaload, 1) := by decide +kernel
theorem dX3_brings_57 : decode cX3_brings 57 = .ok (.aload_n 0, 1) := by decide +kernel
theorem dX3_brings_58 : decode cX3_brings 58 = .ok (.getfield 16, 3) := by decide +kernel
theorem dX3_brings_61 : decode cX3_brings 61 = .ok (.bipush 44, 2) := by decide +kernel
theorem dX3_brings_63 : decode cX3_brings 63 = .ok (.iaload, 1) := by decide +kernel
theorem dX3_brings_64 : decode cX3_brings 64 = .ok (.isub, 1) := by decide +kernel
theorem dX3_brings_65 : decode cX3_brings 65 = .ok (.goto 72, 3) := by decide +kernel
theorem dX3_brings_68 : decode cX3_brings 68 = .ok (.iload_n 3, 1) := by decide +kernel
theorem dX3_brings_69 : decode cX3_brings 69 = .ok (.iconst 1, 1) := by decide +kernel
theorem dX3_brings_70 : decode cX3_brings 70 = .ok (.if_icmp .ne 21, 3) := by decide +kernel
theorem dX3_brings_73 : decode cX3_brings 73 = .ok (.aload_n 0, 1) := by decide +kernel
theorem dX3_brings_74 : decode cX3_brings 74 = .ok (.getfield 7, 3) := by decide +kernel
theorem dX3_brings_77 : decode cX3_brings 77 = .ok (.bipush 45, 2) := by decide +kernel
theorem dX3_brings_79 : decode cX3_brings 79 = .ok (.iaload, 1) := by decide +kernel
theorem dX3_brings_80 : decode cX3_brings 80 = .ok (.aload_n 0, 1) := by decide +kernel
theorem dX3_brings_81 : decode cX3_brings 81 = .ok (.getfield 16, 3) := by decide +kernel
theorem dX3_brings_84 : decode cX3_brings 84 = .ok (.bipush 45, 2) := by decide +kernel
theorem dX3_brings_86 : decode cX3_brings 86 = .ok (.iaload, 1) := by decide +kernel
theorem dX3_brings_87 : decode cX3_brings 87 = .ok (.isub, 1) := by decide +kernel
theorem dX3_brings_88 : decode cX3_brings 88 = .ok (.goto 49, 3) := by decide +kernel
theorem dX3_brings_91 : decode cX3_brings 91 = .ok (.iload_n 3, 1) := by decide +kernel
theorem dX3_brings_92 : decode cX3_brings 92 = .ok (.iconst 2, 1) := by decide +kernel
theorem dX3_brings_93 : decode cX3_brings 93 = .ok (.if_icmp .ne 14, 3) := by decide +kernel
theorem dX3_brings_96 : decode cX3_brings 96 = .ok (.aload_n 0, 1) := by decide +kernel
theorem dX3_brings_97 : decode cX3_brings 97 = .ok (.aload_n 0, 1) := by decide +kernel
theorem dX3_brings_98 : decode cX3_brings 98 = .ok (.getfield 16, 3) := by decide +kernel
theorem dX3_brings_101 : decode cX3_brings 101 = .ok (.invokevirtual 155, 3) := by decide +kernel
theorem dX3_brings_104 : decode cX3_brings 104 = .ok (.goto 33, 3) := by decide +kernel
theorem dX3_brings_107 : decode cX3_brings 107 = .ok (.iload_n 3, 1) := by decide +kernel
theorem dX3_brings_108 : decode cX3_brings 108 = .ok (.iconst 3, 1) := by decide +kernel
theorem dX3_brings_109 : decode cX3_brings 109 = .ok (.if_icmp .ne 21, 3) := by decide +kernel
theorem dX3_brings_112 : decode cX3_brings 112 = .ok (.aload_n 0, 1) := by decide +kernel
theorem dX3_brings_113 : decode cX3_brings 113 = .ok (.getfield 7, 3) := by decide +kernel
theorem dX3_brings_116 : decode cX3_brings 116 = .ok (.bipush 42, 2) := by decide +kernel
theorem dX3_brings_118 : decode cX3_brings 118 = .ok (.iaload, 1) := by decide +kernel
theorem dX3_brings_119 : decode cX3_brings 119 = .ok (.aload_n 0, 1) := by decide +kernel
theorem dX3_brings_120 : decode cX3_brings 120 = .ok (.getfield 16, 3) := by decide +kernel
theorem dX3_brings_123 : decode cX3_brings 123 = .ok (.bipush 42, 2) := by decide +kernel
theorem dX3_brings_125 : decode cX3_brings 125 = .ok (.iaload, 1) := by decide +kernel
theorem dX3_brings_126 : decode cX3_brings 126 = .ok (.isub, 1) := by decide +kernel
theorem dX3_brings_127 : decode cX3_brings 127 = .ok (.goto 10, 3) := by decide +kernel
theorem dX3_brings_130 : decode cX3_brings 130 = .ok (.aload_n 0, 1) := by decide +kernel
theorem dX3_brings_131 : decode cX3_brings 131 = .ok (.getfield 7, 3) := by decide +kernel
theorem dX3_brings_134 : decode cX3_brings 134 = .ok (.bipush 40, 2) := by decide +kernel
theorem dX3_brings_136 : decode cX3_brings 136 = .ok (.iaload, 1) := by decide +kernel
theorem dX3_brings_137 : decode cX3_brings 137 = .ok (.istore 4, 2) := by decide +kernel
theorem dX3_brings_139 : decode cX3_brings 139 = .ok (.aload_n 0, 1) := by decide +kernel
theorem dX3_brings_140 : decode cX3_brings 140 = .ok (.getfield 16, 3) := by decide +kernel
theorem dX3_brings_143 : decode cX3_brings 143 = .ok (.aload_n 0, 1) := by decide +kernel
theorem dX3_brings_144 : decode cX3_brings 144 = .ok (.getfield 7, 3) := by decide +kernel
theorem dX3_brings_147 : decode cX3_brings 147 = .ok (.invokestatic 31, 3) := by decide +kernel
theorem dX3_brings_150 : decode cX3_brings 150 = .ok (.iload 4, 2) := by decide +kernel
theorem dX3_brings_152 : decode cX3_brings 152 = .ok (.ireturn, 1) := by decide +kernel
theorem dX3_would_0 : decode cX3_would 0 = .ok (.iload_n 1, 1) := by decide +kernel
theorem dX3_would_1 : decode cX3_would 1 = .ok (.invokestatic 123, 3) := by decide +kernel
theorem dX3_would_4 : decode cX3_would 4 = .ok (.ifCond .eq 37, 3) := by decide +kernel
theorem dX3_would_7 : decode cX3_would 7 = .ok (.iload_n 2, 1) := by decide +kernel
theorem dX3_would_8 : decode cX3_would 8 = .ok (.i2l, 1) := by decide +kernel
theorem dX3_would_9 : decode cX3_would 9 = .ok (.lconst 1, 1) := by decide +kernel
theorem dX3_would_10 : decode cX3_would 10 = .ok (.ldc2_w 119, 3) := by decide +kernel
theorem dX3_would_13 : decode cX3_would 13 = .ok (.invokestatic 39, 3) := by decide +kernel
theorem dX3_would_16 : decode cX3_would 16 = .ok (.ifCond .eq 25, 3) := by decide +kernel
theorem dX3_would_19 : decode cX3_would 19 = .ok (.iload_n 3, 1) := by decide +kernel
theorem dX3_would_20 : decode cX3_would 20 = .ok (.i2l, 1) := by decide +kernel
theorem dX3_would_21 : decode cX3_would 21 = .ok (.lconst 0, 1) := by decide +kernel
theorem dX3_would_22 : decode cX3_would 22 = .ok (.ldc2_w 159, 3) := by decide +kernel
theorem dX3_would_25 : decode cX3_would 25 = .ok (.invokestatic 39, 3) := by decide +kernel
theorem dX3_would_28 : decode cX3_would 28 = .ok (.ifCond .eq 13, 3) := by decide +kernel
theorem dX3_would_31 : decode cX3_would 31 = .ok (.aload_n 0, 1) := by decide +kernel
theorem dX3_would_32 : decode cX3_would 32 = .ok (.iload_n 1, 1) := by decide +kernel
theorem dX3_would_33 : decode cX3_would 33 = .ok (.iload_n 2, 1) := by decide +kernel
theorem dX3_would_34 : decode cX3_would 34 = .ok (.iload_n 3, 1) := by decide +kernel
theorem dX3_would_35 : decode cX3_would 35 = .ok (.invokevirtual 161, 3) := by decide +kernel
theorem dX3_would_38 : decode cX3_would 38 = .ok (.goto 5, 3) := by decide +kernel
theorem dX3_would_41 : decode cX3_would 41 = .ok (.bipush (-2), 2) := by decide +kernel
theorem dX3_would_43 : decode cX3_would 43 = .ok (.ireturn, 1) := by decide +kernel
theorem dX3_best_0 : decode cX3_best 0 = .ok (.iload_n 1, 1) := by decide +kernel
theorem dX3_best_1 : decode cX3_best 1 = .ok (.i2l, 1) := by decide +kernel
theorem dX3_best_2 : decode cX3_best 2 = .ok (.lconst 1, 1) := by decide +kernel
theorem dX3_best_3 : decode cX3_best 3 = .ok (.ldc2_w 130, 3) := by decide +kernel
theorem dX3_best_6 : decode cX3_best 6 = .ok (.invokestatic 39, 3) := by decide +kernel
theorem dX3_best_9 : decode cX3_best 9 = .ok (.ifCond .ne 6, 3) := by decide +kernel
theorem dX3_best_12 : decode cX3_best 12 = .ok (.bipush (-2), 2) := by decide +kernel
theorem dX3_best_14 : decode cX3_best 14 = .ok (.ireturn, 1) := by decide +kernel
theorem dX3_best_15 : decode cX3_best 15 = .ok (.bipush (-5), 2) := by decide +kernel
theorem dX3_best_17 : decode cX3_best 17 = .ok (.istore_n 2, 1) := by decide +kernel
theorem dX3_best_18 : decode cX3_best 18 = .ok (.iconst 0, 1) := by decide +kernel
theorem dX3_best_19 : decode cX3_best 19 = .ok (.istore_n 3, 1) := by decide +kernel
theorem dX3_best_20 : decode cX3_best 20 = .ok (.sipush 500, 3) := by decide +kernel
theorem dX3_best_23 : decode cX3_best 23 = .ok (.istore 4, 2) := by decide +kernel
theorem dX3_best_25 : decode cX3_best 25 = .ok (.iload 4, 2) := by decide +kernel
theorem dX3_best_27 : decode cX3_best 27 = .ok (.sipush 1200, 3) := by decide +kernel
theorem dX3_best_30 : decode cX3_best 30 = .ok (.if_icmp .gt 48, 3) := by decide +kernel
theorem dX3_best_33 : decode cX3_best 33 = .ok (.aload_n 0, 1) := by decide +kernel
theorem dX3_best_34 : decode cX3_best 34 = .ok (.iload 4, 2) := by decide +kernel
theorem dX3_best_36 : decode cX3_best 36 = .ok (.iload_n 1, 1) := by decide +kernel
theorem dX3_best_37 : decode cX3_best 37 = .ok (.iconst 2, 1) := by decide +kernel
theorem dX3_best_38 : decode cX3_best 38 = .ok (.invokevirtual 161, 3) := by decide +kernel
theorem dX3_best_41 : decode cX3_best 41 = .ok (.istore 5, 2) := by decide +kernel
theorem dX3_best_43 : decode cX3_best 43 = .ok (.aload_n 0, 1) := by decide +kernel
theorem dX3_best_44 : decode cX3_best 44 = .ok (.iload 4, 2) := by decide +kernel
theorem dX3_best_46 : decode cX3_best 46 = .ok (.iload_n 1, 1) := by decide +kernel
theorem dX3_best_47 : decode cX3_best 47 = .ok (.iconst 1, 1) := by decide +kernel
theorem dX3_best_48 : decode cX3_best 48 = .ok (.invokevirtual 161, 3) := by decide +kernel
theorem dX3_best_51 : decode cX3_best 51 = .ok (.ifCond .ne 21, 3) := by decide +kernel
theorem dX3_best_54 : decode cX3_best 54 = .ok (.iload_n 2, 1) := by decide +kernel
theorem dX3_best_55 : decode cX3_best 55 = .ok (.bipush (-5), 2) := by decide +kernel
theorem dX3_best_57 : decode cX3_best 57 = .ok (.if_icmp .eq 9, 3) := by decide +kernel
theorem dX3_best_60 : decode cX3_best 60 = .ok (.iload 5, 2) := by decide +kernel
theorem dX3_best_62 : decode cX3_best 62 = .ok (.iload_n 3, 1) := by decide +kernel
theorem dX3_best_63 : decode cX3_best 63 = .ok (.if_icmp .ge 9, 3) := by decide +kernel
theorem dX3_best_66 : decode cX3_best 66 = .ok (.iload 4, 2) := by decide +kernel
theorem dX3_best_68 : decode cX3_best 68 = .ok (.istore_n 2, 1) := by decide +kernel
theorem dX3_best_69 : decode cX3_best 69 = .ok (.iload 5, 2) := by decide +kernel
theorem dX3_best_71 : decode cX3_best 71 = .ok (.istore_n 3, 1) := by decide +kernel
theorem dX3_best_72 : decode cX3_best 72 = .ok (.iinc 4 50, 3) := by decide +kernel
theorem dX3_best_75 : decode cX3_best 75 = .ok (.goto (-50), 3) := by decide +kernel
theorem dX3_best_78 : decode cX3_best 78 = .ok (.iload_n 2, 1) := by decide +kernel
theorem dX3_best_79 : decode cX3_best 79 = .ok (.ireturn, 1) := by decide +kernel
theorem dX3_pathsThat_0 : decode cX3_pathsThat 0 = .ok (.iconst 0, 1) := by decide +kernel
theorem dX3_pathsThat_1 : decode cX3_pathsThat 1 = .ok (.istore_n 2, 1) := by decide +kernel
theorem dX3_pathsThat_2 : decode cX3_pathsThat 2 = .ok (.iconst 0, 1) := by decide +kernel
theorem dX3_pathsThat_3 : decode cX3_pathsThat 3 = .ok (.istore_n 3, 1) := by decide +kernel
theorem dX3_pathsThat_4 : decode cX3_pathsThat 4 = .ok (.iload_n 3, 1) := by decide +kernel
theorem dX3_pathsThat_5 : decode cX3_pathsThat 5 = .ok (.aload_n 0, 1) := by decide +kernel
theorem dX3_pathsThat_6 : decode cX3_pathsThat 6 = .ok (.getfield 7, 3) := by decide +kernel
theorem dX3_pathsThat_9 : decode cX3_pathsThat 9 = .ok (.bipush 51, 2) := by decide +kernel
theorem dX3_pathsThat_11 : decode cX3_pathsThat 11 = .ok (.iaload, 1) := by decide +kernel
theorem dX3_pathsThat_12 : decode cX3_pathsThat 12 = .ok (.if_icmp .ge 35, 3) := by decide +kernel
theorem dX3_pathsThat_15 : decode cX3_pathsThat 15 = .ok (.iload_n 2, 1) := by decide +kernel
theorem dX3_pathsThat_16 : decode cX3_pathsThat 16 = .ok (.aload_n 0, 1) := by decide +kernel
theorem dX3_pathsThat_17 : decode cX3_pathsThat 17 = .ok (.iload_n 3, 1) := by decide +kernel
theorem dX3_pathsThat_18 : decode cX3_pathsThat 18 = .ok (.aload_n 0, 1) := by decide +kernel
theorem dX3_pathsThat_19 : decode cX3_pathsThat 19 = .ok (.getfield 7, 3) := by decide +kernel
theorem dX3_pathsThat_22 : decode cX3_pathsThat 22 = .ok (.bipush 39, 2) := by decide +kernel
theorem dX3_pathsThat_24 : decode cX3_pathsThat 24 = .ok (.iaload, 1) := by decide +kernel
theorem dX3_pathsThat_25 : decode cX3_pathsThat 25 = .ok (.invokevirtual 51, 3) := by decide +kernel
theorem dX3_pathsThat_28 : decode cX3_pathsThat 28 = .ok (.iload_n 1, 1) := by decide +kernel
theorem dX3_pathsThat_29 : decode cX3_pathsThat 29 = .ok (.if_icmp .ne 9, 3) := by decide +kernel
theorem dX3_pathsThat_32 : decode cX3_pathsThat 32 = .ok (.iconst 1, 1) := by decide +kernel
theorem dX3_pathsThat_33 : decode cX3_pathsThat 33 = .ok (.iload_n 3, 1) := by decide +kernel
theorem dX3_pathsThat_34 : decode cX3_pathsThat 34 = .ok (.ishl, 1) := by decide +kernel
theorem dX3_pathsThat_35 : decode cX3_pathsThat 35 = .ok (.goto 4, 3) := by decide +kernel
theorem dX3_pathsThat_38 : decode cX3_pathsThat 38 = .ok (.iconst 0, 1) := by decide +kernel
theorem dX3_pathsThat_39 : decode cX3_pathsThat 39 = .ok (.ior, 1) := by decide +kernel
theorem dX3_pathsThat_40 : decode cX3_pathsThat 40 = .ok (.istore_n 2, 1) := by decide +kernel
theorem dX3_pathsThat_41 : decode cX3_pathsThat 41 = .ok (.iinc 3 1, 3) := by decide +kernel
theorem dX3_pathsThat_44 : decode cX3_pathsThat 44 = .ok (.goto (-40), 3) := by decide +kernel
theorem dX3_pathsThat_47 : decode cX3_pathsThat 47 = .ok (.iload_n 2, 1) := by decide +kernel
theorem dX3_pathsThat_48 : decode cX3_pathsThat 48 = .ok (.ireturn, 1) := by decide +kernel
theorem dX3_count_0 : decode cX3_count 0 = .ok (.iload_n 1, 1) := by decide +kernel
theorem dX3_count_1 : decode cX3_count 1 = .ok (.i2l, 1) := by decide +kernel
theorem dX3_count_2 : decode cX3_count 2 = .ok (.lconst 0, 1) := by decide +kernel
theorem dX3_count_3 : decode cX3_count 3 = .ok (.ldc2_w 164, 3) := by decide +kernel
theorem dX3_count_6 : decode cX3_count 6 = .ok (.invokestatic 39, 3) := by decide +kernel
theorem dX3_count_9 : decode cX3_count 9 = .ok (.ifCond .eq 13, 3) := by decide +kernel
theorem dX3_count_12 : decode cX3_count 12 = .ok (.aload_n 0, 1) := by decide +kernel
theorem dX3_count_13 : decode cX3_count 13 = .ok (.getfield 7, 3) := by decide +kernel
theorem dX3_count_16 : decode cX3_count 16 = .ok (.bipush 39, 2) := by decide +kernel
theorem dX3_count_18 : decode cX3_count 18 = .ok (.iload_n 1, 1) := by decide +kernel
theorem dX3_count_19 : decode cX3_count 19 = .ok (.iadd, 1) := by decide +kernel
theorem dX3_count_20 : decode cX3_count 20 = .ok (.iaload, 1) := by decide +kernel
theorem dX3_count_21 : decode cX3_count 21 = .ok (.ireturn, 1) := by decide +kernel
theorem dX3_count_22 : decode cX3_count 22 = .ok (.iload_n 1, 1) := by decide +kernel
theorem dX3_count_23 : decode cX3_count 23 = .ok (.i2l, 1) := by decide +kernel
theorem dX3_count_24 : decode cX3_count 24 = .ok (.ldc2_w 166, 3) := by decide +kernel
theorem dX3_count_27 : decode cX3_count 27 = .ok (.ldc2_w 168, 3) := by decide +kernel
theorem dX3_count_30 : decode cX3_count 30 = .ok (.invokestatic 39, 3) := by decide +kernel
theorem dX3_count_33 : decode cX3_count 33 = .ok (.ifCond .eq 16, 3) := by decide +kernel
theorem dX3_count_36 : decode cX3_count 36 = .ok (.aload_n 0, 1) := by decide +kernel
theorem dX3_count_37 : decode cX3_count 37 = .ok (.getfield 7, 3) := by decide +kernel
theorem dX3_count_40 : decode cX3_count 40 = .ok (.bipush 32, 2) := by decide +kernel
theorem dX3_count_42 : decode cX3_count 42 = .ok (.iload_n 1, 1) := by decide +kernel
theorem dX3_count_43 : decode cX3_count 43 = .ok (.iadd, 1) := by decide +kernel
theorem dX3_count_44 : decode cX3_count 44 = .ok (.bipush 17, 2) := by decide +kernel
theorem dX3_count_46 : decode cX3_count 46 = .ok (.isub, 1) := by decide +kernel
theorem dX3_count_47 : decode cX3_count 47 = .ok (.iaload, 1) := by decide +kernel
theorem dX3_count_48 : decode cX3_count 48 = .ok (.ireturn, 1) := by decide +kernel
theorem dX3_count_49 : decode cX3_count 49 = .ok (.iload_n 1, 1) := by decide +kernel
theorem dX3_count_50 : decode cX3_count 50 = .ok (.tableswitch 101 13 25 #[66, 66, 75, 83, 101, 101, 101, 101, 101, 101, 101, 91, 96], 66) := by decide +kernel
theorem dX3_count_116 : decode cX3_count 116 = .ok (.aload_n 0, 1) := by decide +kernel
theorem dX3_count_117 : decode cX3_count 117 = .ok (.iload_n 1, 1) := by decide +kernel
theorem dX3_count_118 : decode cX3_count 118 = .ok (.bipush 12, 2) := by decide +kernel
theorem dX3_count_120 : decode cX3_count 120 = .ok (.isub, 1) := by decide +kernel
theorem dX3_count_121 : decode cX3_count 121 = .ok (.invokevirtual 170, 3) := by decide +kernel
theorem dX3_count_124 : decode cX3_count 124 = .ok (.ireturn, 1) := by decide +kernel
theorem dX3_count_125 : decode cX3_count 125 = .ok (.aload_n 0, 1) := by decide +kernel
theorem dX3_count_126 : decode cX3_count 126 = .ok (.getfield 7, 3) := by decide +kernel
theorem dX3_count_129 : decode cX3_count 129 = .ok (.bipush 52, 2) := by decide +kernel
theorem dX3_count_131 : decode cX3_count 131 = .ok (.iaload, 1) := by decide +kernel
theorem dX3_count_132 : decode cX3_count 132 = .ok (.ireturn, 1) := by decide +kernel
theorem dX3_count_133 : decode cX3_count 133 = .ok (.aload_n 0, 1) := by decide +kernel
theorem dX3_count_134 : decode cX3_count 134 = .ok (.getfield 7, 3) := by decide +kernel
theorem dX3_count_137 : decode cX3_count 137 = .ok (.bipush 53, 2) := by decide +kernel
theorem dX3_count_139 : decode cX3_count 139 = .ok (.iaload, 1) := by decide +kernel
theorem dX3_count_140 : decode cX3_count 140 = .ok (.ireturn, 1) := by decide +kernel
theorem dX3_count_141 : decode cX3_count 141 = .ok (.aload_n 0, 1) := by decide +kernel
theorem dX3_count_142 : decode cX3_count 142 = .ok (.getfield 35, 3) := by decide +kernel
theorem dX3_count_145 : decode cX3_count 145 = .ok (.ireturn, 1) := by decide +kernel
theorem dX3_count_146 : decode cX3_count 146 = .ok (.aload_n 0, 1) := by decide +kernel
theorem dX3_count_147 : decode cX3_count 147 = .ok (.getfield 96, 3) := by decide +kernel
theorem dX3_count_150 : decode cX3_count 150 = .ok (.ireturn, 1) := by decide +kernel
theorem dX3_count_151 : decode cX3_count 151 = .ok (.bipush (-2), 2) := by decide +kernel
theorem dX3_count_153 : decode cX3_count 153 = .ok (.ireturn, 1) := by decide +kernel
theorem dJ6_bitCount_0f7a4_0 : decode cJ6_bitCount_0f7a4 0 = .ok (.iload_n 0, 1) := by decide +kernel
theorem dJ6_bitCount_0f7a4_1 : decode cJ6_bitCount_0f7a4 1 = .ok (.iload_n 0, 1) := by decide +kernel
theorem dJ6_bitCount_0f7a4_2 : decode cJ6_bitCount_0f7a4 2 = .ok (.iconst 1, 1) := by decide +kernel
theorem dJ6_bitCount_0f7a4_3 : decode cJ6_bitCount_0f7a4 3 = .ok (.iushr, 1) := by decide +kernel
theorem dJ6_bitCount_0f7a4_4 : decode cJ6_bitCount_0f7a4 4 = .ok (.ldc_w 265, 3) := by decide +kernel
theorem dJ6_bitCount_0f7a4_7 : decode cJ6_bitCount_0f7a4 7 = .ok (.iand, 1) := by decide +kernel
theorem dJ6_bitCount_0f7a4_8 : decode cJ6_bitCount_0f7a4 8 = .ok (.isub, 1) := by decide +kernel
theorem dJ6_bitCount_0f7a4_9 : decode cJ6_bitCount_0f7a4 9 = .ok (.istore_n 0, 1) := by decide +kernel
theorem dJ6_bitCount_0f7a4_10 : decode cJ6_bitCount_0f7a4 10 = .ok (.iload_n 0, 1) := by decide +kernel
theorem dJ6_bitCount_0f7a4_11 : decode cJ6_bitCount_0f7a4 11 = .ok (.ldc_w 266, 3) := by decide +kernel
theorem dJ6_bitCount_0f7a4_14 : decode cJ6_bitCount_0f7a4 14 = .ok (.iand, 1) := by decide +kernel
theorem dJ6_bitCount_0f7a4_15 : decode cJ6_bitCount_0f7a4 15 = .ok (.iload_n 0, 1) := by decide +kernel
theorem dJ6_bitCount_0f7a4_16 : decode cJ6_bitCount_0f7a4 16 = .ok (.iconst 2, 1) := by decide +kernel
theorem dJ6_bitCount_0f7a4_17 : decode cJ6_bitCount_0f7a4 17 = .ok (.iushr, 1) := by decide +kernel
theorem dJ6_bitCount_0f7a4_18 : decode cJ6_bitCount_0f7a4 18 = .ok (.ldc_w 266, 3) := by decide +kernel
theorem dJ6_bitCount_0f7a4_21 : decode cJ6_bitCount_0f7a4 21 = .ok (.iand, 1) := by decide +kernel
theorem dJ6_bitCount_0f7a4_22 : decode cJ6_bitCount_0f7a4 22 = .ok (.iadd, 1) := by decide +kernel
theorem dJ6_bitCount_0f7a4_23 : decode cJ6_bitCount_0f7a4 23 = .ok (.istore_n 0, 1) := by decide +kernel
theorem dJ6_bitCount_0f7a4_24 : decode cJ6_bitCount_0f7a4 24 = .ok (.iload_n 0, 1) := by decide +kernel
theorem dJ6_bitCount_0f7a4_25 : decode cJ6_bitCount_0f7a4 25 = .ok (.iload_n 0, 1) := by decide +kernel
theorem dJ6_bitCount_0f7a4_26 : decode cJ6_bitCount_0f7a4 26 = .ok (.iconst 4, 1) := by decide +kernel
theorem dJ6_bitCount_0f7a4_27 : decode cJ6_bitCount_0f7a4 27 = .ok (.iushr, 1) := by decide +kernel
theorem dJ6_bitCount_0f7a4_28 : decode cJ6_bitCount_0f7a4 28 = .ok (.iadd, 1) := by decide +kernel
theorem dJ6_bitCount_0f7a4_29 : decode cJ6_bitCount_0f7a4 29 = .ok (.ldc_w 267, 3) := by decide +kernel
theorem dJ6_bitCount_0f7a4_32 : decode cJ6_bitCount_0f7a4 32 = .ok (.iand, 1) := by decide +kernel
theorem dJ6_bitCount_0f7a4_33 : decode cJ6_bitCount_0f7a4 33 = .ok (.istore_n 0, 1) := by decide +kernel
theorem dJ6_bitCount_0f7a4_34 : decode cJ6_bitCount_0f7a4 34 = .ok (.iload_n 0, 1) := by decide +kernel
theorem dJ6_bitCount_0f7a4_35 : decode cJ6_bitCount_0f7a4 35 = .ok (.iload_n 0, 1) := by decide +kernel
theorem dJ6_bitCount_0f7a4_36 : decode cJ6_bitCount_0f7a4 36 = .ok (.bipush 8, 2) := by decide +kernel
theorem dJ6_bitCount_0f7a4_38 : decode cJ6_bitCount_0f7a4 38 = .ok (.iushr, 1) := by decide +kernel
theorem dJ6_bitCount_0f7a4_39 : decode cJ6_bitCount_0f7a4 39 = .ok (.iadd, 1) := by decide +kernel
theorem dJ6_bitCount_0f7a4_40 : decode cJ6_bitCount_0f7a4 40 = .ok (.istore_n 0, 1) := by decide +kernel
theorem dJ6_bitCount_0f7a4_41 : decode cJ6_bitCount_0f7a4 41 = .ok (.iload_n 0, 1) := by decide +kernel
theorem dJ6_bitCount_0f7a4_42 : decode cJ6_bitCount_0f7a4 42 = .ok (.iload_n 0, 1) := by decide +kernel
theorem dJ6_bitCount_0f7a4_43 : decode cJ6_bitCount_0f7a4 43 = .ok (.bipush 16, 2) := by decide +kernel
theorem dJ6_bitCount_0f7a4_45 : decode cJ6_bitCount_0f7a4 45 = .ok (.iushr, 1) := by decide +kernel
theorem dJ6_bitCount_0f7a4_46 : decode cJ6_bitCount_0f7a4 46 = .ok (.iadd, 1) := by decide +kernel
theorem dJ6_bitCount_0f7a4_47 : decode cJ6_bitCount_0f7a4 47 = .ok (.istore_n 0, 1) := by decide +kernel
theorem dJ6_bitCount_0f7a4_48 : decode cJ6_bitCount_0f7a4 48 = .ok (.iload_n 0, 1) := by decide +kernel
theorem dJ6_bitCount_0f7a4_49 : decode cJ6_bitCount_0f7a4 49 = .ok (.bipush 63, 2) := by decide +kernel
theorem dJ6_bitCount_0f7a4_51 : decode cJ6_bitCount_0f7a4 51 = .ok (.iand, 1) := by decide +kernel
theorem dJ6_bitCount_0f7a4_52 : decode cJ6_bitCount_0f7a4 52 = .ok (.ireturn, 1) := by decide +kernel
theorem dJ9_max_7cf53_0 : decode cJ9_max_7cf53 0 = .ok (.iload_n 0, 1) := by decide +kernel
theorem dJ9_max_7cf53_1 : decode cJ9_max_7cf53 1 = .ok (.iload_n 1, 1) := by decide +kernel
theorem dJ9_max_7cf53_2 : decode cJ9_max_7cf53 2 = .ok (.if_icmp .lt 7, 3) := by decide +kernel
theorem dJ9_max_7cf53_5 : decode cJ9_max_7cf53 5 = .ok (.iload_n 0, 1) := by decide +kernel
theorem dJ9_max_7cf53_6 : decode cJ9_max_7cf53 6 = .ok (.goto 4, 3) := by decide +kernel
theorem dJ9_max_7cf53_9 : decode cJ9_max_7cf53 9 = .ok (.iload_n 1, 1) := by decide +kernel
theorem dJ9_max_7cf53_10 : decode cJ9_max_7cf53 10 = .ok (.ireturn, 1) := by decide +kernel
theorem dJ9_min_7cf53_0 : decode cJ9_min_7cf53 0 = .ok (.iload_n 0, 1) := by decide +kernel
theorem dJ9_min_7cf53_1 : decode cJ9_min_7cf53 1 = .ok (.iload_n 1, 1) := by decide +kernel
theorem dJ9_min_7cf53_2 : decode cJ9_min_7cf53 2 = .ok (.if_icmp .gt 7, 3) := by decide +kernel
theorem dJ9_min_7cf53_5 : decode cJ9_min_7cf53 5 = .ok (.iload_n 0, 1) := by decide +kernel
theorem dJ9_min_7cf53_6 : decode cJ9_min_7cf53 6 = .ok (.goto 4, 3) := by decide +kernel
theorem dJ9_min_7cf53_9 : decode cJ9_min_7cf53 9 = .ok (.iload_n 1, 1) := by decide +kernel
theorem dJ9_min_7cf53_10 : decode cJ9_min_7cf53 10 = .ok (.ireturn, 1) := by decide +kernel
theorem dL_law_0 : decode cL_law 0 = .ok (.new 7, 3) := by decide +kernel
theorem dL_law_3 : decode cL_law 3 = .ok (.dup, 1) := by decide +kernel
theorem dL_law_4 : decode cL_law 4 = .ok (.invokespecial 9, 3) := by decide +kernel
theorem dL_law_7 : decode cL_law 7 = .ok (.astore_n 1, 1) := by decide +kernel
theorem dL_law_8 : decode cL_law 8 = .ok (.new 10, 3) := by decide +kernel
theorem dL_law_11 : decode cL_law 11 = .ok (.dup, 1) := by decide +kernel
theorem dL_law_12 : decode cL_law 12 = .ok (.invokespecial 12, 3) := by decide +kernel
theorem dL_law_15 : decode cL_law 15 = .ok (.astore_n 2, 1) := by decide +kernel
theorem dL_law_16 : decode cL_law 16 = .ok (.iconst 0, 1) := by decide +kernel
theorem dL_law_17 : decode cL_law 17 = .ok (.istore_n 3, 1) := by decide +kernel
theorem dL_law_18 : decode cL_law 18 = .ok (.iload_n 3, 1) := by decide +kernel
theorem dL_law_19 : decode cL_law 19 = .ok (.aload_n 0, 1) := by decide +kernel
theorem dL_law_20 : decode cL_law 20 = .ok (.arraylength, 1) := by decide +kernel
theorem dL_law_21 : decode cL_law 21 = .ok (.iconst 4, 1) := by decide +kernel
theorem dL_law_22 : decode cL_law 22 = .ok (.isub, 1) := by decide +kernel
theorem dL_law_23 : decode cL_law 23 = .ok (.if_icmp .gt 635, 3) := by decide +kernel
theorem dL_law_26 : decode cL_law 26 = .ok (.aload_n 0, 1) := by decide +kernel
theorem dL_law_27 : decode cL_law 27 = .ok (.iload_n 3, 1) := by decide +kernel
theorem dL_law_28 : decode cL_law 28 = .ok (.iaload, 1) := by decide +kernel
theorem dL_law_29 : decode cL_law 29 = .ok (.bipush 31, 2) := by decide +kernel
theorem dL_law_31 : decode cL_law 31 = .ok (.iand, 1) := by decide +kernel
theorem dL_law_32 : decode cL_law 32 = .ok (.tableswitch 620 0 19 #[96, 119, 152, 165, 198, 221, 260, 293, 316, 341, 354, 367, 380, 393, 426, 469, 492, 531, 574, 597], 96) := by decide +kernel
theorem dL_law_128 : decode cL_law 128 = .ok (.aload_n 1, 1) := by decide +kernel
theorem dL_law_129 : decode cL_law 129 = .ok (.aload_n 0, 1) := by decide +kernel
theorem dL_law_130 : decode cL_law 130 = .ok (.iload_n 3, 1) := by decide +kernel
theorem dL_law_131 : decode cL_law 131 = .ok (.iconst 1, 1) := by decide +kernel
theorem dL_law_132 : decode cL_law 132 = .ok (.iadd, 1) := by decide +kernel
theorem dL_law_133 : decode cL_law 133 = .ok (.iaload, 1) := by decide +kernel
theorem dL_law_134 : decode cL_law 134 = .ok (.invokevirtual 13, 3) := by decide +kernel
theorem dL_law_137 : decode cL_law 137 = .ok (.aload_n 2, 1) := by decide +kernel
theorem dL_law_138 : decode cL_law 138 = .ok (.aload_n 0, 1) := by decide +kernel
theorem dL_law_139 : decode cL_law 139 = .ok (.iload_n 3, 1) := by decide +kernel
theorem dL_law_140 : decode cL_law 140 = .ok (.iconst 1, 1) := by decide +kernel
theorem dL_law_141 : decode cL_law 141 = .ok (.iadd, 1) := by decide +kernel
theorem dL_law_142 : decode cL_law 142 = .ok (.iaload, 1) := by decide +kernel
theorem dL_law_143 : decode cL_law 143 = .ok (.invokevirtual 17, 3) := by decide +kernel
theorem dL_law_146 : decode cL_law 146 = .ok (.if_icmp .eq 506, 3) := by decide +kernel
theorem dL_law_149 : decode cL_law 149 = .ok (.iconst 0, 1) := by decide +kernel
theorem dL_law_150 : decode cL_law 150 = .ok (.ireturn, 1) := by decide +kernel
theorem dL_law_151 : decode cL_law 151 = .ok (.aload_n 1, 1) := by decide +kernel
theorem dL_law_152 : decode cL_law 152 = .ok (.aload_n 0, 1) := by decide +kernel
theorem dL_law_153 : decode cL_law 153 = .ok (.iload_n 3, 1) := by decide +kernel
theorem dL_law_154 : decode cL_law 154 = .ok (.iconst 1, 1) := by decide +kernel
theorem dL_law_155 : decode cL_law 155 = .ok (.iadd, 1) := by decide +kernel
theorem dL_law_156 : decode cL_law 156 = .ok (.iaload, 1) := by decide +kernel
theorem dL_law_157 : decode cL_law 157 = .ok (.aload_n 0, 1) := by decide +kernel
theorem dL_law_158 : decode cL_law 158 = .ok (.iload_n 3, 1) := by decide +kernel
theorem dL_law_159 : decode cL_law 159 = .ok (.iconst 2, 1) := by decide +kernel
theorem dL_law_160 : decode cL_law 160 = .ok (.iadd, 1) := by decide +kernel
theorem dL_law_161 : decode cL_law 161 = .ok (.iaload, 1) := by decide +kernel
theorem dL_law_162 : decode cL_law 162 = .ok (.invokevirtual 18, 3) := by decide +kernel
theorem dL_law_165 : decode cL_law 165 = .ok (.aload_n 2, 1) := by decide +kernel
theorem dL_law_166 : decode cL_law 166 = .ok (.aload_n 0, 1) := by decide +kernel
theorem dL_law_167 : decode cL_law 167 = .ok (.iload_n 3, 1) := by decide +kernel
theorem dL_law_168 : decode cL_law 168 = .ok (.iconst 1, 1) := by decide +kernel
theorem dL_law_169 : decode cL_law 169 = .ok (.iadd, 1) := by decide +kernel
theorem dL_law_170 : decode cL_law 170 = .ok (.iaload, 1) := by decide +kernel
theorem dL_law_171 : decode cL_law 171 = .ok (.aload_n 0, 1) := by decide +kernel
theorem dL_law_172 : decode cL_law 172 = .ok (.iload_n 3, 1) := by decide +kernel
theorem dL_law_173 : decode cL_law 173 = .ok (.iconst 2, 1) := by decide +kernel
theorem dL_law_174 : decode cL_law 174 = .ok (.iadd, 1) := by decide +kernel
theorem dL_law_175 : decode cL_law 175 = .ok (.iaload, 1) := by decide +kernel
theorem dL_law_176 : decode cL_law 176 = .ok (.invokevirtual 22, 3) := by decide +kernel
theorem dL_law_179 : decode cL_law 179 = .ok (.if_icmp .eq 473, 3) := by decide +kernel
theorem dL_law_182 : decode cL_law 182 = .ok (.iconst 0, 1) := by decide +kernel
theorem dL_law_183 : decode cL_law 183 = .ok (.ireturn, 1) := by decide +kernel
theorem dL_law_184 : decode cL_law 184 = .ok (.aload_n 1, 1) := by decide +kernel
theorem dL_law_185 : decode cL_law 185 = .ok (.invokevirtual 23, 3) := by decide +kernel
theorem dL_law_188 : decode cL_law 188 = .ok (.aload_n 2, 1) := by decide +kernel
theorem dL_law_189 : decode cL_law 189 = .ok (.invokevirtual 27, 3) := by decide +kernel
theorem dL_law_192 : decode cL_law 192 = .ok (.if_icmp .eq 460, 3) := by decide +kernel
theorem dL_law_195 : decode cL_law 195 = .ok (.iconst 0, 1) := by decide +kernel
theorem dL_law_196 : decode cL_law 196 = .ok (.ireturn, 1) := by decide +kernel
theorem dL_law_197 : decode cL_law 197 = .ok (.aload_n 1, 1) := by decide +kernel
theorem dL_law_198 : decode cL_law 198 = .ok (.aload_n 0, 1) := by decide +kernel
theorem dL_law_199 : decode cL_law 199 = .ok (.iload_n 3, 1) := by decide +kernel
theorem dL_law_200 : decode cL_law 200 = .ok (.iconst 1, 1) := by decide +kernel
theorem dL_law_201 : decode cL_law 201 = .ok (.iadd, 1) := by decide +kernel
theorem dL_law_202 : decode cL_law 202 = .ok (.iaload, 1) := by decide +kernel
theorem dL_law_203 : decode cL_law 203 = .ok (.aload_n 0, 1) := by decide +kernel
theorem dL_law_204 : decode cL_law 204 = .ok (.iload_n 3, 1) := by decide +kernel
theorem dL_law_205 : decode cL_law 205 = .ok (.iconst 2, 1) := by decide +kernel
theorem dL_law_206 : decode cL_law 206 = .ok (.iadd, 1) := by decide +kernel
theorem dL_law_207 : decode cL_law 207 = .ok (.iaload, 1) := by decide +kernel
theorem dL_law_208 : decode cL_law 208 = .ok (.invokevirtual 28, 3) := by decide +kernel
theorem dL_law_211 : decode cL_law 211 = .ok (.aload_n 2, 1) := by decide +kernel
theorem dL_law_212 : decode cL_law 212 = .ok (.aload_n 0, 1) := by decide +kernel
theorem dL_law_213 : decode cL_law 213 = .ok (.iload_n 3, 1) := by decide +kernel
theorem dL_law_214 : decode cL_law 214 = .ok (.iconst 1, 1) := by decide +kernel
theorem dL_law_215 : decode cL_law 215 = .ok (.iadd, 1) := by decide +kernel
theorem dL_law_216 : decode cL_law 216 = .ok (.iaload, 1) := by decide +kernel
theorem dL_law_217 : decode cL_law 217 = .ok (.aload_n 0, 1) := by decide +kernel
theorem dL_law_218 : decode cL_law 218 = .ok (.iload_n 3, 1) := by decide +kernel
theorem dL_law_219 : decode cL_law 219 = .ok (.iconst 2, 1) := by decide +kernel
theorem dL_law_220 : decode cL_law 220 = .ok (.iadd, 1) := by decide +kernel
theorem dL_law_221 : decode cL_law 221 = .ok (.iaload, 1) := by decide +kernel
theorem dL_law_222 : decode cL_law 222 = .ok (.invokevirtual 31, 3) := by decide +kernel
theorem dL_law_225 : decode cL_law 225 = .ok (.if_icmp .eq 427, 3) := by decide +kernel
theorem dL_law_228 : decode cL_law 228 = .ok (.iconst 0, 1) := by decide +kernel
theorem dL_law_229 : decode cL_law 229 = .ok (.ireturn, 1) := by decide +kernel
theorem dL_law_230 : decode cL_law 230 = .ok (.aload_n 1, 1) := by decide +kernel
theorem dL_law_231 : decode cL_law 231 = .ok (.aload_n 0, 1) := by decide +kernel
theorem dL_law_232 : decode cL_law 232 = .ok (.iload_n 3, 1) := by decide +kernel
theorem dL_law_233 : decode cL_law 233 = .ok (.iconst 1, 1) := by decide +kernel
theorem dL_law_234 : decode cL_law 234 = .ok (.iadd, 1) := by decide +kernel
theorem dL_law_235 : decode cL_law 235 = .ok (.iaload, 1) := by decide +kernel
theorem dL_law_236 : decode cL_law 236 = .ok (.invokevirtual 32, 3) := by decide +kernel
theorem dL_law_239 : decode cL_law 239 = .ok (.aload_n 2, 1) := by decide +kernel
theorem dL_law_240 : decode cL_law 240 = .ok (.aload_n 0, 1) := by decide +kernel
theorem dL_law_241 : decode cL_law 241 = .ok (.iload_n 3, 1) := by decide +kernel
theorem dL_law_242 : decode cL_law 242 = .ok (.iconst 1, 1) := by decide +kernel
theorem dL_law_243 : decode cL_law 243 = .ok (.iadd, 1) := by decide +kernel
theorem dL_law_244 : decode cL_law 244 = .ok (.iaload, 1) := by decide +kernel
theorem dL_law_245 : decode cL_law 245 = .ok (.invokevirtual 35, 3) := by decide +kernel
theorem dL_law_248 : decode cL_law 248 = .ok (.if_icmp .eq 404, 3) := by decide +kernel
theorem dL_law_251 : decode cL_law 251 = .ok (.iconst 0, 1) := by decide +kernel
theorem dL_law_252 : decode cL_law 252 = .ok (.ireturn, 1) := by decide +kernel
theorem dL_law_253 : decode cL_law 253 = .ok (.aload_n 1, 1) := by decide +kernel
theorem dL_law_254 : decode cL_law 254 = .ok (.aload_n 0, 1) := by decide +kernel
theorem dL_law_255 : decode cL_law 255 = .ok (.iload_n 3, 1) := by decide +kernel
theorem dL_law_256 : decode cL_law 256 = .ok (.iconst 1, 1) := by decide +kernel
theorem dL_law_257 : decode cL_law 257 = .ok (.iadd, 1) := by decide +kernel
theorem dL_law_258 : decode cL_law 258 = .ok (.iaload, 1) := by decide +kernel
theorem dL_law_259 : decode cL_law 259 = .ok (.ifCond .eq 7, 3) := by decide +kernel
theorem dL_law_262 : decode cL_law 262 = .ok (.iconst 1, 1) := by decide +kernel
theorem dL_law_263 : decode cL_law 263 = .ok (.goto 4, 3) := by decide +kernel
theorem dL_law_266 : decode cL_law 266 = .ok (.iconst 0, 1) := by decide +kernel
theorem dL_law_267 : decode cL_law 267 = .ok (.invokevirtual 36, 3) := by decide +kernel
theorem dL_law_270 : decode cL_law 270 = .ok (.aload_n 2, 1) := by decide +kernel
theorem dL_law_271 : decode cL_law 271 = .ok (.aload_n 0, 1) := by decide +kernel
theorem dL_law_272 : decode cL_law 272 = .ok (.iload_n 3, 1) := by decide +kernel
theorem dL_law_273 : decode cL_law 273 = .ok (.iconst 1, 1) := by decide +kernel
theorem dL_law_274 : decode cL_law 274 = .ok (.iadd, 1) := by decide +kernel
theorem dL_law_275 : decode cL_law 275 = .ok (.iaload, 1) := by decide +kernel
theorem dL_law_276 : decode cL_law 276 = .ok (.ifCond .eq 7, 3) := by decide +kernel
theorem dL_law_279 : decode cL_law 279 = .ok (.iconst 1, 1) := by decide +kernel
theorem dL_law_280 : decode cL_law 280 = .ok (.goto 4, 3) := by decide +kernel
theorem dL_law_283 : decode cL_law 283 = .ok (.iconst 0, 1) := by decide +kernel
theorem dL_law_284 : decode cL_law 284 = .ok (.invokevirtual 40, 3) := by decide +kernel
theorem dL_law_287 : decode cL_law 287 = .ok (.if_icmp .eq 365, 3) := by decide +kernel
theorem dL_law_290 : decode cL_law 290 = .ok (.iconst 0, 1) := by decide +kernel
theorem dL_law_291 : decode cL_law 291 = .ok (.ireturn, 1) := by decide +kernel
theorem dL_law_292 : decode cL_law 292 = .ok (.aload_n 1, 1) := by decide +kernel
theorem dL_law_293 : decode cL_law 293 = .ok (.aload_n 0, 1) := by decide +kernel
theorem dL_law_294 : decode cL_law 294 = .ok (.iload_n 3, 1) := by decide +kernel
theorem dL_law_295 : decode cL_law 295 = .ok (.iconst 1, 1) := by decide +kernel
theorem dL_law_296 : decode cL_law 296 = .ok (.iadd, 1) := by decide +kernel
theorem dL_law_297 : decode cL_law 297 = .ok (.iaload, 1) := by decide +kernel
theorem dL_law_298 : decode cL_law 298 = .ok (.aload_n 0, 1) := by decide +kernel
theorem dL_law_299 : decode cL_law 299 = .ok (.iload_n 3, 1) := by decide +kernel
theorem dL_law_300 : decode cL_law 300 = .ok (.iconst 2, 1) := by decide +kernel
theorem dL_law_301 : decode cL_law 301 = .ok (.iadd, 1) := by decide +kernel
theorem dL_law_302 : decode cL_law 302 = .ok (.iaload, 1) := by decide +kernel
theorem dL_law_303 : decode cL_law 303 = .ok (.invokevirtual 41, 3) := by decide +kernel
theorem dL_law_306 : decode cL_law 306 = .ok (.aload_n 2, 1) := by decide +kernel
theorem dL_law_307 : decode cL_law 307 = .ok (.aload_n 0, 1) := by decide +kernel
theorem dL_law_308 : decode cL_law 308 = .ok (.iload_n 3, 1) := by decide +kernel
theorem dL_law_309 : decode cL_law 309 = .ok (.iconst 1, 1) := by decide +kernel
theorem dL_law_310 : decode cL_law 310 = .ok (.iadd, 1) := by decide +kernel
theorem dL_law_311 : decode cL_law 311 = .ok (.iaload, 1) := by decide +kernel
theorem dL_law_312 : decode cL_law 312 = .ok (.aload_n 0, 1) := by decide +kernel
theorem dL_law_313 : decode cL_law 313 = .ok (.iload_n 3, 1) := by decide +kernel
theorem dL_law_314 : decode cL_law 314 = .ok (.iconst 2, 1) := by decide +kernel
theorem dL_law_315 : decode cL_law 315 = .ok (.iadd, 1) := by decide +kernel
theorem dL_law_316 : decode cL_law 316 = .ok (.iaload, 1) := by decide +kernel
theorem dL_law_317 : decode cL_law 317 = .ok (.invokevirtual 44, 3) := by decide +kernel
theorem dL_law_320 : decode cL_law 320 = .ok (.if_icmp .eq 332, 3) := by decide +kernel
theorem dL_law_323 : decode cL_law 323 = .ok (.iconst 0, 1) := by decide +kernel
theorem dL_law_324 : decode cL_law 324 = .ok (.ireturn, 1) := by decide +kernel
theorem dL_law_325 : decode cL_law 325 = .ok (.aload_n 1, 1) := by decide +kernel
theorem dL_law_326 : decode cL_law 326 = .ok (.aload_n 0, 1) := by decide +kernel
theorem dL_law_327 : decode cL_law 327 = .ok (.iload_n 3, 1) := by decide +kernel
theorem dL_law_328 : decode cL_law 328 = .ok (.iconst 1, 1) := by decide +kernel
theorem dL_law_329 : decode cL_law 329 = .ok (.iadd, 1) := by decide +kernel
theorem dL_law_330 : decode cL_law 330 = .ok (.iaload, 1) := by decide +kernel
theorem dL_law_331 : decode cL_law 331 = .ok (.invokevirtual 45, 3) := by decide +kernel
theorem dL_law_334 : decode cL_law 334 = .ok (.aload_n 2, 1) := by decide +kernel
theorem dL_law_335 : decode cL_law 335 = .ok (.aload_n 0, 1) := by decide +kernel
theorem dL_law_336 : decode cL_law 336 = .ok (.iload_n 3, 1) := by decide +kernel
theorem dL_law_337 : decode cL_law 337 = .ok (.iconst 1, 1) := by decide +kernel
theorem dL_law_338 : decode cL_law 338 = .ok (.iadd, 1) := by decide +kernel
theorem dL_law_339 : decode cL_law 339 = .ok (.iaload, 1) := by decide +kernel
theorem dL_law_340 : decode cL_law 340 = .ok (.invokevirtual 48, 3) := by decide +kernel
theorem dL_law_343 : decode cL_law 343 = .ok (.if_icmp .eq 309, 3) := by decide +kernel
theorem dL_law_346 : decode cL_law 346 = .ok (.iconst 0, 1) := by decide +kernel
theorem dL_law_347 : decode cL_law 347 = .ok (.ireturn, 1) := by decide +kernel
theorem dL_law_348 : decode cL_law 348 = .ok (.aload_n 1, 1) := by decide +kernel
theorem dL_law_349 : decode cL_law 349 = .ok (.aload_n 0, 1) := by decide +kernel
theorem dL_law_350 : decode cL_law 350 = .ok (.iload_n 3, 1) := by decide +kernel
theorem dL_law_351 : decode cL_law 351 = .ok (.iconst 1, 1) := by decide +kernel
theorem dL_law_352 : decode cL_law 352 = .ok (.iadd, 1) := by decide +kernel
theorem dL_law_353 : decode cL_law 353 = .ok (.iaload, 1) := by decide +kernel
theorem dL_law_354 : decode cL_law 354 = .ok (.i2c, 1) := by decide +kernel
theorem dL_law_355 : decode cL_law 355 = .ok (.invokevirtual 49, 3) := by decide +kernel
theorem dL_law_358 : decode cL_law 358 = .ok (.aload_n 2, 1) := by decide +kernel
theorem dL_law_359 : decode cL_law 359 = .ok (.aload_n 0, 1) := by decide +kernel
theorem dL_law_360 : decode cL_law 360 = .ok (.iload_n 3, 1) := by decide +kernel
theorem dL_law_361 : decode cL_law 361 = .ok (.iconst 1, 1) := by decide +kernel
theorem dL_law_362 : decode cL_law 362 = .ok (.iadd, 1) := by decide +kernel
theorem dL_law_363 : decode cL_law 363 = .ok (.iaload, 1) := by decide +kernel
theorem dL_law_364 : decode cL_law 364 = .ok (.i2c, 1) := by decide +kernel
theorem dL_law_365 : decode cL_law 365 = .ok (.invokevirtual 53, 3) := by decide +kernel
theorem dL_law_368 : decode cL_law 368 = .ok (.if_icmp .eq 284, 3) := by decide +kernel
theorem dL_law_371 : decode cL_law 371 = .ok (.iconst 0, 1) := by decide +kernel
theorem dL_law_372 : decode cL_law 372 = .ok (.ireturn, 1) := by decide +kernel
theorem dL_law_373 : decode cL_law 373 = .ok (.aload_n 1, 1) := by decide +kernel
theorem dL_law_374 : decode cL_law 374 = .ok (.invokevirtual 54, 3) := by decide +kernel
theorem dL_law_377 : decode cL_law 377 = .ok (.aload_n 2, 1) := by decide +kernel
theorem dL_law_378 : decode cL_law 378 = .ok (.invokevirtual 57, 3) := by decide +kernel
theorem dL_law_381 : decode cL_law 381 = .ok (.if_icmp .eq 271, 3) := by decide +kernel
theorem dL_law_384 : decode cL_law 384 = .ok (.iconst 0, 1) := by decide +kernel
theorem dL_law_385 : decode cL_law 385 = .ok (.ireturn, 1) := by decide +kernel
theorem dL_law_386 : decode cL_law 386 = .ok (.aload_n 1, 1) := by decide +kernel
theorem dL_law_387 : decode cL_law 387 = .ok (.invokevirtual 58, 3) := by decide +kernel
theorem dL_law_390 : decode cL_law 390 = .ok (.aload_n 2, 1) := by decide +kernel
theorem dL_law_391 : decode cL_law 391 = .ok (.invokevirtual 61, 3) := by decide +kernel
theorem dL_law_394 : decode cL_law 394 = .ok (.if_icmp .eq 258, 3) := by decide +kernel
theorem dL_law_397 : decode cL_law 397 = .ok (.iconst 0, 1) := by decide +kernel
theorem dL_law_398 : decode cL_law 398 = .ok (.ireturn, 1) := by decide +kernel
theorem dL_law_399 : decode cL_law 399 = .ok (.aload_n 1, 1) := by decide +kernel
theorem dL_law_400 : decode cL_law 400 = .ok (.invokevirtual 62, 3) := by decide +kernel
theorem dL_law_403 : decode cL_law 403 = .ok (.aload_n 2, 1) := by decide +kernel
theorem dL_law_404 : decode cL_law 404 = .ok (.invokevirtual 65, 3) := by decide +kernel
theorem dL_law_407 : decode cL_law 407 = .ok (.if_icmp .eq 245, 3) := by decide +kernel
theorem dL_law_410 : decode cL_law 410 = .ok (.iconst 0, 1) := by decide +kernel
theorem dL_law_411 : decode cL_law 411 = .ok (.ireturn, 1) := by decide +kernel
theorem dL_law_412 : decode cL_law 412 = .ok (.aload_n 1, 1) := by decide +kernel
theorem dL_law_413 : decode cL_law 413 = .ok (.invokevirtual 66, 3) := by decide +kernel
theorem dL_law_416 : decode cL_law 416 = .ok (.aload_n 2, 1) := by decide +kernel
theorem dL_law_417 : decode cL_law 417 = .ok (.invokevirtual 69, 3) := by decide +kernel
theorem dL_law_420 : decode cL_law 420 = .ok (.if_icmp .eq 232, 3) := by decide +kernel
theorem dL_law_423 : decode cL_law 423 = .ok (.iconst 0, 1) := by decide +kernel
theorem dL_law_424 : decode cL_law 424 = .ok (.ireturn, 1) := by decide +kernel
theorem dL_law_425 : decode cL_law 425 = .ok (.aload_n 1, 1) := by decide +kernel
theorem dL_law_426 : decode cL_law 426 = .ok (.aload_n 0, 1) := by decide +kernel
theorem dL_law_427 : decode cL_law 427 = .ok (.iload_n 3, 1) := by decide +kernel
theorem dL_law_428 : decode cL_law 428 = .ok (.iconst 1, 1) := by decide +kernel
theorem dL_law_429 : decode cL_law 429 = .ok (.iadd, 1) := by decide +kernel
theorem dL_law_430 : decode cL_law 430 = .ok (.iaload, 1) := by decide +kernel
theorem dL_law_431 : decode cL_law 431 = .ok (.aload_n 0, 1) := by decide +kernel
theorem dL_law_432 : decode cL_law 432 = .ok (.iload_n 3, 1) := by decide +kernel
theorem dL_law_433 : decode cL_law 433 = .ok (.iconst 2, 1) := by decide +kernel
theorem dL_law_434 : decode cL_law 434 = .ok (.iadd, 1) := by decide +kernel
theorem dL_law_435 : decode cL_law 435 = .ok (.iaload, 1) := by decide +kernel
theorem dL_law_436 : decode cL_law 436 = .ok (.invokevirtual 70, 3) := by decide +kernel
theorem dL_law_439 : decode cL_law 439 = .ok (.aload_n 2, 1) := by decide +kernel
theorem dL_law_440 : decode cL_law 440 = .ok (.aload_n 0, 1) := by decide +kernel
theorem dL_law_441 : decode cL_law 441 = .ok (.iload_n 3, 1) := by decide +kernel
theorem dL_law_442 : decode cL_law 442 = .ok (.iconst 1, 1) := by decide +kernel
theorem dL_law_443 : decode cL_law 443 = .ok (.iadd, 1) := by decide +kernel
theorem dL_law_444 : decode cL_law 444 = .ok (.iaload, 1) := by decide +kernel
theorem dL_law_445 : decode cL_law 445 = .ok (.aload_n 0, 1) := by decide +kernel
theorem dL_law_446 : decode cL_law 446 = .ok (.iload_n 3, 1) := by decide +kernel
theorem dL_law_447 : decode cL_law 447 = .ok (.iconst 2, 1) := by decide +kernel
theorem dL_law_448 : decode cL_law 448 = .ok (.iadd, 1) := by decide +kernel
theorem dL_law_449 : decode cL_law 449 = .ok (.iaload, 1) := by decide +kernel
theorem dL_law_450 : decode cL_law 450 = .ok (.invokevirtual 73, 3) := by decide +kernel
theorem dL_law_453 : decode cL_law 453 = .ok (.if_icmp .eq 199, 3) := by decide +kernel
theorem dL_law_456 : decode cL_law 456 = .ok (.iconst 0, 1) := by decide +kernel
theorem dL_law_457 : decode cL_law 457 = .ok (.ireturn, 1) := by decide +kernel
theorem dL_law_458 : decode cL_law 458 = .ok (.aload_n 1, 1) := by decide +kernel
theorem dL_law_459 : decode cL_law 459 = .ok (.aload_n 0, 1) := by decide +kernel
theorem dL_law_460 : decode cL_law 460 = .ok (.iload_n 3, 1) := by decide +kernel
theorem dL_law_461 : decode cL_law 461 = .ok (.iconst 1, 1) := by decide +kernel
theorem dL_law_462 : decode cL_law 462 = .ok (.iadd, 1) := by decide +kernel
theorem dL_law_463 : decode cL_law 463 = .ok (.iaload, 1) := by decide +kernel
theorem dL_law_464 : decode cL_law 464 = .ok (.aload_n 0, 1) := by decide +kernel
theorem dL_law_465 : decode cL_law 465 = .ok (.iload_n 3, 1) := by decide +kernel
theorem dL_law_466 : decode cL_law 466 = .ok (.iconst 2, 1) := by decide +kernel
theorem dL_law_467 : decode cL_law 467 = .ok (.iadd, 1) := by decide +kernel
theorem dL_law_468 : decode cL_law 468 = .ok (.iaload, 1) := by decide +kernel
theorem dL_law_469 : decode cL_law 469 = .ok (.aload_n 0, 1) := by decide +kernel
theorem dL_law_470 : decode cL_law 470 = .ok (.iload_n 3, 1) := by decide +kernel
theorem dL_law_471 : decode cL_law 471 = .ok (.iconst 3, 1) := by decide +kernel
theorem dL_law_472 : decode cL_law 472 = .ok (.iadd, 1) := by decide +kernel
theorem dL_law_473 : decode cL_law 473 = .ok (.iaload, 1) := by decide +kernel
theorem dL_law_474 : decode cL_law 474 = .ok (.invokevirtual 74, 3) := by decide +kernel
theorem dL_law_477 : decode cL_law 477 = .ok (.aload_n 2, 1) := by decide +kernel
theorem dL_law_478 : decode cL_law 478 = .ok (.aload_n 0, 1) := by decide +kernel
theorem dL_law_479 : decode cL_law 479 = .ok (.iload_n 3, 1) := by decide +kernel
theorem dL_law_480 : decode cL_law 480 = .ok (.iconst 1, 1) := by decide +kernel
theorem dL_law_481 : decode cL_law 481 = .ok (.iadd, 1) := by decide +kernel
theorem dL_law_482 : decode cL_law 482 = .ok (.iaload, 1) := by decide +kernel
theorem dL_law_483 : decode cL_law 483 = .ok (.aload_n 0, 1) := by decide +kernel
theorem dL_law_484 : decode cL_law 484 = .ok (.iload_n 3, 1) := by decide +kernel
theorem dL_law_485 : decode cL_law 485 = .ok (.iconst 2, 1) := by decide +kernel
theorem dL_law_486 : decode cL_law 486 = .ok (.iadd, 1) := by decide +kernel
theorem dL_law_487 : decode cL_law 487 = .ok (.iaload, 1) := by decide +kernel
theorem dL_law_488 : decode cL_law 488 = .ok (.aload_n 0, 1) := by decide +kernel
theorem dL_law_489 : decode cL_law 489 = .ok (.iload_n 3, 1) := by decide +kernel
theorem dL_law_490 : decode cL_law 490 = .ok (.iconst 3, 1) := by decide +kernel
theorem dL_law_491 : decode cL_law 491 = .ok (.iadd, 1) := by decide +kernel
theorem dL_law_492 : decode cL_law 492 = .ok (.iaload, 1) := by decide +kernel
theorem dL_law_493 : decode cL_law 493 = .ok (.invokevirtual 78, 3) := by decide +kernel
theorem dL_law_496 : decode cL_law 496 = .ok (.if_icmp .eq 156, 3) := by decide +kernel
theorem dL_law_499 : decode cL_law 499 = .ok (.iconst 0, 1) := by decide +kernel
theorem dL_law_500 : decode cL_law 500 = .ok (.ireturn, 1) := by decide +kernel
theorem dL_law_501 : decode cL_law 501 = .ok (.aload_n 1, 1) := by decide +kernel
theorem dL_law_502 : decode cL_law 502 = .ok (.aload_n 0, 1) := by decide +kernel
theorem dL_law_503 : decode cL_law 503 = .ok (.iload_n 3, 1) := by decide +kernel
theorem dL_law_504 : decode cL_law 504 = .ok (.iconst 1, 1) := by decide +kernel
theorem dL_law_505 : decode cL_law 505 = .ok (.iadd, 1) := by decide +kernel
theorem dL_law_506 : decode cL_law 506 = .ok (.iaload, 1) := by decide +kernel
theorem dL_law_507 : decode cL_law 507 = .ok (.invokevirtual 79, 3) := by decide +kernel
theorem dL_law_510 : decode cL_law 510 = .ok (.aload_n 2, 1) := by decide +kernel
theorem dL_law_511 : decode cL_law 511 = .ok (.aload_n 0, 1) := by decide +kernel
theorem dL_law_512 : decode cL_law 512 = .ok (.iload_n 3, 1) := by decide +kernel
theorem dL_law_513 : decode cL_law 513 = .ok (.iconst 1, 1) := by decide +kernel
theorem dL_law_514 : decode cL_law 514 = .ok (.iadd, 1) := by decide +kernel
theorem dL_law_515 : decode cL_law 515 = .ok (.iaload, 1) := by decide +kernel
theorem dL_law_516 : decode cL_law 516 = .ok (.invokevirtual 82, 3) := by decide +kernel
theorem dL_law_519 : decode cL_law 519 = .ok (.if_icmp .eq 133, 3) := by decide +kernel
theorem dL_law_522 : decode cL_law 522 = .ok (.iconst 0, 1) := by decide +kernel
theorem dL_law_523 : decode cL_law 523 = .ok (.ireturn, 1) := by decide +kernel
theorem dL_law_524 : decode cL_law 524 = .ok (.aload_n 1, 1) := by decide +kernel
theorem dL_law_525 : decode cL_law 525 = .ok (.aload_n 0, 1) := by decide +kernel
theorem dL_law_526 : decode cL_law 526 = .ok (.iload_n 3, 1) := by decide +kernel
theorem dL_law_527 : decode cL_law 527 = .ok (.iconst 1, 1) := by decide +kernel
theorem dL_law_528 : decode cL_law 528 = .ok (.iadd, 1) := by decide +kernel
theorem dL_law_529 : decode cL_law 529 = .ok (.iaload, 1) := by decide +kernel
theorem dL_law_530 : decode cL_law 530 = .ok (.ifCond .eq 7, 3) := by decide +kernel
theorem dL_law_533 : decode cL_law 533 = .ok (.iconst 1, 1) := by decide +kernel
theorem dL_law_534 : decode cL_law 534 = .ok (.goto 4, 3) := by decide +kernel
theorem dL_law_537 : decode cL_law 537 = .ok (.iconst 0, 1) := by decide +kernel
theorem dL_law_538 : decode cL_law 538 = .ok (.invokevirtual 83, 3) := by decide +kernel
theorem dL_law_541 : decode cL_law 541 = .ok (.aload_n 2, 1) := by decide +kernel
theorem dL_law_542 : decode cL_law 542 = .ok (.aload_n 0, 1) := by decide +kernel
theorem dL_law_543 : decode cL_law 543 = .ok (.iload_n 3, 1) := by decide +kernel
theorem dL_law_544 : decode cL_law 544 = .ok (.iconst 1, 1) := by decide +kernel
theorem dL_law_545 : decode cL_law 545 = .ok (.iadd, 1) := by decide +kernel
theorem dL_law_546 : decode cL_law 546 = .ok (.iaload, 1) := by decide +kernel
theorem dL_law_547 : decode cL_law 547 = .ok (.ifCond .eq 7, 3) := by decide +kernel
theorem dL_law_550 : decode cL_law 550 = .ok (.iconst 1, 1) := by decide +kernel
theorem dL_law_551 : decode cL_law 551 = .ok (.goto 4, 3) := by decide +kernel
theorem dL_law_554 : decode cL_law 554 = .ok (.iconst 0, 1) := by decide +kernel
theorem dL_law_555 : decode cL_law 555 = .ok (.invokevirtual 86, 3) := by decide +kernel
theorem dL_law_558 : decode cL_law 558 = .ok (.if_icmp .eq 94, 3) := by decide +kernel
theorem dL_law_561 : decode cL_law 561 = .ok (.iconst 0, 1) := by decide +kernel
theorem dL_law_562 : decode cL_law 562 = .ok (.ireturn, 1) := by decide +kernel
theorem dL_law_563 : decode cL_law 563 = .ok (.aload_n 1, 1) := by decide +kernel
theorem dL_law_564 : decode cL_law 564 = .ok (.aload_n 0, 1) := by decide +kernel
theorem dL_law_565 : decode cL_law 565 = .ok (.iload_n 3, 1) := by decide +kernel
theorem dL_law_566 : decode cL_law 566 = .ok (.iconst 1, 1) := by decide +kernel
theorem dL_law_567 : decode cL_law 567 = .ok (.iadd, 1) := by decide +kernel
theorem dL_law_568 : decode cL_law 568 = .ok (.iaload, 1) := by decide +kernel
theorem dL_law_569 : decode cL_law 569 = .ok (.aload_n 0, 1) := by decide +kernel
theorem dL_law_570 : decode cL_law 570 = .ok (.iload_n 3, 1) := by decide +kernel
theorem dL_law_571 : decode cL_law 571 = .ok (.iconst 2, 1) := by decide +kernel
theorem dL_law_572 : decode cL_law 572 = .ok (.iadd, 1) := by decide +kernel
theorem dL_law_573 : decode cL_law 573 = .ok (.iaload, 1) := by decide +kernel
theorem dL_law_574 : decode cL_law 574 = .ok (.aload_n 0, 1) := by decide +kernel
theorem dL_law_575 : decode cL_law 575 = .ok (.iload_n 3, 1) := by decide +kernel
theorem dL_law_576 : decode cL_law 576 = .ok (.iconst 3, 1) := by decide +kernel
theorem dL_law_577 : decode cL_law 577 = .ok (.iadd, 1) := by decide +kernel
theorem dL_law_578 : decode cL_law 578 = .ok (.iaload, 1) := by decide +kernel
theorem dL_law_579 : decode cL_law 579 = .ok (.invokevirtual 87, 3) := by decide +kernel
theorem dL_law_582 : decode cL_law 582 = .ok (.aload_n 2, 1) := by decide +kernel
theorem dL_law_583 : decode cL_law 583 = .ok (.aload_n 0, 1) := by decide +kernel
theorem dL_law_584 : decode cL_law 584 = .ok (.iload_n 3, 1) := by decide +kernel
theorem dL_law_585 : decode cL_law 585 = .ok (.iconst 1, 1) := by decide +kernel
theorem dL_law_586 : decode cL_law 586 = .ok (.iadd, 1) := by decide +kernel
theorem dL_law_587 : decode cL_law 587 = .ok (.iaload, 1) := by decide +kernel
theorem dL_law_588 : decode cL_law 588 = .ok (.aload_n 0, 1) := by decide +kernel
theorem dL_law_589 : decode cL_law 589 = .ok (.iload_n 3, 1) := by decide +kernel
theorem dL_law_590 : decode cL_law 590 = .ok (.iconst 2, 1) := by decide +kernel
theorem dL_law_591 : decode cL_law 591 = .ok (.iadd, 1) := by decide +kernel
theorem dL_law_592 : decode cL_law 592 = .ok (.iaload, 1) := by decide +kernel
theorem dL_law_593 : decode cL_law 593 = .ok (.aload_n 0, 1) := by decide +kernel
theorem dL_law_594 : decode cL_law 594 = .ok (.iload_n 3, 1) := by decide +kernel
theorem dL_law_595 : decode cL_law 595 = .ok (.iconst 3, 1) := by decide +kernel
theorem dL_law_596 : decode cL_law 596 = .ok (.iadd, 1) := by decide +kernel
theorem dL_law_597 : decode cL_law 597 = .ok (.iaload, 1) := by decide +kernel
theorem dL_law_598 : decode cL_law 598 = .ok (.invokevirtual 90, 3) := by decide +kernel
theorem dL_law_601 : decode cL_law 601 = .ok (.if_icmp .eq 51, 3) := by decide +kernel
theorem dL_law_604 : decode cL_law 604 = .ok (.iconst 0, 1) := by decide +kernel
theorem dL_law_605 : decode cL_law 605 = .ok (.ireturn, 1) := by decide +kernel
theorem dL_law_606 : decode cL_law 606 = .ok (.aload_n 1, 1) := by decide +kernel
theorem dL_law_607 : decode cL_law 607 = .ok (.aload_n 0, 1) := by decide +kernel
theorem dL_law_608 : decode cL_law 608 = .ok (.iload_n 3, 1) := by decide +kernel
theorem dL_law_609 : decode cL_law 609 = .ok (.iconst 1, 1) := by decide +kernel
theorem dL_law_610 : decode cL_law 610 = .ok (.iadd, 1) := by decide +kernel
theorem dL_law_611 : decode cL_law 611 = .ok (.iaload, 1) := by decide +kernel
theorem dL_law_612 : decode cL_law 612 = .ok (.invokevirtual 91, 3) := by decide +kernel
theorem dL_law_615 : decode cL_law 615 = .ok (.aload_n 2, 1) := by decide +kernel
theorem dL_law_616 : decode cL_law 616 = .ok (.aload_n 0, 1) := by decide +kernel
theorem dL_law_617 : decode cL_law 617 = .ok (.iload_n 3, 1) := by decide +kernel
theorem dL_law_618 : decode cL_law 618 = .ok (.iconst 1, 1) := by decide +kernel
theorem dL_law_619 : decode cL_law 619 = .ok (.iadd, 1) := by decide +kernel
theorem dL_law_620 : decode cL_law 620 = .ok (.iaload, 1) := by decide +kernel
theorem dL_law_621 : decode cL_law 621 = .ok (.invokevirtual 94, 3) := by decide +kernel
theorem dL_law_624 : decode cL_law 624 = .ok (.if_icmp .eq 28, 3) := by decide +kernel
theorem dL_law_627 : decode cL_law 627 = .ok (.iconst 0, 1) := by decide +kernel
theorem dL_law_628 : decode cL_law 628 = .ok (.ireturn, 1) := by decide +kernel
theorem dL_law_629 : decode cL_law 629 = .ok (.aload_n 1, 1) := by decide +kernel
theorem dL_law_630 : decode cL_law 630 = .ok (.aload_n 0, 1) := by decide +kernel
theorem dL_law_631 : decode cL_law 631 = .ok (.iload_n 3, 1) := by decide +kernel
theorem dL_law_632 : decode cL_law 632 = .ok (.iconst 1, 1) := by decide +kernel
theorem dL_law_633 : decode cL_law 633 = .ok (.iadd, 1) := by decide +kernel
theorem dL_law_634 : decode cL_law 634 = .ok (.iaload, 1) := by decide +kernel
theorem dL_law_635 : decode cL_law 635 = .ok (.invokevirtual 95, 3) := by decide +kernel
theorem dL_law_638 : decode cL_law 638 = .ok (.aload_n 2, 1) := by decide +kernel
theorem dL_law_639 : decode cL_law 639 = .ok (.aload_n 0, 1) := by decide +kernel
theorem dL_law_640 : decode cL_law 640 = .ok (.iload_n 3, 1) := by decide +kernel
theorem dL_law_641 : decode cL_law 641 = .ok (.iconst 1, 1) := by decide +kernel
theorem dL_law_642 : decode cL_law 642 = .ok (.iadd, 1) := by decide +kernel
theorem dL_law_643 : decode cL_law 643 = .ok (.iaload, 1) := by decide +kernel
theorem dL_law_644 : decode cL_law 644 = .ok (.invokevirtual 98, 3) := by decide +kernel
theorem dL_law_647 : decode cL_law 647 = .ok (.if_icmp .eq 5, 3) := by decide +kernel
theorem dL_law_650 : decode cL_law 650 = .ok (.iconst 0, 1) := by decide +kernel
theorem dL_law_651 : decode cL_law 651 = .ok (.ireturn, 1) := by decide +kernel
theorem dL_law_652 : decode cL_law 652 = .ok (.iinc 3 4, 3) := by decide +kernel
theorem dL_law_655 : decode cL_law 655 = .ok (.goto (-637), 3) := by decide +kernel
theorem dL_law_658 : decode cL_law 658 = .ok (.iconst 1, 1) := by decide +kernel
theorem dL_law_659 : decode cL_law 659 = .ok (.ireturn, 1) := by decide +kernel
end
section
/-! the judgement Z: from every heap that holds the world w, with the locals lv, the machine at pc comes to Q -/
abbrev ARR : Type := Nat → Nat → Int32
def sA (M : ARR) (i k : Nat) (v : Int32) : ARR := fun a => if a = i then upd (M i) k v else M a
abbrev CS : Type := ARR × Int64
def tysG (kI kC kQ : ClassId) : List (ClassId × FieldType) := [(kI, .int), (kC, .char), (kQ, .object "ShadowLatches$Circuit")]
def CX (p : Program) (s : State) (m : MethodId) (args : Array Value) (meth : Method) (c : Code) (D : va_G) (ty : List (ClassId × FieldType)) (A : Nat → Prop) (cc : ByteArray) (nL : Nat) (ret : Option FieldType) (own : String) : Prop :=
  p.tables.exec = Jvm.exec ∧ c.code = cc ∧ meth.sig.returnType = ret ∧ c.maxLocals = nL ∧ s.vm.findClass own = some m.cls ∧ (∀ w ∈ WS, w.before args s = true) ∧ meth.locks = false ∧ va_K D vwCl ty s ∧ (∀ q : Nat, s.heap.size ≤ q → A q)
def Z (p : Program) (l : Launch) (e : Env) (R : Room) (s : State) (m : MethodId) (args : Array Value) (below : List Frame) (meth : Method) (c : Code) (D : va_G) (A : Nat → Prop) (nL ce sl : Nat) (Q : State → Prop) (w : va_W) (lv : List (Nat × Value)) (pc : Nat) (st : List Value) : Prop :=
  ∀ (H : Heap) (locs : List Loc) (ls : Array Slot), va_P D vwCl w H → va_D A w → va_S A s.heap H locs → lv_has ls nL lv → W p l e R s m args below meth c H locs ce sl Q (F0 m pc ls st)
theorem vin_c {i : Int32} {n : Nat} (h : (decide (0 ≤ i) && decide (i.toNatClampNeg < n)) = true) : vp_in i n := by
  simp only [Bool.and_eq_true, decide_eq_true_eq] at h
  rintro (q | q)
  · exact absurd h.1 (Int32.not_le.mpr q)
  · omega
section
variable {p : Program} {l : Launch} {e : Env} {R : Room} {s : State} {m : MethodId} {args : Array Value} {below : List Frame} {meth : Method} {c : Code} {D : va_G} {ty : List (ClassId × FieldType)} {A : Nat → Prop} {cc : ByteArray} {nL ce sl : Nat} {ret : Option FieldType} {own : String} {Q : State → Prop} {w : va_W} {lv : List (Nat × Value)} {pc : Nat} {st : List Value}
theorem CX.x (X : CX p s m args meth c D ty A cc nL ret own) : p.tables.exec = Jvm.exec := X.1
theorem CX.b (X : CX p s m args meth c D ty A cc nL ret own) : c.code = cc := X.2.1
theorem CX.r (X : CX p s m args meth c D ty A cc nL ret own) : meth.sig.returnType = ret := X.2.2.1
theorem CX.ml (X : CX p s m args meth c D ty A cc nL ret own) : c.maxLocals = nL := X.2.2.2.1
theorem CX.ow (X : CX p s m args meth c D ty A cc nL ret own) : s.vm.findClass own = some m.cls := X.2.2.2.2.1
theorem CX.ts (X : CX p s m args meth c D ty A cc nL ret own) : ∀ w ∈ WS, w.before args s = true := X.2.2.2.2.2.1
theorem CX.lk (X : CX p s m args meth c D ty A cc nL ret own) : meth.locks = false := X.2.2.2.2.2.2.1
theorem CX.K (X : CX p s m args meth c D ty A cc nL ret own) : va_K D vwCl ty s := X.2.2.2.2.2.2.2.1
theorem CX.hA (X : CX p s m args meth c D ty A cc nL ret own) : ∀ q : Nat, s.heap.size ≤ q → A q := X.2.2.2.2.2.2.2.2
theorem CX.fix (X : CX p s m args meth c D ty A cc nL ret own) : CallFix p m c cc nL s args WS own := ⟨X.x, X.b, X.ml, X.ow, X.ts⟩
theorem Z.lift {pc' : Nat} {st' : List Value} (h : ∀ (H : Heap) (locs : List Loc) (ls : Array Slot), W p l e R s m args below meth c H locs ce sl Q (F0 m pc' ls st') → W p l e R s m args below meth c H locs ce sl Q (F0 m pc ls st)) (k : Z p l e R s m args below meth c D A nL ce sl Q w lv pc' st') : Z p l e R s m args below meth c D A nL ce sl Q w lv pc st := fun H locs ls hP hD hS hl => h H locs ls (k H locs ls hP hD hS hl)
theorem z_iconst (X : CX p s m args meth c D ty A cc nL ret own) {n : Int} {v : Int32} (hdg : decode cc pc = .ok (.iconst n, 1)) (hv : Int32.ofInt n = v) (k : Z p l e R s m args below meth c D A nL ce sl Q w lv (pc + 1) (.int v :: st)) : Z p l e R s m args below meth c D A nL ce sl Q w lv pc (st) := Z.lift (fun _ _ _ q => lv_iconst X.x X.b hdg hv q) k
theorem z_bipush (X : CX p s m args meth c D ty A cc nL ret own) {n : Int} {v : Int32} (hdg : decode cc pc = .ok (.bipush n, 2)) (hv : (Int8.ofInt n).toInt32 = v) (k : Z p l e R s m args below meth c D A nL ce sl Q w lv (pc + 2) (.int v :: st)) : Z p l e R s m args below meth c D A nL ce sl Q w lv pc (st) := Z.lift (fun _ _ _ q => lv_bipush X.x X.b hdg hv q) k
theorem z_sipush (X : CX p s m args meth c D ty A cc nL ret own) {n : Int} {v : Int32} (hdg : decode cc pc = .ok (.sipush n, 3)) (hv : (Int16.ofInt n).toInt32 = v) (k : Z p l e R s m args below meth c D A nL ce sl Q w lv (pc + 3) (.int v :: st)) : Z p l e R s m args below meth c D A nL ce sl Q w lv pc (st) := Z.lift (fun _ _ _ q => lv_sipush X.x X.b hdg hv q) k
theorem z_lconst (X : CX p s m args meth c D ty A cc nL ret own) {n : Fin 2} {v : Int64} (hdg : decode cc pc = .ok (.lconst n, 1)) (hv : Int64.ofNat n = v) (k : Z p l e R s m args below meth c D A nL ce sl Q w lv (pc + 1) (.long v :: st)) : Z p l e R s m args below meth c D A nL ce sl Q w lv pc (st) := Z.lift (fun _ _ _ q => lv_lconst X.x X.b hdg hv q) k
theorem z_ldc2 (X : CX p s m args meth c D ty A cc nL ret own) {index : Nat} {v : Int64} (hdg : decode cc pc = .ok (.ldc2_w index, 3)) (hc : Cond.constantLong own index v ∈ WS) (k : Z p l e R s m args below meth c D A nL ce sl Q w lv (pc + 3) (.long v :: st)) : Z p l e R s m args below meth c D A nL ce sl Q w lv pc (st) := Z.lift (fun _ _ _ q => lv_ldc2 X.x X.b X.ow (X.ts _ hc) hdg q) k
theorem z_ldcw (X : CX p s m args meth c D ty A cc nL ret own) {index : Nat} {v : Int32} (hdg : decode cc pc = .ok (.ldc_w index, 3)) (hc : Cond.constant own index v ∈ WS) (k : Z p l e R s m args below meth c D A nL ce sl Q w lv (pc + 3) (.int v :: st)) : Z p l e R s m args below meth c D A nL ce sl Q w lv pc (st) := Z.lift (fun _ _ _ q => lv_ldcw X.x X.b X.ow (X.ts _ hc) hdg q) k
theorem z_ldc (X : CX p s m args meth c D ty A cc nL ret own) {index : Nat} {v : Int32} (hdg : decode cc pc = .ok (.ldc index, 2)) (hc : Cond.constant own index v ∈ WS) (k : Z p l e R s m args below meth c D A nL ce sl Q w lv (pc + 2) (.int v :: st)) : Z p l e R s m args below meth c D A nL ce sl Q w lv pc (st) := Z.lift (fun _ _ _ q => lv_ldc X.x X.b X.ow (X.ts _ hc) hdg q) k
theorem z_iadd (X : CX p s m args meth c D ty A cc nL ret own) {x y : Int32} (hdg : decode cc pc = .ok (.iadd, 1)) (k : Z p l e R s m args below meth c D A nL ce sl Q w lv (pc + 1) (.int (x + y) :: st)) : Z p l e R s m args below meth c D A nL ce sl Q w lv pc (.int y :: .int x :: st) := Z.lift (fun _ _ _ q => lv_iadd X.x X.b hdg q) k
theorem z_isub (X : CX p s m args meth c D ty A cc nL ret own) {x y : Int32} (hdg : decode cc pc = .ok (.isub, 1)) (k : Z p l e R s m args below meth c D A nL ce sl Q w lv (pc + 1) (.int (x - y) :: st)) : Z p l e R s m args below meth c D A nL ce sl Q w lv pc (.int y :: .int x :: st) := Z.lift (fun _ _ _ q => lv_isub X.x X.b hdg q) k
theorem z_imul (X : CX p s m args meth c D ty A cc nL ret own) {x y : Int32} (hdg : decode cc pc = .ok (.imul, 1)) (k : Z p l e R s m args below meth c D A nL ce sl Q w lv (pc + 1) (.int (x * y) :: st)) : Z p l e R s m args below meth c D A nL ce sl Q w lv pc (.int y :: .int x :: st) := Z.lift (fun _ _ _ q => lv_imul X.x X.b hdg q) k
theorem z_iand (X : CX p s m args meth c D ty A cc nL ret own) {x y : Int32} (hdg : decode cc pc = .ok (.iand, 1)) (k : Z p l e R s m args below meth c D A nL ce sl Q w lv (pc + 1) (.int (x &&& y) :: st)) : Z p l e R s m args below meth c D A nL ce sl Q w lv pc (.int y :: .int x :: st) := Z.lift (fun _ _ _ q => lv_iand X.x X.b hdg q) k
theorem z_ior (X : CX p s m args meth c D ty A cc nL ret own) {x y : Int32} (hdg : decode cc pc = .ok (.ior, 1)) (k : Z p l e R s m args below meth c D A nL ce sl Q w lv (pc + 1) (.int (x ||| y) :: st)) : Z p l e R s m args below meth c D A nL ce sl Q w lv pc (.int y :: .int x :: st) := Z.lift (fun _ _ _ q => lv_ior X.x X.b hdg q) k
theorem z_idiv (X : CX p s m args meth c D ty A cc nL ret own) {x y : Int32} (hdg : decode cc pc = .ok (.idiv, 1)) (hne : ¬ y = 0) (k : Z p l e R s m args below meth c D A nL ce sl Q w lv (pc + 1) (.int (x / y) :: st)) : Z p l e R s m args below meth c D A nL ce sl Q w lv pc (.int y :: .int x :: st) := Z.lift (fun _ _ _ q => lv_idiv X.x X.b hdg hne q) k
theorem z_irem (X : CX p s m args meth c D ty A cc nL ret own) {x y : Int32} (hdg : decode cc pc = .ok (.irem, 1)) (hne : ¬ y = 0) (k : Z p l e R s m args below meth c D A nL ce sl Q w lv (pc + 1) (.int (x - x / y * y) :: st)) : Z p l e R s m args below meth c D A nL ce sl Q w lv pc (.int y :: .int x :: st) := Z.lift (fun _ _ _ q => lv_irem X.x X.b hdg hne q) k
theorem z_ishl (X : CX p s m args meth c D ty A cc nL ret own) {x y : Int32} (hdg : decode cc pc = .ok (.ishl, 1)) (k : Z p l e R s m args below meth c D A nL ce sl Q w lv (pc + 1) (.int (x <<< (y &&& 31)) :: st)) : Z p l e R s m args below meth c D A nL ce sl Q w lv pc (.int y :: .int x :: st) := Z.lift (fun _ _ _ q => lv_ishl X.x X.b hdg q) k
theorem z_ishr (X : CX p s m args meth c D ty A cc nL ret own) {x y : Int32} (hdg : decode cc pc = .ok (.ishr, 1)) (k : Z p l e R s m args below meth c D A nL ce sl Q w lv (pc + 1) (.int (x >>> (y &&& 31)) :: st)) : Z p l e R s m args below meth c D A nL ce sl Q w lv pc (.int y :: .int x :: st) := Z.lift (fun _ _ _ q => lv_ishr X.x X.b hdg q) k
theorem z_iushr (X : CX p s m args meth c D ty A cc nL ret own) {x y : Int32} (hdg : decode cc pc = .ok (.iushr, 1)) (k : Z p l e R s m args below meth c D A nL ce sl Q w lv (pc + 1) (.int ((x.toUInt32 >>> (y.toUInt32 &&& Int32.toUInt32 31)).toInt32) :: st)) : Z p l e R s m args below meth c D A nL ce sl Q w lv pc (.int y :: .int x :: st) := Z.lift (fun _ _ _ q => lv_iushr X.x X.b hdg rfl q) k
theorem z_ladd (X : CX p s m args meth c D ty A cc nL ret own) {x y : Int64} (hdg : decode cc pc = .ok (.ladd, 1)) (k : Z p l e R s m args below meth c D A nL ce sl Q w lv (pc + 1) (.long (x + y) :: st)) : Z p l e R s m args below meth c D A nL ce sl Q w lv pc (.long y :: .long x :: st) := Z.lift (fun _ _ _ q => lv_ladd X.x X.b hdg q) k
theorem z_lsub (X : CX p s m args meth c D ty A cc nL ret own) {x y : Int64} (hdg : decode cc pc = .ok (.lsub, 1)) (k : Z p l e R s m args below meth c D A nL ce sl Q w lv (pc + 1) (.long (x - y) :: st)) : Z p l e R s m args below meth c D A nL ce sl Q w lv pc (.long y :: .long x :: st) := Z.lift (fun _ _ _ q => lv_lsub X.x X.b hdg q) k
theorem z_ldiv (X : CX p s m args meth c D ty A cc nL ret own) {x y : Int64} (hdg : decode cc pc = .ok (.ldiv, 1)) (hne : ¬ y = 0) (k : Z p l e R s m args below meth c D A nL ce sl Q w lv (pc + 1) (.long (x / y) :: st)) : Z p l e R s m args below meth c D A nL ce sl Q w lv pc (.long y :: .long x :: st) := Z.lift (fun _ _ _ q => lv_ldiv X.x X.b hdg hne q) k
theorem z_lcmp (X : CX p s m args meth c D ty A cc nL ret own) {x y : Int64} (hdg : decode cc pc = .ok (.lcmp, 1)) (k : Z p l e R s m args below meth c D A nL ce sl Q w lv (pc + 1) (.int (lg_cmp x y) :: st)) : Z p l e R s m args below meth c D A nL ce sl Q w lv pc (.long y :: .long x :: st) := Z.lift (fun _ _ _ q => W.lcmp X.x X.b hdg q) k
theorem z_i2l (X : CX p s m args meth c D ty A cc nL ret own) {x : Int32} (hdg : decode cc pc = .ok (.i2l, 1)) (k : Z p l e R s m args below meth c D A nL ce sl Q w lv (pc + 1) (.long x.toInt64 :: st)) : Z p l e R s m args below meth c D A nL ce sl Q w lv pc (.int x :: st) := Z.lift (fun _ _ _ q => lv_i2l X.x X.b hdg rfl q) k
theorem z_l2i (X : CX p s m args meth c D ty A cc nL ret own) {x : Int64} (hdg : decode cc pc = .ok (.l2i, 1)) (k : Z p l e R s m args below meth c D A nL ce sl Q w lv (pc + 1) (.int x.toInt32 :: st)) : Z p l e R s m args below meth c D A nL ce sl Q w lv pc (.long x :: st) := Z.lift (fun _ _ _ q => lv_l2i X.x X.b hdg rfl q) k
theorem z_i2c (X : CX p s m args meth c D ty A cc nL ret own) {x : Int32} (hdg : decode cc pc = .ok (.i2c, 1)) (k : Z p l e R s m args below meth c D A nL ce sl Q w lv (pc + 1) (.int (x.toUInt32 % 65536).toInt32 :: st)) : Z p l e R s m args below meth c D A nL ce sl Q w lv pc (.int x :: st) := Z.lift (fun _ _ _ q => lv_i2c X.x X.b hdg rfl q) k
theorem z_dup (X : CX p s m args meth c D ty A cc nL ret own) {va : Value} (hdg : decode cc pc = .ok (.dup, 1)) (hva : va.category = 1) (k : Z p l e R s m args below meth c D A nL ce sl Q w lv (pc + 1) (va :: va :: st)) : Z p l e R s m args below meth c D A nL ce sl Q w lv pc (va :: st) := Z.lift (fun _ _ _ q => lv_dup X.x X.b hdg hva q) k
theorem z_dup2 (X : CX p s m args meth c D ty A cc nL ret own) {va vb : Value} (hdg : decode cc pc = .ok (.dup2, 1)) (hva : va.category = 1) (hvb : vb.category = 1) (k : Z p l e R s m args below meth c D A nL ce sl Q w lv (pc + 1) (va :: vb :: va :: vb :: st)) : Z p l e R s m args below meth c D A nL ce sl Q w lv pc (va :: vb :: st) := Z.lift (fun _ _ _ q => lv_dup2_11 X.x X.b hdg hva hvb q) k
theorem z_pop (X : CX p s m args meth c D ty A cc nL ret own) {va : Value} (hdg : decode cc pc = .ok (.pop, 1)) (hva : va.category = 1) (k : Z p l e R s m args below meth c D A nL ce sl Q w lv (pc + 1) (st)) : Z p l e R s m args below meth c D A nL ce sl Q w lv pc (va :: st) := Z.lift (fun _ _ _ q => lv_pop X.x X.b hdg hva q) k
theorem z_goto (X : CX p s m args meth c D ty A cc nL ret own) {off : Int} {tgt : Nat} (hdg : decode cc pc = .ok (.goto off, 3)) (ht : (pc : Int) + off = (tgt : Int)) (k : Z p l e R s m args below meth c D A nL ce sl Q w lv tgt st) : Z p l e R s m args below meth c D A nL ce sl Q w lv pc st := Z.lift (fun _ _ _ q => lv_goto X.x X.b hdg ht q) k
theorem z_if_eq (X : CX p s m args meth c D ty A cc nL ret own) {x : Int32} {off : Int} {tgt : Nat} (hdg : decode cc pc = .ok (.ifCond .eq off, 3)) (ht : (pc : Int) + off = (tgt : Int)) (kt : x = 0 → Z p l e R s m args below meth c D A nL ce sl Q w lv tgt st) (kf : ¬ (x = 0) → Z p l e R s m args below meth c D A nL ce sl Q w lv (pc + 3) st) : Z p l e R s m args below meth c D A nL ce sl Q w lv pc (.int x :: st) := fun H locs ls hP hD hS hl => lv_if_eq X.x X.b hdg ht (fun q => kt q H locs ls hP hD hS hl) (fun q => kf q H locs ls hP hD hS hl)
theorem z_icmp_eq (X : CX p s m args meth c D ty A cc nL ret own) {x y : Int32} {off : Int} {tgt : Nat} (hdg : decode cc pc = .ok (.if_icmp .eq off, 3)) (ht : (pc : Int) + off = (tgt : Int)) (kt : x = y → Z p l e R s m args below meth c D A nL ce sl Q w lv tgt st) (kf : ¬ (x = y) → Z p l e R s m args below meth c D A nL ce sl Q w lv (pc + 3) st) : Z p l e R s m args below meth c D A nL ce sl Q w lv pc (.int y :: .int x :: st) := fun H locs ls hP hD hS hl => lv_icmp_eq X.x X.b hdg ht (fun q => kt q H locs ls hP hD hS hl) (fun q => kf q H locs ls hP hD hS hl)
theorem z_if_ne (X : CX p s m args meth c D ty A cc nL ret own) {x : Int32} {off : Int} {tgt : Nat} (hdg : decode cc pc = .ok (.ifCond .ne off, 3)) (ht : (pc : Int) + off = (tgt : Int)) (kt : ¬ x = 0 → Z p l e R s m args below meth c D A nL ce sl Q w lv tgt st) (kf : x = 0 → Z p l e R s m args below meth c D A nL ce sl Q w lv (pc + 3) st) : Z p l e R s m args below meth c D A nL ce sl Q w lv pc (.int x :: st) := fun H locs ls hP hD hS hl => lv_if_ne X.x X.b hdg ht (fun q => kt q H locs ls hP hD hS hl) (fun q => kf q H locs ls hP hD hS hl)
theorem z_icmp_ne (X : CX p s m args meth c D ty A cc nL ret own) {x y : Int32} {off : Int} {tgt : Nat} (hdg : decode cc pc = .ok (.if_icmp .ne off, 3)) (ht : (pc : Int) + off = (tgt : Int)) (kt : ¬ x = y → Z p l e R s m args below meth c D A nL ce sl Q w lv tgt st) (kf : x = y → Z p l e R s m args below meth c D A nL ce sl Q w lv (pc + 3) st) : Z p l e R s m args below meth c D A nL ce sl Q w lv pc (.int y :: .int x :: st) := fun H locs ls hP hD hS hl => lv_icmp_ne X.x X.b hdg ht (fun q => kt q H locs ls hP hD hS hl) (fun q => kf q H locs ls hP hD hS hl)
theorem z_if_lt (X : CX p s m args meth c D ty A cc nL ret own) {x : Int32} {off : Int} {tgt : Nat} (hdg : decode cc pc = .ok (.ifCond .lt off, 3)) (ht : (pc : Int) + off = (tgt : Int)) (kt : x < 0 → Z p l e R s m args below meth c D A nL ce sl Q w lv tgt st) (kf : ¬ (x < 0) → Z p l e R s m args below meth c D A nL ce sl Q w lv (pc + 3) st) : Z p l e R s m args below meth c D A nL ce sl Q w lv pc (.int x :: st) := fun H locs ls hP hD hS hl => lv_if_lt X.x X.b hdg ht (fun q => kt q H locs ls hP hD hS hl) (fun q => kf q H locs ls hP hD hS hl)
theorem z_icmp_lt (X : CX p s m args meth c D ty A cc nL ret own) {x y : Int32} {off : Int} {tgt : Nat} (hdg : decode cc pc = .ok (.if_icmp .lt off, 3)) (ht : (pc : Int) + off = (tgt : Int)) (kt : x < y → Z p l e R s m args below meth c D A nL ce sl Q w lv tgt st) (kf : ¬ (x < y) → Z p l e R s m args below meth c D A nL ce sl Q w lv (pc + 3) st) : Z p l e R s m args below meth c D A nL ce sl Q w lv pc (.int y :: .int x :: st) := fun H locs ls hP hD hS hl => lv_icmp_lt X.x X.b hdg ht (fun q => kt q H locs ls hP hD hS hl) (fun q => kf q H locs ls hP hD hS hl)
theorem z_if_ge (X : CX p s m args meth c D ty A cc nL ret own) {x : Int32} {off : Int} {tgt : Nat} (hdg : decode cc pc = .ok (.ifCond .ge off, 3)) (ht : (pc : Int) + off = (tgt : Int)) (kt : 0 ≤ x → Z p l e R s m args below meth c D A nL ce sl Q w lv tgt st) (kf : ¬ (0 ≤ x) → Z p l e R s m args below meth c D A nL ce sl Q w lv (pc + 3) st) : Z p l e R s m args below meth c D A nL ce sl Q w lv pc (.int x :: st) := fun H locs ls hP hD hS hl => lv_if_ge X.x X.b hdg ht (fun q => kt q H locs ls hP hD hS hl) (fun q => kf q H locs ls hP hD hS hl)
theorem z_icmp_ge (X : CX p s m args meth c D ty A cc nL ret own) {x y : Int32} {off : Int} {tgt : Nat} (hdg : decode cc pc = .ok (.if_icmp .ge off, 3)) (ht : (pc : Int) + off = (tgt : Int)) (kt : y ≤ x → Z p l e R s m args below meth c D A nL ce sl Q w lv tgt st) (kf : ¬ (y ≤ x) → Z p l e R s m args below meth c D A nL ce sl Q w lv (pc + 3) st) : Z p l e R s m args below meth c D A nL ce sl Q w lv pc (.int y :: .int x :: st) := fun H locs ls hP hD hS hl => lv_icmp_ge X.x X.b hdg ht (fun q => kt q H locs ls hP hD hS hl) (fun q => kf q H locs ls hP hD hS hl)
theorem z_if_gt (X : CX p s m args meth c D ty A cc nL ret own) {x : Int32} {off : Int} {tgt : Nat} (hdg : decode cc pc = .ok (.ifCond .gt off, 3)) (ht : (pc : Int) + off = (tgt : Int)) (kt : 0 < x → Z p l e R s m args below meth c D A nL ce sl Q w lv tgt st) (kf : ¬ (0 < x) → Z p l e R s m args below meth c D A nL ce sl Q w lv (pc + 3) st) : Z p l e R s m args below meth c D A nL ce sl Q w lv pc (.int x :: st) := fun H locs ls hP hD hS hl => lv_if_gt X.x X.b hdg ht (fun q => kt q H locs ls hP hD hS hl) (fun q => kf q H locs ls hP hD hS hl)
theorem z_icmp_gt (X : CX p s m args meth c D ty A cc nL ret own) {x y : Int32} {off : Int} {tgt : Nat} (hdg : decode cc pc = .ok (.if_icmp .gt off, 3)) (ht : (pc : Int) + off = (tgt : Int)) (kt : y < x → Z p l e R s m args below meth c D A nL ce sl Q w lv tgt st) (kf : ¬ (y < x) → Z p l e R s m args below meth c D A nL ce sl Q w lv (pc + 3) st) : Z p l e R s m args below meth c D A nL ce sl Q w lv pc (.int y :: .int x :: st) := fun H locs ls hP hD hS hl => lv_icmp_gt X.x X.b hdg ht (fun q => kt q H locs ls hP hD hS hl) (fun q => kf q H locs ls hP hD hS hl)
theorem z_if_le (X : CX p s m args meth c D ty A cc nL ret own) {x : Int32} {off : Int} {tgt : Nat} (hdg : decode cc pc = .ok (.ifCond .le off, 3)) (ht : (pc : Int) + off = (tgt : Int)) (kt : x ≤ 0 → Z p l e R s m args below meth c D A nL ce sl Q w lv tgt st) (kf : ¬ (x ≤ 0) → Z p l e R s m args below meth c D A nL ce sl Q w lv (pc + 3) st) : Z p l e R s m args below meth c D A nL ce sl Q w lv pc (.int x :: st) := fun H locs ls hP hD hS hl => lv_if_le X.x X.b hdg ht (fun q => kt q H locs ls hP hD hS hl) (fun q => kf q H locs ls hP hD hS hl)
theorem z_icmp_le (X : CX p s m args meth c D ty A cc nL ret own) {x y : Int32} {off : Int} {tgt : Nat} (hdg : decode cc pc = .ok (.if_icmp .le off, 3)) (ht : (pc : Int) + off = (tgt : Int)) (kt : x ≤ y → Z p l e R s m args below meth c D A nL ce sl Q w lv tgt st) (kf : ¬ (x ≤ y) → Z p l e R s m args below meth c D A nL ce sl Q w lv (pc + 3) st) : Z p l e R s m args below meth c D A nL ce sl Q w lv pc (.int y :: .int x :: st) := fun H locs ls hP hD hS hl => lv_icmp_le X.x X.b hdg ht (fun q => kt q H locs ls hP hD hS hl) (fun q => kf q H locs ls hP hD hS hl)
theorem z_tableIn (X : CX p s m args meth c D ty A cc nL ret own) {dflt lo hi : Int} {offs : Array Int} {len : Nat} {x : Int32} {off : Int} {tgt : Nat} (hdg : decode cc pc = .ok (.tableswitch dflt lo hi offs, len)) (h1 : ¬ x.toInt < lo) (h2 : ¬ hi < x.toInt) (ho : offs[(x.toInt - lo).toNat]? = some off) (ht : (pc : Int) + off = (tgt : Int)) (k : Z p l e R s m args below meth c D A nL ce sl Q w lv tgt st) : Z p l e R s m args below meth c D A nL ce sl Q w lv pc (.int x :: st) := Z.lift (fun _ _ _ q => lv_tableIn X.x X.b hdg h1 h2 ho ht q) k
theorem z_tableOut (X : CX p s m args meth c D ty A cc nL ret own) {dflt lo hi : Int} {offs : Array Int} {len : Nat} {x : Int32} {tgt : Nat} (hdg : decode cc pc = .ok (.tableswitch dflt lo hi offs, len)) (h : x.toInt < lo ∨ hi < x.toInt) (ht : (pc : Int) + dflt = (tgt : Int)) (k : Z p l e R s m args below meth c D A nL ce sl Q w lv tgt st) : Z p l e R s m args below meth c D A nL ce sl Q w lv pc (.int x :: st) := Z.lift (fun _ _ _ q => lv_tableOut X.x X.b hdg h ht q) k
theorem z_iload_n (X : CX p s m args meth c D ty A cc nL ret own) {k : Fin 4} {x : Int32} (hdg : decode cc pc = .ok (.iload_n k, 1)) (j : Nat) (hj : lv[j]? = some ((k : Nat), .int x)) (kk : Z p l e R s m args below meth c D A nL ce sl Q w lv (pc + 1) (.int x :: st)) : Z p l e R s m args below meth c D A nL ce sl Q w lv pc st := fun H locs ls hP hD hS hl => lv_iload_n X.x X.b hdg rfl (lv_at hl j hj) (kk H locs ls hP hD hS hl)
theorem z_iload (X : CX p s m args meth c D ty A cc nL ret own) {i : Nat} {x : Int32} (hdg : decode cc pc = .ok (.iload i, 2)) (j : Nat) (hj : lv[j]? = some (i, .int x)) (kk : Z p l e R s m args below meth c D A nL ce sl Q w lv (pc + 2) (.int x :: st)) : Z p l e R s m args below meth c D A nL ce sl Q w lv pc st := fun H locs ls hP hD hS hl => lv_iload X.x X.b hdg (lv_at hl j hj) (kk H locs ls hP hD hS hl)
theorem z_lload_n (X : CX p s m args meth c D ty A cc nL ret own) {k : Fin 4} {x : Int64} (hdg : decode cc pc = .ok (.lload_n k, 1)) (j : Nat) (hj : lv[j]? = some ((k : Nat), .long x)) (kk : Z p l e R s m args below meth c D A nL ce sl Q w lv (pc + 1) (.long x :: st)) : Z p l e R s m args below meth c D A nL ce sl Q w lv pc st := fun H locs ls hP hD hS hl => lv_lload_n X.x X.b hdg rfl (lv_at hl j hj) (kk H locs ls hP hD hS hl)
theorem z_lload (X : CX p s m args meth c D ty A cc nL ret own) {i : Nat} {x : Int64} (hdg : decode cc pc = .ok (.lload i, 2)) (j : Nat) (hj : lv[j]? = some (i, .long x)) (kk : Z p l e R s m args below meth c D A nL ce sl Q w lv (pc + 2) (.long x :: st)) : Z p l e R s m args below meth c D A nL ce sl Q w lv pc st := fun H locs ls hP hD hS hl => lv_lload X.x X.b hdg (lv_at hl j hj) (kk H locs ls hP hD hS hl)
theorem z_aload_n (X : CX p s m args meth c D ty A cc nL ret own) {k : Fin 4} {x : Nat} (hdg : decode cc pc = .ok (.aload_n k, 1)) (j : Nat) (hj : lv[j]? = some ((k : Nat), .ref x)) (kk : Z p l e R s m args below meth c D A nL ce sl Q w lv (pc + 1) (.ref x :: st)) : Z p l e R s m args below meth c D A nL ce sl Q w lv pc st := fun H locs ls hP hD hS hl => lv_aload_n X.x X.b hdg rfl (lv_at hl j hj) (kk H locs ls hP hD hS hl)
theorem z_aload (X : CX p s m args meth c D ty A cc nL ret own) {i : Nat} {x : Nat} (hdg : decode cc pc = .ok (.aload i, 2)) (j : Nat) (hj : lv[j]? = some (i, .ref x)) (kk : Z p l e R s m args below meth c D A nL ce sl Q w lv (pc + 2) (.ref x :: st)) : Z p l e R s m args below meth c D A nL ce sl Q w lv pc st := fun H locs ls hP hD hS hl => lv_aload X.x X.b hdg (lv_at hl j hj) (kk H locs ls hP hD hS hl)
theorem z_istore_n (X : CX p s m args meth c D ty A cc nL ret own) {k : Fin 4} {x : Int32} {lv' : List (Nat × Value)} (hdg : decode cc pc = .ok (.istore_n k, 1)) (hn : (k : Nat) < nL) (hl' : ((k : Nat), Value.int x) :: lv.filter (fun q => !(q.1 == (k : Nat)) && !(q.1 + 1 == (k : Nat) && q.2.category == 2)) = lv') (kk : Z p l e R s m args below meth c D A nL ce sl Q w lv' (pc + 1) st) : Z p l e R s m args below meth c D A nL ce sl Q w lv pc (.int x :: st) := fun H locs ls hP hD hS hl => lv_istore_n X.x X.b hdg rfl hl hn hl' (fun ls' h' => kk H locs ls' hP hD hS h')
theorem z_istore (X : CX p s m args meth c D ty A cc nL ret own) {i : Nat} {x : Int32} {lv' : List (Nat × Value)} (hdg : decode cc pc = .ok (.istore i, 2)) (hn : i < nL) (hl' : (i, Value.int x) :: lv.filter (fun q => !(q.1 == i) && !(q.1 + 1 == i && q.2.category == 2)) = lv') (kk : Z p l e R s m args below meth c D A nL ce sl Q w lv' (pc + 2) st) : Z p l e R s m args below meth c D A nL ce sl Q w lv pc (.int x :: st) := fun H locs ls hP hD hS hl => lv_istore X.x X.b hdg hl hn hl' (fun ls' h' => kk H locs ls' hP hD hS h')
theorem z_lstore_n (X : CX p s m args meth c D ty A cc nL ret own) {k : Fin 4} {x : Int64} {lv' : List (Nat × Value)} (hdg : decode cc pc = .ok (.lstore_n k, 1)) (hn : (k : Nat) + 1 < nL) (hl' : ((k : Nat), Value.long x) :: lv.filter (fun q => !(q.1 == (k : Nat)) && (!(q.1 == (k : Nat) + 1) && !(q.1 + 1 == (k : Nat) && q.2.category == 2))) = lv') (kk : Z p l e R s m args below meth c D A nL ce sl Q w lv' (pc + 1) st) : Z p l e R s m args below meth c D A nL ce sl Q w lv pc (.long x :: st) := fun H locs ls hP hD hS hl => lv_lstore_n X.x X.b hdg rfl hl hn hl' (fun ls' h' => kk H locs ls' hP hD hS h')
theorem z_lstore (X : CX p s m args meth c D ty A cc nL ret own) {i : Nat} {x : Int64} {lv' : List (Nat × Value)} (hdg : decode cc pc = .ok (.lstore i, 2)) (hn : i + 1 < nL) (hl' : (i, Value.long x) :: lv.filter (fun q => !(q.1 == i) && (!(q.1 == i + 1) && !(q.1 + 1 == i && q.2.category == 2))) = lv') (kk : Z p l e R s m args below meth c D A nL ce sl Q w lv' (pc + 2) st) : Z p l e R s m args below meth c D A nL ce sl Q w lv pc (.long x :: st) := fun H locs ls hP hD hS hl => lv_lstore X.x X.b hdg hl hn hl' (fun ls' h' => kk H locs ls' hP hD hS h')
theorem z_astore_n (X : CX p s m args meth c D ty A cc nL ret own) {k : Fin 4} {x : Nat} {lv' : List (Nat × Value)} (hdg : decode cc pc = .ok (.astore_n k, 1)) (hn : (k : Nat) < nL) (hl' : ((k : Nat), Value.ref x) :: lv.filter (fun q => !(q.1 == (k : Nat)) && !(q.1 + 1 == (k : Nat) && q.2.category == 2)) = lv') (kk : Z p l e R s m args below meth c D A nL ce sl Q w lv' (pc + 1) st) : Z p l e R s m args below meth c D A nL ce sl Q w lv pc (.ref x :: st) := fun H locs ls hP hD hS hl => lv_astore_n X.x X.b hdg rfl hl hn hl' (fun ls' h' => kk H locs ls' hP hD hS h')
theorem z_astore (X : CX p s m args meth c D ty A cc nL ret own) {i : Nat} {x : Nat} {lv' : List (Nat × Value)} (hdg : decode cc pc = .ok (.astore i, 2)) (hn : i < nL) (hl' : (i, Value.ref x) :: lv.filter (fun q => !(q.1 == i) && !(q.1 + 1 == i && q.2.category == 2)) = lv') (kk : Z p l e R s m args below meth c D A nL ce sl Q w lv' (pc + 2) st) : Z p l e R s m args below meth c D A nL ce sl Q w lv pc (.ref x :: st) := fun H locs ls hP hD hS hl => lv_astore X.x X.b hdg hl hn hl' (fun ls' h' => kk H locs ls' hP hD hS h')
theorem z_iinc (X : CX p s m args meth c D ty A cc nL ret own) {i : Nat} {n : Int} {x v : Int32} {lv' : List (Nat × Value)} (hdg : decode cc pc = .ok (.iinc i n, 3)) (j : Nat) (hj : lv[j]? = some (i, .int x)) (hv : x + Int32.ofInt n = v) (hn : i < nL) (hl' : (i, Value.int v) :: lv.filter (fun q => !(q.1 == i) && !(q.1 + 1 == i && q.2.category == 2)) = lv') (kk : Z p l e R s m args below meth c D A nL ce sl Q w lv' (pc + 3) st) : Z p l e R s m args below meth c D A nL ce sl Q w lv pc st := fun H locs ls hP hD hS hl => lv_iinc X.x X.b hdg hl hj hv hn hl' (fun ls' h' => kk H locs ls' hP hD hS h')
theorem z_topi {x : Int32} (k : ∀ y : Int32, y = x → Z p l e R s m args below meth c D A nL ce sl Q w lv pc (.int y :: st)) : Z p l e R s m args below meth c D A nL ce sl Q w lv pc (.int x :: st) := k x rfl
theorem z_lv {lv' : List (Nat × Value)} (ks : List Nat) (h : lv_pick lv ks = lv') (k : Z p l e R s m args below meth c D A nL ce sl Q w lv' pc st) : Z p l e R s m args below meth c D A nL ce sl Q w lv pc st := fun H locs ls hP hD hS hl => k H locs ls hP hD hS (lv_sub hl ks h)
theorem z_w {w' : va_W} (h : w = w') (k : Z p l e R s m args below meth c D A nL ce sl Q w' lv pc st) : Z p l e R s m args below meth c D A nL ce sl Q w lv pc st := by subst h; exact k
theorem z_perm {w' : va_W} (is : List Nat) (hn : va_nd is = true) (hs : is.filterMap (fun i => w[i]?) = w') (hs2 : is.map (fun i => w[i]?) = w'.map some) (k : Z p l e R s m args below meth c D A nL ce sl Q w' lv pc st) : Z p l e R s m args below meth c D A nL ce sl Q w lv pc st := fun H locs ls hP hD hS hl => k H locs ls (hP.sub is hs) (hD.sub is hn hs2) hS hl
theorem z_get (X : CX p s m args meth c D ty A cc nL ret own) {C ref : String} {T : u_T} {N ci index a : Nat} (hin : ∀ w ∈ u_ws C T N, w ∈ WS) (hc : vwCl[ci]? = some (C, T, N)) (q0 : Nat) {fs : List Value} (he : w[q0]? = some (a, .inr (ci, fs))) (k : Nat) (hk : k < N) (hlink : Cond.fieldLink own index ref (T k).2.1 (T k).2.2.1 ∈ WS) (hr : (T k).1 = ref) {v : Value} (hv : fs[k]? = some v) (hdg : decode cc pc = .ok (.getfield index, 3)) (kk : Z p l e R s m args below meth c D A nL ce sl Q w lv (pc + 3) (v :: st)) : Z p l e R s m args below meth c D A nL ce sl Q w lv pc (.ref a :: st) := fun H locs ls hP hD hS hl => va_get X.x X.b X.ts hin X.ow X.K hP q0 he hc k hk (X.ts _ hlink) (fun x h => by rw [hr] at h; exact h) hv hdg (kk H locs ls hP hD hS hl)
theorem z_put (X : CX p s m args meth c D ty A cc nL ret own) {C ref : String} {T : u_T} {N ci index a : Nat} (hin : ∀ w ∈ u_ws C T N, w ∈ WS) (hc : vwCl[ci]? = some (C, T, N)) (ty0 : Nat → FieldType) (hty : ∀ k, k < N → parseFieldDescriptor (T k).2.2.1 = some (ty0 k)) (hnm : ∀ a, a < N → ∀ b, b < N → a ≠ b → (T a).2.1 ≠ (T b).2.1) (q0 : Nat) {fs : List Value} (he : w[q0]? = some (a, .inr (ci, fs))) (k : Nat) (hk : k < N) (hlink : Cond.fieldLink own index ref (T k).2.1 (T k).2.2.1 ∈ WS) (hr : (T k).1 = ref) (hfin : (T k).2.2.2 = false) {v : Value} (hn : narrow (ty0 k) v = v) (hfit : fits (ty0 k) v = true) (hl2 : k < fs.length) {w' : va_W} (hw : w.set q0 (a, .inr (ci, fs.set k v)) = w') (hdg : decode cc pc = .ok (.putfield index, 3)) (kk : Z p l e R s m args below meth c D A nL ce sl Q w' lv (pc + 3) st) : Z p l e R s m args below meth c D A nL ce sl Q w lv pc (v :: .ref a :: st) := by
  subst hw
  exact fun H locs ls hP hD hS hl => va_put X.x X.b X.ts hin ty0 hty hnm X.ow X.K hP hD hS q0 he hc k hk (X.ts _ hlink) (fun x h => by rw [hr] at h; exact h) hfin (hty k hk) hn hfit hl2 hdg (fun H1 locs1 h1 h2 h3 => kk H1 locs1 ls h1 h2 h3 hl)
theorem z_putF (X : CX p s m args meth c D ty A cc nL ret own) {C ref : String} {T : u_T} {N ci index a : Nat} (hin : ∀ w ∈ u_ws C T N, w ∈ WS) (hc : vwCl[ci]? = some (C, T, N)) (ty0 : Nat → FieldType) (hty : ∀ k, k < N → parseFieldDescriptor (T k).2.2.1 = some (ty0 k)) (hnm : ∀ a, a < N → ∀ b, b < N → a ≠ b → (T a).2.1 ≠ (T b).2.1) (q0 : Nat) {fs : List Value} (he : w[q0]? = some (a, .inr (ci, fs))) (k : Nat) (hk : k < N) (hlink : Cond.fieldLink own index ref (T k).2.1 (T k).2.2.1 ∈ WS) (hr : (T k).1 = ref) (hfin : (T k).2.2.2 = true) (hini : meth.name = "<init>") (hdecl : (T k).1 = own) {v : Value} (hn : narrow (ty0 k) v = v) (hfit : fits (ty0 k) v = true) (hl2 : k < fs.length) {w' : va_W} (hw : w.set q0 (a, .inr (ci, fs.set k v)) = w') (hdg : decode cc pc = .ok (.putfield index, 3)) (kk : Z p l e R s m args below meth c D A nL ce sl Q w' lv (pc + 3) st) : Z p l e R s m args below meth c D A nL ce sl Q w lv pc (v :: .ref a :: st) := by
  subst hw
  exact fun H locs ls hP hD hS hl => va_putF X.x X.b X.ts hin ty0 hty hnm X.ow X.K hP hD hS q0 he hc k hk (X.ts _ hlink) (fun x h => by rw [hr] at h; exact h) hfin hini hdecl (hty k hk) hn hfit hl2 hdg (fun H1 locs1 h1 h2 h3 => kk H1 locs1 ls h1 h2 h3 hl)
theorem z_iald (X : CX p s m args meth c D ty A cc nL ret own) (q0 t0 : Nat) {cA : ClassId} {n a : Nat} {f : Nat → Int32} (ha : w[q0]? = some (a, .inl (cA, n, .inl f))) (ht : ty[t0]? = some (cA, .int)) {i : Int32} {j : Nat} (hin : vp_in i n) (hj : i.toNatClampNeg = j) (hdg : decode cc pc = .ok (.iaload, 1)) (kk : Z p l e R s m args below meth c D A nL ce sl Q w lv (pc + 1) (.int (f j) :: st)) : Z p l e R s m args below meth c D A nL ce sl Q w lv pc (.int i :: .ref a :: st) := by
  subst hj
  exact fun H locs ls hP hD hS hl => va_iald X.x X.b X.K hP q0 t0 ha ht hin hdg (kk H locs ls hP hD hS hl)
theorem z_cald (X : CX p s m args meth c D ty A cc nL ret own) (q0 t0 : Nat) {cA : ClassId} {n a : Nat} {f : Nat → Int32} (ha : w[q0]? = some (a, .inl (cA, n, .inl f))) (ht : ty[t0]? = some (cA, .char)) {i : Int32} {j : Nat} (hin : vp_in i n) (hj : i.toNatClampNeg = j) (hdg : decode cc pc = .ok (.caload, 1)) (kk : Z p l e R s m args below meth c D A nL ce sl Q w lv (pc + 1) (.int (f j) :: st)) : Z p l e R s m args below meth c D A nL ce sl Q w lv pc (.int i :: .ref a :: st) := by
  subst hj
  exact fun H locs ls hP hD hS hl => va_cald X.x X.b X.K hP q0 t0 ha ht hin hdg (kk H locs ls hP hD hS hl)
theorem z_iast (X : CX p s m args meth c D ty A cc nL ret own) (q0 t0 : Nat) {cA : ClassId} {n a : Nat} {f : Nat → Int32} (ha : w[q0]? = some (a, .inl (cA, n, .inl f))) (ht : ty[t0]? = some (cA, .int)) {i x : Int32} {j : Nat} (hin : vp_in i n) (hj : i.toNatClampNeg = j) {w' : va_W} (hw : w.set q0 (a, .inl (cA, n, .inl (upd f j x))) = w') (hdg : decode cc pc = .ok (.iastore, 1)) (kk : Z p l e R s m args below meth c D A nL ce sl Q w' lv (pc + 1) st) : Z p l e R s m args below meth c D A nL ce sl Q w lv pc (.int x :: .int i :: .ref a :: st) := by
  subst hj
  subst hw
  exact fun H locs ls hP hD hS hl => va_iast X.x X.b X.K hP hD hS q0 t0 ha ht hin hdg (fun H1 locs1 h1 h2 h3 => kk H1 locs1 ls h1 h2 h3 hl)
theorem z_cast (X : CX p s m args meth c D ty A cc nL ret own) (q0 t0 : Nat) {cA : ClassId} {n a : Nat} {f : Nat → Int32} (ha : w[q0]? = some (a, .inl (cA, n, .inl f))) (ht : ty[t0]? = some (cA, .char)) {i x : Int32} {j : Nat} (hin : vp_in i n) (hj : i.toNatClampNeg = j) (hx : narrow .char (.int x) = .int x) {w' : va_W} (hw : w.set q0 (a, .inl (cA, n, .inl (upd f j x))) = w') (hdg : decode cc pc = .ok (.castore, 1)) (kk : Z p l e R s m args below meth c D A nL ce sl Q w' lv (pc + 1) st) : Z p l e R s m args below meth c D A nL ce sl Q w lv pc (.int x :: .int i :: .ref a :: st) := by
  subst hj
  subst hw
  refine fun H locs ls hP hD hS hl => va_cast X.x X.b X.K hP hD hS q0 t0 ha ht hin hdg (fun H1 locs1 h1 h2 h3 => kk H1 locs1 ls ?_ ?_ h3 hl)
  all_goals (have e9 : vp_nar .char x = x := by unfold vp_nar; rw [hx])
  · rw [e9] at h1; exact h1
  · rw [e9] at h2; exact h2
theorem z_aald (X : CX p s m args meth c D ty A cc nL ret own) (q0 t0 : Nat) {cA : ClassId} {C : String} {n a : Nat} {f : Nat → Option Nat} (ha : w[q0]? = some (a, .inl (cA, n, .inr (.inr (.inr (.inr f)))))) (ht : ty[t0]? = some (cA, .object C)) {i : Int32} {j v : Nat} (hin : vp_in i n) (hj : i.toNatClampNeg = j) (hv : f j = some v) (hdg : decode cc pc = .ok (.aaload, 1)) (kk : Z p l e R s m args below meth c D A nL ce sl Q w lv (pc + 1) (.ref v :: st)) : Z p l e R s m args below meth c D A nL ce sl Q w lv pc (.int i :: .ref a :: st) := by
  subst hj
  exact fun H locs ls hP hD hS hl => va_aldq X.x X.b X.K hP q0 t0 ha ht hin hdg (by rw [hv]; exact kk H locs ls hP hD hS hl)
theorem z_aast (X : CX p s m args meth c D ty A cc nL ret own) (q0 t0 qk ci : Nat) {cA : ClassId} {r : vw_C} {n a v : Nat} {vs : List Value} {f : Nat → Option Nat} (ha : w[q0]? = some (a, .inl (cA, n, .inr (.inr (.inr (.inr f)))))) (ht : ty[t0]? = some (cA, .object r.1)) (hv : w[qk]? = some (v, .inr (ci, vs))) (hc : vwCl[ci]? = some r) {i : Int32} {j : Nat} (hin : vp_in i n) (hj : i.toNatClampNeg = j) {w' : va_W} (hw : w.set q0 (a, .inl (cA, n, .inr (.inr (.inr (.inr (va_up f j (some v))))))) = w') (hdg : decode cc pc = .ok (.aastore, 1)) (kk : Z p l e R s m args below meth c D A nL ce sl Q w' lv (pc + 1) st) : Z p l e R s m args below meth c D A nL ce sl Q w lv pc (.ref v :: .int i :: .ref a :: st) := by
  subst hj
  subst hw
  exact fun H locs ls hP hD hS hl => va_astq X.x X.b X.K hP hD hS q0 t0 qk ci ha ht hv hc hin hdg (fun H1 locs1 h1 h2 h3 => kk H1 locs1 ls h1 h2 h3 hl)
end
/-! contracts -/
def PcW (D : va_G) (ty : List (ClassId × FieldType)) (sz : Nat) (wc : va_W) (av : List Value) : Array Value → State → Prop := va_Pc av (fun U => U.heap.size = sz ∧ va_P D vwCl wc U.heap ∧ va_K D vwCl ty U ∧ va_D (fun _ => True) wc)
def QiA {U : Type} (D : va_G) (ty : List (ClassId × FieldType)) (A : Nat → Prop) (rf : U → Int32) (wf : U → va_W) (Pu : U → Prop) : Array Value → State → Outcome → State → Prop := va_Qi (fun r (u : U) => r = rf u ∧ Pu u) (fun u t => va_P D vwCl (wf u) t.heap ∧ va_K D vwCl ty t ∧ va_D A (wf u)) A
def QvA {U : Type} (D : va_G) (ty : List (ClassId × FieldType)) (A : Nat → Prop) (wf : U → va_W) (Pu : U → Prop) : Array Value → State → Outcome → State → Prop := va_Qv (fun (u : U) => Pu u) (fun u t => va_P D vwCl (wf u) t.heap ∧ va_K D vwCl ty t ∧ va_D A (wf u)) A
def CtI {U : Type} (l : Launch) (y : MethodName) (bytes : ByteArray) (maxL : Nat) (ret : Option FieldType) (rm : Room) (D : va_G) (ty : List (ClassId × FieldType)) (wc : va_W) (av : List Value) (rf : U → Int32) (wf : U → va_W) (Pu : U → Prop) : Prop := ∀ sz : Nat, Met l y (Cond.code y bytes maxL ret :: WS) rm (PcW D ty sz wc av) (QiA D ty (va_A wc sz) rf wf Pu) 0 0 (va_A wc sz)
def CtV {U : Type} (l : Launch) (y : MethodName) (bytes : ByteArray) (maxL : Nat) (ret : Option FieldType) (rm : Room) (D : va_G) (ty : List (ClassId × FieldType)) (wc : va_W) (av : List Value) (wf : U → va_W) (Pu : U → Prop) : Prop := ∀ sz : Nat, Met l y (Cond.code y bytes maxL ret :: WS) rm (PcW D ty sz wc av) (QvA D ty (va_A wc sz) wf Pu) 0 0 (va_A wc sz)
theorem PcW_blind {D : va_G} {ty : List (ClassId × FieldType)} {sz : Nat} {wc : va_W} {av : List Value} : FrameBlind (PcW D ty sz wc av) := fun a U g mk q => by
  obtain ⟨q0, q1, qP, qK, qD⟩ := q
  exact ⟨q0, q1, qP, va_K.moved (u := U) (U := U.calling g mk a) (Vm.Alike.refl U.vm) qK, qD⟩
theorem met_Z {l : Launch} {y : MethodName} {own : String} {rm : Room} {D : va_G} {ty : List (ClassId × FieldType)} {wc : va_W} {av : List Value} {cc : ByteArray} {maxL sz : Nat} {ret : Option FieldType} {Qc : Array Value → State → Outcome → State → Prop} (hy : plainName y.cls = true) (ho : y.cls = own) (hlen : (lg_sl av).length ≤ maxL)
    (body : ∀ (p : Program) (e : Env) (s : State) (m : MethodId) (args : Array Value) (below : List Frame) (meth : Method) (c : Code), CX p s m args meth c D ty (va_A wc sz) cc maxL ret own → meth.name = y.name → Z p l e rm s m args below meth c D (va_A wc sz) maxL 0 0 (MQ below Qc args s 0 0 (va_A wc sz)) wc (lv_args 0 av) 0 []) : Met l y (Cond.code y cc maxL ret :: WS) rm (PcW D ty sz wc av) Qc 0 0 (va_A wc sz) := by
  refine Met.ofW (cc := cc) (maxL := maxL) (ret := ret) hy rfl ?_
  intro p e s m args below meth c s₁ B hml hv
  obtain ⟨rfl, hsz, hP, hK, hD0⟩ := hv
  have hts : ∀ w ∈ WS, w.before av.toArray s = true := fun w h => atoms_spec (ws := Cond.code y cc maxL ret :: WS) B.pre w (List.mem_cons_of_mem _ h)
  have hown : s.vm.findClass own = some m.cls := by rw [← ho]; exact findClass_of_methodNamed B.named
  subst hsz
  have hl := lv_entry av (n := maxL) hlen
  rw [lg_entry_eq]
  exact body p e s m av.toArray below meth c ⟨B.exec, B.bytes, B.returns, hml, hown, hts, B.notSynchronized, hK, fun q h => Or.inr h⟩ (name_of_methodNamed B.named B.method).1 s.heap [] _ hP hD0.self va_S.rf hl
theorem met_Zi {U : Type} {l : Launch} {y : MethodName} {own : String} {rm : Room} {D : va_G} {ty : List (ClassId × FieldType)} {wc : va_W} {av : List Value} {cc : ByteArray} {maxL : Nat} {ret : Option FieldType} {rf : U → Int32} {wf : U → va_W} {Pu : U → Prop} (hy : plainName y.cls = true) (ho : y.cls = own) (hlen : (lg_sl av).length ≤ maxL)
    (body : ∀ (p : Program) (e : Env) (s : State) (m : MethodId) (args : Array Value) (below : List Frame) (meth : Method) (c : Code) (A : Nat → Prop) (Q : State → Prop), CX p s m args meth c D ty A cc maxL ret own → Q = MQ below (QiA D ty A rf wf Pu) args s 0 0 A → Z p l e rm s m args below meth c D A maxL 0 0 Q wc (lv_args 0 av) 0 []) : CtI l y cc maxL ret rm D ty wc av rf wf Pu :=
  fun _ => met_Z hy ho hlen fun p e s m args below meth c X _ => body p e s m args below meth c _ _ X rfl
theorem met_Zv {U : Type} {l : Launch} {y : MethodName} {own : String} {rm : Room} {D : va_G} {ty : List (ClassId × FieldType)} {wc : va_W} {av : List Value} {cc : ByteArray} {maxL : Nat} {ret : Option FieldType} {wf : U → va_W} {Pu : U → Prop} (hy : plainName y.cls = true) (ho : y.cls = own) (hlen : (lg_sl av).length ≤ maxL)
    (body : ∀ (p : Program) (e : Env) (s : State) (m : MethodId) (args : Array Value) (below : List Frame) (meth : Method) (c : Code) (A : Nat → Prop) (Q : State → Prop), CX p s m args meth c D ty A cc maxL ret own → Q = MQ below (QvA D ty A wf Pu) args s 0 0 A → Z p l e rm s m args below meth c D A maxL 0 0 Q wc (lv_args 0 av) 0 []) : CtV l y cc maxL ret rm D ty wc av wf Pu :=
  fun _ => met_Z hy ho hlen fun p e s m args below meth c X _ => body p e s m args below meth c _ _ X rfl
theorem gV {own C : String} {idx maxL : Nat} {y : MethodName} {b : ByteArray} {ret : Option FieldType} (h1 : Cond.methodLink own idx y ∈ WS) (h2 : Cond.instanceMethod y ∈ WS) (h3 : Cond.selects C y y ∈ WS) (h4 : Cond.initialized C ∈ WS) (h5 : Cond.code y b maxL ret ∈ WS) : GoodIn WS (wsV own idx C y (Cond.code y b maxL ret :: WS)) := by
  intro w hw
  have h : w ∈ WS := by
    unfold wsV at hw
    simp only [List.cons_append, List.nil_append, List.mem_cons] at hw
    rcases hw with rfl | rfl | rfl | rfl | rfl | h <;> assumption
  exact ⟨h, good_of_word (WS_good w h)⟩
theorem gS {own : String} {idx maxL : Nat} {y : MethodName} {b : ByteArray} {ret : Option FieldType} (h1 : Cond.methodLink own idx y ∈ WS) (h2 : Cond.static y ∈ WS) (h4 : Cond.initialized y.cls ∈ WS) (h5 : Cond.code y b maxL ret ∈ WS) : GoodIn WS (va_wsS own idx y (Cond.code y b maxL ret :: WS)) := by
  intro w hw
  have h : w ∈ WS := by
    unfold va_wsS at hw
    simp only [List.cons_append, List.nil_append, List.mem_cons] at hw
    rcases hw with rfl | rfl | rfl | rfl | h <;> assumption
  exact ⟨h, good_of_word (WS_good w h)⟩
/-! worlds side by side -/
theorem vP_mem {D : va_G} {cl : List vw_C} {ws : va_W} {H : Heap} : va_P D cl ws H ↔ ∀ q ∈ ws, va_at D cl q H := by
  constructor
  · intro h q hq
    obtain ⟨i, hi⟩ := List.getElem?_of_mem hq
    exact h i q hi
  · intro h k q hk
    exact h q (List.mem_of_getElem? hk)
theorem vD_mem {A : Nat → Prop} {ws : va_W} : va_D A ws ↔ (ws.map Prod.fst).Nodup ∧ ∀ q ∈ ws, A q.1 := by
  constructor
  · intro h
    refine ⟨?_, fun q hq => ?_⟩
    · rw [List.nodup_iff_pairwise_ne, List.pairwise_iff_getElem]
      intro i j hi hj hij he
      simp only [List.length_map] at hi hj
      have h1 : ws[i]? = some ws[i] := List.getElem?_eq_getElem hi
      have h2 : ws[j]? = some ws[j] := List.getElem?_eq_getElem hj
      have := h.1 i j _ _ h1 h2 (by simpa using he)
      omega
    · obtain ⟨i, hi⟩ := List.getElem?_of_mem hq
      exact h.2 i q hi
  · rintro ⟨h1, h2⟩
    refine ⟨fun i j a b hi hj hab => ?_, fun k q hk => h2 q (List.mem_of_getElem? hk)⟩
    rw [List.nodup_iff_pairwise_ne, List.pairwise_iff_getElem] at h1
    obtain ⟨hi1, rfl⟩ := List.getElem?_eq_some_iff.mp hi
    obtain ⟨hj1, rfl⟩ := List.getElem?_eq_some_iff.mp hj
    rcases Nat.lt_trichotomy i j with h | h | h
    · exact (h1 i j (by simpa using hi1) (by simpa using hj1) h (by rw [List.getElem_map, List.getElem_map]; exact hab)).elim
    · exact h
    · exact (h1 j i (by simpa using hj1) (by simpa using hi1) h (by rw [List.getElem_map, List.getElem_map]; exact hab.symm)).elim
theorem vA_mem {wc : va_W} {sz q : Nat} : va_A wc sz q ↔ (∃ e, (q, e) ∈ wc) ∨ sz ≤ q := by
  constructor
  · rintro (⟨k, e, h⟩ | h)
    · exact Or.inl ⟨e, List.mem_of_getElem? h⟩
    · exact Or.inr h
  · rintro (⟨e, h⟩ | h)
    · obtain ⟨i, hi⟩ := List.getElem?_of_mem h
      exact Or.inl ⟨i, e, hi⟩
    · exact Or.inr h
theorem fr_part {A : Nat → Prop} {D : va_G} {cl : List vw_C} {wl wc wr : va_W} {H : Heap} (hP : va_P D cl (wl ++ (wc ++ wr)) H) (hD : va_D A (wl ++ (wc ++ wr))) : va_P D cl wc H ∧ va_D (fun _ => True) wc := by
  rw [vP_mem] at hP ⊢
  rw [vD_mem] at hD ⊢
  refine ⟨fun q hq => hP q (by simp [hq]), ?_, fun _ _ => trivial⟩
  have h := hD.1
  simp only [List.map_append] at h
  exact (List.nodup_append.mp (List.nodup_append.mp h).2.1).1
theorem fr_free {A : Nat → Prop} {wl wc wr : va_W} {H0 H : Heap} {locs : List Loc} (hD : va_D A (wl ++ (wc ++ wr))) (hS : va_S A H0 H locs) (hA : ∀ q, H0.size ≤ q → A q) : ∀ q, va_A wc H.size q → A q := by
  intro q h
  rcases vA_mem.mp h with ⟨e, h⟩ | h
  · exact (vD_mem.mp hD).2 (q, e) (by simp [h])
  · exact hA q (Nat.le_trans hS.1 h)
theorem fr_join {A : Nat → Prop} {D : va_G} {cl : List vw_C} {wl wc wr w1 : va_W} {H H1 : Heap} (hP : va_P D cl (wl ++ (wc ++ wr)) H) (hD : va_D A (wl ++ (wc ++ wr)))
    (hk : ∀ q : Nat, q < H.size → ¬ va_A wc H.size q → H1[q]? = H[q]?) (hF : ∀ q, va_A wc H.size q → A q) (hP1 : va_P D cl w1 H1) (hD1 : va_D (va_A wc H.size) w1) : va_P D cl (wl ++ (w1 ++ wr)) H1 ∧ va_D A (wl ++ (w1 ++ wr)) := by
  rw [vP_mem] at hP hP1 ⊢
  rw [vD_mem] at hD hD1 ⊢
  obtain ⟨n0, a0⟩ := hD
  obtain ⟨n1, a1⟩ := hD1
  simp only [List.map_append] at n0 ⊢
  rw [List.nodup_append] at n0
  obtain ⟨nl, n2, dl⟩ := n0
  rw [List.nodup_append] at n2
  obtain ⟨nc, nr, dc⟩ := n2
  have apart : ∀ q, (q ∈ wl ∨ q ∈ wr) → q.1 < H.size ∧ ¬ va_A wc H.size q.1 := by
    intro q hq
    have hm : q ∈ wl ++ (wc ++ wr) := by rcases hq with h | h <;> simp [h]
    have hlt := (hP q hm).lt
    refine ⟨hlt, fun h => ?_⟩
    rcases vA_mem.mp h with ⟨e, h⟩ | h
    · have hc : q.1 ∈ wc.map Prod.fst := List.mem_map.mpr ⟨_, h, rfl⟩
      rcases hq with hq | hq
      · exact dl q.1 (List.mem_map.mpr ⟨q, hq, rfl⟩) q.1 (List.mem_append_left _ hc) rfl
      · exact dc q.1 hc q.1 (List.mem_map.mpr ⟨q, hq, rfl⟩) rfl
    · omega
  refine ⟨fun q hq => ?_, ?_, fun q hq => ?_⟩
  · simp only [List.mem_append] at hq
    rcases hq with h | h | h
    · exact (hP q (by simp [h])).kept (hk q.1 (apart q (Or.inl h)).1 (apart q (Or.inl h)).2)
    · exact hP1 q h
    · exact (hP q (by simp [h])).kept (hk q.1 (apart q (Or.inr h)).1 (apart q (Or.inr h)).2)
  · rw [List.nodup_append]
    refine ⟨nl, ?_, ?_⟩
    · rw [List.nodup_append]
      refine ⟨n1, nr, ?_⟩
      intro x hx y hy hxy
      subst hxy
      obtain ⟨q, hq, rfl⟩ := List.mem_map.mp hx
      obtain ⟨r, hr, he⟩ := List.mem_map.mp hy
      exact (apart r (Or.inr hr)).2 (by rw [he]; exact a1 q hq)
    · intro x hx y hy hxy
      subst hxy
      obtain ⟨r, hr, he⟩ := List.mem_map.mp hx
      rcases List.mem_append.mp hy with h | h
      · obtain ⟨q, hq, h2⟩ := List.mem_map.mp h
        exact (apart r (Or.inl hr)).2 (by rw [he, ← h2]; exact a1 q hq)
      · exact dl x hx x (List.mem_append_right _ h) rfl
  · simp only [List.mem_append] at hq
    rcases hq with h | h | h
    · exact a0 q (by simp [h])
    · exact hF q.1 (a1 q h)
    · exact a0 q (by simp [h])
section
variable {p : Program} {l : Launch} {e : Env} {R : Room} {s : State} {m : MethodId} {args : Array Value} {below : List Frame} {meth : Method} {c : Code} {D : va_G} {ty : List (ClassId × FieldType)} {A : Nat → Prop} {cc : ByteArray} {nL ce sl : Nat} {ret : Option FieldType} {own : String} {Q : State → Prop} {w : va_W} {lv : List (Nat × Value)} {pc : Nat} {st : List Value}
theorem z_iret (X : CX p s m args meth c D ty A cc nL ret own) {U : Type} {rf : U → Int32} {wf : U → va_W} {Pu : U → Prop} (hQ : Q = MQ below (QiA D ty A rf wf Pu) args s ce sl A) (hr : ret = some .int) (u : U) {v : Int32} (hv : v = rf u) (hw : w = wf u) (hu : Pu u) (hdg : decode cc pc = .ok (.ireturn, 1)) : Z p l e R s m args below meth c D A nL ce sl Q w lv pc [.int v] := by
  subst hQ
  subst hw
  intro H locs ls hP hD hS hl
  exact W.iret X.x X.b (X.r.trans hr) (fun t ht hW => ⟨⟨v, u, rfl, ⟨hv, hu⟩, by rw [ht]; exact hP, va_K.moved hW.alike X.K, hD⟩, hS.F ht⟩) hS.2.2 hdg X.lk
theorem z_zret (X : CX p s m args meth c D ty A cc nL ret own) {U : Type} {rf : U → Int32} {wf : U → va_W} {Pu : U → Prop} (hQ : Q = MQ below (QiA D ty A rf wf Pu) args s ce sl A) (hr : ret = some .boolean) (u : U) {v : Int32} (hv : v = rf u) (hw : w = wf u) (hu : Pu u) (hn : narrow .boolean (.int v) = .int v) (hdg : decode cc pc = .ok (.ireturn, 1)) : Z p l e R s m args below meth c D A nL ce sl Q w lv pc [.int v] := by
  subst hQ
  subst hw
  intro H locs ls hP hD hS hl
  exact W.zret X.x X.b (X.r.trans hr) hn (fun t ht hW => ⟨⟨v, u, rfl, ⟨hv, hu⟩, by rw [ht]; exact hP, va_K.moved hW.alike X.K, hD⟩, hS.F ht⟩) hS.2.2 hdg X.lk
theorem z_vret (X : CX p s m args meth c D ty A cc nL ret own) {U : Type} {wf : U → va_W} {Pu : U → Prop} (hQ : Q = MQ below (QvA D ty A wf Pu) args s ce sl A) (hr : ret = none) (u : U) (hw : w = wf u) (hu : Pu u) (hdg : decode cc pc = .ok (.return_, 1)) : Z p l e R s m args below meth c D A nL ce sl Q w lv pc [] := by
  subst hQ
  subst hw
  intro H locs ls hP hD hS hl
  exact W.vret X.x X.b (X.r.trans hr) (fun t ht hW => ⟨⟨u, rfl, hu, by rw [ht]; exact hP, va_K.moved hW.alike X.K, hD⟩, hS.F ht⟩) hS.2.2 hdg X.lk
theorem z_callVi (X : CX p s m args meth c D ty A cc nL ret own) {U : Type} {y : MethodName} {rm : Room} {wc wl wr : va_W} {As : List Value} {rf : U → Int32} {b : Nat} {C : String} {wf : U → va_W} {Pu : U → Prop} {bytes : ByteArray} {maxL index n : Nat} {ret' : Option FieldType} (hC : CtI l y bytes maxL ret' rm D ty wc (.ref b :: As) rf wf Pu) (hG : GoodIn WS (wsV own index C y (Cond.code y bytes maxL ret' :: WS))) (hd : y.cls = C ∧ y.cls ≠ "java/lang/invoke/MethodHandle" ∧ y.cls ≠ "java/lang/invoke/VarHandle" ∧ (parseMethodDescriptor y.desc).map (fun d => d.parameters.length) = some n) (hrc : rm.cells = 0) (hrs : rm.slots = 0) (hR : rm.frames + 1 ≤ R.frames ∧ 8 + (maxL + 11) + rm.locals ≤ R.locals) (hf : ce ≤ R.cells ∧ sl ≤ R.slots) (ci q0 : Nat) {fs : List Value} {rc : vw_C} (hrecv : wc[q0]? = some (b, .inr (ci, fs))) (hc : vwCl[ci]? = some rc) (hrc2 : rc.1 = C) (hn : As.length = n) {st0 : List Value} (hst : st0 = As.reverse ++ .ref b :: st) (hW : (st.map fun v => v.category).sum ≤ 8) (hdg : decode cc pc = .ok (.invokevirtual index, 3)) (hw0 : w = wl ++ (wc ++ wr)) (kk : ∀ u : U, Pu u → Z p l e R s m args below meth c D A nL ce sl Q (wl ++ (wf u ++ wr)) lv (pc + 3) (.int (rf u) :: st)) : Z p l e R s m args below meth c D A nL ce sl Q w lv pc st0 := by
  subst hw0
  subst hst
  intro H locs ls hP hD hS hl
  obtain ⟨hPc, hDc⟩ := fr_part hP hD
  have hFc := fr_free hD hS X.hA
  refine va_calli (va_runV X.fix (hC H.size) (cwV n X.ts hG rfl hrc hrs hd hR) ⟨PcW_blind, by rw [← hrc2]; exact va_recv X.K hPc hc hrecv, fun U hU hW => ⟨rfl, by rw [hU], by rw [hU]; exact hPc, va_K.moved hW.alike X.K, hDc⟩⟩ rfl hn hl.1 rfl (lv_room hW) hdg hf) hS (fun q _ h => hFc q h) hFc (fun r1 u t H1 locs1 ht hvm hw hB hz1 hk1 hS1 => ?_)
  obtain ⟨rfl, hu⟩ := hw
  obtain ⟨hP1, hK1, hD1⟩ := hB
  rw [ht] at hP1
  obtain ⟨hP2, hD2⟩ := fr_join hP hD hk1 hFc hP1 hD1
  exact kk u hu H1 locs1 ls hP2 hD2 hS1 hl
theorem z_callVi0 (X : CX p s m args meth c D ty A cc nL ret own) {U : Type} {y : MethodName} {rm : Room} {wc: va_W} {As : List Value} {rf : U → Int32} {b : Nat} {C : String} {wf : U → va_W} {Pu : U → Prop} {bytes : ByteArray} {maxL index n : Nat} {ret' : Option FieldType} (hC : CtI l y bytes maxL ret' rm D ty wc (.ref b :: As) rf wf Pu) (hG : GoodIn WS (wsV own index C y (Cond.code y bytes maxL ret' :: WS))) (hd : y.cls = C ∧ y.cls ≠ "java/lang/invoke/MethodHandle" ∧ y.cls ≠ "java/lang/invoke/VarHandle" ∧ (parseMethodDescriptor y.desc).map (fun d => d.parameters.length) = some n) (hrc : rm.cells = 0) (hrs : rm.slots = 0) (hR : rm.frames + 1 ≤ R.frames ∧ 8 + (maxL + 11) + rm.locals ≤ R.locals) (hf : ce ≤ R.cells ∧ sl ≤ R.slots) (ci q0 : Nat) {fs : List Value} {rc : vw_C} (hrecv : wc[q0]? = some (b, .inr (ci, fs))) (hc : vwCl[ci]? = some rc) (hrc2 : rc.1 = C) (hn : As.length = n) {st0 : List Value} (hst : st0 = As.reverse ++ .ref b :: st) (hW : (st.map fun v => v.category).sum ≤ 8) (hdg : decode cc pc = .ok (.invokevirtual index, 3)) (kk : ∀ u : U, Pu u → Z p l e R s m args below meth c D A nL ce sl Q (wf u) lv (pc + 3) (.int (rf u) :: st)) : Z p l e R s m args below meth c D A nL ce sl Q wc lv pc st0 := z_callVi X hC hG hd hrc hrs hR hf ci q0 hrecv hc hrc2 hn hst hW hdg (wl := []) (wr := []) (by simp) (fun u hu => by simpa using kk u hu)
theorem z_callVv (X : CX p s m args meth c D ty A cc nL ret own) {U : Type} {y : MethodName} {rm : Room} {wc wl wr : va_W} {As : List Value} {b : Nat} {C : String} {wf : U → va_W} {Pu : U → Prop} {bytes : ByteArray} {maxL index n : Nat} {ret' : Option FieldType} (hC : CtV l y bytes maxL ret' rm D ty wc (.ref b :: As) wf Pu) (hG : GoodIn WS (wsV own index C y (Cond.code y bytes maxL ret' :: WS))) (hd : y.cls = C ∧ y.cls ≠ "java/lang/invoke/MethodHandle" ∧ y.cls ≠ "java/lang/invoke/VarHandle" ∧ (parseMethodDescriptor y.desc).map (fun d => d.parameters.length) = some n) (hrc : rm.cells = 0) (hrs : rm.slots = 0) (hR : rm.frames + 1 ≤ R.frames ∧ 8 + (maxL + 11) + rm.locals ≤ R.locals) (hf : ce ≤ R.cells ∧ sl ≤ R.slots) (ci q0 : Nat) {fs : List Value} {rc : vw_C} (hrecv : wc[q0]? = some (b, .inr (ci, fs))) (hc : vwCl[ci]? = some rc) (hrc2 : rc.1 = C) (hn : As.length = n) {st0 : List Value} (hst : st0 = As.reverse ++ .ref b :: st) (hW : (st.map fun v => v.category).sum ≤ 8) (hdg : decode cc pc = .ok (.invokevirtual index, 3)) (hw0 : w = wl ++ (wc ++ wr)) (kk : ∀ u : U, Pu u → Z p l e R s m args below meth c D A nL ce sl Q (wl ++ (wf u ++ wr)) lv (pc + 3) st) : Z p l e R s m args below meth c D A nL ce sl Q w lv pc st0 := by
  subst hw0
  subst hst
  intro H locs ls hP hD hS hl
  obtain ⟨hPc, hDc⟩ := fr_part hP hD
  have hFc := fr_free hD hS X.hA
  refine va_callv (va_runV X.fix (hC H.size) (cwV n X.ts hG rfl hrc hrs hd hR) ⟨PcW_blind, by rw [← hrc2]; exact va_recv X.K hPc hc hrecv, fun U hU hW => ⟨rfl, by rw [hU], by rw [hU]; exact hPc, va_K.moved hW.alike X.K, hDc⟩⟩ rfl hn hl.1 rfl (lv_room hW) hdg hf) hS (fun q _ h => hFc q h) hFc (fun u t H1 locs1 ht hvm hu hB hz1 hk1 hS1 => ?_)
  obtain ⟨hP1, hK1, hD1⟩ := hB
  rw [ht] at hP1
  obtain ⟨hP2, hD2⟩ := fr_join hP hD hk1 hFc hP1 hD1
  exact kk u hu H1 locs1 ls hP2 hD2 hS1 hl
theorem z_callVv0 (X : CX p s m args meth c D ty A cc nL ret own) {U : Type} {y : MethodName} {rm : Room} {wc: va_W} {As : List Value} {b : Nat} {C : String} {wf : U → va_W} {Pu : U → Prop} {bytes : ByteArray} {maxL index n : Nat} {ret' : Option FieldType} (hC : CtV l y bytes maxL ret' rm D ty wc (.ref b :: As) wf Pu) (hG : GoodIn WS (wsV own index C y (Cond.code y bytes maxL ret' :: WS))) (hd : y.cls = C ∧ y.cls ≠ "java/lang/invoke/MethodHandle" ∧ y.cls ≠ "java/lang/invoke/VarHandle" ∧ (parseMethodDescriptor y.desc).map (fun d => d.parameters.length) = some n) (hrc : rm.cells = 0) (hrs : rm.slots = 0) (hR : rm.frames + 1 ≤ R.frames ∧ 8 + (maxL + 11) + rm.locals ≤ R.locals) (hf : ce ≤ R.cells ∧ sl ≤ R.slots) (ci q0 : Nat) {fs : List Value} {rc : vw_C} (hrecv : wc[q0]? = some (b, .inr (ci, fs))) (hc : vwCl[ci]? = some rc) (hrc2 : rc.1 = C) (hn : As.length = n) {st0 : List Value} (hst : st0 = As.reverse ++ .ref b :: st) (hW : (st.map fun v => v.category).sum ≤ 8) (hdg : decode cc pc = .ok (.invokevirtual index, 3)) (kk : ∀ u : U, Pu u → Z p l e R s m args below meth c D A nL ce sl Q (wf u) lv (pc + 3) st) : Z p l e R s m args below meth c D A nL ce sl Q wc lv pc st0 := z_callVv X hC hG hd hrc hrs hR hf ci q0 hrecv hc hrc2 hn hst hW hdg (wl := []) (wr := []) (by simp) (fun u hu => by simpa using kk u hu)
theorem z_callSi (X : CX p s m args meth c D ty A cc nL ret own) {U : Type} {y : MethodName} {rm : Room} {wc wl wr : va_W} {As : List Value} {rf : U → Int32} {wf : U → va_W} {Pu : U → Prop} {bytes : ByteArray} {maxL index n : Nat} {ret' : Option FieldType} (hC : CtI l y bytes maxL ret' rm D ty wc As rf wf Pu) (hG : GoodIn WS (va_wsS own index y (Cond.code y bytes maxL ret' :: WS))) (hd : y.cls ≠ "java/lang/invoke/MethodHandle" ∧ y.cls ≠ "java/lang/invoke/VarHandle" ∧ (parseMethodDescriptor y.desc).map (fun d => d.parameters.length) = some n) (hrc : rm.cells = 0) (hrs : rm.slots = 0) (hR : rm.frames + 1 ≤ R.frames ∧ 8 + (maxL + 11) + rm.locals ≤ R.locals) (hf : ce ≤ R.cells ∧ sl ≤ R.slots) (hn : As.length = n) {st0 : List Value} (hst : st0 = As.reverse ++ st) (hW : (st.map fun v => v.category).sum ≤ 8) (hdg : decode cc pc = .ok (.invokestatic index, 3)) (hw0 : w = wl ++ (wc ++ wr)) (kk : ∀ u : U, Pu u → Z p l e R s m args below meth c D A nL ce sl Q (wl ++ (wf u ++ wr)) lv (pc + 3) (.int (rf u) :: st)) : Z p l e R s m args below meth c D A nL ce sl Q w lv pc st0 := by
  subst hw0
  subst hst
  intro H locs ls hP hD hS hl
  obtain ⟨hPc, hDc⟩ := fr_part hP hD
  have hFc := fr_free hD hS X.hA
  refine va_calli (va_runS X.fix (hC H.size) (va_cwS n X.ts hG rfl hrc hrs hd hR) ⟨PcW_blind, fun U hU hW => ⟨rfl, by rw [hU], by rw [hU]; exact hPc, va_K.moved hW.alike X.K, hDc⟩⟩ rfl hn hl.1 rfl (lv_room hW) hdg hf) hS (fun q _ h => hFc q h) hFc (fun r1 u t H1 locs1 ht hvm hw hB hz1 hk1 hS1 => ?_)
  obtain ⟨rfl, hu⟩ := hw
  obtain ⟨hP1, hK1, hD1⟩ := hB
  rw [ht] at hP1
  obtain ⟨hP2, hD2⟩ := fr_join hP hD hk1 hFc hP1 hD1
  exact kk u hu H1 locs1 ls hP2 hD2 hS1 hl
theorem z_callSi0 (X : CX p s m args meth c D ty A cc nL ret own) {U : Type} {y : MethodName} {rm : Room} {wc: va_W} {As : List Value} {rf : U → Int32} {wf : U → va_W} {Pu : U → Prop} {bytes : ByteArray} {maxL index n : Nat} {ret' : Option FieldType} (hC : CtI l y bytes maxL ret' rm D ty wc As rf wf Pu) (hG : GoodIn WS (va_wsS own index y (Cond.code y bytes maxL ret' :: WS))) (hd : y.cls ≠ "java/lang/invoke/MethodHandle" ∧ y.cls ≠ "java/lang/invoke/VarHandle" ∧ (parseMethodDescriptor y.desc).map (fun d => d.parameters.length) = some n) (hrc : rm.cells = 0) (hrs : rm.slots = 0) (hR : rm.frames + 1 ≤ R.frames ∧ 8 + (maxL + 11) + rm.locals ≤ R.locals) (hf : ce ≤ R.cells ∧ sl ≤ R.slots) (hn : As.length = n) {st0 : List Value} (hst : st0 = As.reverse ++ st) (hW : (st.map fun v => v.category).sum ≤ 8) (hdg : decode cc pc = .ok (.invokestatic index, 3)) (kk : ∀ u : U, Pu u → Z p l e R s m args below meth c D A nL ce sl Q (wf u) lv (pc + 3) (.int (rf u) :: st)) : Z p l e R s m args below meth c D A nL ce sl Q wc lv pc st0 := z_callSi X hC hG hd hrc hrs hR hf hn hst hW hdg (wl := []) (wr := []) (by simp) (fun u hu => by simpa using kk u hu)
theorem z_callSiN (X : CX p s m args meth c D ty A cc nL ret own) {U : Type} {y : MethodName} {rm : Room} {wc: va_W} {As : List Value} {rf : U → Int32} {wf : U → va_W} {Pu : U → Prop} {bytes : ByteArray} {maxL index n : Nat} {ret' : Option FieldType} (hC : CtI l y bytes maxL ret' rm D ty wc As rf wf Pu) (hG : GoodIn WS (va_wsS own index y (Cond.code y bytes maxL ret' :: WS))) (hd : y.cls ≠ "java/lang/invoke/MethodHandle" ∧ y.cls ≠ "java/lang/invoke/VarHandle" ∧ (parseMethodDescriptor y.desc).map (fun d => d.parameters.length) = some n) (hrc : rm.cells = 0) (hrs : rm.slots = 0) (hR : rm.frames + 1 ≤ R.frames ∧ 8 + (maxL + 11) + rm.locals ≤ R.locals) (hf : ce ≤ R.cells ∧ sl ≤ R.slots) (hn : As.length = n) {st0 : List Value} (hst : st0 = As.reverse ++ st) (hW : (st.map fun v => v.category).sum ≤ 8) (hdg : decode cc pc = .ok (.invokestatic index, 3)) (hwc : wc = []) (hwf : ∀ u, wf u = []) (kk : ∀ u : U, Pu u → Z p l e R s m args below meth c D A nL ce sl Q w lv (pc + 3) (.int (rf u) :: st)) : Z p l e R s m args below meth c D A nL ce sl Q w lv pc st0 := z_callSi X hC hG hd hrc hrs hR hf hn hst hW hdg (wl := []) (wr := w) (by subst hwc; rfl) (fun u hu => by rw [hwf u]; exact kk u hu)
theorem z_callSv (X : CX p s m args meth c D ty A cc nL ret own) {U : Type} {y : MethodName} {rm : Room} {wc wl wr : va_W} {As : List Value} {wf : U → va_W} {Pu : U → Prop} {bytes : ByteArray} {maxL index n : Nat} {ret' : Option FieldType} (hC : CtV l y bytes maxL ret' rm D ty wc As wf Pu) (hG : GoodIn WS (va_wsS own index y (Cond.code y bytes maxL ret' :: WS))) (hd : y.cls ≠ "java/lang/invoke/MethodHandle" ∧ y.cls ≠ "java/lang/invoke/VarHandle" ∧ (parseMethodDescriptor y.desc).map (fun d => d.parameters.length) = some n) (hrc : rm.cells = 0) (hrs : rm.slots = 0) (hR : rm.frames + 1 ≤ R.frames ∧ 8 + (maxL + 11) + rm.locals ≤ R.locals) (hf : ce ≤ R.cells ∧ sl ≤ R.slots) (hn : As.length = n) {st0 : List Value} (hst : st0 = As.reverse ++ st) (hW : (st.map fun v => v.category).sum ≤ 8) (hdg : decode cc pc = .ok (.invokestatic index, 3)) (hw0 : w = wl ++ (wc ++ wr)) (kk : ∀ u : U, Pu u → Z p l e R s m args below meth c D A nL ce sl Q (wl ++ (wf u ++ wr)) lv (pc + 3) st) : Z p l e R s m args below meth c D A nL ce sl Q w lv pc st0 := by
  subst hw0
  subst hst
  intro H locs ls hP hD hS hl
  obtain ⟨hPc, hDc⟩ := fr_part hP hD
  have hFc := fr_free hD hS X.hA
  refine va_callv (va_runS X.fix (hC H.size) (va_cwS n X.ts hG rfl hrc hrs hd hR) ⟨PcW_blind, fun U hU hW => ⟨rfl, by rw [hU], by rw [hU]; exact hPc, va_K.moved hW.alike X.K, hDc⟩⟩ rfl hn hl.1 rfl (lv_room hW) hdg hf) hS (fun q _ h => hFc q h) hFc (fun u t H1 locs1 ht hvm hu hB hz1 hk1 hS1 => ?_)
  obtain ⟨hP1, hK1, hD1⟩ := hB
  rw [ht] at hP1
  obtain ⟨hP2, hD2⟩ := fr_join hP hD hk1 hFc hP1 hD1
  exact kk u hu H1 locs1 ls hP2 hD2 hS1 hl
theorem z_callSv0 (X : CX p s m args meth c D ty A cc nL ret own) {U : Type} {y : MethodName} {rm : Room} {wc: va_W} {As : List Value} {wf : U → va_W} {Pu : U → Prop} {bytes : ByteArray} {maxL index n : Nat} {ret' : Option FieldType} (hC : CtV l y bytes maxL ret' rm D ty wc As wf Pu) (hG : GoodIn WS (va_wsS own index y (Cond.code y bytes maxL ret' :: WS))) (hd : y.cls ≠ "java/lang/invoke/MethodHandle" ∧ y.cls ≠ "java/lang/invoke/VarHandle" ∧ (parseMethodDescriptor y.desc).map (fun d => d.parameters.length) = some n) (hrc : rm.cells = 0) (hrs : rm.slots = 0) (hR : rm.frames + 1 ≤ R.frames ∧ 8 + (maxL + 11) + rm.locals ≤ R.locals) (hf : ce ≤ R.cells ∧ sl ≤ R.slots) (hn : As.length = n) {st0 : List Value} (hst : st0 = As.reverse ++ st) (hW : (st.map fun v => v.category).sum ≤ 8) (hdg : decode cc pc = .ok (.invokestatic index, 3)) (kk : ∀ u : U, Pu u → Z p l e R s m args below meth c D A nL ce sl Q (wf u) lv (pc + 3) st) : Z p l e R s m args below meth c D A nL ce sl Q wc lv pc st0 := z_callSv X hC hG hd hrc hrs hR hf hn hst hW hdg (wl := []) (wr := []) (by simp) (fun u hu => by simpa using kk u hu)
end
end
section
/-! pictures: an object of the reference, a circuit, a text, the system, as cells at addresses -/
def sC (c : CS) (i k : Nat) (v : Int32) : CS := (sA c.1 i k v, c.2)
def sE (c : CS) (v : Int64) : CS := (c.1, v)
def wM (kI : ClassId) (o : Nat → Nat) (M : ARR) : va_W := [(o 0, .inr (3, [.ref (o 1), .ref (o 2), .ref (o 3), .ref (o 4), .int (M 7 4), .ref (o 5), .int (M 7 6), .ref (o 6), .int (M 7 8), .int (M 7 9), .ref (o 7), .int (M 7 11)])), (o 1, .inl (kI, 55, .inl (M 0))), (o 2, .inl (kI, 55, .inl (M 1))), (o 3, .inl (kI, 55, .inl (M 2))), (o 4, .inl (kI, 220, .inl (M 3))), (o 5, .inl (kI, 55, .inl (M 4))), (o 6, .inl (kI, 60, .inl (M 5))), (o 7, .inl (kI, 16, .inl (M 6)))]
def fC (q : Nat → Nat) (c : CS) : List Value := [.ref (q 1), .ref (q 2), .int (c.1 4 2), .ref (q 3), .int (c.1 4 4), .int (c.1 4 5), .ref (q 4), .int (c.1 4 7), .int (c.1 4 8), .int (c.1 4 9), .int (c.1 4 10), .int (c.1 4 11), .int (c.1 4 12), .int (c.1 4 13), .int (c.1 4 14), .int (c.1 4 15), .long c.2, .int (c.1 4 17), .int (c.1 4 18)]
def wC (kI : ClassId) (q : Nat → Nat) (c : CS) : va_W := [(q 0, .inr (0, fC q c)), (q 1, .inl (kI, 8, .inl (c.1 0))), (q 2, .inl (kI, 8, .inl (c.1 1))), (q 3, .inl (kI, 16, .inl (c.1 2))), (q 4, .inl (kI, 7, .inl (c.1 3)))]
def wT (kI kC : ClassId) (r : Nat → Nat) (T : ARR) : va_W := [(r 0, .inr (1, [.ref (r 1), .int (T 2 1), .ref (r 2), .int (T 2 3)])), (r 1, .inl (kC, 60, .inl (T 0))), (r 2, .inl (kI, 16, .inl (T 1)))]
abbrev SLS : Type := (Nat → CS) × ARR × (Nat → Int32)
def wH (kQ : ClassId) (o : Nat → Nat) (ad : Nat → Nat → Nat) (r : Nat → Nat) (V : Nat → Int32) : va_W := [(o 0, .inr (2, [.ref (ad 0 0), .ref (ad 1 0), .ref (ad 2 0), .ref (o 1), .ref (r 0), .int (V 5), .int (V 6)])), (o 1, .inl (kQ, 4, .inr (.inr (.inr (.inr (fun j => some (ad (3 + j) 0)))))))]
def wS (kI kC kQ : ClassId) (o : Nat → Nat) (r : Nat → Nat) (ad : Nat → Nat → Nat) (S : SLS) : va_W := wH kQ o ad r S.2.2 ++ (wT kI kC r S.2.1 ++ (wC kI (ad 0) (S.1 0) ++ (wC kI (ad 1) (S.1 1) ++ (wC kI (ad 2) (S.1 2) ++ (wC kI (ad 3) (S.1 3) ++ (wC kI (ad 4) (S.1 4) ++ (wC kI (ad 5) (S.1 5) ++ wC kI (ad 6) (S.1 6))))))))
section
variable {p : Program} {l : Launch} {e : Env} {R : Room} {s : State} {m : MethodId} {args : Array Value} {below : List Frame} {meth : Method} {c : Code} {D : va_G} {kI kC kQ : ClassId} {A : Nat → Prop} {cc : ByteArray} {nL ce sl : Nat} {ret : Option FieldType} {own : String} {Q : State → Prop} {lv : List (Nat × Value)} {pc : Nat} {st : List Value} {o q r : Nat → Nat} {M T : ARR} {C : CS}
theorem zM_g0 (X : CX p s m args meth c D (tysG kI kC kQ) A cc nL ret own) {index : Nat} (hlink : Cond.fieldLink own index "ShadowLatchesModel" "all" "[I" ∈ WS) (hdg : decode cc pc = .ok (.getfield index, 3)) (kk : Z p l e R s m args below meth c D A nL ce sl Q (wM kI o M) lv (pc + 3) (.ref (o 1) :: st)) : Z p l e R s m args below meth c D A nL ce sl Q (wM kI o M) lv pc (.ref (o 0) :: st) := z_get X inW3 rfl 0 rfl 0 (by decide) hlink rfl rfl hdg kk
theorem zM_g1 (X : CX p s m args meth c D (tysG kI kC kQ) A cc nL ret own) {index : Nat} (hlink : Cond.fieldLink own index "ShadowLatchesModel" "kept" "[I" ∈ WS) (hdg : decode cc pc = .ok (.getfield index, 3)) (kk : Z p l e R s m args below meth c D A nL ce sl Q (wM kI o M) lv (pc + 3) (.ref (o 2) :: st)) : Z p l e R s m args below meth c D A nL ce sl Q (wM kI o M) lv pc (.ref (o 0) :: st) := z_get X inW3 rfl 0 rfl 1 (by decide) hlink rfl rfl hdg kk
theorem zM_g2 (X : CX p s m args meth c D (tysG kI kC kQ) A cc nL ret own) {index : Nat} (hlink : Cond.fieldLink own index "ShadowLatchesModel" "tried" "[I" ∈ WS) (hdg : decode cc pc = .ok (.getfield index, 3)) (kk : Z p l e R s m args below meth c D A nL ce sl Q (wM kI o M) lv (pc + 3) (.ref (o 3) :: st)) : Z p l e R s m args below meth c D A nL ce sl Q (wM kI o M) lv pc (.ref (o 0) :: st) := z_get X inW3 rfl 0 rfl 2 (by decide) hlink rfl rfl hdg kk
theorem zM_g3 (X : CX p s m args meth c D (tysG kI kC kQ) A cc nL ret own) {index : Nat} (hlink : Cond.fieldLink own index "ShadowLatchesModel" "history" "[I" ∈ WS) (hdg : decode cc pc = .ok (.getfield index, 3)) (kk : Z p l e R s m args below meth c D A nL ce sl Q (wM kI o M) lv (pc + 3) (.ref (o 4) :: st)) : Z p l e R s m args below meth c D A nL ce sl Q (wM kI o M) lv pc (.ref (o 0) :: st) := z_get X inW3 rfl 0 rfl 3 (by decide) hlink rfl rfl hdg kk
theorem zM_g4 (X : CX p s m args meth c D (tysG kI kC kQ) A cc nL ret own) {index : Nat} (hlink : Cond.fieldLink own index "ShadowLatchesModel" "historyLong" "I" ∈ WS) (hdg : decode cc pc = .ok (.getfield index, 3)) (kk : Z p l e R s m args below meth c D A nL ce sl Q (wM kI o M) lv (pc + 3) (.int (M 7 4) :: st)) : Z p l e R s m args below meth c D A nL ce sl Q (wM kI o M) lv pc (.ref (o 0) :: st) := z_get X inW3 rfl 0 rfl 4 (by decide) hlink rfl rfl hdg kk
theorem zM_p4 (X : CX p s m args meth c D (tysG kI kC kQ) A cc nL ret own) {x : Int32} {index : Nat} (hlink : Cond.fieldLink own index "ShadowLatchesModel" "historyLong" "I" ∈ WS) (hdg : decode cc pc = .ok (.putfield index, 3)) (kk : ∀ y : ARR, y = sA M 7 4 x → Z p l e R s m args below meth c D A nL ce sl Q (wM kI o y) lv (pc + 3) st) : Z p l e R s m args below meth c D A nL ce sl Q (wM kI o M) lv pc (.int x :: .ref (o 0) :: st) := z_put X inW3 rfl tyX3 tyX3_ok nmX3 0 rfl 4 (by decide) hlink rfl rfl rfl rfl (Nat.le_of_ble_eq_true rfl) (w' := (wM kI o (sA M 7 4 x))) rfl hdg (kk _ rfl)
theorem zM_g5 (X : CX p s m args meth c D (tysG kI kC kQ) A cc nL ret own) {index : Nat} (hlink : Cond.fieldLink own index "ShadowLatchesModel" "snapshot" "[I" ∈ WS) (hdg : decode cc pc = .ok (.getfield index, 3)) (kk : Z p l e R s m args below meth c D A nL ce sl Q (wM kI o M) lv (pc + 3) (.ref (o 5) :: st)) : Z p l e R s m args below meth c D A nL ce sl Q (wM kI o M) lv pc (.ref (o 0) :: st) := z_get X inW3 rfl 0 rfl 5 (by decide) hlink rfl rfl hdg kk
theorem zM_g6 (X : CX p s m args meth c D (tysG kI kC kQ) A cc nL ret own) {index : Nat} (hlink : Cond.fieldLink own index "ShadowLatchesModel" "isTaken" "I" ∈ WS) (hdg : decode cc pc = .ok (.getfield index, 3)) (kk : Z p l e R s m args below meth c D A nL ce sl Q (wM kI o M) lv (pc + 3) (.int (M 7 6) :: st)) : Z p l e R s m args below meth c D A nL ce sl Q (wM kI o M) lv pc (.ref (o 0) :: st) := z_get X inW3 rfl 0 rfl 6 (by decide) hlink rfl rfl hdg kk
theorem zM_p6 (X : CX p s m args meth c D (tysG kI kC kQ) A cc nL ret own) {x : Int32} {index : Nat} (hlink : Cond.fieldLink own index "ShadowLatchesModel" "isTaken" "I" ∈ WS) (hdg : decode cc pc = .ok (.putfield index, 3)) (kk : ∀ y : ARR, y = sA M 7 6 x → Z p l e R s m args below meth c D A nL ce sl Q (wM kI o y) lv (pc + 3) st) : Z p l e R s m args below meth c D A nL ce sl Q (wM kI o M) lv pc (.int x :: .ref (o 0) :: st) := z_put X inW3 rfl tyX3 tyX3_ok nmX3 0 rfl 6 (by decide) hlink rfl rfl rfl rfl (Nat.le_of_ble_eq_true rfl) (w' := (wM kI o (sA M 7 6 x))) rfl hdg (kk _ rfl)
theorem zM_g7 (X : CX p s m args meth c D (tysG kI kC kQ) A cc nL ret own) {index : Nat} (hlink : Cond.fieldLink own index "ShadowLatchesModel" "text" "[I" ∈ WS) (hdg : decode cc pc = .ok (.getfield index, 3)) (kk : Z p l e R s m args below meth c D A nL ce sl Q (wM kI o M) lv (pc + 3) (.ref (o 6) :: st)) : Z p l e R s m args below meth c D A nL ce sl Q (wM kI o M) lv pc (.ref (o 0) :: st) := z_get X inW3 rfl 0 rfl 7 (by decide) hlink rfl rfl hdg kk
theorem zM_g8 (X : CX p s m args meth c D (tysG kI kC kQ) A cc nL ret own) {index : Nat} (hlink : Cond.fieldLink own index "ShadowLatchesModel" "textLong" "I" ∈ WS) (hdg : decode cc pc = .ok (.getfield index, 3)) (kk : Z p l e R s m args below meth c D A nL ce sl Q (wM kI o M) lv (pc + 3) (.int (M 7 8) :: st)) : Z p l e R s m args below meth c D A nL ce sl Q (wM kI o M) lv pc (.ref (o 0) :: st) := z_get X inW3 rfl 0 rfl 8 (by decide) hlink rfl rfl hdg kk
theorem zM_p8 (X : CX p s m args meth c D (tysG kI kC kQ) A cc nL ret own) {x : Int32} {index : Nat} (hlink : Cond.fieldLink own index "ShadowLatchesModel" "textLong" "I" ∈ WS) (hdg : decode cc pc = .ok (.putfield index, 3)) (kk : ∀ y : ARR, y = sA M 7 8 x → Z p l e R s m args below meth c D A nL ce sl Q (wM kI o y) lv (pc + 3) st) : Z p l e R s m args below meth c D A nL ce sl Q (wM kI o M) lv pc (.int x :: .ref (o 0) :: st) := z_put X inW3 rfl tyX3 tyX3_ok nmX3 0 rfl 8 (by decide) hlink rfl rfl rfl rfl (Nat.le_of_ble_eq_true rfl) (w' := (wM kI o (sA M 7 8 x))) rfl hdg (kk _ rfl)
theorem zM_g9 (X : CX p s m args meth c D (tysG kI kC kQ) A cc nL ret own) {index : Nat} (hlink : Cond.fieldLink own index "ShadowLatchesModel" "spot" "I" ∈ WS) (hdg : decode cc pc = .ok (.getfield index, 3)) (kk : Z p l e R s m args below meth c D A nL ce sl Q (wM kI o M) lv (pc + 3) (.int (M 7 9) :: st)) : Z p l e R s m args below meth c D A nL ce sl Q (wM kI o M) lv pc (.ref (o 0) :: st) := z_get X inW3 rfl 0 rfl 9 (by decide) hlink rfl rfl hdg kk
theorem zM_p9 (X : CX p s m args meth c D (tysG kI kC kQ) A cc nL ret own) {x : Int32} {index : Nat} (hlink : Cond.fieldLink own index "ShadowLatchesModel" "spot" "I" ∈ WS) (hdg : decode cc pc = .ok (.putfield index, 3)) (kk : ∀ y : ARR, y = sA M 7 9 x → Z p l e R s m args below meth c D A nL ce sl Q (wM kI o y) lv (pc + 3) st) : Z p l e R s m args below meth c D A nL ce sl Q (wM kI o M) lv pc (.int x :: .ref (o 0) :: st) := z_put X inW3 rfl tyX3 tyX3_ok nmX3 0 rfl 9 (by decide) hlink rfl rfl rfl rfl (Nat.le_of_ble_eq_true rfl) (w' := (wM kI o (sA M 7 9 x))) rfl hdg (kk _ rfl)
theorem zM_g10 (X : CX p s m args meth c D (tysG kI kC kQ) A cc nL ret own) {index : Nat} (hlink : Cond.fieldLink own index "ShadowLatchesModel" "read" "[I" ∈ WS) (hdg : decode cc pc = .ok (.getfield index, 3)) (kk : Z p l e R s m args below meth c D A nL ce sl Q (wM kI o M) lv (pc + 3) (.ref (o 7) :: st)) : Z p l e R s m args below meth c D A nL ce sl Q (wM kI o M) lv pc (.ref (o 0) :: st) := z_get X inW3 rfl 0 rfl 10 (by decide) hlink rfl rfl hdg kk
theorem zM_g11 (X : CX p s m args meth c D (tysG kI kC kQ) A cc nL ret own) {index : Nat} (hlink : Cond.fieldLink own index "ShadowLatchesModel" "readMany" "I" ∈ WS) (hdg : decode cc pc = .ok (.getfield index, 3)) (kk : Z p l e R s m args below meth c D A nL ce sl Q (wM kI o M) lv (pc + 3) (.int (M 7 11) :: st)) : Z p l e R s m args below meth c D A nL ce sl Q (wM kI o M) lv pc (.ref (o 0) :: st) := z_get X inW3 rfl 0 rfl 11 (by decide) hlink rfl rfl hdg kk
theorem zM_p11 (X : CX p s m args meth c D (tysG kI kC kQ) A cc nL ret own) {x : Int32} {index : Nat} (hlink : Cond.fieldLink own index "ShadowLatchesModel" "readMany" "I" ∈ WS) (hdg : decode cc pc = .ok (.putfield index, 3)) (kk : ∀ y : ARR, y = sA M 7 11 x → Z p l e R s m args below meth c D A nL ce sl Q (wM kI o y) lv (pc + 3) st) : Z p l e R s m args below meth c D A nL ce sl Q (wM kI o M) lv pc (.int x :: .ref (o 0) :: st) := z_put X inW3 rfl tyX3 tyX3_ok nmX3 0 rfl 11 (by decide) hlink rfl rfl rfl rfl (Nat.le_of_ble_eq_true rfl) (w' := (wM kI o (sA M 7 11 x))) rfl hdg (kk _ rfl)
theorem zM_l0 (X : CX p s m args meth c D (tysG kI kC kQ) A cc nL ret own) {i : Int32} {j : Nat} (hin : vp_in i 55) (hj : i.toNatClampNeg = j) (hdg : decode cc pc = .ok (.iaload, 1)) (kk : Z p l e R s m args below meth c D A nL ce sl Q (wM kI o M) lv (pc + 1) (.int (M 0 j) :: st)) : Z p l e R s m args below meth c D A nL ce sl Q (wM kI o M) lv pc (.int i :: .ref (o 1) :: st) := z_iald X 1 0 rfl rfl hin hj hdg kk
theorem zM_s0 (X : CX p s m args meth c D (tysG kI kC kQ) A cc nL ret own) {i x : Int32} {j : Nat} (hin : vp_in i 55) (hj : i.toNatClampNeg = j) (hdg : decode cc pc = .ok (.iastore, 1)) (kk : ∀ y : ARR, y = sA M 0 j x → Z p l e R s m args below meth c D A nL ce sl Q (wM kI o y) lv (pc + 1) st) : Z p l e R s m args below meth c D A nL ce sl Q (wM kI o M) lv pc (.int x :: .int i :: .ref (o 1) :: st) := z_iast X 1 0 rfl rfl hin hj (w' := (wM kI o (sA M 0 j x))) rfl hdg (kk _ rfl)
theorem zM_l1 (X : CX p s m args meth c D (tysG kI kC kQ) A cc nL ret own) {i : Int32} {j : Nat} (hin : vp_in i 55) (hj : i.toNatClampNeg = j) (hdg : decode cc pc = .ok (.iaload, 1)) (kk : Z p l e R s m args below meth c D A nL ce sl Q (wM kI o M) lv (pc + 1) (.int (M 1 j) :: st)) : Z p l e R s m args below meth c D A nL ce sl Q (wM kI o M) lv pc (.int i :: .ref (o 2) :: st) := z_iald X 2 0 rfl rfl hin hj hdg kk
theorem zM_s1 (X : CX p s m args meth c D (tysG kI kC kQ) A cc nL ret own) {i x : Int32} {j : Nat} (hin : vp_in i 55) (hj : i.toNatClampNeg = j) (hdg : decode cc pc = .ok (.iastore, 1)) (kk : ∀ y : ARR, y = sA M 1 j x → Z p l e R s m args below meth c D A nL ce sl Q (wM kI o y) lv (pc + 1) st) : Z p l e R s m args below meth c D A nL ce sl Q (wM kI o M) lv pc (.int x :: .int i :: .ref (o 2) :: st) := z_iast X 2 0 rfl rfl hin hj (w' := (wM kI o (sA M 1 j x))) rfl hdg (kk _ rfl)
theorem zM_l2 (X : CX p s m args meth c D (tysG kI kC kQ) A cc nL ret own) {i : Int32} {j : Nat} (hin : vp_in i 55) (hj : i.toNatClampNeg = j) (hdg : decode cc pc = .ok (.iaload, 1)) (kk : Z p l e R s m args below meth c D A nL ce sl Q (wM kI o M) lv (pc + 1) (.int (M 2 j) :: st)) : Z p l e R s m args below meth c D A nL ce sl Q (wM kI o M) lv pc (.int i :: .ref (o 3) :: st) := z_iald X 3 0 rfl rfl hin hj hdg kk
theorem zM_s2 (X : CX p s m args meth c D (tysG kI kC kQ) A cc nL ret own) {i x : Int32} {j : Nat} (hin : vp_in i 55) (hj : i.toNatClampNeg = j) (hdg : decode cc pc = .ok (.iastore, 1)) (kk : ∀ y : ARR, y = sA M 2 j x → Z p l e R s m args below meth c D A nL ce sl Q (wM kI o y) lv (pc + 1) st) : Z p l e R s m args below meth c D A nL ce sl Q (wM kI o M) lv pc (.int x :: .int i :: .ref (o 3) :: st) := z_iast X 3 0 rfl rfl hin hj (w' := (wM kI o (sA M 2 j x))) rfl hdg (kk _ rfl)
theorem zM_l3 (X : CX p s m args meth c D (tysG kI kC kQ) A cc nL ret own) {i : Int32} {j : Nat} (hin : vp_in i 220) (hj : i.toNatClampNeg = j) (hdg : decode cc pc = .ok (.iaload, 1)) (kk : Z p l e R s m args below meth c D A nL ce sl Q (wM kI o M) lv (pc + 1) (.int (M 3 j) :: st)) : Z p l e R s m args below meth c D A nL ce sl Q (wM kI o M) lv pc (.int i :: .ref (o 4) :: st) := z_iald X 4 0 rfl rfl hin hj hdg kk
theorem zM_s3 (X : CX p s m args meth c D (tysG kI kC kQ) A cc nL ret own) {i x : Int32} {j : Nat} (hin : vp_in i 220) (hj : i.toNatClampNeg = j) (hdg : decode cc pc = .ok (.iastore, 1)) (kk : ∀ y : ARR, y = sA M 3 j x → Z p l e R s m args below meth c D A nL ce sl Q (wM kI o y) lv (pc + 1) st) : Z p l e R s m args below meth c D A nL ce sl Q (wM kI o M) lv pc (.int x :: .int i :: .ref (o 4) :: st) := z_iast X 4 0 rfl rfl hin hj (w' := (wM kI o (sA M 3 j x))) rfl hdg (kk _ rfl)
theorem zM_l4 (X : CX p s m args meth c D (tysG kI kC kQ) A cc nL ret own) {i : Int32} {j : Nat} (hin : vp_in i 55) (hj : i.toNatClampNeg = j) (hdg : decode cc pc = .ok (.iaload, 1)) (kk : Z p l e R s m args below meth c D A nL ce sl Q (wM kI o M) lv (pc + 1) (.int (M 4 j) :: st)) : Z p l e R s m args below meth c D A nL ce sl Q (wM kI o M) lv pc (.int i :: .ref (o 5) :: st) := z_iald X 5 0 rfl rfl hin hj hdg kk
theorem zM_s4 (X : CX p s m args meth c D (tysG kI kC kQ) A cc nL ret own) {i x : Int32} {j : Nat} (hin : vp_in i 55) (hj : i.toNatClampNeg = j) (hdg : decode cc pc = .ok (.iastore, 1)) (kk : ∀ y : ARR, y = sA M 4 j x → Z p l e R s m args below meth c D A nL ce sl Q (wM kI o y) lv (pc + 1) st) : Z p l e R s m args below meth c D A nL ce sl Q (wM kI o M) lv pc (.int x :: .int i :: .ref (o 5) :: st) := z_iast X 5 0 rfl rfl hin hj (w' := (wM kI o (sA M 4 j x))) rfl hdg (kk _ rfl)
theorem zM_l5 (X : CX p s m args meth c D (tysG kI kC kQ) A cc nL ret own) {i : Int32} {j : Nat} (hin : vp_in i 60) (hj : i.toNatClampNeg = j) (hdg : decode cc pc = .ok (.iaload, 1)) (kk : Z p l e R s m args below meth c D A nL ce sl Q (wM kI o M) lv (pc + 1) (.int (M 5 j) :: st)) : Z p l e R s m args below meth c D A nL ce sl Q (wM kI o M) lv pc (.int i :: .ref (o 6) :: st) := z_iald X 6 0 rfl rfl hin hj hdg kk
theorem zM_s5 (X : CX p s m args meth c D (tysG kI kC kQ) A cc nL ret own) {i x : Int32} {j : Nat} (hin : vp_in i 60) (hj : i.toNatClampNeg = j) (hdg : decode cc pc = .ok (.iastore, 1)) (kk : ∀ y : ARR, y = sA M 5 j x → Z p l e R s m args below meth c D A nL ce sl Q (wM kI o y) lv (pc + 1) st) : Z p l e R s m args below meth c D A nL ce sl Q (wM kI o M) lv pc (.int x :: .int i :: .ref (o 6) :: st) := z_iast X 6 0 rfl rfl hin hj (w' := (wM kI o (sA M 5 j x))) rfl hdg (kk _ rfl)
theorem zM_l6 (X : CX p s m args meth c D (tysG kI kC kQ) A cc nL ret own) {i : Int32} {j : Nat} (hin : vp_in i 16) (hj : i.toNatClampNeg = j) (hdg : decode cc pc = .ok (.iaload, 1)) (kk : Z p l e R s m args below meth c D A nL ce sl Q (wM kI o M) lv (pc + 1) (.int (M 6 j) :: st)) : Z p l e R s m args below meth c D A nL ce sl Q (wM kI o M) lv pc (.int i :: .ref (o 7) :: st) := z_iald X 7 0 rfl rfl hin hj hdg kk
theorem zM_s6 (X : CX p s m args meth c D (tysG kI kC kQ) A cc nL ret own) {i x : Int32} {j : Nat} (hin : vp_in i 16) (hj : i.toNatClampNeg = j) (hdg : decode cc pc = .ok (.iastore, 1)) (kk : ∀ y : ARR, y = sA M 6 j x → Z p l e R s m args below meth c D A nL ce sl Q (wM kI o y) lv (pc + 1) st) : Z p l e R s m args below meth c D A nL ce sl Q (wM kI o M) lv pc (.int x :: .int i :: .ref (o 7) :: st) := z_iast X 7 0 rfl rfl hin hj (w' := (wM kI o (sA M 6 j x))) rfl hdg (kk _ rfl)
theorem zC_g0 (X : CX p s m args meth c D (tysG kI kC kQ) A cc nL ret own) {index : Nat} (hlink : Cond.fieldLink own index "ShadowLatches$Circuit" "lengths" "[I" ∈ WS) (hdg : decode cc pc = .ok (.getfield index, 3)) (kk : Z p l e R s m args below meth c D A nL ce sl Q (wC kI q C) lv (pc + 3) (.ref (q 1) :: st)) : Z p l e R s m args below meth c D A nL ce sl Q (wC kI q C) lv pc (.ref (q 0) :: st) := z_get X inW0 rfl 0 rfl 0 (by decide) hlink rfl rfl hdg kk
theorem zC_g1 (X : CX p s m args meth c D (tysG kI kC kQ) A cc nL ret own) {index : Nat} (hlink : Cond.fieldLink own index "ShadowLatches$Circuit" "uses" "[I" ∈ WS) (hdg : decode cc pc = .ok (.getfield index, 3)) (kk : Z p l e R s m args below meth c D A nL ce sl Q (wC kI q C) lv (pc + 3) (.ref (q 2) :: st)) : Z p l e R s m args below meth c D A nL ce sl Q (wC kI q C) lv pc (.ref (q 0) :: st) := z_get X inW0 rfl 0 rfl 1 (by decide) hlink rfl rfl hdg kk
theorem zC_g2 (X : CX p s m args meth c D (tysG kI kC kQ) A cc nL ret own) {index : Nat} (hlink : Cond.fieldLink own index "ShadowLatches$Circuit" "paths" "I" ∈ WS) (hdg : decode cc pc = .ok (.getfield index, 3)) (kk : Z p l e R s m args below meth c D A nL ce sl Q (wC kI q C) lv (pc + 3) (.int (C.1 4 2) :: st)) : Z p l e R s m args below meth c D A nL ce sl Q (wC kI q C) lv pc (.ref (q 0) :: st) := z_get X inW0 rfl 0 rfl 2 (by decide) hlink rfl rfl hdg kk
theorem zC_p2 (X : CX p s m args meth c D (tysG kI kC kQ) A cc nL ret own) {x : Int32} {index : Nat} (hlink : Cond.fieldLink own index "ShadowLatches$Circuit" "paths" "I" ∈ WS) (hdg : decode cc pc = .ok (.putfield index, 3)) (kk : ∀ y : CS, y = sC C 4 2 x → Z p l e R s m args below meth c D A nL ce sl Q (wC kI q y) lv (pc + 3) st) : Z p l e R s m args below meth c D A nL ce sl Q (wC kI q C) lv pc (.int x :: .ref (q 0) :: st) := z_put X inW0 rfl tyX0 tyX0_ok nmX0 0 rfl 2 (by decide) hlink rfl rfl rfl rfl (Nat.le_of_ble_eq_true rfl) (w' := (wC kI q (sC C 4 2 x))) rfl hdg (kk _ rfl)
theorem zC_g3 (X : CX p s m args meth c D (tysG kI kC kQ) A cc nL ret own) {index : Nat} (hlink : Cond.fieldLink own index "ShadowLatches$Circuit" "sets" "[I" ∈ WS) (hdg : decode cc pc = .ok (.getfield index, 3)) (kk : Z p l e R s m args below meth c D A nL ce sl Q (wC kI q C) lv (pc + 3) (.ref (q 3) :: st)) : Z p l e R s m args below meth c D A nL ce sl Q (wC kI q C) lv pc (.ref (q 0) :: st) := z_get X inW0 rfl 0 rfl 3 (by decide) hlink rfl rfl hdg kk
theorem zC_g4 (X : CX p s m args meth c D (tysG kI kC kQ) A cc nL ret own) {index : Nat} (hlink : Cond.fieldLink own index "ShadowLatches$Circuit" "setCount" "I" ∈ WS) (hdg : decode cc pc = .ok (.getfield index, 3)) (kk : Z p l e R s m args below meth c D A nL ce sl Q (wC kI q C) lv (pc + 3) (.int (C.1 4 4) :: st)) : Z p l e R s m args below meth c D A nL ce sl Q (wC kI q C) lv pc (.ref (q 0) :: st) := z_get X inW0 rfl 0 rfl 4 (by decide) hlink rfl rfl hdg kk
theorem zC_p4 (X : CX p s m args meth c D (tysG kI kC kQ) A cc nL ret own) {x : Int32} {index : Nat} (hlink : Cond.fieldLink own index "ShadowLatches$Circuit" "setCount" "I" ∈ WS) (hdg : decode cc pc = .ok (.putfield index, 3)) (kk : ∀ y : CS, y = sC C 4 4 x → Z p l e R s m args below meth c D A nL ce sl Q (wC kI q y) lv (pc + 3) st) : Z p l e R s m args below meth c D A nL ce sl Q (wC kI q C) lv pc (.int x :: .ref (q 0) :: st) := z_put X inW0 rfl tyX0 tyX0_ok nmX0 0 rfl 4 (by decide) hlink rfl rfl rfl rfl (Nat.le_of_ble_eq_true rfl) (w' := (wC kI q (sC C 4 4 x))) rfl hdg (kk _ rfl)
theorem zC_g5 (X : CX p s m args meth c D (tysG kI kC kQ) A cc nL ret own) {index : Nat} (hlink : Cond.fieldLink own index "ShadowLatches$Circuit" "place" "I" ∈ WS) (hdg : decode cc pc = .ok (.getfield index, 3)) (kk : Z p l e R s m args below meth c D A nL ce sl Q (wC kI q C) lv (pc + 3) (.int (C.1 4 5) :: st)) : Z p l e R s m args below meth c D A nL ce sl Q (wC kI q C) lv pc (.ref (q 0) :: st) := z_get X inW0 rfl 0 rfl 5 (by decide) hlink rfl rfl hdg kk
theorem zC_p5 (X : CX p s m args meth c D (tysG kI kC kQ) A cc nL ret own) {x : Int32} {index : Nat} (hlink : Cond.fieldLink own index "ShadowLatches$Circuit" "place" "I" ∈ WS) (hdg : decode cc pc = .ok (.putfield index, 3)) (kk : ∀ y : CS, y = sC C 4 5 x → Z p l e R s m args below meth c D A nL ce sl Q (wC kI q y) lv (pc + 3) st) : Z p l e R s m args below meth c D A nL ce sl Q (wC kI q C) lv pc (.int x :: .ref (q 0) :: st) := z_put X inW0 rfl tyX0 tyX0_ok nmX0 0 rfl 5 (by decide) hlink rfl rfl rfl rfl (Nat.le_of_ble_eq_true rfl) (w' := (wC kI q (sC C 4 5 x))) rfl hdg (kk _ rfl)
theorem zC_g6 (X : CX p s m args meth c D (tysG kI kC kQ) A cc nL ret own) {index : Nat} (hlink : Cond.fieldLink own index "ShadowLatches$Circuit" "settings" "[I" ∈ WS) (hdg : decode cc pc = .ok (.getfield index, 3)) (kk : Z p l e R s m args below meth c D A nL ce sl Q (wC kI q C) lv (pc + 3) (.ref (q 4) :: st)) : Z p l e R s m args below meth c D A nL ce sl Q (wC kI q C) lv pc (.ref (q 0) :: st) := z_get X inW0 rfl 0 rfl 6 (by decide) hlink rfl rfl hdg kk
theorem zC_g7 (X : CX p s m args meth c D (tysG kI kC kQ) A cc nL ret own) {index : Nat} (hlink : Cond.fieldLink own index "ShadowLatches$Circuit" "voltage" "I" ∈ WS) (hdg : decode cc pc = .ok (.getfield index, 3)) (kk : Z p l e R s m args below meth c D A nL ce sl Q (wC kI q C) lv (pc + 3) (.int (C.1 4 7) :: st)) : Z p l e R s m args below meth c D A nL ce sl Q (wC kI q C) lv pc (.ref (q 0) :: st) := z_get X inW0 rfl 0 rfl 7 (by decide) hlink rfl rfl hdg kk
theorem zC_p7 (X : CX p s m args meth c D (tysG kI kC kQ) A cc nL ret own) {x : Int32} {index : Nat} (hlink : Cond.fieldLink own index "ShadowLatches$Circuit" "voltage" "I" ∈ WS) (hdg : decode cc pc = .ok (.putfield index, 3)) (kk : ∀ y : CS, y = sC C 4 7 x → Z p l e R s m args below meth c D A nL ce sl Q (wC kI q y) lv (pc + 3) st) : Z p l e R s m args below meth c D A nL ce sl Q (wC kI q C) lv pc (.int x :: .ref (q 0) :: st) := z_put X inW0 rfl tyX0 tyX0_ok nmX0 0 rfl 7 (by decide) hlink rfl rfl rfl rfl (Nat.le_of_ble_eq_true rfl) (w' := (wC kI q (sC C 4 7 x))) rfl hdg (kk _ rfl)
theorem zC_g8 (X : CX p s m args meth c D (tysG kI kC kQ) A cc nL ret own) {index : Nat} (hlink : Cond.fieldLink own index "ShadowLatches$Circuit" "heat" "I" ∈ WS) (hdg : decode cc pc = .ok (.getfield index, 3)) (kk : Z p l e R s m args below meth c D A nL ce sl Q (wC kI q C) lv (pc + 3) (.int (C.1 4 8) :: st)) : Z p l e R s m args below meth c D A nL ce sl Q (wC kI q C) lv pc (.ref (q 0) :: st) := z_get X inW0 rfl 0 rfl 8 (by decide) hlink rfl rfl hdg kk
theorem zC_p8 (X : CX p s m args meth c D (tysG kI kC kQ) A cc nL ret own) {x : Int32} {index : Nat} (hlink : Cond.fieldLink own index "ShadowLatches$Circuit" "heat" "I" ∈ WS) (hdg : decode cc pc = .ok (.putfield index, 3)) (kk : ∀ y : CS, y = sC C 4 8 x → Z p l e R s m args below meth c D A nL ce sl Q (wC kI q y) lv (pc + 3) st) : Z p l e R s m args below meth c D A nL ce sl Q (wC kI q C) lv pc (.int x :: .ref (q 0) :: st) := z_put X inW0 rfl tyX0 tyX0_ok nmX0 0 rfl 8 (by decide) hlink rfl rfl rfl rfl (Nat.le_of_ble_eq_true rfl) (w' := (wC kI q (sC C 4 8 x))) rfl hdg (kk _ rfl)
theorem zC_g9 (X : CX p s m args meth c D (tysG kI kC kQ) A cc nL ret own) {index : Nat} (hlink : Cond.fieldLink own index "ShadowLatches$Circuit" "governed" "Z" ∈ WS) (hdg : decode cc pc = .ok (.getfield index, 3)) (kk : Z p l e R s m args below meth c D A nL ce sl Q (wC kI q C) lv (pc + 3) (.int (C.1 4 9) :: st)) : Z p l e R s m args below meth c D A nL ce sl Q (wC kI q C) lv pc (.ref (q 0) :: st) := z_get X inW0 rfl 0 rfl 9 (by decide) hlink rfl rfl hdg kk
theorem zC_p9 (X : CX p s m args meth c D (tysG kI kC kQ) A cc nL ret own) {x : Int32} (hx : x = 0 ∨ x = 1) {index : Nat} (hlink : Cond.fieldLink own index "ShadowLatches$Circuit" "governed" "Z" ∈ WS) (hdg : decode cc pc = .ok (.putfield index, 3)) (kk : ∀ y : CS, y = sC C 4 9 x → Z p l e R s m args below meth c D A nL ce sl Q (wC kI q y) lv (pc + 3) st) : Z p l e R s m args below meth c D A nL ce sl Q (wC kI q C) lv pc (.int x :: .ref (q 0) :: st) := z_put X inW0 rfl tyX0 tyX0_ok nmX0 0 rfl 9 (by decide) hlink rfl rfl (by rcases hx with rfl | rfl <;> rfl) (by rcases hx with rfl | rfl <;> rfl) (Nat.le_of_ble_eq_true rfl) (w' := (wC kI q (sC C 4 9 x))) rfl hdg (kk _ rfl)
theorem zC_g10 (X : CX p s m args meth c D (tysG kI kC kQ) A cc nL ret own) {index : Nat} (hlink : Cond.fieldLink own index "ShadowLatches$Circuit" "windowCycles" "I" ∈ WS) (hdg : decode cc pc = .ok (.getfield index, 3)) (kk : Z p l e R s m args below meth c D A nL ce sl Q (wC kI q C) lv (pc + 3) (.int (C.1 4 10) :: st)) : Z p l e R s m args below meth c D A nL ce sl Q (wC kI q C) lv pc (.ref (q 0) :: st) := z_get X inW0 rfl 0 rfl 10 (by decide) hlink rfl rfl hdg kk
theorem zC_p10 (X : CX p s m args meth c D (tysG kI kC kQ) A cc nL ret own) {x : Int32} {index : Nat} (hlink : Cond.fieldLink own index "ShadowLatches$Circuit" "windowCycles" "I" ∈ WS) (hdg : decode cc pc = .ok (.putfield index, 3)) (kk : ∀ y : CS, y = sC C 4 10 x → Z p l e R s m args below meth c D A nL ce sl Q (wC kI q y) lv (pc + 3) st) : Z p l e R s m args below meth c D A nL ce sl Q (wC kI q C) lv pc (.int x :: .ref (q 0) :: st) := z_put X inW0 rfl tyX0 tyX0_ok nmX0 0 rfl 10 (by decide) hlink rfl rfl rfl rfl (Nat.le_of_ble_eq_true rfl) (w' := (wC kI q (sC C 4 10 x))) rfl hdg (kk _ rfl)
theorem zC_g11 (X : CX p s m args meth c D (tysG kI kC kQ) A cc nL ret own) {index : Nat} (hlink : Cond.fieldLink own index "ShadowLatches$Circuit" "windowComplaints" "I" ∈ WS) (hdg : decode cc pc = .ok (.getfield index, 3)) (kk : Z p l e R s m args below meth c D A nL ce sl Q (wC kI q C) lv (pc + 3) (.int (C.1 4 11) :: st)) : Z p l e R s m args below meth c D A nL ce sl Q (wC kI q C) lv pc (.ref (q 0) :: st) := z_get X inW0 rfl 0 rfl 11 (by decide) hlink rfl rfl hdg kk
theorem zC_p11 (X : CX p s m args meth c D (tysG kI kC kQ) A cc nL ret own) {x : Int32} {index : Nat} (hlink : Cond.fieldLink own index "ShadowLatches$Circuit" "windowComplaints" "I" ∈ WS) (hdg : decode cc pc = .ok (.putfield index, 3)) (kk : ∀ y : CS, y = sC C 4 11 x → Z p l e R s m args below meth c D A nL ce sl Q (wC kI q y) lv (pc + 3) st) : Z p l e R s m args below meth c D A nL ce sl Q (wC kI q C) lv pc (.int x :: .ref (q 0) :: st) := z_put X inW0 rfl tyX0 tyX0_ok nmX0 0 rfl 11 (by decide) hlink rfl rfl rfl rfl (Nat.le_of_ble_eq_true rfl) (w' := (wC kI q (sC C 4 11 x))) rfl hdg (kk _ rfl)
theorem zC_g12 (X : CX p s m args meth c D (tysG kI kC kQ) A cc nL ret own) {index : Nat} (hlink : Cond.fieldLink own index "ShadowLatches$Circuit" "spent" "I" ∈ WS) (hdg : decode cc pc = .ok (.getfield index, 3)) (kk : Z p l e R s m args below meth c D A nL ce sl Q (wC kI q C) lv (pc + 3) (.int (C.1 4 12) :: st)) : Z p l e R s m args below meth c D A nL ce sl Q (wC kI q C) lv pc (.ref (q 0) :: st) := z_get X inW0 rfl 0 rfl 12 (by decide) hlink rfl rfl hdg kk
theorem zC_p12 (X : CX p s m args meth c D (tysG kI kC kQ) A cc nL ret own) {x : Int32} {index : Nat} (hlink : Cond.fieldLink own index "ShadowLatches$Circuit" "spent" "I" ∈ WS) (hdg : decode cc pc = .ok (.putfield index, 3)) (kk : ∀ y : CS, y = sC C 4 12 x → Z p l e R s m args below meth c D A nL ce sl Q (wC kI q y) lv (pc + 3) st) : Z p l e R s m args below meth c D A nL ce sl Q (wC kI q C) lv pc (.int x :: .ref (q 0) :: st) := z_put X inW0 rfl tyX0 tyX0_ok nmX0 0 rfl 12 (by decide) hlink rfl rfl rfl rfl (Nat.le_of_ble_eq_true rfl) (w' := (wC kI q (sC C 4 12 x))) rfl hdg (kk _ rfl)
theorem zC_g13 (X : CX p s m args meth c D (tysG kI kC kQ) A cc nL ret own) {index : Nat} (hlink : Cond.fieldLink own index "ShadowLatches$Circuit" "work" "I" ∈ WS) (hdg : decode cc pc = .ok (.getfield index, 3)) (kk : Z p l e R s m args below meth c D A nL ce sl Q (wC kI q C) lv (pc + 3) (.int (C.1 4 13) :: st)) : Z p l e R s m args below meth c D A nL ce sl Q (wC kI q C) lv pc (.ref (q 0) :: st) := z_get X inW0 rfl 0 rfl 13 (by decide) hlink rfl rfl hdg kk
theorem zC_p13 (X : CX p s m args meth c D (tysG kI kC kQ) A cc nL ret own) {x : Int32} {index : Nat} (hlink : Cond.fieldLink own index "ShadowLatches$Circuit" "work" "I" ∈ WS) (hdg : decode cc pc = .ok (.putfield index, 3)) (kk : ∀ y : CS, y = sC C 4 13 x → Z p l e R s m args below meth c D A nL ce sl Q (wC kI q y) lv (pc + 3) st) : Z p l e R s m args below meth c D A nL ce sl Q (wC kI q C) lv pc (.int x :: .ref (q 0) :: st) := z_put X inW0 rfl tyX0 tyX0_ok nmX0 0 rfl 13 (by decide) hlink rfl rfl rfl rfl (Nat.le_of_ble_eq_true rfl) (w' := (wC kI q (sC C 4 13 x))) rfl hdg (kk _ rfl)
theorem zC_g14 (X : CX p s m args meth c D (tysG kI kC kQ) A cc nL ret own) {index : Nat} (hlink : Cond.fieldLink own index "ShadowLatches$Circuit" "complaints" "I" ∈ WS) (hdg : decode cc pc = .ok (.getfield index, 3)) (kk : Z p l e R s m args below meth c D A nL ce sl Q (wC kI q C) lv (pc + 3) (.int (C.1 4 14) :: st)) : Z p l e R s m args below meth c D A nL ce sl Q (wC kI q C) lv pc (.ref (q 0) :: st) := z_get X inW0 rfl 0 rfl 14 (by decide) hlink rfl rfl hdg kk
theorem zC_p14 (X : CX p s m args meth c D (tysG kI kC kQ) A cc nL ret own) {x : Int32} {index : Nat} (hlink : Cond.fieldLink own index "ShadowLatches$Circuit" "complaints" "I" ∈ WS) (hdg : decode cc pc = .ok (.putfield index, 3)) (kk : ∀ y : CS, y = sC C 4 14 x → Z p l e R s m args below meth c D A nL ce sl Q (wC kI q y) lv (pc + 3) st) : Z p l e R s m args below meth c D A nL ce sl Q (wC kI q C) lv pc (.int x :: .ref (q 0) :: st) := z_put X inW0 rfl tyX0 tyX0_ok nmX0 0 rfl 14 (by decide) hlink rfl rfl rfl rfl (Nat.le_of_ble_eq_true rfl) (w' := (wC kI q (sC C 4 14 x))) rfl hdg (kk _ rfl)
theorem zC_g15 (X : CX p s m args meth c D (tysG kI kC kQ) A cc nL ret own) {index : Nat} (hlink : Cond.fieldLink own index "ShadowLatches$Circuit" "lost" "I" ∈ WS) (hdg : decode cc pc = .ok (.getfield index, 3)) (kk : Z p l e R s m args below meth c D A nL ce sl Q (wC kI q C) lv (pc + 3) (.int (C.1 4 15) :: st)) : Z p l e R s m args below meth c D A nL ce sl Q (wC kI q C) lv pc (.ref (q 0) :: st) := z_get X inW0 rfl 0 rfl 15 (by decide) hlink rfl rfl hdg kk
theorem zC_p15 (X : CX p s m args meth c D (tysG kI kC kQ) A cc nL ret own) {x : Int32} {index : Nat} (hlink : Cond.fieldLink own index "ShadowLatches$Circuit" "lost" "I" ∈ WS) (hdg : decode cc pc = .ok (.putfield index, 3)) (kk : ∀ y : CS, y = sC C 4 15 x → Z p l e R s m args below meth c D A nL ce sl Q (wC kI q y) lv (pc + 3) st) : Z p l e R s m args below meth c D A nL ce sl Q (wC kI q C) lv pc (.int x :: .ref (q 0) :: st) := z_put X inW0 rfl tyX0 tyX0_ok nmX0 0 rfl 15 (by decide) hlink rfl rfl rfl rfl (Nat.le_of_ble_eq_true rfl) (w' := (wC kI q (sC C 4 15 x))) rfl hdg (kk _ rfl)
theorem zC_g16 (X : CX p s m args meth c D (tysG kI kC kQ) A cc nL ret own) {index : Nat} (hlink : Cond.fieldLink own index "ShadowLatches$Circuit" "energy" "J" ∈ WS) (hdg : decode cc pc = .ok (.getfield index, 3)) (kk : Z p l e R s m args below meth c D A nL ce sl Q (wC kI q C) lv (pc + 3) (.long C.2 :: st)) : Z p l e R s m args below meth c D A nL ce sl Q (wC kI q C) lv pc (.ref (q 0) :: st) := z_get X inW0 rfl 0 rfl 16 (by decide) hlink rfl rfl hdg kk
theorem zC_p16 (X : CX p s m args meth c D (tysG kI kC kQ) A cc nL ret own) {x : Int64} {index : Nat} (hlink : Cond.fieldLink own index "ShadowLatches$Circuit" "energy" "J" ∈ WS) (hdg : decode cc pc = .ok (.putfield index, 3)) (kk : ∀ y : CS, y = sE C x → Z p l e R s m args below meth c D A nL ce sl Q (wC kI q y) lv (pc + 3) st) : Z p l e R s m args below meth c D A nL ce sl Q (wC kI q C) lv pc (.long x :: .ref (q 0) :: st) := z_put X inW0 rfl tyX0 tyX0_ok nmX0 0 rfl 16 (by decide) hlink rfl rfl rfl rfl (Nat.le_of_ble_eq_true rfl) (w' := (wC kI q (sE C x))) rfl hdg (kk _ rfl)
theorem zC_g17 (X : CX p s m args meth c D (tysG kI kC kQ) A cc nL ret own) {index : Nat} (hlink : Cond.fieldLink own index "ShadowLatches$Circuit" "stepsUp" "I" ∈ WS) (hdg : decode cc pc = .ok (.getfield index, 3)) (kk : Z p l e R s m args below meth c D A nL ce sl Q (wC kI q C) lv (pc + 3) (.int (C.1 4 17) :: st)) : Z p l e R s m args below meth c D A nL ce sl Q (wC kI q C) lv pc (.ref (q 0) :: st) := z_get X inW0 rfl 0 rfl 17 (by decide) hlink rfl rfl hdg kk
theorem zC_p17 (X : CX p s m args meth c D (tysG kI kC kQ) A cc nL ret own) {x : Int32} {index : Nat} (hlink : Cond.fieldLink own index "ShadowLatches$Circuit" "stepsUp" "I" ∈ WS) (hdg : decode cc pc = .ok (.putfield index, 3)) (kk : ∀ y : CS, y = sC C 4 17 x → Z p l e R s m args below meth c D A nL ce sl Q (wC kI q y) lv (pc + 3) st) : Z p l e R s m args below meth c D A nL ce sl Q (wC kI q C) lv pc (.int x :: .ref (q 0) :: st) := z_put X inW0 rfl tyX0 tyX0_ok nmX0 0 rfl 17 (by decide) hlink rfl rfl rfl rfl (Nat.le_of_ble_eq_true rfl) (w' := (wC kI q (sC C 4 17 x))) rfl hdg (kk _ rfl)
theorem zC_g18 (X : CX p s m args meth c D (tysG kI kC kQ) A cc nL ret own) {index : Nat} (hlink : Cond.fieldLink own index "ShadowLatches$Circuit" "stepsDown" "I" ∈ WS) (hdg : decode cc pc = .ok (.getfield index, 3)) (kk : Z p l e R s m args below meth c D A nL ce sl Q (wC kI q C) lv (pc + 3) (.int (C.1 4 18) :: st)) : Z p l e R s m args below meth c D A nL ce sl Q (wC kI q C) lv pc (.ref (q 0) :: st) := z_get X inW0 rfl 0 rfl 18 (by decide) hlink rfl rfl hdg kk
theorem zC_p18 (X : CX p s m args meth c D (tysG kI kC kQ) A cc nL ret own) {x : Int32} {index : Nat} (hlink : Cond.fieldLink own index "ShadowLatches$Circuit" "stepsDown" "I" ∈ WS) (hdg : decode cc pc = .ok (.putfield index, 3)) (kk : ∀ y : CS, y = sC C 4 18 x → Z p l e R s m args below meth c D A nL ce sl Q (wC kI q y) lv (pc + 3) st) : Z p l e R s m args below meth c D A nL ce sl Q (wC kI q C) lv pc (.int x :: .ref (q 0) :: st) := z_put X inW0 rfl tyX0 tyX0_ok nmX0 0 rfl 18 (by decide) hlink rfl rfl rfl rfl (Nat.le_of_ble_eq_true rfl) (w' := (wC kI q (sC C 4 18 x))) rfl hdg (kk _ rfl)
theorem zC_l0 (X : CX p s m args meth c D (tysG kI kC kQ) A cc nL ret own) {i : Int32} {j : Nat} (hin : vp_in i 8) (hj : i.toNatClampNeg = j) (hdg : decode cc pc = .ok (.iaload, 1)) (kk : Z p l e R s m args below meth c D A nL ce sl Q (wC kI q C) lv (pc + 1) (.int (C.1 0 j) :: st)) : Z p l e R s m args below meth c D A nL ce sl Q (wC kI q C) lv pc (.int i :: .ref (q 1) :: st) := z_iald X 1 0 rfl rfl hin hj hdg kk
theorem zC_s0 (X : CX p s m args meth c D (tysG kI kC kQ) A cc nL ret own) {i x : Int32} {j : Nat} (hin : vp_in i 8) (hj : i.toNatClampNeg = j) (hdg : decode cc pc = .ok (.iastore, 1)) (kk : ∀ y : CS, y = sC C 0 j x → Z p l e R s m args below meth c D A nL ce sl Q (wC kI q y) lv (pc + 1) st) : Z p l e R s m args below meth c D A nL ce sl Q (wC kI q C) lv pc (.int x :: .int i :: .ref (q 1) :: st) := z_iast X 1 0 rfl rfl hin hj (w' := (wC kI q (sC C 0 j x))) rfl hdg (kk _ rfl)
theorem zC_l1 (X : CX p s m args meth c D (tysG kI kC kQ) A cc nL ret own) {i : Int32} {j : Nat} (hin : vp_in i 8) (hj : i.toNatClampNeg = j) (hdg : decode cc pc = .ok (.iaload, 1)) (kk : Z p l e R s m args below meth c D A nL ce sl Q (wC kI q C) lv (pc + 1) (.int (C.1 1 j) :: st)) : Z p l e R s m args below meth c D A nL ce sl Q (wC kI q C) lv pc (.int i :: .ref (q 2) :: st) := z_iald X 2 0 rfl rfl hin hj hdg kk
theorem zC_s1 (X : CX p s m args meth c D (tysG kI kC kQ) A cc nL ret own) {i x : Int32} {j : Nat} (hin : vp_in i 8) (hj : i.toNatClampNeg = j) (hdg : decode cc pc = .ok (.iastore, 1)) (kk : ∀ y : CS, y = sC C 1 j x → Z p l e R s m args below meth c D A nL ce sl Q (wC kI q y) lv (pc + 1) st) : Z p l e R s m args below meth c D A nL ce sl Q (wC kI q C) lv pc (.int x :: .int i :: .ref (q 2) :: st) := z_iast X 2 0 rfl rfl hin hj (w' := (wC kI q (sC C 1 j x))) rfl hdg (kk _ rfl)
theorem zC_l2 (X : CX p s m args meth c D (tysG kI kC kQ) A cc nL ret own) {i : Int32} {j : Nat} (hin : vp_in i 16) (hj : i.toNatClampNeg = j) (hdg : decode cc pc = .ok (.iaload, 1)) (kk : Z p l e R s m args below meth c D A nL ce sl Q (wC kI q C) lv (pc + 1) (.int (C.1 2 j) :: st)) : Z p l e R s m args below meth c D A nL ce sl Q (wC kI q C) lv pc (.int i :: .ref (q 3) :: st) := z_iald X 3 0 rfl rfl hin hj hdg kk
theorem zC_s2 (X : CX p s m args meth c D (tysG kI kC kQ) A cc nL ret own) {i x : Int32} {j : Nat} (hin : vp_in i 16) (hj : i.toNatClampNeg = j) (hdg : decode cc pc = .ok (.iastore, 1)) (kk : ∀ y : CS, y = sC C 2 j x → Z p l e R s m args below meth c D A nL ce sl Q (wC kI q y) lv (pc + 1) st) : Z p l e R s m args below meth c D A nL ce sl Q (wC kI q C) lv pc (.int x :: .int i :: .ref (q 3) :: st) := z_iast X 3 0 rfl rfl hin hj (w' := (wC kI q (sC C 2 j x))) rfl hdg (kk _ rfl)
theorem zC_l3 (X : CX p s m args meth c D (tysG kI kC kQ) A cc nL ret own) {i : Int32} {j : Nat} (hin : vp_in i 7) (hj : i.toNatClampNeg = j) (hdg : decode cc pc = .ok (.iaload, 1)) (kk : Z p l e R s m args below meth c D A nL ce sl Q (wC kI q C) lv (pc + 1) (.int (C.1 3 j) :: st)) : Z p l e R s m args below meth c D A nL ce sl Q (wC kI q C) lv pc (.int i :: .ref (q 4) :: st) := z_iald X 4 0 rfl rfl hin hj hdg kk
theorem zC_s3 (X : CX p s m args meth c D (tysG kI kC kQ) A cc nL ret own) {i x : Int32} {j : Nat} (hin : vp_in i 7) (hj : i.toNatClampNeg = j) (hdg : decode cc pc = .ok (.iastore, 1)) (kk : ∀ y : CS, y = sC C 3 j x → Z p l e R s m args below meth c D A nL ce sl Q (wC kI q y) lv (pc + 1) st) : Z p l e R s m args below meth c D A nL ce sl Q (wC kI q C) lv pc (.int x :: .int i :: .ref (q 4) :: st) := z_iast X 4 0 rfl rfl hin hj (w' := (wC kI q (sC C 3 j x))) rfl hdg (kk _ rfl)
theorem zT_g0 (X : CX p s m args meth c D (tysG kI kC kQ) A cc nL ret own) {index : Nat} (hlink : Cond.fieldLink own index "ShadowLatches$WorkloadText" "characters" "[C" ∈ WS) (hdg : decode cc pc = .ok (.getfield index, 3)) (kk : Z p l e R s m args below meth c D A nL ce sl Q (wT kI kC r T) lv (pc + 3) (.ref (r 1) :: st)) : Z p l e R s m args below meth c D A nL ce sl Q (wT kI kC r T) lv pc (.ref (r 0) :: st) := z_get X inW1 rfl 0 rfl 0 (by decide) hlink rfl rfl hdg kk
theorem zT_g1 (X : CX p s m args meth c D (tysG kI kC kQ) A cc nL ret own) {index : Nat} (hlink : Cond.fieldLink own index "ShadowLatches$WorkloadText" "length" "I" ∈ WS) (hdg : decode cc pc = .ok (.getfield index, 3)) (kk : Z p l e R s m args below meth c D A nL ce sl Q (wT kI kC r T) lv (pc + 3) (.int (T 2 1) :: st)) : Z p l e R s m args below meth c D A nL ce sl Q (wT kI kC r T) lv pc (.ref (r 0) :: st) := z_get X inW1 rfl 0 rfl 1 (by decide) hlink rfl rfl hdg kk
theorem zT_p1 (X : CX p s m args meth c D (tysG kI kC kQ) A cc nL ret own) {x : Int32} {index : Nat} (hlink : Cond.fieldLink own index "ShadowLatches$WorkloadText" "length" "I" ∈ WS) (hdg : decode cc pc = .ok (.putfield index, 3)) (kk : ∀ y : ARR, y = sA T 2 1 x → Z p l e R s m args below meth c D A nL ce sl Q (wT kI kC r y) lv (pc + 3) st) : Z p l e R s m args below meth c D A nL ce sl Q (wT kI kC r T) lv pc (.int x :: .ref (r 0) :: st) := z_put X inW1 rfl tyX1 tyX1_ok nmX1 0 rfl 1 (by decide) hlink rfl rfl rfl rfl (Nat.le_of_ble_eq_true rfl) (w' := (wT kI kC r (sA T 2 1 x))) rfl hdg (kk _ rfl)
theorem zT_g2 (X : CX p s m args meth c D (tysG kI kC kQ) A cc nL ret own) {index : Nat} (hlink : Cond.fieldLink own index "ShadowLatches$WorkloadText" "sets" "[I" ∈ WS) (hdg : decode cc pc = .ok (.getfield index, 3)) (kk : Z p l e R s m args below meth c D A nL ce sl Q (wT kI kC r T) lv (pc + 3) (.ref (r 2) :: st)) : Z p l e R s m args below meth c D A nL ce sl Q (wT kI kC r T) lv pc (.ref (r 0) :: st) := z_get X inW1 rfl 0 rfl 2 (by decide) hlink rfl rfl hdg kk
theorem zT_g3 (X : CX p s m args meth c D (tysG kI kC kQ) A cc nL ret own) {index : Nat} (hlink : Cond.fieldLink own index "ShadowLatches$WorkloadText" "setCount" "I" ∈ WS) (hdg : decode cc pc = .ok (.getfield index, 3)) (kk : Z p l e R s m args below meth c D A nL ce sl Q (wT kI kC r T) lv (pc + 3) (.int (T 2 3) :: st)) : Z p l e R s m args below meth c D A nL ce sl Q (wT kI kC r T) lv pc (.ref (r 0) :: st) := z_get X inW1 rfl 0 rfl 3 (by decide) hlink rfl rfl hdg kk
theorem zT_p3 (X : CX p s m args meth c D (tysG kI kC kQ) A cc nL ret own) {x : Int32} {index : Nat} (hlink : Cond.fieldLink own index "ShadowLatches$WorkloadText" "setCount" "I" ∈ WS) (hdg : decode cc pc = .ok (.putfield index, 3)) (kk : ∀ y : ARR, y = sA T 2 3 x → Z p l e R s m args below meth c D A nL ce sl Q (wT kI kC r y) lv (pc + 3) st) : Z p l e R s m args below meth c D A nL ce sl Q (wT kI kC r T) lv pc (.int x :: .ref (r 0) :: st) := z_put X inW1 rfl tyX1 tyX1_ok nmX1 0 rfl 3 (by decide) hlink rfl rfl rfl rfl (Nat.le_of_ble_eq_true rfl) (w' := (wT kI kC r (sA T 2 3 x))) rfl hdg (kk _ rfl)
theorem zT_l0 (X : CX p s m args meth c D (tysG kI kC kQ) A cc nL ret own) {i : Int32} {j : Nat} (hin : vp_in i 60) (hj : i.toNatClampNeg = j) (hdg : decode cc pc = .ok (.caload, 1)) (kk : Z p l e R s m args below meth c D A nL ce sl Q (wT kI kC r T) lv (pc + 1) (.int (T 0 j) :: st)) : Z p l e R s m args below meth c D A nL ce sl Q (wT kI kC r T) lv pc (.int i :: .ref (r 1) :: st) := z_cald X 1 1 rfl rfl hin hj hdg kk
theorem zT_s0 (X : CX p s m args meth c D (tysG kI kC kQ) A cc nL ret own) {i x : Int32} {j : Nat} (hin : vp_in i 60) (hj : i.toNatClampNeg = j) (hx : narrow .char (.int x) = .int x) (hdg : decode cc pc = .ok (.castore, 1)) (kk : ∀ y : ARR, y = sA T 0 j x → Z p l e R s m args below meth c D A nL ce sl Q (wT kI kC r y) lv (pc + 1) st) : Z p l e R s m args below meth c D A nL ce sl Q (wT kI kC r T) lv pc (.int x :: .int i :: .ref (r 1) :: st) := z_cast X 1 1 rfl rfl hin hj hx (w' := (wT kI kC r (sA T 0 j x))) rfl hdg (kk _ rfl)
theorem zT_l1 (X : CX p s m args meth c D (tysG kI kC kQ) A cc nL ret own) {i : Int32} {j : Nat} (hin : vp_in i 16) (hj : i.toNatClampNeg = j) (hdg : decode cc pc = .ok (.iaload, 1)) (kk : Z p l e R s m args below meth c D A nL ce sl Q (wT kI kC r T) lv (pc + 1) (.int (T 1 j) :: st)) : Z p l e R s m args below meth c D A nL ce sl Q (wT kI kC r T) lv pc (.int i :: .ref (r 2) :: st) := z_iald X 2 0 rfl rfl hin hj hdg kk
theorem zT_s1 (X : CX p s m args meth c D (tysG kI kC kQ) A cc nL ret own) {i x : Int32} {j : Nat} (hin : vp_in i 16) (hj : i.toNatClampNeg = j) (hdg : decode cc pc = .ok (.iastore, 1)) (kk : ∀ y : ARR, y = sA T 1 j x → Z p l e R s m args below meth c D A nL ce sl Q (wT kI kC r y) lv (pc + 1) st) : Z p l e R s m args below meth c D A nL ce sl Q (wT kI kC r T) lv pc (.int x :: .int i :: .ref (r 2) :: st) := z_iast X 2 0 rfl rfl hin hj (w' := (wT kI kC r (sA T 1 j x))) rfl hdg (kk _ rfl)
end
end
section
/-! pure rows: bounded numbers, loops that count up, indices -/
def bn (lo hi : Nat) (x : Int32) : Prop := ∃ n : Nat, lo ≤ n ∧ n ≤ hi ∧ x = nI n
def cu (B n : Nat) (x : Int32) : Prop := ∃ k : Nat, x = nI k ∧ k ≤ B ∧ B + 1 ≤ k + n
theorem cu_0 {B : Nat} {x : Int32} (h : cu B 0 x) : False := by
  obtain ⟨k, _, h1, h2⟩ := h
  omega
theorem cu_i {B n : Nat} (h : B + 1 ≤ n) : cu B n 0 := ⟨0, nI_0.symm, Nat.zero_le _, by omega⟩
theorem cu_lt {B n : Nat} {x b : Int32} (h : cu B (n + 1) x) (hB : B < 2 ^ 31) (hb : b = nI B) (hn : ¬ b ≤ x) : ∃ k : Nat, k < B ∧ x = nI k := by
  obtain ⟨k, hk, h1, h2⟩ := h
  refine ⟨k, ?_, hk⟩
  rcases Nat.lt_or_ge k B with q | q
  · exact q
  · exact absurd (by rw [hb, hk]; exact nI_le q (by omega)) hn
theorem cu_b {B n : Nat} {x y b : Int32} (h : cu B (n + 1) x) (hB : B < 2 ^ 31) (hb : b = nI B) (hn : ¬ b ≤ x) (hy : y = x + 1) : cu B n y := by
  obtain ⟨k, hk, h1, h2⟩ := h
  have hlt : k < B := by
    rcases Nat.lt_or_ge k B with q | q
    · exact q
    · exact absurd (by rw [hb, hk]; exact nI_le q (by omega)) hn
  exact ⟨k + 1, by rw [hy, hk]; exact nI_1 k, hlt, by omega⟩
theorem bn_lt {lo hi : Nat} {x : Int32} (h : bn lo hi x) : ∃ k : Nat, k < hi + 1 ∧ x = nI k := by
  obtain ⟨n, _, h1, h2⟩ := h
  exact ⟨n, by omega, h2⟩
theorem bn_w {lo hi lo' hi' : Nat} {x : Int32} (h : bn lo hi x) (h1 : lo' ≤ lo) (h2 : hi ≤ hi') : bn lo' hi' x := by
  obtain ⟨n, a, b, c⟩ := h
  exact ⟨n, by omega, by omega, c⟩
theorem bn_c {lo hi : Nat} (n : Nat) (h1 : lo ≤ n) (h2 : n ≤ hi) : bn lo hi (nI n) := ⟨n, h1, h2, rfl⟩
theorem vin_k {B N : Nat} {x : Int32} (h : ∃ k : Nat, k < B ∧ x = nI k) (hN : B ≤ N) (h2 : N < 2 ^ 31) : vp_in x N := by
  obtain ⟨k, h1, rfl⟩ := h
  exact vp_in_nI (by omega) h2
theorem vin_a (c : Nat) {B N : Nat} {x : Int32} (h : ∃ k : Nat, k < B ∧ x = nI k) (hN : c + B ≤ N) (h2 : N < 2 ^ 31) : vp_in (nI c + x) N := by
  obtain ⟨k, h1, rfl⟩ := h
  rw [nI_add]
  exact vp_in_nI (by omega) h2
theorem vne {v : Int32} (h : bn 500 1200 v) : ¬ (v - (300 : Int32)) = 0 := by
  obtain ⟨n, h1, h2, rfl⟩ := h
  have e : nI n - (300 : Int32) = nI (n - 300) := pk_sub (a := n) (b := 300) (by omega)
  rw [e]
  exact nI_ne0 (by omega) (by omega)
theorem nb {x : Int32} (h : x = 0 ∨ x = 1) : narrow .boolean (.int x) = .int x := by
  rcases h with rfl | rfl <;> rfl
/-! rows of numbers -/
def sR (M : ARR) (i : Nat) (g : Nat → Int32) : ARR := fun a => if a = i then g else M a
def cpy55 (f g : Nat → Int32) : Nat → Int32 := fun j => if j < 55 then f j else g j
theorem sA_e (M : ARR) (i k : Nat) (v : Int32) : sA M i k v i k = v := by simp [sA, upd]
theorem sA_ne (M : ARR) (i k : Nat) (v : Int32) {j : Nat} (h : j ≠ k) : sA M i k v i j = M i j := by simp [sA, upd, h]
theorem sA_o (M : ARR) (i k : Nat) (v : Int32) {a : Nat} (h : a ≠ i) : sA M i k v a = M a := by simp [sA, h]
theorem sR_e (M : ARR) (i : Nat) (g : Nat → Int32) : sR M i g i = g := by simp [sR]
theorem sR_o (M : ARR) (i : Nat) (g : Nat → Int32) {a : Nat} (h : a ≠ i) : sR M i g a = M a := by simp [sR, h]
theorem cpy55_lt {f g : Nat → Int32} {j : Nat} (h : j < 55) : cpy55 f g j = f j := by simp [cpy55, h]
/-! the invariant of a state: what a row of the 55 numbers keeps to -/
def IA (a : Nat → Int32) : Prop :=
  bn 1 8 (a 51) ∧ (∃ P N : Nat, P < N ∧ N ≤ 16 ∧ a 50 = nI P ∧ a 49 = nI N) ∧ bn 500 1200 (a 39) ∧ bn 20 120 (a 40) ∧ bn 0 1 (a 41) ∧ bn 50 1000 (a 32) ∧ bn 0 200 (a 33) ∧ bn 1 20 (a 34) ∧ bn 10 500 (a 35) ∧ bn 0 100 (a 36) ∧ bn 1 50 (a 37) ∧ bn 1 10 (a 38) ∧ (∀ k, k < 8 → bn 0 400 (a k)) ∧ (∀ k, k < 16 → bn 0 255 (a (16 + k)))
theorem IA.p {a : Nat → Int32} (h : IA a) : bn 1 8 (a 51) := h.1
theorem IA.w {a : Nat → Int32} (h : IA a) : ∃ P N : Nat, P < N ∧ N ≤ 16 ∧ a 50 = nI P ∧ a 49 = nI N := h.2.1
theorem IA.v {a : Nat → Int32} (h : IA a) : bn 500 1200 (a 39) := h.2.2.1
theorem IA.h {a : Nat → Int32} (h : IA a) : bn 20 120 (a 40) := h.2.2.2.1
theorem IA.g {a : Nat → Int32} (h : IA a) : bn 0 1 (a 41) := h.2.2.2.2.1
theorem IA.s0 {a : Nat → Int32} (h : IA a) : bn 50 1000 (a 32) := h.2.2.2.2.2.1
theorem IA.s1 {a : Nat → Int32} (h : IA a) : bn 0 200 (a 33) := h.2.2.2.2.2.2.1
theorem IA.s2 {a : Nat → Int32} (h : IA a) : bn 1 20 (a 34) := h.2.2.2.2.2.2.2.1
theorem IA.s3 {a : Nat → Int32} (h : IA a) : bn 10 500 (a 35) := h.2.2.2.2.2.2.2.2.1
theorem IA.s4 {a : Nat → Int32} (h : IA a) : bn 0 100 (a 36) := h.2.2.2.2.2.2.2.2.2.1
theorem IA.s5 {a : Nat → Int32} (h : IA a) : bn 1 50 (a 37) := h.2.2.2.2.2.2.2.2.2.2.1
theorem IA.s6 {a : Nat → Int32} (h : IA a) : bn 1 10 (a 38) := h.2.2.2.2.2.2.2.2.2.2.2.1
theorem IA.l {a : Nat → Int32} (h : IA a) : ∀ k, k < 8 → bn 0 400 (a k) := h.2.2.2.2.2.2.2.2.2.2.2.2.1
theorem IA.t {a : Nat → Int32} (h : IA a) : ∀ k, k < 16 → bn 0 255 (a (16 + k)) := h.2.2.2.2.2.2.2.2.2.2.2.2.2
theorem IA.c {a : Nat → Int32} (h : IA a) : bn 1 16 (a 49) := by
  obtain ⟨P, N, h1, h2, h3, h4⟩ := h.w
  exact ⟨N, by omega, h2, h4⟩
theorem IA.q {a : Nat → Int32} (h : IA a) : bn 0 15 (a 50) := by
  obtain ⟨P, N, h1, h2, h3, h4⟩ := h.w
  exact ⟨P, by omega, by omega, h3⟩
theorem IA_congr {a b : Nat → Int32} (h : IA a) (e : ∀ j, j < 55 → b j = a j) : IA b := by
  obtain ⟨h1, h2, h3, h4, h5, h6, h7, h8, h9, h10, h11, h12, h13, h14⟩ := h
  refine ⟨?_, ?_, ?_, ?_, ?_, ?_, ?_, ?_, ?_, ?_, ?_, ?_, fun k hk => ?_, fun k hk => ?_⟩
  · rw [e _ (by omega)]; exact h1
  · rw [e 50 (by omega), e 49 (by omega)]; exact h2
  all_goals (rw [e _ (by omega)]; first | assumption | exact h13 k hk | exact h14 k hk)
end
section
theorem k_M_copy : yX3_copy.cls ≠ "java/lang/invoke/MethodHandle" ∧ yX3_copy.cls ≠ "java/lang/invoke/VarHandle" ∧ (parseMethodDescriptor yX3_copy.desc).map (fun d => d.parameters.length) = some 2 := by decide +kernel
set_option maxRecDepth 100000 in
set_option maxHeartbeats 4000000 in
theorem c_M_copy (l : Launch) (D : va_G) (kI kC kQ : ClassId) (b1 b2 : Nat) (f g : Nat → Int32) : CtV (U := Nat → Int32) l yX3_copy cX3_copy 3 none { frames := 0, cells := 0, slots := 0, locals := 0 } D (tysG kI kC kQ) [(b1, .inl (kI, 55, .inl f)), (b2, .inl (kI, 55, .inl g))] [.ref b1, .ref b2] (fun u => [(b1, .inl (kI, 55, .inl f)), (b2, .inl (kI, 55, .inl u))]) (fun u => u = cpy55 f g) := by
  refine met_Zv (own := "ShadowLatchesModel") (by decide +kernel) rfl (Nat.le_of_ble_eq_true rfl) ?_
  intro p e s m args below meth c A Q X hQ
  show Z p l e { frames := 0, cells := 0, slots := 0, locals := 0 } s m args below meth c D A 3 0 0 Q [(b1, .inl (kI, 55, .inl f)), (b2, .inl (kI, 55, .inl g))] [(0, .ref b1), (1, .ref b2)] 0 []
  have Lp : ∀ (n k : Nat) (h : Nat → Int32) (x : Int32), x = nI k → k ≤ 55 → 56 ≤ k + n → h = (fun j => if j < k then f j else g j) → Z p l e { frames := 0, cells := 0, slots := 0, locals := 0 } s m args below meth c D A 3 0 0 Q [(b1, .inl (kI, 55, .inl f)), (b2, .inl (kI, 55, .inl h))] [(2, .int x), (0, .ref b1), (1, .ref b2)] 2 [] := by
    intro n
    induction n with
    | zero => intro k h x _ h1 h2; exact absurd h2 (by omega)
    | succ n ih =>
      intro k h x hx hk hn hh
      refine z_iload_n X dX3_copy_2 0 rfl ?_
      refine z_bipush (v := (55 : Int32)) X dX3_copy_3 (by decide) ?_
      refine z_icmp_ge (tgt := 20) X dX3_copy_5 (by decide) (fun c_5 => ?_) (fun c_5 => ?_)
      · have hk2 : k = 55 := by
          rcases Nat.lt_or_ge k 55 with q | q
          · exact absurd (by rw [hx] at c_5; exact c_5) (nI_ge (a := k) (b := 55) q (by omega))
          · omega
        refine z_vret X hQ rfl h rfl (by subst hk2; subst hh; rfl) dX3_copy_20
      · have hk2 : k < 55 := by
          rcases Nat.lt_or_ge k 55 with q | q
          · exact q
          · exact absurd (by rw [hx]; exact nI_le (a := 55) (b := k) q (by omega)) c_5
        have hin : vp_in x 55 := by rw [hx]; exact vp_in_nI hk2 (by omega)
        have hcl : x.toNatClampNeg = k := by rw [hx]; exact nI_clamp (by omega)
        refine z_aload_n X dX3_copy_8 2 rfl ?_
        refine z_iload_n X dX3_copy_9 0 rfl ?_
        refine z_aload_n X dX3_copy_10 1 rfl ?_
        refine z_iload_n X dX3_copy_11 0 rfl ?_
        refine z_iald X 0 0 rfl rfl hin hcl dX3_copy_12 ?_
        refine z_iast X 1 0 rfl rfl hin hcl (w' := [(b1, .inl (kI, 55, .inl f)), (b2, .inl (kI, 55, .inl (upd h k (f k))))]) rfl dX3_copy_13 ?_
        refine z_iinc (v := x + 1) (lv' := [(2, .int (x + 1)), (0, .ref b1), (1, .ref b2)]) X dX3_copy_14 0 rfl rfl (Nat.le_of_ble_eq_true rfl) rfl ?_
        refine z_goto (tgt := 2) X dX3_copy_17 (by decide) ?_
        refine ih (k + 1) _ _ (by rw [hx]; exact nI_1 k) hk2 (by omega) ?_
        funext j
        rw [hh]
        unfold upd
        by_cases h1 : j = k
        · subst h1; simp
        · rw [if_neg h1]
          by_cases h2 : j < k
          · simp [h2, Nat.lt_succ_of_lt h2]
          · show (if j < k then f j else g j) = _
            rw [if_neg h2, if_neg (by omega)]
  refine z_iconst (v := (0 : Int32)) X dX3_copy_0 (by decide) ?_
  refine z_istore_n (lv' := [(2, .int 0), (0, .ref b1), (1, .ref b2)]) X dX3_copy_1 (Nat.le_of_ble_eq_true rfl) rfl ?_
  exact Lp 56 0 g 0 nI_0.symm (Nat.zero_le _) (by omega) (by funext j; simp)
section
variable {p : Program} {l : Launch} {e : Env} {R : Room} {s : State} {m : MethodId} {args : Array Value} {below : List Frame} {meth : Method} {c : Code} {D : va_G} {kI kC kQ : ClassId} {A : Nat → Prop} {cc : ByteArray} {nL ce sl : Nat} {ret : Option FieldType} {own : String} {Q : State → Prop} {lv : List (Nat × Value)} {pc : Nat} {st : List Value} {o : Nat → Nat} {M : ARR}
set_option maxRecDepth 100000 in
theorem zM_cp_0_1 (X : CX p s m args meth c D (tysG kI kC kQ) A cc nL ret own) {index : Nat} (hG : GoodIn WS (va_wsS own index yX3_copy (Cond.code yX3_copy cX3_copy 3 none :: WS))) (hR : 0 + 1 ≤ R.frames ∧ 8 + (3 + 11) + 0 ≤ R.locals) (hf : ce ≤ R.cells ∧ sl ≤ R.slots) (hW : (st.map fun v => v.category).sum ≤ 8) (hdg : decode cc pc = .ok (.invokestatic index, 3)) (kk : ∀ y : ARR, y = sR M 1 (cpy55 (M 0) (M 1)) → Z p l e R s m args below meth c D A nL ce sl Q (wM kI o y) lv (pc + 3) st) : Z p l e R s m args below meth c D A nL ce sl Q (wM kI o M) lv pc (.ref (o 2) :: .ref (o 1) :: st) := by
  refine z_perm (w' := [(o 1, .inl (kI, 55, .inl (M 0))), (o 2, .inl (kI, 55, .inl (M 1)))] ++ [(o 0, .inr (3, [.ref (o 1), .ref (o 2), .ref (o 3), .ref (o 4), .int (M 7 4), .ref (o 5), .int (M 7 6), .ref (o 6), .int (M 7 8), .int (M 7 9), .ref (o 7), .int (M 7 11)])), (o 3, .inl (kI, 55, .inl (M 2))), (o 4, .inl (kI, 220, .inl (M 3))), (o 5, .inl (kI, 55, .inl (M 4))), (o 6, .inl (kI, 60, .inl (M 5))), (o 7, .inl (kI, 16, .inl (M 6)))]) [1, 2, 0, 3, 4, 5, 6, 7] (by decide) rfl rfl ?_
  refine z_callSv X (c_M_copy l D kI kC kQ (o 1) (o 2) (M 0) (M 1)) hG k_M_copy rfl rfl hR hf rfl rfl hW hdg (wl := []) (wr := [(o 0, .inr (3, [.ref (o 1), .ref (o 2), .ref (o 3), .ref (o 4), .int (M 7 4), .ref (o 5), .int (M 7 6), .ref (o 6), .int (M 7 8), .int (M 7 9), .ref (o 7), .int (M 7 11)])), (o 3, .inl (kI, 55, .inl (M 2))), (o 4, .inl (kI, 220, .inl (M 3))), (o 5, .inl (kI, 55, .inl (M 4))), (o 6, .inl (kI, 60, .inl (M 5))), (o 7, .inl (kI, 16, .inl (M 6)))]) rfl (fun u hu => ?_)
  subst hu
  refine z_perm (w' := wM kI o (sR M 1 (cpy55 (M 0) (M 1)))) [2, 0, 1, 3, 4, 5, 6, 7] (by decide) rfl rfl ?_
  exact kk _ rfl
set_option maxRecDepth 100000 in
theorem zM_cp_0_4 (X : CX p s m args meth c D (tysG kI kC kQ) A cc nL ret own) {index : Nat} (hG : GoodIn WS (va_wsS own index yX3_copy (Cond.code yX3_copy cX3_copy 3 none :: WS))) (hR : 0 + 1 ≤ R.frames ∧ 8 + (3 + 11) + 0 ≤ R.locals) (hf : ce ≤ R.cells ∧ sl ≤ R.slots) (hW : (st.map fun v => v.category).sum ≤ 8) (hdg : decode cc pc = .ok (.invokestatic index, 3)) (kk : ∀ y : ARR, y = sR M 4 (cpy55 (M 0) (M 4)) → Z p l e R s m args below meth c D A nL ce sl Q (wM kI o y) lv (pc + 3) st) : Z p l e R s m args below meth c D A nL ce sl Q (wM kI o M) lv pc (.ref (o 5) :: .ref (o 1) :: st) := by
  refine z_perm (w' := [(o 1, .inl (kI, 55, .inl (M 0))), (o 5, .inl (kI, 55, .inl (M 4)))] ++ [(o 0, .inr (3, [.ref (o 1), .ref (o 2), .ref (o 3), .ref (o 4), .int (M 7 4), .ref (o 5), .int (M 7 6), .ref (o 6), .int (M 7 8), .int (M 7 9), .ref (o 7), .int (M 7 11)])), (o 2, .inl (kI, 55, .inl (M 1))), (o 3, .inl (kI, 55, .inl (M 2))), (o 4, .inl (kI, 220, .inl (M 3))), (o 6, .inl (kI, 60, .inl (M 5))), (o 7, .inl (kI, 16, .inl (M 6)))]) [1, 5, 0, 2, 3, 4, 6, 7] (by decide) rfl rfl ?_
  refine z_callSv X (c_M_copy l D kI kC kQ (o 1) (o 5) (M 0) (M 4)) hG k_M_copy rfl rfl hR hf rfl rfl hW hdg (wl := []) (wr := [(o 0, .inr (3, [.ref (o 1), .ref (o 2), .ref (o 3), .ref (o 4), .int (M 7 4), .ref (o 5), .int (M 7 6), .ref (o 6), .int (M 7 8), .int (M 7 9), .ref (o 7), .int (M 7 11)])), (o 2, .inl (kI, 55, .inl (M 1))), (o 3, .inl (kI, 55, .inl (M 2))), (o 4, .inl (kI, 220, .inl (M 3))), (o 6, .inl (kI, 60, .inl (M 5))), (o 7, .inl (kI, 16, .inl (M 6)))]) rfl (fun u hu => ?_)
  subst hu
  refine z_perm (w' := wM kI o (sR M 4 (cpy55 (M 0) (M 4)))) [2, 0, 3, 4, 5, 1, 6, 7] (by decide) rfl rfl ?_
  exact kk _ rfl
set_option maxRecDepth 100000 in
theorem zM_cp_4_0 (X : CX p s m args meth c D (tysG kI kC kQ) A cc nL ret own) {index : Nat} (hG : GoodIn WS (va_wsS own index yX3_copy (Cond.code yX3_copy cX3_copy 3 none :: WS))) (hR : 0 + 1 ≤ R.frames ∧ 8 + (3 + 11) + 0 ≤ R.locals) (hf : ce ≤ R.cells ∧ sl ≤ R.slots) (hW : (st.map fun v => v.category).sum ≤ 8) (hdg : decode cc pc = .ok (.invokestatic index, 3)) (kk : ∀ y : ARR, y = sR M 0 (cpy55 (M 4) (M 0)) → Z p l e R s m args below meth c D A nL ce sl Q (wM kI o y) lv (pc + 3) st) : Z p l e R s m args below meth c D A nL ce sl Q (wM kI o M) lv pc (.ref (o 1) :: .ref (o 5) :: st) := by
  refine z_perm (w' := [(o 5, .inl (kI, 55, .inl (M 4))), (o 1, .inl (kI, 55, .inl (M 0)))] ++ [(o 0, .inr (3, [.ref (o 1), .ref (o 2), .ref (o 3), .ref (o 4), .int (M 7 4), .ref (o 5), .int (M 7 6), .ref (o 6), .int (M 7 8), .int (M 7 9), .ref (o 7), .int (M 7 11)])), (o 2, .inl (kI, 55, .inl (M 1))), (o 3, .inl (kI, 55, .inl (M 2))), (o 4, .inl (kI, 220, .inl (M 3))), (o 6, .inl (kI, 60, .inl (M 5))), (o 7, .inl (kI, 16, .inl (M 6)))]) [5, 1, 0, 2, 3, 4, 6, 7] (by decide) rfl rfl ?_
  refine z_callSv X (c_M_copy l D kI kC kQ (o 5) (o 1) (M 4) (M 0)) hG k_M_copy rfl rfl hR hf rfl rfl hW hdg (wl := []) (wr := [(o 0, .inr (3, [.ref (o 1), .ref (o 2), .ref (o 3), .ref (o 4), .int (M 7 4), .ref (o 5), .int (M 7 6), .ref (o 6), .int (M 7 8), .int (M 7 9), .ref (o 7), .int (M 7 11)])), (o 2, .inl (kI, 55, .inl (M 1))), (o 3, .inl (kI, 55, .inl (M 2))), (o 4, .inl (kI, 220, .inl (M 3))), (o 6, .inl (kI, 60, .inl (M 5))), (o 7, .inl (kI, 16, .inl (M 6)))]) rfl (fun u hu => ?_)
  subst hu
  refine z_perm (w' := wM kI o (sR M 0 (cpy55 (M 4) (M 0)))) [2, 1, 3, 4, 5, 0, 6, 7] (by decide) rfl rfl ?_
  exact kk _ rfl
set_option maxRecDepth 100000 in
theorem zM_cp_0_2 (X : CX p s m args meth c D (tysG kI kC kQ) A cc nL ret own) {index : Nat} (hG : GoodIn WS (va_wsS own index yX3_copy (Cond.code yX3_copy cX3_copy 3 none :: WS))) (hR : 0 + 1 ≤ R.frames ∧ 8 + (3 + 11) + 0 ≤ R.locals) (hf : ce ≤ R.cells ∧ sl ≤ R.slots) (hW : (st.map fun v => v.category).sum ≤ 8) (hdg : decode cc pc = .ok (.invokestatic index, 3)) (kk : ∀ y : ARR, y = sR M 2 (cpy55 (M 0) (M 2)) → Z p l e R s m args below meth c D A nL ce sl Q (wM kI o y) lv (pc + 3) st) : Z p l e R s m args below meth c D A nL ce sl Q (wM kI o M) lv pc (.ref (o 3) :: .ref (o 1) :: st) := by
  refine z_perm (w' := [(o 1, .inl (kI, 55, .inl (M 0))), (o 3, .inl (kI, 55, .inl (M 2)))] ++ [(o 0, .inr (3, [.ref (o 1), .ref (o 2), .ref (o 3), .ref (o 4), .int (M 7 4), .ref (o 5), .int (M 7 6), .ref (o 6), .int (M 7 8), .int (M 7 9), .ref (o 7), .int (M 7 11)])), (o 2, .inl (kI, 55, .inl (M 1))), (o 4, .inl (kI, 220, .inl (M 3))), (o 5, .inl (kI, 55, .inl (M 4))), (o 6, .inl (kI, 60, .inl (M 5))), (o 7, .inl (kI, 16, .inl (M 6)))]) [1, 3, 0, 2, 4, 5, 6, 7] (by decide) rfl rfl ?_
  refine z_callSv X (c_M_copy l D kI kC kQ (o 1) (o 3) (M 0) (M 2)) hG k_M_copy rfl rfl hR hf rfl rfl hW hdg (wl := []) (wr := [(o 0, .inr (3, [.ref (o 1), .ref (o 2), .ref (o 3), .ref (o 4), .int (M 7 4), .ref (o 5), .int (M 7 6), .ref (o 6), .int (M 7 8), .int (M 7 9), .ref (o 7), .int (M 7 11)])), (o 2, .inl (kI, 55, .inl (M 1))), (o 4, .inl (kI, 220, .inl (M 3))), (o 5, .inl (kI, 55, .inl (M 4))), (o 6, .inl (kI, 60, .inl (M 5))), (o 7, .inl (kI, 16, .inl (M 6)))]) rfl (fun u hu => ?_)
  subst hu
  refine z_perm (w' := wM kI o (sR M 2 (cpy55 (M 0) (M 2)))) [2, 0, 3, 1, 4, 5, 6, 7] (by decide) rfl rfl ?_
  exact kk _ rfl
set_option maxRecDepth 100000 in
theorem zM_cp_2_0 (X : CX p s m args meth c D (tysG kI kC kQ) A cc nL ret own) {index : Nat} (hG : GoodIn WS (va_wsS own index yX3_copy (Cond.code yX3_copy cX3_copy 3 none :: WS))) (hR : 0 + 1 ≤ R.frames ∧ 8 + (3 + 11) + 0 ≤ R.locals) (hf : ce ≤ R.cells ∧ sl ≤ R.slots) (hW : (st.map fun v => v.category).sum ≤ 8) (hdg : decode cc pc = .ok (.invokestatic index, 3)) (kk : ∀ y : ARR, y = sR M 0 (cpy55 (M 2) (M 0)) → Z p l e R s m args below meth c D A nL ce sl Q (wM kI o y) lv (pc + 3) st) : Z p l e R s m args below meth c D A nL ce sl Q (wM kI o M) lv pc (.ref (o 1) :: .ref (o 3) :: st) := by
  refine z_perm (w' := [(o 3, .inl (kI, 55, .inl (M 2))), (o 1, .inl (kI, 55, .inl (M 0)))] ++ [(o 0, .inr (3, [.ref (o 1), .ref (o 2), .ref (o 3), .ref (o 4), .int (M 7 4), .ref (o 5), .int (M 7 6), .ref (o 6), .int (M 7 8), .int (M 7 9), .ref (o 7), .int (M 7 11)])), (o 2, .inl (kI, 55, .inl (M 1))), (o 4, .inl (kI, 220, .inl (M 3))), (o 5, .inl (kI, 55, .inl (M 4))), (o 6, .inl (kI, 60, .inl (M 5))), (o 7, .inl (kI, 16, .inl (M 6)))]) [3, 1, 0, 2, 4, 5, 6, 7] (by decide) rfl rfl ?_
  refine z_callSv X (c_M_copy l D kI kC kQ (o 3) (o 1) (M 2) (M 0)) hG k_M_copy rfl rfl hR hf rfl rfl hW hdg (wl := []) (wr := [(o 0, .inr (3, [.ref (o 1), .ref (o 2), .ref (o 3), .ref (o 4), .int (M 7 4), .ref (o 5), .int (M 7 6), .ref (o 6), .int (M 7 8), .int (M 7 9), .ref (o 7), .int (M 7 11)])), (o 2, .inl (kI, 55, .inl (M 1))), (o 4, .inl (kI, 220, .inl (M 3))), (o 5, .inl (kI, 55, .inl (M 4))), (o 6, .inl (kI, 60, .inl (M 5))), (o 7, .inl (kI, 16, .inl (M 6)))]) rfl (fun u hu => ?_)
  subst hu
  refine z_perm (w' := wM kI o (sR M 0 (cpy55 (M 2) (M 0)))) [2, 1, 3, 0, 4, 5, 6, 7] (by decide) rfl rfl ?_
  exact kk _ rfl
end
end
section
def F_M_in (a1 : Int64) (a2 : Int64) (a3 : Int64) : Int32 :=
  let j_18 : Int32 :=
    if (lg_cmp a1 a2) < (0 : Int32) then
      (0 : Int32)
    else
      if (0 : Int32) < (lg_cmp a1 a3) then
        (0 : Int32)
      else
        (1 : Int32)
  j_18
def F_M_remember (M : ARR) : ARR :=
  let M_8 : ARR := sR M 1 (cpy55 (M 0) (M 1))
  M_8
def L_M_acted_10 : Nat → Int32 → ARR → ARR
  | 0, x2_10, M_10 => M_10
  | n + 1, x2_10, M_10 =>
    if (165 : Int32) ≤ x2_10 then
      M_10
    else
      let M_31 : ARR := sA M_10 3 (x2_10.toNatClampNeg) (M_10 3 ((x2_10 + (55 : Int32)).toNatClampNeg))
      let v_32 : Int32 := x2_10 + (1 : Int32)
      L_M_acted_10 n v_32 M_31

def L_M_acted_50 : Nat → Int32 → ARR → ARR
  | 0, x2_50, M_50 => M_50
  | n + 1, x2_50, M_50 =>
    if (55 : Int32) ≤ x2_50 then
      M_50
    else
      let M_75 : ARR := sA M_50 3 ((((55 : Int32) * (M_50 7 4)) + x2_50).toNatClampNeg) (M_50 1 (x2_50.toNatClampNeg))
      let v_76 : Int32 := x2_50 + (1 : Int32)
      L_M_acted_50 n v_76 M_75

def F_M_acted (M : ARR) (a1 : Int32) : Int32 × ARR :=
  let j_48 : ARR :=
    if (M 7 4) = (4 : Int32) then
      let q_10 : ARR := L_M_acted_10 166 (0 : Int32) M
      let M_45 : ARR := sA q_10 7 4 ((q_10 7 4) - (1 : Int32))
      M_45
    else
      M
  let q_50 : ARR := L_M_acted_50 56 (0 : Int32) j_48
  let M_89 : ARR := sA q_50 7 4 ((q_50 7 4) + (1 : Int32))
  (a1, M_89)
def F_M_isPath (M : ARR) (a1 : Int32) : Int32 :=
  let r_13 : Int32 := (F_M_in (a1.toInt64) (0 : Int64) ((((M 0 51)).toInt64) - (1 : Int64)))
  r_13
def F_M_has (a1 : Int32) (a2 : Int32) : Int32 :=
  let j_14 : Int32 :=
    if ((a1 >>> (a2 &&& 31)) &&& (1 : Int32)) = (1 : Int32) then
      (1 : Int32)
    else
      (0 : Int32)
  j_14
def F_M_delayWith (M : ARR) (a1 : Int32) (a2 : Int32) (a3 : Int32) : Int32 :=
  (((((M 0 (((0 : Int32) + a1).toNatClampNeg)) * (1000 : Int32)) / (a2 - (300 : Int32))) * ((900 : Int32) + (a3 * (5 : Int32)))) / (1000 : Int32))
def F_M_stateWith (M : ARR) (a1 : Int32) (a2 : Int32) : Int32 :=
  let r_10 : Int32 := (F_M_delayWith M a1 a2 (M 0 40))
  let j_53 : Int32 :=
    if (M 0 32) < r_10 then
      if ((M 0 32) + (M 0 33)) < r_10 then
        (2 : Int32)
      else
        (1 : Int32)
    else
      (0 : Int32)
  j_53
def L_M_worstOf_4 (M : ARR) (a1 : Int32) : Nat → Int32 → Int32 → Int32
  | 0, x2_4, x3_4 => x2_4
  | n + 1, x2_4, x3_4 =>
    if (M 0 51) ≤ x3_4 then
      x2_4
    else
      let r_17 : Int32 := (F_M_has a1 x3_4)
      let j_39 : Int32 :=
        if r_17 = (0 : Int32) then
          (0 : Int32)
        else
          let r_32 : Int32 := (F_M_stateWith M x3_4 (M 0 39))
          r_32
      let j_53 : Int32 :=
        if j_39 ≤ x2_4 then
          x2_4
        else
          j_39
      let v_54 : Int32 := x3_4 + (1 : Int32)
      L_M_worstOf_4 M a1 n j_53 v_54

def F_M_worstOf (M : ARR) (a1 : Int32) : Int32 :=
  let q_4 : Int32 := L_M_worstOf_4 M a1 9 (0 : Int32) (0 : Int32)
  q_4
def L_M_many_4 : Nat → Int32 → Int32 → Int32
  | 0, x1_4, x2_4 => x1_4
  | n + 1, x1_4, x2_4 =>
    if x2_4 = (0 : Int32) then
      x1_4
    else
      let v_8 : Int32 := x1_4 + (1 : Int32)
      let v_16 : Int32 := (x2_4 &&& (x2_4 - (1 : Int32)))
      L_M_many_4 n v_8 v_16

def F_M_many (a1 : Int32) : Int32 :=
  let q_4 : Int32 := L_M_many_4 257 (0 : Int32) a1
  q_4
def F_M_spends (M : ARR) (a1 : Int32) : ARR :=
  let v_27 : Int32 := ((M 0 54) + (((M 0 39) * (M 0 39)) / (10000 : Int32)))
  let M_42 : ARR := sA M 0 46 ((M 0 46) + (v_27 / (1000 : Int32)))
  let M_54 : ARR := sA M_42 0 54 (v_27 - v_27 / (1000 : Int32) * (1000 : Int32))
  let M_65 : ARR := sA M_54 0 42 ((M_54 0 42) + (1 : Int32))
  let M_82 : ARR := sA M_65 0 47 ((M_65 0 47) + (M_65 0 41))
  let v_98 : Int32 := ((20 : Int32) + ((a1 * (M_82 0 39)) / (100 : Int32)))
  let j_111 : Int32 :=
    if v_98 ≤ (120 : Int32) then
      v_98
    else
      (120 : Int32)
  let j_165 : ARR :=
    if ((M_82 0 42) - (M_82 0 42) / (4 : Int32) * (4 : Int32)) = (0 : Int32) then
      let j_163 : Int32 :=
        if j_111 ≤ (M_82 0 40) then
          if (M_82 0 40) ≤ j_111 then
            (0 : Int32)
          else
            (-1 : Int32)
        else
          (1 : Int32)
      let M_164 : ARR := sA M_82 0 40 ((M_82 0 40) + j_163)
      M_164
    else
      M_82
  j_165
def F_M_looks (M : ARR) : ARR :=
  let v_15 : Int32 := ((M 0 48) - (M 0 36))
  let j_108 : ARR :=
    if (0 : Int32) ≤ v_15 then
      if v_15 ≤ (0 : Int32) then
        M
      else
        let j_77 : Int32 :=
          if (M 0 38) ≤ v_15 then
            (M 0 38)
          else
            v_15
        let M_96 : ARR := sA M 0 39 ((M 0 39) + (j_77 * (M 0 37)))
        let M_107 : ARR := sA M_96 0 52 ((M_96 0 52) + j_77)
        M_107
    else
      let M_36 : ARR := sA M 0 39 ((M 0 39) - (M 0 37))
      let M_47 : ARR := sA M_36 0 53 ((M_36 0 53) + (1 : Int32))
      M_47
  let j_159 : Int32 :=
    if (500 : Int32) ≤ (j_108 0 39) then
      if (j_108 0 39) ≤ (1200 : Int32) then
        (j_108 0 39)
      else
        (1200 : Int32)
    else
      (500 : Int32)
  let M_159 : ARR := sA j_108 0 39 j_159
  let M_167 : ARR := sA M_159 0 47 (0 : Int32)
  let M_175 : ARR := sA M_167 0 48 (0 : Int32)
  M_175
def L_M_cycles_48 (v_15 : Int32) : Nat → Int32 → ARR → ARR
  | 0, x3_48, M_48 => M_48
  | n + 1, x3_48, M_48 =>
    if (M_48 0 51) ≤ x3_48 then
      M_48
    else
      let v_67 : Int32 := ((8 : Int32) + x3_48)
      let r_71 : Int32 := (F_M_has v_15 x3_48)
      let j_82 : Int32 :=
        if r_71 = (0 : Int32) then
          (0 : Int32)
        else
          (1 : Int32)
      let M_83 : ARR := sA M_48 0 (v_67.toNatClampNeg) ((M_48 0 (v_67.toNatClampNeg)) + j_82)
      let v_84 : Int32 := x3_48 + (1 : Int32)
      L_M_cycles_48 v_15 n v_84 M_83

def L_M_cycles_163 : Nat → Int32 → ARR → ARR
  | 0, x3_163, M_163 => M_163
  | n + 1, x3_163, M_163 =>
    if (M_163 0 34) ≤ x3_163 then
      M_163
    else
      let r_176 : ARR := (F_M_spends M_163 (0 : Int32))
      let v_179 : Int32 := x3_163 + (1 : Int32)
      L_M_cycles_163 n v_179 r_176

def F_M_cycles (M : ARR) : ARR :=
  let v_15 : Int32 := (M 0 (((16 : Int32) + (M 0 50)).toNatClampNeg))
  let r_18 : Int32 := (F_M_worstOf M v_15)
  let M_45 : ARR := sA M 0 50 (((M 0 50) + (1 : Int32)) - ((M 0 50) + (1 : Int32)) / (M 0 49) * (M 0 49))
  let q_48 : ARR := L_M_cycles_48 v_15 9 (0 : Int32) M_45
  let r_92 : Int32 := (F_M_many v_15)
  let r_95 : ARR := (F_M_spends q_48 r_92)
  let j_128 : ARR :=
    if r_18 = (2 : Int32) then
      let M_113 : ARR := sA r_95 0 45 ((r_95 0 45) + (1 : Int32))
      M_113
    else
      let M_127 : ARR := sA r_95 0 43 ((r_95 0 43) + (1 : Int32))
      M_127
  let j_185 : ARR :=
    if r_18 = (1 : Int32) then
      let M_143 : ARR := sA j_128 0 44 ((j_128 0 44) + (1 : Int32))
      let M_160 : ARR := sA M_143 0 48 ((M_143 0 48) + (M_143 0 41))
      let q_163 : ARR := L_M_cycles_163 21 (0 : Int32) M_160
      q_163
    else
      j_128
  let j_217 : ARR :=
    if (j_185 0 41) = (1 : Int32) then
      if (j_185 0 47) < (j_185 0 35) then
        j_185
      else
        let r_214 : ARR := (F_M_looks j_185)
        r_214
    else
      j_185
  j_217
def F_M_isLength (a1 : Int32) : Int32 :=
  let r_8 : Int32 := (F_M_in (a1.toInt64) (10 : Int64) (400 : Int64))
  r_8
def F_M_addPath (M : ARR) (a1 : Int32) : Int32 × ARR :=
  let r_1 : Int32 := (F_M_isLength a1)
  if r_1 = (0 : Int32) then
    ((-2 : Int32), M)
  else
    if (M 0 51) = (8 : Int32) then
      ((-3 : Int32), M)
    else
      let r_26 : ARR := (F_M_remember M)
      let M_43 : ARR := sA r_26 0 (((0 : Int32) + (r_26 0 51)).toNatClampNeg) a1
      let M_54 : ARR := sA M_43 0 51 ((M_43 0 51) + (1 : Int32))
      let r_65 : Int32 × ARR := (F_M_acted M_54 ((M_54 0 51) - (1 : Int32)))
      (r_65.1, r_65.2)
def F_M_sets (M : ARR) (a1 : Int32) (a2 : Int32) : Int32 × ARR :=
  let v_6 : Int32 := (M 0 (a1.toNatClampNeg))
  if v_6 = a2 then
    ((-5 : Int32), M)
  else
    let r_16 : ARR := (F_M_remember M)
    let M_25 : ARR := sA r_16 0 (a1.toNatClampNeg) a2
    let r_28 : Int32 × ARR := (F_M_acted M_25 v_6)
    (r_28.1, r_28.2)
def F_M_setLength (M : ARR) (a1 : Int32) (a2 : Int32) : Int32 × ARR :=
  let r_2 : Int32 := (F_M_isPath M a1)
  if r_2 = (0 : Int32) then
    ((-1 : Int32), M)
  else
    let r_11 : Int32 := (F_M_isLength a2)
    let j_30 : Int32 × ARR :=
      if r_11 = (0 : Int32) then
        ((-2 : Int32), M)
      else
        let r_22 : Int32 × ARR := (F_M_sets M ((0 : Int32) + a1) a2)
        (r_22.1, r_22.2)
    (j_30.1, j_30.2)
def L_M_begins_18 : Nat → Int32 → ARR → ARR
  | 0, x2_18, M_18 => M_18
  | n + 1, x2_18, M_18 =>
    if (16 : Int32) ≤ x2_18 then
      M_18
    else
      let M_33 : ARR := sA M_18 0 (((16 : Int32) + x2_18).toNatClampNeg) (0 : Int32)
      let v_34 : Int32 := x2_18 + (1 : Int32)
      L_M_begins_18 n v_34 M_33

def F_M_begins (M : ARR) (a1 : Int32) : ARR :=
  let M_7 : ARR := sA M 0 49 a1
  let M_15 : ARR := sA M_7 0 50 (0 : Int32)
  let q_18 : ARR := L_M_begins_18 17 a1 M_15
  q_18
def L_M_layWorkload_39 (a1 : Int32) : Nat → Int32 → Int32 → Int32 → ARR → Int32 × ARR
  | 0, x3_39, x4_39, x5_39, M_39 => (x4_39, M_39)
  | n + 1, x3_39, x4_39, x5_39, M_39 =>
    if a1 ≤ x5_39 then
      (x4_39, M_39)
    else
      let v_58 : Int32 := ((((421 : Int32) * x3_39) + (1663 : Int32)) - (((421 : Int32) * x3_39) + (1663 : Int32)) / (10000 : Int32) * (10000 : Int32))
      let M_82 : ARR := sA M_39 0 (((16 : Int32) + x5_39).toNatClampNeg) ((v_58 / (16 : Int32)) - (v_58 / (16 : Int32)) / ((1 : Int32) <<< ((M_39 0 51) &&& 31)) * ((1 : Int32) <<< ((M_39 0 51) &&& 31)))
      let r_95 : Int32 := (F_M_many (M_82 0 (((16 : Int32) + x5_39).toNatClampNeg)))
      let v_99 : Int32 := (x4_39 + r_95)
      let v_101 : Int32 := x5_39 + (1 : Int32)
      L_M_layWorkload_39 a1 n v_58 v_99 v_101 M_82

def F_M_layWorkload (M : ARR) (a1 : Int32) (a2 : Int32) : Int32 × ARR :=
  let r_6 : Int32 := (F_M_in (a1.toInt64) (1 : Int64) (16 : Int64))
  if r_6 = (0 : Int32) then
    ((-2 : Int32), M)
  else
    let r_18 : Int32 := (F_M_in (a2.toInt64) (0 : Int64) (9999 : Int64))
    if r_18 = (0 : Int32) then
      ((-2 : Int32), M)
    else
      let r_28 : ARR := (F_M_remember M)
      let q_39 : Int32 × ARR := L_M_layWorkload_39 a1 17 a2 (0 : Int32) (0 : Int32) r_28
      let r_109 : ARR := (F_M_begins q_39.2 a1)
      let r_115 : Int32 × ARR := (F_M_acted r_109 q_39.1)
      (r_115.1, r_115.2)
def F_M_type (M : ARR) (a1 : Int32) : Int32 × ARR :=
  if (M 7 8) = (60 : Int32) then
    ((-3 : Int32), M)
  else
    let M_21 : ARR := sA M 5 ((M 7 8).toNatClampNeg) a1
    let M_29 : ARR := sA M_21 7 8 ((M_21 7 8) + (1 : Int32))
    ((M_29 7 8), M_29)
def F_M_clearText (M : ARR) : Int32 × ARR :=
  let M_7 : ARR := sA M 7 8 (0 : Int32)
  ((M 7 8), M_7)
def F_M_isHere (M : ARR) (a1 : Int32) (a2 : Int32) : Int32 :=
  let j_36 : Int32 :=
    if (M 7 8) ≤ (M 7 9) then
      (0 : Int32)
    else
      let r_25 : Int32 := (F_M_in (((M 5 ((M 7 9).toNatClampNeg))).toInt64) (a1.toInt64) (a2.toInt64))
      if r_25 = (0 : Int32) then
        (0 : Int32)
      else
        (1 : Int32)
  j_36
def F_M_takes (M : ARR) (a1 : Int32) : Int32 × ARR :=
  let r_3 : Int32 := (F_M_isHere M a1 a1)
  let j_21 : Int32 :=
    if r_3 = (0 : Int32) then
      (0 : Int32)
    else
      (1 : Int32)
  let M_22 : ARR := sA M 7 9 ((M 7 9) + j_21)
  (r_3, M_22)
def L_M_readsSet_27 : Nat → Int32 → Int32 → ARR → Int32 × ARR
  | 0, x1_27, x2_27, M_27 => (x1_27, M_27)
  | n + 1, x1_27, x2_27, M_27 =>
    let r_33 : Int32 := (F_M_isHere M_27 (x2_27 + (1 : Int32)) (55 : Int32))
    if r_33 = (0 : Int32) then
      (x1_27, M_27)
    else
      let v_48 : Int32 := (M_27 5 ((M_27 7 9).toNatClampNeg))
      let v_57 : Int32 := (x1_27 ||| ((1 : Int32) <<< ((v_48 - (48 : Int32)) &&& 31)))
      let M_65 : ARR := sA M_27 7 9 ((M_27 7 9) + (1 : Int32))
      L_M_readsSet_27 n v_57 v_48 M_65

def F_M_readsSet (M : ARR) : Int32 × ARR :=
  let r_5 : Int32 × ARR := (F_M_takes M (45 : Int32))
  if r_5.1 = (0 : Int32) then
    let r_16 : Int32 := (F_M_isHere r_5.2 (48 : Int32) (55 : Int32))
    if r_16 = (0 : Int32) then
      ((0 : Int32), r_5.2)
    else
      let q_27 : Int32 × ARR := L_M_readsSet_27 61 (0 : Int32) (47 : Int32) r_5.2
      let M_80 : ARR := sA q_27.2 6 ((q_27.2 7 11).toNatClampNeg) q_27.1
      let M_88 : ARR := sA M_80 7 11 ((M_80 7 11) + (1 : Int32))
      ((1 : Int32), M_88)
  else
    let M_80 : ARR := sA r_5.2 6 ((r_5.2 7 11).toNatClampNeg) (0 : Int32)
    let M_88 : ARR := sA M_80 7 11 ((M_80 7 11) + (1 : Int32))
    ((1 : Int32), M_88)
def L_M_fault_12 : Nat → Int32 → ARR → Int32 × ARR
  | 0, x1_12, M_12 => (0, M_12)
  | n + 1, x1_12, M_12 =>
    if x1_12 = (0 : Int32) then
      let j_75 : Int32 :=
        if (M_12 7 9) = (M_12 7 8) then
          (-5 : Int32)
        else
          (M_12 7 9)
      (j_75, M_12)
    else
      let r_17 : Int32 × ARR := (F_M_readsSet M_12)
      if r_17.1 = (0 : Int32) then
        ((r_17.2 7 9), r_17.2)
      else
        let j_51 : Int32 × ARR :=
          if (16 : Int32) ≤ (r_17.2 7 11) then
            ((0 : Int32), r_17.2)
          else
            let r_40 : Int32 × ARR := (F_M_takes r_17.2 (44 : Int32))
            if r_40.1 = (0 : Int32) then
              ((0 : Int32), r_40.2)
            else
              ((1 : Int32), r_40.2)
        L_M_fault_12 n j_51.1 j_51.2

def F_M_fault (M : ARR) : Int32 × ARR :=
  let M_2 : ARR := sA M 7 9 (0 : Int32)
  let M_7 : ARR := sA M_2 7 11 (0 : Int32)
  L_M_fault_12 17 (1 : Int32) M_7
def L_M_takeWorkload_58 : Nat → Int32 → ARR → ARR
  | 0, x2_58, M_58 => M_58
  | n + 1, x2_58, M_58 =>
    if (M_58 7 11) ≤ x2_58 then
      M_58
    else
      let M_80 : ARR := sA M_58 0 (((16 : Int32) + x2_58).toNatClampNeg) (M_58 6 (x2_58.toNatClampNeg))
      let v_81 : Int32 := x2_58 + (1 : Int32)
      L_M_takeWorkload_58 n v_81 M_80

def L_M_takeWorkload_18 (r_1 : Int32 × ARR) : Nat → Int32 → Int32 × ARR
  | 0, x2_18 => (0, r_1.2)
  | n + 1, x2_18 =>
    if (r_1.2 7 11) ≤ x2_18 then
      let r_53 : ARR := (F_M_remember r_1.2)
      let q_58 : ARR := L_M_takeWorkload_58 17 (0 : Int32) r_53
      let r_92 : ARR := (F_M_begins q_58 (q_58 7 11))
      let r_100 : Int32 × ARR := (F_M_acted r_92 (r_92 7 11))
      (r_100.1, r_100.2)
    else
      if (r_1.2 6 (x2_18.toNatClampNeg)) < ((1 : Int32) <<< ((r_1.2 0 51) &&& 31)) then
        let v_46 : Int32 := x2_18 + (1 : Int32)
        L_M_takeWorkload_18 r_1 n v_46
      else
        ((-1 : Int32), r_1.2)

def F_M_takeWorkload (M : ARR) : Int32 × ARR :=
  let r_1 : Int32 × ARR := (F_M_fault M)
  if r_1.1 = (-5 : Int32) then
    L_M_takeWorkload_18 r_1 17 (0 : Int32)
  else
    (((-100 : Int32) - r_1.1), r_1.2)
def F_M_isVoltage (a1 : Int32) : Int32 :=
  let r_8 : Int32 := (F_M_in (a1.toInt64) (500 : Int64) (1200 : Int64))
  r_8
def F_M_setVoltage (M : ARR) (a1 : Int32) : Int32 × ARR :=
  let r_1 : Int32 := (F_M_isVoltage a1)
  let j_19 : Int32 × ARR :=
    if r_1 = (0 : Int32) then
      ((-2 : Int32), M)
    else
      let r_11 : Int32 × ARR := (F_M_sets M (39 : Int32) a1)
      (r_11.1, r_11.2)
  (j_19.1, j_19.2)
def F_M_govern (M : ARR) (a1 : Int32) : Int32 × ARR :=
  let j_9 : Int32 :=
    if a1 = (0 : Int32) then
      (0 : Int32)
    else
      (1 : Int32)
  if (M 0 41) = j_9 then
    ((-5 : Int32), M)
  else
    let r_25 : ARR := (F_M_remember M)
    let M_35 : ARR := sA r_25 0 41 j_9
    let M_43 : ARR := sA M_35 0 47 (0 : Int32)
    let M_51 : ARR := sA M_43 0 48 (0 : Int32)
    let r_60 : Int32 × ARR := (F_M_acted M_51 (M_51 0 39))
    (r_60.1, r_60.2)
def F_M_isSetting (a1 : Int32) (a2 : Int32) : Int32 :=
  if a1 = (0 : Int32) then
    let r_48 : Int32 := (F_M_in (a2.toInt64) (50 : Int64) (1000 : Int64))
    r_48
  else
  if a1 = (1 : Int32) then
    let r_58 : Int32 := (F_M_in (a2.toInt64) (0 : Int64) (200 : Int64))
    r_58
  else
  if a1 = (2 : Int32) then
    let r_68 : Int32 := (F_M_in (a2.toInt64) (1 : Int64) (20 : Int64))
    r_68
  else
  if a1 = (3 : Int32) then
    let r_80 : Int32 := (F_M_in (a2.toInt64) (10 : Int64) (500 : Int64))
    r_80
  else
  if a1 = (4 : Int32) then
    let r_90 : Int32 := (F_M_in (a2.toInt64) (0 : Int64) (100 : Int64))
    r_90
  else
  if a1 = (5 : Int32) then
    let r_100 : Int32 := (F_M_in (a2.toInt64) (1 : Int64) (50 : Int64))
    r_100
  else
    let j_127 : Int32 :=
      if a1 = (6 : Int32) then
        let r_116 : Int32 := (F_M_in (a2.toInt64) (1 : Int64) (10 : Int64))
        if r_116 = (0 : Int32) then
          (0 : Int32)
        else
          (1 : Int32)
      else
        (0 : Int32)
    j_127
def F_M_set (M : ARR) (a1 : Int32) (a2 : Int32) : Int32 × ARR :=
  let r_2 : Int32 := (F_M_isSetting a1 a2)
  let j_22 : Int32 × ARR :=
    if r_2 = (0 : Int32) then
      ((-2 : Int32), M)
    else
      let r_14 : Int32 × ARR := (F_M_sets M ((32 : Int32) + a1) a2)
      (r_14.1, r_14.2)
  (j_22.1, j_22.2)
def L_M_run_21 (a1 : Int32) : Nat → Int32 → ARR → ARR
  | 0, x2_21, M_21 => M_21
  | n + 1, x2_21, M_21 =>
    if a1 ≤ x2_21 then
      M_21
    else
      let r_27 : ARR := (F_M_cycles M_21)
      let v_30 : Int32 := x2_21 + (1 : Int32)
      L_M_run_21 a1 n v_30 r_27

def F_M_run (M : ARR) (a1 : Int32) : Int32 × ARR :=
  let r_6 : Int32 := (F_M_in (a1.toInt64) (1 : Int64) (2000 : Int64))
  if r_6 = (0 : Int32) then
    ((-2 : Int32), M)
  else
    let r_16 : ARR := (F_M_remember M)
    let q_21 : ARR := L_M_run_21 a1 2001 (0 : Int32) r_16
    let r_52 : Int32 × ARR := (F_M_acted q_21 ((q_21 0 44) - (q_21 1 44)))
    (r_52.1, r_52.2)
def L_M_undo_22 : Nat → Int32 → ARR → ARR
  | 0, x1_22, M_22 => M_22
  | n + 1, x1_22, M_22 =>
    if (55 : Int32) ≤ x1_22 then
      M_22
    else
      let M_47 : ARR := sA M_22 0 (x1_22.toNatClampNeg) (M_22 3 ((((55 : Int32) * (M_22 7 4)) + x1_22).toNatClampNeg))
      let v_48 : Int32 := x1_22 + (1 : Int32)
      L_M_undo_22 n v_48 M_47

def F_M_undo (M : ARR) : Int32 × ARR :=
  if (M 7 4) = (0 : Int32) then
    ((-5 : Int32), M)
  else
    let M_17 : ARR := sA M 7 4 ((M 7 4) - (1 : Int32))
    let q_22 : ARR := L_M_undo_22 56 (0 : Int32) M_17
    ((q_22 7 4), q_22)
def F_M_keep (M : ARR) : Int32 × ARR :=
  let M_8 : ARR := sR M 4 (cpy55 (M 0) (M 4))
  let M_13 : ARR := sA M_8 7 6 (1 : Int32)
  ((M_13 0 39), M_13)
def F_M_restore (M : ARR) : Int32 × ARR :=
  if (M 7 6) = (0 : Int32) then
    ((-5 : Int32), M)
  else
    let r_11 : ARR := (F_M_remember M)
    let M_22 : ARR := sR r_11 0 (cpy55 (r_11 4) (r_11 0))
    let r_33 : Int32 × ARR := (F_M_acted M_22 (M_22 0 39))
    (r_33.1, r_33.2)
def L_M_setsWith_4 (M : ARR) (a1 : Int32) : Nat → Int32 → Int32 → Int32
  | 0, x2_4, x3_4 => x2_4
  | n + 1, x2_4, x3_4 =>
    if (M 0 49) ≤ x3_4 then
      x2_4
    else
      let r_26 : Int32 := (F_M_has (M 0 (((16 : Int32) + x3_4).toNatClampNeg)) a1)
      let j_37 : Int32 :=
        if r_26 = (0 : Int32) then
          (0 : Int32)
        else
          (1 : Int32)
      let v_38 : Int32 := (x2_4 + j_37)
      let v_39 : Int32 := x3_4 + (1 : Int32)
      L_M_setsWith_4 M a1 n v_38 v_39

def F_M_setsWith (M : ARR) (a1 : Int32) : Int32 :=
  let q_4 : Int32 := L_M_setsWith_4 M a1 17 (0 : Int32) (0 : Int32)
  q_4
def F_M_path (M : ARR) (a1 : Int32) (a2 : Int32) : Int32 :=
  let r_2 : Int32 := (F_M_isPath M a1)
  if r_2 = (0 : Int32) then
    (-1 : Int32)
  else
    if a2 = (0 : Int32) then
      (M 0 (((0 : Int32) + a1).toNatClampNeg))
    else
    if a2 = (1 : Int32) then
      let r_69 : Int32 := (F_M_delayWith M a1 (M 0 39) (M 0 40))
      r_69
    else
    if a2 = (2 : Int32) then
      let r_82 : Int32 := (F_M_stateWith M a1 (M 0 39))
      r_82
    else
    if a2 = (3 : Int32) then
      (M 0 (((8 : Int32) + a1).toNatClampNeg))
    else
    if a2 = (4 : Int32) then
      let r_98 : Int32 := (F_M_setsWith M a1)
      r_98
    else
      (-2 : Int32)
def F_M_delay (M : ARR) (a1 : Int32) (a2 : Int32) (a3 : Int32) : Int32 :=
  let r_2 : Int32 := (F_M_isPath M a1)
  if r_2 = (0 : Int32) then
    (-1 : Int32)
  else
    let r_11 : Int32 := (F_M_isVoltage a2)
    let j_43 : Int32 :=
      if r_11 = (0 : Int32) then
        (-2 : Int32)
      else
        let r_25 : Int32 := (F_M_in (a3.toInt64) (20 : Int64) (120 : Int64))
        if r_25 = (0 : Int32) then
          (-2 : Int32)
        else
          let r_35 : Int32 := (F_M_delayWith M a1 a2 a3)
          r_35
    j_43
def F_M_workload (M : ARR) (a1 : Int32) : Int32 :=
  if (0 : Int32) ≤ a1 then
    let j_32 : Int32 :=
      if (M 0 49) ≤ a1 then
        (-5 : Int32)
      else
        (M 0 (((16 : Int32) + a1).toNatClampNeg))
    j_32
  else
    (-2 : Int32)
def L_M_areWell_5 (M : ARR) (a1 : Int32) (a2 : Int32) : Nat → Int32 → Int32 → Int32
  | 0, x3_5, x4_5 => x3_5
  | n + 1, x3_5, x4_5 =>
    if (M 0 51) ≤ x4_5 then
      x3_5
    else
      let j_46 : Int32 :=
        if x3_5 = (0 : Int32) then
          (0 : Int32)
        else
          let r_24 : Int32 := (F_M_setsWith M x4_5)
          if r_24 = (0 : Int32) then
            (1 : Int32)
          else
            let r_34 : Int32 := (F_M_stateWith M x4_5 a1)
            if a2 < r_34 then
              (0 : Int32)
            else
              (1 : Int32)
      let v_47 : Int32 := x4_5 + (1 : Int32)
      L_M_areWell_5 M a1 a2 n j_46 v_47

def F_M_areWell (M : ARR) (a1 : Int32) (a2 : Int32) : Int32 :=
  let q_5 : Int32 := L_M_areWell_5 M a1 a2 9 (1 : Int32) (0 : Int32)
  q_5
def L_M_least_4 (M : ARR) (a1 : Int32) : Nat → Int32 → Int32
  | 0, x2_4 => 0
  | n + 1, x2_4 =>
    if (1200 : Int32) < x2_4 then
      (-5 : Int32)
    else
      let j_22 : Int32 :=
        if a1 = (0 : Int32) then
          (0 : Int32)
        else
          (1 : Int32)
      let r_22 : Int32 := (F_M_areWell M x2_4 j_22)
      if r_22 = (0 : Int32) then
        let v_30 : Int32 := x2_4 + (1 : Int32)
        L_M_least_4 M a1 n v_30
      else
        x2_4

def F_M_least (M : ARR) (a1 : Int32) : Int32 :=
  L_M_least_4 M a1 702 (500 : Int32)
def F_M_energySince (M : ARR) : Int32 :=
  (((((M 0 46) - (M 2 46)) * (1000 : Int32)) + (M 0 54)) - (M 2 54))
def L_M_brings_30 (a2 : Int32) : Nat → Int32 → ARR → ARR
  | 0, x4_30, M_30 => M_30
  | n + 1, x4_30, M_30 =>
    if a2 ≤ x4_30 then
      M_30
    else
      let r_37 : ARR := (F_M_cycles M_30)
      let v_40 : Int32 := x4_30 + (1 : Int32)
      L_M_brings_30 a2 n v_40 r_37

def F_M_brings (M : ARR) (a1 : Int32) (a2 : Int32) (a3 : Int32) : Int32 × ARR :=
  let M_8 : ARR := sR M 2 (cpy55 (M 0) (M 2))
  let M_18 : ARR := sA M_8 0 39 a1
  let M_26 : ARR := sA M_18 0 41 (0 : Int32)
  let q_30 : ARR := L_M_brings_30 a2 501 (0 : Int32) M_26
  let j_137 : Int32 :=
    if a3 = (0 : Int32) then
      ((q_30 0 44) - (q_30 2 44))
    else
      if a3 = (1 : Int32) then
        ((q_30 0 45) - (q_30 2 45))
      else
        if a3 = (2 : Int32) then
          let r_101 : Int32 := (F_M_energySince q_30)
          r_101
        else
          if a3 = (3 : Int32) then
            ((q_30 0 42) - (q_30 2 42))
          else
            (q_30 0 40)
  let M_147 : ARR := sR q_30 0 (cpy55 (q_30 2) (q_30 0))
  (j_137, M_147)
def F_M_would (M : ARR) (a1 : Int32) (a2 : Int32) (a3 : Int32) : Int32 × ARR :=
  let r_1 : Int32 := (F_M_isVoltage a1)
  let j_43 : Int32 × ARR :=
    if r_1 = (0 : Int32) then
      ((-2 : Int32), M)
    else
      let r_13 : Int32 := (F_M_in (a2.toInt64) (1 : Int64) (500 : Int64))
      if r_13 = (0 : Int32) then
        ((-2 : Int32), M)
      else
        let r_25 : Int32 := (F_M_in (a3.toInt64) (0 : Int64) (4 : Int64))
        if r_25 = (0 : Int32) then
          ((-2 : Int32), M)
        else
          let r_35 : Int32 × ARR := (F_M_brings M a1 a2 a3)
          (r_35.1, r_35.2)
  (j_43.1, j_43.2)
def L_M_best_25 (a1 : Int32) : Nat → Int32 → Int32 → Int32 → ARR → Int32 × ARR
  | 0, x2_25, x3_25, x4_25, M_25 => (x2_25, M_25)
  | n + 1, x2_25, x3_25, x4_25, M_25 =>
    if (1200 : Int32) < x4_25 then
      (x2_25, M_25)
    else
      let r_38 : Int32 × ARR := (F_M_brings M_25 x4_25 a1 (2 : Int32))
      let r_48 : Int32 × ARR := (F_M_brings r_38.2 x4_25 a1 (1 : Int32))
      let j_72 : Int32 × Int32 :=
        if r_48.1 = (0 : Int32) then
          if x2_25 = (-5 : Int32) then
            (x4_25, r_38.1)
          else
            if x3_25 ≤ r_38.1 then
              (x2_25, x3_25)
            else
              (x4_25, r_38.1)
        else
          (x2_25, x3_25)
      let v_72 : Int32 := x4_25 + (50 : Int32)
      L_M_best_25 a1 n j_72.1 j_72.2 v_72 r_48.2

def F_M_best (M : ARR) (a1 : Int32) : Int32 × ARR :=
  let r_6 : Int32 := (F_M_in (a1.toInt64) (1 : Int64) (200 : Int64))
  if r_6 = (0 : Int32) then
    ((-2 : Int32), M)
  else
    let q_25 : Int32 × ARR := L_M_best_25 a1 16 (-5 : Int32) (0 : Int32) (500 : Int32) M
    (q_25.1, q_25.2)
def L_M_pathsThat_4 (M : ARR) (a1 : Int32) : Nat → Int32 → Int32 → Int32
  | 0, x2_4, x3_4 => x2_4
  | n + 1, x2_4, x3_4 =>
    if (M 0 51) ≤ x3_4 then
      x2_4
    else
      let r_25 : Int32 := (F_M_stateWith M x3_4 (M 0 39))
      let j_39 : Int32 :=
        if r_25 = a1 then
          ((1 : Int32) <<< (x3_4 &&& 31))
        else
          (0 : Int32)
      let v_40 : Int32 := (x2_4 ||| j_39)
      let v_41 : Int32 := x3_4 + (1 : Int32)
      L_M_pathsThat_4 M a1 n v_40 v_41

def F_M_pathsThat (M : ARR) (a1 : Int32) : Int32 :=
  let q_4 : Int32 := L_M_pathsThat_4 M a1 9 (0 : Int32) (0 : Int32)
  q_4
def F_M_count (M : ARR) (a1 : Int32) : Int32 :=
  let r_6 : Int32 := (F_M_in (a1.toInt64) (0 : Int64) (12 : Int64))
  if r_6 = (0 : Int32) then
    let r_30 : Int32 := (F_M_in (a1.toInt64) (17 : Int64) (23 : Int64))
    if r_30 = (0 : Int32) then
      if a1 = (13 : Int32) then
        let r_121 : Int32 := (F_M_pathsThat M (a1 - (12 : Int32)))
        r_121
      else
      if a1 = (14 : Int32) then
        let r_121 : Int32 := (F_M_pathsThat M (a1 - (12 : Int32)))
        r_121
      else
      if a1 = (15 : Int32) then
        (M 0 52)
      else
      if a1 = (16 : Int32) then
        (M 0 53)
      else
      if a1 = (24 : Int32) then
        (M 7 4)
      else
      if a1 = (25 : Int32) then
        (M 7 8)
      else
        (-2 : Int32)
    else
      (M 0 ((((32 : Int32) + a1) - (17 : Int32)).toNatClampNeg))
  else
    (M 0 (((39 : Int32) + a1).toNatClampNeg))
end
section
theorem cl_32 : (32 : Int32).toNatClampNeg = 32 := by decide +kernel
theorem cl_33 : (33 : Int32).toNatClampNeg = 33 := by decide +kernel
theorem cl_34 : (34 : Int32).toNatClampNeg = 34 := by decide +kernel
theorem cl_35 : (35 : Int32).toNatClampNeg = 35 := by decide +kernel
theorem cl_36 : (36 : Int32).toNatClampNeg = 36 := by decide +kernel
theorem cl_37 : (37 : Int32).toNatClampNeg = 37 := by decide +kernel
theorem cl_38 : (38 : Int32).toNatClampNeg = 38 := by decide +kernel
theorem cl_39 : (39 : Int32).toNatClampNeg = 39 := by decide +kernel
theorem cl_40 : (40 : Int32).toNatClampNeg = 40 := by decide +kernel
theorem cl_41 : (41 : Int32).toNatClampNeg = 41 := by decide +kernel
theorem cl_42 : (42 : Int32).toNatClampNeg = 42 := by decide +kernel
theorem cl_43 : (43 : Int32).toNatClampNeg = 43 := by decide +kernel
theorem cl_44 : (44 : Int32).toNatClampNeg = 44 := by decide +kernel
theorem cl_45 : (45 : Int32).toNatClampNeg = 45 := by decide +kernel
theorem cl_46 : (46 : Int32).toNatClampNeg = 46 := by decide +kernel
theorem cl_47 : (47 : Int32).toNatClampNeg = 47 := by decide +kernel
theorem cl_48 : (48 : Int32).toNatClampNeg = 48 := by decide +kernel
theorem cl_49 : (49 : Int32).toNatClampNeg = 49 := by decide +kernel
theorem cl_50 : (50 : Int32).toNatClampNeg = 50 := by decide +kernel
theorem cl_51 : (51 : Int32).toNatClampNeg = 51 := by decide +kernel
theorem cl_52 : (52 : Int32).toNatClampNeg = 52 := by decide +kernel
theorem cl_53 : (53 : Int32).toNatClampNeg = 53 := by decide +kernel
theorem cl_54 : (54 : Int32).toNatClampNeg = 54 := by decide +kernel
theorem vi_32_55 : vp_in (32 : Int32) 55 := vin_c (by decide +kernel)
theorem vi_33_55 : vp_in (33 : Int32) 55 := vin_c (by decide +kernel)
theorem vi_34_55 : vp_in (34 : Int32) 55 := vin_c (by decide +kernel)
theorem vi_35_55 : vp_in (35 : Int32) 55 := vin_c (by decide +kernel)
theorem vi_36_55 : vp_in (36 : Int32) 55 := vin_c (by decide +kernel)
theorem vi_37_55 : vp_in (37 : Int32) 55 := vin_c (by decide +kernel)
theorem vi_38_55 : vp_in (38 : Int32) 55 := vin_c (by decide +kernel)
theorem vi_39_55 : vp_in (39 : Int32) 55 := vin_c (by decide +kernel)
theorem vi_40_55 : vp_in (40 : Int32) 55 := vin_c (by decide +kernel)
theorem vi_41_55 : vp_in (41 : Int32) 55 := vin_c (by decide +kernel)
theorem vi_42_55 : vp_in (42 : Int32) 55 := vin_c (by decide +kernel)
theorem vi_43_55 : vp_in (43 : Int32) 55 := vin_c (by decide +kernel)
theorem vi_44_55 : vp_in (44 : Int32) 55 := vin_c (by decide +kernel)
theorem vi_45_55 : vp_in (45 : Int32) 55 := vin_c (by decide +kernel)
theorem vi_46_55 : vp_in (46 : Int32) 55 := vin_c (by decide +kernel)
theorem vi_47_55 : vp_in (47 : Int32) 55 := vin_c (by decide +kernel)
theorem vi_48_55 : vp_in (48 : Int32) 55 := vin_c (by decide +kernel)
theorem vi_49_55 : vp_in (49 : Int32) 55 := vin_c (by decide +kernel)
theorem vi_50_55 : vp_in (50 : Int32) 55 := vin_c (by decide +kernel)
theorem vi_51_55 : vp_in (51 : Int32) 55 := vin_c (by decide +kernel)
theorem vi_52_55 : vp_in (52 : Int32) 55 := vin_c (by decide +kernel)
theorem vi_53_55 : vp_in (53 : Int32) 55 := vin_c (by decide +kernel)
theorem vi_54_55 : vp_in (54 : Int32) 55 := vin_c (by decide +kernel)
theorem k_M_acted : yX3_acted.cls = "ShadowLatchesModel" ∧ yX3_acted.cls ≠ "java/lang/invoke/MethodHandle" ∧ yX3_acted.cls ≠ "java/lang/invoke/VarHandle" ∧ (parseMethodDescriptor yX3_acted.desc).map (fun d => d.parameters.length) = some 1 := by decide +kernel
theorem k_M_areWell : yX3_areWell.cls = "ShadowLatchesModel" ∧ yX3_areWell.cls ≠ "java/lang/invoke/MethodHandle" ∧ yX3_areWell.cls ≠ "java/lang/invoke/VarHandle" ∧ (parseMethodDescriptor yX3_areWell.desc).map (fun d => d.parameters.length) = some 2 := by decide +kernel
theorem k_M_begins : yX3_begins.cls = "ShadowLatchesModel" ∧ yX3_begins.cls ≠ "java/lang/invoke/MethodHandle" ∧ yX3_begins.cls ≠ "java/lang/invoke/VarHandle" ∧ (parseMethodDescriptor yX3_begins.desc).map (fun d => d.parameters.length) = some 1 := by decide +kernel
theorem k_M_brings : yX3_brings.cls = "ShadowLatchesModel" ∧ yX3_brings.cls ≠ "java/lang/invoke/MethodHandle" ∧ yX3_brings.cls ≠ "java/lang/invoke/VarHandle" ∧ (parseMethodDescriptor yX3_brings.desc).map (fun d => d.parameters.length) = some 3 := by decide +kernel
theorem k_M_cycles : yX3_cycles.cls = "ShadowLatchesModel" ∧ yX3_cycles.cls ≠ "java/lang/invoke/MethodHandle" ∧ yX3_cycles.cls ≠ "java/lang/invoke/VarHandle" ∧ (parseMethodDescriptor yX3_cycles.desc).map (fun d => d.parameters.length) = some 0 := by decide +kernel
theorem k_M_delayWith : yX3_delayWith.cls = "ShadowLatchesModel" ∧ yX3_delayWith.cls ≠ "java/lang/invoke/MethodHandle" ∧ yX3_delayWith.cls ≠ "java/lang/invoke/VarHandle" ∧ (parseMethodDescriptor yX3_delayWith.desc).map (fun d => d.parameters.length) = some 3 := by decide +kernel
theorem k_M_energySince : yX3_energySince.cls = "ShadowLatchesModel" ∧ yX3_energySince.cls ≠ "java/lang/invoke/MethodHandle" ∧ yX3_energySince.cls ≠ "java/lang/invoke/VarHandle" ∧ (parseMethodDescriptor yX3_energySince.desc).map (fun d => d.parameters.length) = some 1 := by decide +kernel
theorem k_M_fault : yX3_fault.cls = "ShadowLatchesModel" ∧ yX3_fault.cls ≠ "java/lang/invoke/MethodHandle" ∧ yX3_fault.cls ≠ "java/lang/invoke/VarHandle" ∧ (parseMethodDescriptor yX3_fault.desc).map (fun d => d.parameters.length) = some 0 := by decide +kernel
theorem k_M_has : yX3_has.cls ≠ "java/lang/invoke/MethodHandle" ∧ yX3_has.cls ≠ "java/lang/invoke/VarHandle" ∧ (parseMethodDescriptor yX3_has.desc).map (fun d => d.parameters.length) = some 2 := by decide +kernel
theorem k_M_in : yX3_in.cls ≠ "java/lang/invoke/MethodHandle" ∧ yX3_in.cls ≠ "java/lang/invoke/VarHandle" ∧ (parseMethodDescriptor yX3_in.desc).map (fun d => d.parameters.length) = some 3 := by decide +kernel
theorem k_M_isHere : yX3_isHere.cls = "ShadowLatchesModel" ∧ yX3_isHere.cls ≠ "java/lang/invoke/MethodHandle" ∧ yX3_isHere.cls ≠ "java/lang/invoke/VarHandle" ∧ (parseMethodDescriptor yX3_isHere.desc).map (fun d => d.parameters.length) = some 2 := by decide +kernel
theorem k_M_isLength : yX3_isLength.cls ≠ "java/lang/invoke/MethodHandle" ∧ yX3_isLength.cls ≠ "java/lang/invoke/VarHandle" ∧ (parseMethodDescriptor yX3_isLength.desc).map (fun d => d.parameters.length) = some 1 := by decide +kernel
theorem k_M_isPath : yX3_isPath.cls = "ShadowLatchesModel" ∧ yX3_isPath.cls ≠ "java/lang/invoke/MethodHandle" ∧ yX3_isPath.cls ≠ "java/lang/invoke/VarHandle" ∧ (parseMethodDescriptor yX3_isPath.desc).map (fun d => d.parameters.length) = some 1 := by decide +kernel
theorem k_M_isSetting : yX3_isSetting.cls ≠ "java/lang/invoke/MethodHandle" ∧ yX3_isSetting.cls ≠ "java/lang/invoke/VarHandle" ∧ (parseMethodDescriptor yX3_isSetting.desc).map (fun d => d.parameters.length) = some 2 := by decide +kernel
theorem k_M_isVoltage : yX3_isVoltage.cls ≠ "java/lang/invoke/MethodHandle" ∧ yX3_isVoltage.cls ≠ "java/lang/invoke/VarHandle" ∧ (parseMethodDescriptor yX3_isVoltage.desc).map (fun d => d.parameters.length) = some 1 := by decide +kernel
theorem k_M_looks : yX3_looks.cls = "ShadowLatchesModel" ∧ yX3_looks.cls ≠ "java/lang/invoke/MethodHandle" ∧ yX3_looks.cls ≠ "java/lang/invoke/VarHandle" ∧ (parseMethodDescriptor yX3_looks.desc).map (fun d => d.parameters.length) = some 0 := by decide +kernel
theorem k_M_many : yX3_many.cls ≠ "java/lang/invoke/MethodHandle" ∧ yX3_many.cls ≠ "java/lang/invoke/VarHandle" ∧ (parseMethodDescriptor yX3_many.desc).map (fun d => d.parameters.length) = some 1 := by decide +kernel
theorem k_M_pathsThat : yX3_pathsThat.cls = "ShadowLatchesModel" ∧ yX3_pathsThat.cls ≠ "java/lang/invoke/MethodHandle" ∧ yX3_pathsThat.cls ≠ "java/lang/invoke/VarHandle" ∧ (parseMethodDescriptor yX3_pathsThat.desc).map (fun d => d.parameters.length) = some 1 := by decide +kernel
theorem k_M_readsSet : yX3_readsSet.cls = "ShadowLatchesModel" ∧ yX3_readsSet.cls ≠ "java/lang/invoke/MethodHandle" ∧ yX3_readsSet.cls ≠ "java/lang/invoke/VarHandle" ∧ (parseMethodDescriptor yX3_readsSet.desc).map (fun d => d.parameters.length) = some 0 := by decide +kernel
theorem k_M_remember : yX3_remember.cls = "ShadowLatchesModel" ∧ yX3_remember.cls ≠ "java/lang/invoke/MethodHandle" ∧ yX3_remember.cls ≠ "java/lang/invoke/VarHandle" ∧ (parseMethodDescriptor yX3_remember.desc).map (fun d => d.parameters.length) = some 0 := by decide +kernel
theorem k_M_sets : yX3_sets.cls = "ShadowLatchesModel" ∧ yX3_sets.cls ≠ "java/lang/invoke/MethodHandle" ∧ yX3_sets.cls ≠ "java/lang/invoke/VarHandle" ∧ (parseMethodDescriptor yX3_sets.desc).map (fun d => d.parameters.length) = some 2 := by decide +kernel
theorem k_M_setsWith : yX3_setsWith.cls = "ShadowLatchesModel" ∧ yX3_setsWith.cls ≠ "java/lang/invoke/MethodHandle" ∧ yX3_setsWith.cls ≠ "java/lang/invoke/VarHandle" ∧ (parseMethodDescriptor yX3_setsWith.desc).map (fun d => d.parameters.length) = some 1 := by decide +kernel
theorem k_M_spends : yX3_spends.cls = "ShadowLatchesModel" ∧ yX3_spends.cls ≠ "java/lang/invoke/MethodHandle" ∧ yX3_spends.cls ≠ "java/lang/invoke/VarHandle" ∧ (parseMethodDescriptor yX3_spends.desc).map (fun d => d.parameters.length) = some 1 := by decide +kernel
theorem k_M_stateWith : yX3_stateWith.cls = "ShadowLatchesModel" ∧ yX3_stateWith.cls ≠ "java/lang/invoke/MethodHandle" ∧ yX3_stateWith.cls ≠ "java/lang/invoke/VarHandle" ∧ (parseMethodDescriptor yX3_stateWith.desc).map (fun d => d.parameters.length) = some 2 := by decide +kernel
theorem k_M_takes : yX3_takes.cls = "ShadowLatchesModel" ∧ yX3_takes.cls ≠ "java/lang/invoke/MethodHandle" ∧ yX3_takes.cls ≠ "java/lang/invoke/VarHandle" ∧ (parseMethodDescriptor yX3_takes.desc).map (fun d => d.parameters.length) = some 1 := by decide +kernel
theorem k_M_worstOf : yX3_worstOf.cls = "ShadowLatchesModel" ∧ yX3_worstOf.cls ≠ "java/lang/invoke/MethodHandle" ∧ yX3_worstOf.cls ≠ "java/lang/invoke/VarHandle" ∧ (parseMethodDescriptor yX3_worstOf.desc).map (fun d => d.parameters.length) = some 1 := by decide +kernel
end
section
/-! pure rows of the reference: what its small methods answer -/
theorem in_eq (a b c : Int64) : F_M_in a b c = if b ≤ a ∧ a ≤ c then 1 else 0 := by
  unfold F_M_in
  simp only [lg_cmp_lt, lg_cmp_gt]
  by_cases h1 : a < b
  · rw [if_pos h1, if_neg (fun h => absurd h.1 (Int64.not_le.mpr h1))]
  · rw [if_neg h1]
    by_cases h2 : c < a
    · rw [if_pos h2, if_neg (fun h => absurd h.2 (Int64.not_le.mpr h2))]
    · rw [if_neg h2, if_pos ⟨Int64.not_lt.mp h1, Int64.not_lt.mp h2⟩]
theorem bl_in (a b c : Int64) : F_M_in a b c = 0 ∨ F_M_in a b c = 1 := by
  rw [in_eq]
  split
  · exact Or.inr rfl
  · exact Or.inl rfl
theorem in_nI {x : Int32} {lo hi : Nat} (hh : hi < 2 ^ 31) (h1 : lN lo ≤ x.toInt64) (h2 : x.toInt64 ≤ lN hi) (hl : lo < 2 ^ 31) : bn lo hi x := by
  rw [Int64.le_iff_toInt_le, lN_toInt hl, Int32.toInt_toInt64] at h1
  rw [Int64.le_iff_toInt_le, lN_toInt hh, Int32.toInt_toInt64] at h2
  have h0 : ¬ x < 0 := fun q => by
    rw [Int32.lt_iff_toInt_lt] at q
    have : (0 : Int32).toInt = 0 := rfl
    omega
  obtain ⟨j, hj, rfl⟩ := nI_of h0
  rw [nI_toInt hj] at h1 h2
  exact ⟨j, by omega, by omega, rfl⟩
theorem in_bn (lo hi : Nat) (hh : lo < 2 ^ 31 ∧ hi < 2 ^ 31) {x r : Int32} (e : r = F_M_in x.toInt64 (lN lo) (lN hi)) (h : ¬ r = 0) : bn lo hi x := by
  rw [e, in_eq] at h
  by_cases q : lN lo ≤ x.toInt64 ∧ x.toInt64 ≤ lN hi
  · exact in_nI hh.2 q.1 q.2 hh.1
  · rw [if_neg q] at h
    exact absurd rfl h
theorem isPath_P {M : ARR} {a r : Int32} {P : Nat} (hP : M 0 51 = nI P) (h1 : 1 ≤ P) (h2 : P ≤ 8) (e : r = F_M_isPath M a) (h : ¬ r = 0) : ∃ k : Nat, k < P ∧ a = nI k := by
  have e2 : r = F_M_in a.toInt64 (lN 0) (lN (P - 1)) := by
    rw [e]
    unfold F_M_isPath
    show F_M_in a.toInt64 (lN 0) ((M 0 51).toInt64 - lN 1) = _
    rw [hP, nI_l (by omega), lN_sub h1]
  obtain ⟨k, _, h3, h4⟩ := in_bn 0 (P - 1) (by omega) e2 h
  exact ⟨k, by omega, h4⟩
theorem isPath_lt {M : ARR} {a r : Int32} (hp : bn 1 8 (M 0 51)) (e : r = F_M_isPath M a) (h : ¬ r = 0) : ∃ k : Nat, k < 8 ∧ a = nI k := by
  obtain ⟨P, h1, h2, hP⟩ := hp
  obtain ⟨k, h3, h4⟩ := isPath_P hP h1 h2 e h
  exact ⟨k, by omega, h4⟩
theorem bl_isPath (M : ARR) (a : Int32) : F_M_isPath M a = 0 ∨ F_M_isPath M a = 1 := bl_in _ _ _
theorem isSetting_lt {a b r : Int32} (e : r = F_M_isSetting a b) (h : ¬ r = 0) : ∃ k : Nat, k < 7 ∧ a = nI k := by
  rw [e] at h
  unfold F_M_isSetting at h
  by_cases h0 : a = 0
  · exact ⟨0, by omega, h0⟩
  by_cases h1 : a = 1
  · exact ⟨1, by omega, h1⟩
  by_cases h2 : a = 2
  · exact ⟨2, by omega, h2⟩
  by_cases h3 : a = 3
  · exact ⟨3, by omega, h3⟩
  by_cases h4 : a = 4
  · exact ⟨4, by omega, h4⟩
  by_cases h5 : a = 5
  · exact ⟨5, by omega, h5⟩
  by_cases h6 : a = 6
  · exact ⟨6, by omega, h6⟩
  simp only [if_neg h0, if_neg h1, if_neg h2, if_neg h3, if_neg h4, if_neg h5, if_neg h6] at h
  exact (h trivial).elim
theorem bl_ite {c : Prop} {h : Decidable c} {x y : Int32} (hx : x = 0 ∨ x = 1) (hy : y = 0 ∨ y = 1) : (ite c x y) = 0 ∨ (ite c x y) = 1 := by
  by_cases q : c
  · rw [if_pos q]; exact hx
  · rw [if_neg q]; exact hy
theorem bl_isSetting (a b : Int32) : F_M_isSetting a b = 0 ∨ F_M_isSetting a b = 1 := by
  unfold F_M_isSetting
  dsimp only
  repeat' first | exact bl_in _ _ _ | apply bl_ite | exact Or.inl rfl | exact Or.inr rfl
theorem bl_isHere (M : ARR) (a b : Int32) : F_M_isHere M a b = 0 ∨ F_M_isHere M a b = 1 := by
  unfold F_M_isHere
  dsimp only
  exact bl_ite (Or.inl rfl) (bl_ite (Or.inl rfl) (Or.inr rfl))
theorem bl_has (a b : Int32) : F_M_has a b = 0 ∨ F_M_has a b = 1 := by
  unfold F_M_has
  exact bl_ite (Or.inr rfl) (Or.inl rfl)
theorem rem_o (M : ARR) {i : Nat} (h : i ≠ 1) : F_M_remember M i = M i := sR_o _ _ _ h
theorem Lbegins_o : ∀ (n : Nat) (x : Int32) (M : ARR) {i : Nat}, i ≠ 0 → L_M_begins_18 n x M i = M i
  | 0, _, _, _, _ => rfl
  | n + 1, x, M, i, h => by
    simp only [L_M_begins_18]
    split
    · rfl
    · rw [Lbegins_o n _ _ h, sA_o _ _ _ _ h]
theorem begins_o (M : ARR) (a : Int32) {i : Nat} (h : i ≠ 0) : F_M_begins M a i = M i := by
  unfold F_M_begins
  show L_M_begins_18 17 a (sA (sA M 0 49 a) 0 50 0) i = M i
  rw [Lbegins_o _ _ _ h, sA_o _ _ _ _ h, sA_o _ _ _ _ h]
theorem kern8 : ∀ r : Nat, r < 256 → r = 0 ∨ ((nI r &&& (nI r - 1)).toNatClampNeg < r ∧ nI r &&& (nI r - 1) = nI (nI r &&& (nI r - 1)).toNatClampNeg) := by decide +kernel
theorem kern_b {n : Nat} {x v : Int32} (h : ∃ r : Nat, r < n + 1 ∧ r < 256 ∧ x = nI r) (hc : ¬ x = 0) (ev : v = x &&& (x - 1)) : ∃ r : Nat, r < n ∧ r < 256 ∧ v = nI r := by
  obtain ⟨r, h1, h2, rfl⟩ := h
  rcases kern8 r h2 with q | ⟨q1, q2⟩
  · subst q
    exact absurd nI_0 hc
  · exact ⟨_, Nat.lt_of_lt_of_le q1 (by omega), by omega, by rw [ev]; exact q2⟩
theorem sh8 : ∀ P : Nat, P < 9 → (1 : Int32) <<< (nI P &&& 31) = nI (2 ^ P) := by decide +kernel
theorem lay_v {x : Int32} (h : bn 0 9999 x) : bn 0 9999 ((((421 : Int32) * x) + (1663 : Int32)) - (((421 : Int32) * x) + (1663 : Int32)) / (10000 : Int32) * (10000 : Int32)) := by
  obtain ⟨k, _, h1, rfl⟩ := h
  have e : (421 : Int32) * nI k + (1663 : Int32) = nI (421 * k + 1663) := by
    rw [show (421 : Int32) * nI k = nI (421 * k) from pk_mul 421 k]
    exact nI_add (421 * k) 1663
  rw [e]
  have e2 := pk_rem (a := 421 * k + 1663) (d := 10000) (by omega) (by omega) (by omega)
  exact ⟨(421 * k + 1663) % 10000, Nat.zero_le _, by omega, e2⟩
theorem lay_ne {x : Int32} {N : Nat} (hN : N ≤ 16) (h : ∃ k : Nat, k < N ∧ x = nI k) : 51 ≠ ((16 : Int32) + x).toNatClampNeg := by
  obtain ⟨k, h1, rfl⟩ := h
  rw [show (16 : Int32) + nI k = nI (16 + k) from nI_add 16 k, nI_clamp (by omega)]
  omega
theorem pow8 {P : Nat} (h : P ≤ 8) : 2 ^ P ≤ 256 := Nat.le_trans (Nat.pow_le_pow_right (by omega) h) (by decide)
theorem lay_d {P : Nat} {y : Int32} (h : P ≤ 8) (hy : y = nI P) : ¬ ((1 : Int32) <<< (y &&& 31)) = 0 := by
  rw [hy, sh8 P (by omega)]
  have := pow8 h
  exact nI_ne0 (Nat.two_pow_pos P) (by omega)
theorem lay_s {P : Nat} {y v : Int32} (h1 : 1 ≤ P) (h : P ≤ 8) (hy : y = nI P) (hv : bn 0 9999 v) : bn 0 255 ((v / (16 : Int32)) - (v / (16 : Int32)) / ((1 : Int32) <<< (y &&& 31)) * ((1 : Int32) <<< (y &&& 31))) := by
  obtain ⟨k, _, h2, rfl⟩ := hv
  have e1 : nI k / (16 : Int32) = nI (k / 16) := pk_div (a := k) (d := 16) (by omega) (by omega) (by omega)
  have hp := pow8 h
  have h0 := Nat.two_pow_pos P
  rw [hy, sh8 P (by omega), e1, pk_rem (by omega) h0 (by omega)]
  have := Nat.mod_lt (k / 16) h0
  exact ⟨_, Nat.zero_le _, by omega, rfl⟩
theorem type_i {x : Int32} (h : bn 0 60 x) (hc : ¬ x = 60) : vp_in x 60 := by
  obtain ⟨k, _, h2, rfl⟩ := h
  refine vp_in_nI ?_ (by omega)
  rcases Nat.lt_or_ge k 60 with q | q
  · exact q
  · exact absurd (by rw [show k = 60 by omega]; rfl) hc
theorem here_i {t x : Int32} (ht : bn 0 60 t) (hs : bn 0 60 x) (hc : ¬ t ≤ x) : vp_in x 60 := by
  obtain ⟨k, _, h2, rfl⟩ := ht
  obtain ⟨j, _, h3, rfl⟩ := hs
  refine vp_in_nI ?_ (by omega)
  rcases Nat.lt_or_ge j k with q | q
  · omega
  · exact absurd (nI_le q (by omega)) hc
theorem bn_ne4 {x : Int32} (h : bn 0 4 x) (hc : ¬ x = 4) : bn 0 3 x := by
  obtain ⟨k, _, h2, rfl⟩ := h
  rcases Nat.lt_or_ge k 4 with q | q
  · exact ⟨k, by omega, by omega, rfl⟩
  · exact absurd (by rw [show k = 4 by omega]; rfl) hc
theorem vin_r (c : Nat) {B N : Nat} {x : Int32} (h : ∃ k : Nat, k < B ∧ x = nI k) (hN : c + B ≤ N) (h2 : N < 2 ^ 31) : vp_in (x + nI c) N := by
  obtain ⟨k, h1, rfl⟩ := h
  rw [nI_add]
  exact vp_in_nI (by omega) h2
theorem vin_h {x y : Int32} (hy : bn 0 3 y) (h : ∃ k : Nat, k < 55 ∧ x = nI k) : vp_in (((55 : Int32) * y) + x) 220 := by
  obtain ⟨k, h1, rfl⟩ := h
  obtain ⟨j, _, h3, rfl⟩ := hy
  rw [show (55 : Int32) * nI j = nI (55 * j) from pk_mul 55 j, nI_add]
  exact vp_in_nI (by omega) (by omega)
end
section
set_option maxRecDepth 100000 in
set_option maxHeartbeats 4000000 in
theorem c_M_in (l : Launch) (D : va_G) (kI kC kQ : ClassId) (a1 : Int64) (a2 : Int64) (a3 : Int64) : CtI (U := Int32) l yX3_in cX3_in 6 (some .boolean) { frames := 0, cells := 0, slots := 0, locals := 0 } D (tysG kI kC kQ) [] [.long a1, .long a2, .long a3] (fun u => u) (fun _ => []) (fun u => u = F_M_in a1 a2 a3) := by
  refine met_Zi (own := "ShadowLatchesModel") (by decide +kernel) rfl (Nat.le_of_ble_eq_true rfl) ?_
  intro p e s m args below meth c A Q X hQ
  show Z p l e { frames := 0, cells := 0, slots := 0, locals := 0 } s m args below meth c D A 6 0 0 Q [] [(0, .long a1), (2, .long a2), (4, .long a3)] 0 []
  refine z_lload_n X dX3_in_0 0 rfl ?_
  refine z_lload_n X dX3_in_1 1 rfl ?_
  refine z_lcmp X dX3_in_2 ?_
  have J_j_18 : ∀ j_18 : Int32, j_18 = (if (lg_cmp a1 a2) < (0 : Int32) then ((0 : Int32)) else (if (0 : Int32) < (lg_cmp a1 a3) then ((0 : Int32)) else ((1 : Int32)))) → Z p l e { frames := 0, cells := 0, slots := 0, locals := 0 } s m args below meth c D A 6 0 0 Q [] [] 18 [.int j_18] := by
    intro j_18 ej_18
    exact z_zret X hQ rfl j_18 rfl rfl (by subst ej_18; simp only [F_M_in]) (nb (by rw [ej_18]; (try dsimp only); repeat' first | exact bl_in _ _ _ | apply bl_ite | exact Or.inl rfl | exact Or.inr rfl)) dX3_in_18
  refine z_if_lt (tgt := 17) X dX3_in_3 (by decide) (fun c_3 => ?_) (fun c_3 => ?_)
  · refine z_iconst (v := (0 : Int32)) X dX3_in_17 (by decide) ?_
    refine z_lv (lv' := []) [] rfl ?_
    exact J_j_18 (0 : Int32) (by simp only [if_pos c_3])
  · refine z_lload_n X dX3_in_6 0 rfl ?_
    refine z_lload X dX3_in_7 2 rfl ?_
    refine z_lcmp X dX3_in_9 ?_
    refine z_if_gt (tgt := 17) X dX3_in_10 (by decide) (fun c_10 => ?_) (fun c_10 => ?_)
    · refine z_iconst (v := (0 : Int32)) X dX3_in_17 (by decide) ?_
      refine z_lv (lv' := []) [] rfl ?_
      exact J_j_18 (0 : Int32) (by simp only [if_neg c_3, if_pos c_10])
    · refine z_iconst (v := (1 : Int32)) X dX3_in_13 (by decide) ?_
      refine z_goto (tgt := 18) X dX3_in_14 (by decide) ?_
      refine z_lv (lv' := []) [] rfl ?_
      exact J_j_18 (1 : Int32) (by simp only [if_neg c_3, if_neg c_10])
set_option maxRecDepth 100000 in
set_option maxHeartbeats 4000000 in
theorem c_M_has (l : Launch) (D : va_G) (kI kC kQ : ClassId) (a1 : Int32) (a2 : Int32) : CtI (U := Int32) l yX3_has cX3_has 2 (some .boolean) { frames := 0, cells := 0, slots := 0, locals := 0 } D (tysG kI kC kQ) [] [.int a1, .int a2] (fun u => u) (fun _ => []) (fun u => u = F_M_has a1 a2) := by
  refine met_Zi (own := "ShadowLatchesModel") (by decide +kernel) rfl (Nat.le_of_ble_eq_true rfl) ?_
  intro p e s m args below meth c A Q X hQ
  show Z p l e { frames := 0, cells := 0, slots := 0, locals := 0 } s m args below meth c D A 2 0 0 Q [] [(0, .int a1), (1, .int a2)] 0 []
  refine z_iload_n X dX3_has_0 0 rfl ?_
  refine z_iload_n X dX3_has_1 1 rfl ?_
  refine z_ishr X dX3_has_2 ?_
  refine z_iconst (v := (1 : Int32)) X dX3_has_3 (by decide) ?_
  refine z_iand X dX3_has_4 ?_
  refine z_iconst (v := (1 : Int32)) X dX3_has_5 (by decide) ?_
  have J_j_14 : ∀ j_14 : Int32, j_14 = (if ((a1 >>> (a2 &&& 31)) &&& (1 : Int32)) = (1 : Int32) then ((1 : Int32)) else ((0 : Int32))) → Z p l e { frames := 0, cells := 0, slots := 0, locals := 0 } s m args below meth c D A 2 0 0 Q [] [] 14 [.int j_14] := by
    intro j_14 ej_14
    exact z_zret X hQ rfl j_14 rfl rfl (by subst ej_14; simp only [F_M_has]) (nb (by rw [ej_14]; (try dsimp only); repeat' first | exact bl_in _ _ _ | apply bl_ite | exact Or.inl rfl | exact Or.inr rfl)) dX3_has_14
  refine z_icmp_ne (tgt := 13) X dX3_has_6 (by decide) (fun c_6 => ?_) (fun c_6 => ?_)
  · refine z_iconst (v := (0 : Int32)) X dX3_has_13 (by decide) ?_
    refine z_lv (lv' := []) [] rfl ?_
    exact J_j_14 (0 : Int32) (by simp only [if_neg c_6])
  · refine z_iconst (v := (1 : Int32)) X dX3_has_9 (by decide) ?_
    refine z_goto (tgt := 14) X dX3_has_10 (by decide) ?_
    refine z_lv (lv' := []) [] rfl ?_
    exact J_j_14 (1 : Int32) (by simp only [if_pos c_6])
set_option maxRecDepth 100000 in
set_option maxHeartbeats 4000000 in
theorem c_M_delayWith (l : Launch) (D : va_G) (kI kC kQ : ClassId) (o : Nat → Nat) (M : ARR) (a1 : Int32) (a2 : Int32) (a3 : Int32) (hi : vp_in ((0 : Int32) + a1) 55) (hv : ¬ (a2 - (300 : Int32)) = 0) : CtI (U := Int32) l yX3_delayWith cX3_delayWith 4 (some .int) { frames := 0, cells := 0, slots := 0, locals := 0 } D (tysG kI kC kQ) (wM kI o M) [.ref (o 0), .int a1, .int a2, .int a3] (fun u => u) (fun _ => (wM kI o M)) (fun u => u = F_M_delayWith M a1 a2 a3) := by
  refine met_Zi (own := "ShadowLatchesModel") (by decide +kernel) rfl (Nat.le_of_ble_eq_true rfl) ?_
  intro p e s m args below meth c A Q X hQ
  show Z p l e { frames := 0, cells := 0, slots := 0, locals := 0 } s m args below meth c D A 4 0 0 Q (wM kI o M) [(0, .ref (o 0)), (1, .int a1), (2, .int a2), (3, .int a3)] 0 []
  refine z_aload_n X dX3_delayWith_0 0 rfl ?_
  refine zM_g0 X wd2_126 dX3_delayWith_1 ?_
  refine z_iconst (v := (0 : Int32)) X dX3_delayWith_4 (by decide) ?_
  refine z_iload_n X dX3_delayWith_5 1 rfl ?_
  refine z_iadd X dX3_delayWith_6 ?_
  refine zM_l0 X hi rfl dX3_delayWith_7 ?_
  refine z_sipush (v := (1000 : Int32)) X dX3_delayWith_8 (by decide) ?_
  refine z_imul X dX3_delayWith_11 ?_
  refine z_iload_n X dX3_delayWith_12 2 rfl ?_
  refine z_sipush (v := (300 : Int32)) X dX3_delayWith_13 (by decide) ?_
  refine z_isub X dX3_delayWith_16 ?_
  refine z_idiv X dX3_delayWith_17 hv ?_
  refine z_sipush (v := (900 : Int32)) X dX3_delayWith_18 (by decide) ?_
  refine z_iload_n X dX3_delayWith_21 3 rfl ?_
  refine z_iconst (v := (5 : Int32)) X dX3_delayWith_22 (by decide) ?_
  refine z_imul X dX3_delayWith_23 ?_
  refine z_iadd X dX3_delayWith_24 ?_
  refine z_imul X dX3_delayWith_25 ?_
  refine z_sipush (v := (1000 : Int32)) X dX3_delayWith_26 (by decide) ?_
  refine z_idiv X dX3_delayWith_29 (by decide) ?_
  exact z_iret X hQ rfl (((((M 0 (((0 : Int32) + a1).toNatClampNeg)) * (1000 : Int32)) / (a2 - (300 : Int32))) * ((900 : Int32) + (a3 * (5 : Int32)))) / (1000 : Int32)) rfl rfl (by simp only [F_M_delayWith]) dX3_delayWith_30
set_option maxRecDepth 100000 in
set_option maxHeartbeats 4000000 in
theorem c_M_energySince (l : Launch) (D : va_G) (kI kC kQ : ClassId) (o : Nat → Nat) (M : ARR) : CtI (U := Int32) l yX3_energySince cX3_energySince 2 (some .int) { frames := 0, cells := 0, slots := 0, locals := 0 } D (tysG kI kC kQ) (wM kI o M) [.ref (o 0), .ref (o 3)] (fun u => u) (fun _ => (wM kI o M)) (fun u => u = F_M_energySince M) := by
  refine met_Zi (own := "ShadowLatchesModel") (by decide +kernel) rfl (Nat.le_of_ble_eq_true rfl) ?_
  intro p e s m args below meth c A Q X hQ
  show Z p l e { frames := 0, cells := 0, slots := 0, locals := 0 } s m args below meth c D A 2 0 0 Q (wM kI o M) [(0, .ref (o 0)), (1, .ref (o 3))] 0 []
  refine z_aload_n X dX3_energySince_0 0 rfl ?_
  refine zM_g0 X wd2_126 dX3_energySince_1 ?_
  refine z_bipush (v := (46 : Int32)) X dX3_energySince_4 (by decide) ?_
  refine zM_l0 X vi_46_55 cl_46 dX3_energySince_6 ?_
  refine z_aload_n X dX3_energySince_7 1 rfl ?_
  refine z_bipush (v := (46 : Int32)) X dX3_energySince_8 (by decide) ?_
  refine zM_l2 X vi_46_55 cl_46 dX3_energySince_10 ?_
  refine z_isub X dX3_energySince_11 ?_
  refine z_sipush (v := (1000 : Int32)) X dX3_energySince_12 (by decide) ?_
  refine z_imul X dX3_energySince_15 ?_
  refine z_aload_n X dX3_energySince_16 0 rfl ?_
  refine zM_g0 X wd2_126 dX3_energySince_17 ?_
  refine z_bipush (v := (54 : Int32)) X dX3_energySince_20 (by decide) ?_
  refine zM_l0 X vi_54_55 cl_54 dX3_energySince_22 ?_
  refine z_iadd X dX3_energySince_23 ?_
  refine z_aload_n X dX3_energySince_24 1 rfl ?_
  refine z_bipush (v := (54 : Int32)) X dX3_energySince_25 (by decide) ?_
  refine zM_l2 X vi_54_55 cl_54 dX3_energySince_27 ?_
  refine z_isub X dX3_energySince_28 ?_
  exact z_iret X hQ rfl (((((M 0 46) - (M 2 46)) * (1000 : Int32)) + (M 0 54)) - (M 2 54)) rfl rfl (by simp only [F_M_energySince]) dX3_energySince_29
set_option maxRecDepth 100000 in
set_option maxHeartbeats 4000000 in
theorem c_M_isPath (l : Launch) (D : va_G) (kI kC kQ : ClassId) (o : Nat → Nat) (M : ARR) (a1 : Int32) : CtI (U := Int32) l yX3_isPath cX3_isPath 2 (some .boolean) { frames := 1, cells := 0, slots := 0, locals := 25 } D (tysG kI kC kQ) (wM kI o M) [.ref (o 0), .int a1] (fun u => u) (fun _ => (wM kI o M)) (fun u => u = F_M_isPath M a1) := by
  refine met_Zi (own := "ShadowLatchesModel") (by decide +kernel) rfl (Nat.le_of_ble_eq_true rfl) ?_
  intro p e s m args below meth c A Q X hQ
  show Z p l e { frames := 1, cells := 0, slots := 0, locals := 25 } s m args below meth c D A 2 0 0 Q (wM kI o M) [(0, .ref (o 0)), (1, .int a1)] 0 []
  refine z_iload_n X dX3_isPath_0 1 rfl ?_
  refine z_i2l X dX3_isPath_1 ?_
  refine z_lconst (v := (0 : Int64)) X dX3_isPath_2 (by decide) ?_
  refine z_aload_n X dX3_isPath_3 0 rfl ?_
  refine zM_g0 X wd2_126 dX3_isPath_4 ?_
  refine z_bipush (v := (51 : Int32)) X dX3_isPath_7 (by decide) ?_
  refine zM_l0 X vi_51_55 cl_51 dX3_isPath_9 ?_
  refine z_i2l X dX3_isPath_10 ?_
  refine z_lconst (v := (1 : Int64)) X dX3_isPath_11 (by decide) ?_
  refine z_lsub X dX3_isPath_12 ?_
  refine z_callSiN X (c_M_in l D kI kC kQ (a1.toInt64) (0 : Int64) ((((M 0 51)).toInt64) - (1 : Int64))) (gS wd2_172 wd2_173 wd1_4 wd2_174) k_M_in rfl rfl ⟨Nat.le_of_ble_eq_true rfl, Nat.le_of_ble_eq_true rfl⟩ ⟨Nat.zero_le _, Nat.zero_le _⟩ rfl rfl (Nat.le_of_ble_eq_true rfl) dX3_isPath_13 rfl (fun _ => rfl) (fun r_13 er_13 => ?_)
  exact z_zret X hQ rfl r_13 rfl rfl (by subst er_13; simp only [F_M_isPath]) (nb (by rw [er_13]; exact bl_in _ _ _)) dX3_isPath_16
set_option maxRecDepth 100000 in
set_option maxHeartbeats 4000000 in
theorem c_M_isLength (l : Launch) (D : va_G) (kI kC kQ : ClassId) (a1 : Int32) : CtI (U := Int32) l yX3_isLength cX3_isLength 1 (some .boolean) { frames := 1, cells := 0, slots := 0, locals := 25 } D (tysG kI kC kQ) [] [.int a1] (fun u => u) (fun _ => []) (fun u => u = F_M_isLength a1) := by
  refine met_Zi (own := "ShadowLatchesModel") (by decide +kernel) rfl (Nat.le_of_ble_eq_true rfl) ?_
  intro p e s m args below meth c A Q X hQ
  show Z p l e { frames := 1, cells := 0, slots := 0, locals := 25 } s m args below meth c D A 1 0 0 Q [] [(0, .int a1)] 0 []
  refine z_iload_n X dX3_isLength_0 0 rfl ?_
  refine z_i2l X dX3_isLength_1 ?_
  refine z_ldc2 X dX3_isLength_2 wd2_170 ?_
  refine z_ldc2 X dX3_isLength_5 wd2_171 ?_
  refine z_callSiN X (c_M_in l D kI kC kQ (a1.toInt64) (10 : Int64) (400 : Int64)) (gS wd2_172 wd2_173 wd1_4 wd2_174) k_M_in rfl rfl ⟨Nat.le_of_ble_eq_true rfl, Nat.le_of_ble_eq_true rfl⟩ ⟨Nat.zero_le _, Nat.zero_le _⟩ rfl rfl (Nat.le_of_ble_eq_true rfl) dX3_isLength_8 rfl (fun _ => rfl) (fun r_8 er_8 => ?_)
  exact z_zret X hQ rfl r_8 rfl rfl (by subst er_8; simp only [F_M_isLength]) (nb (by rw [er_8]; exact bl_in _ _ _)) dX3_isLength_11
set_option maxRecDepth 100000 in
set_option maxHeartbeats 4000000 in
theorem c_M_isVoltage (l : Launch) (D : va_G) (kI kC kQ : ClassId) (a1 : Int32) : CtI (U := Int32) l yX3_isVoltage cX3_isVoltage 1 (some .boolean) { frames := 1, cells := 0, slots := 0, locals := 25 } D (tysG kI kC kQ) [] [.int a1] (fun u => u) (fun _ => []) (fun u => u = F_M_isVoltage a1) := by
  refine met_Zi (own := "ShadowLatchesModel") (by decide +kernel) rfl (Nat.le_of_ble_eq_true rfl) ?_
  intro p e s m args below meth c A Q X hQ
  show Z p l e { frames := 1, cells := 0, slots := 0, locals := 25 } s m args below meth c D A 1 0 0 Q [] [(0, .int a1)] 0 []
  refine z_iload_n X dX3_isVoltage_0 0 rfl ?_
  refine z_i2l X dX3_isVoltage_1 ?_
  refine z_ldc2 X dX3_isVoltage_2 wd3_6 ?_
  refine z_ldc2 X dX3_isVoltage_5 wd3_7 ?_
  refine z_callSiN X (c_M_in l D kI kC kQ (a1.toInt64) (500 : Int64) (1200 : Int64)) (gS wd2_172 wd2_173 wd1_4 wd2_174) k_M_in rfl rfl ⟨Nat.le_of_ble_eq_true rfl, Nat.le_of_ble_eq_true rfl⟩ ⟨Nat.zero_le _, Nat.zero_le _⟩ rfl rfl (Nat.le_of_ble_eq_true rfl) dX3_isVoltage_8 rfl (fun _ => rfl) (fun r_8 er_8 => ?_)
  exact z_zret X hQ rfl r_8 rfl rfl (by subst er_8; simp only [F_M_isVoltage]) (nb (by rw [er_8]; exact bl_in _ _ _)) dX3_isVoltage_11
set_option maxRecDepth 100000 in
set_option maxHeartbeats 4000000 in
theorem c_M_stateWith (l : Launch) (D : va_G) (kI kC kQ : ClassId) (o : Nat → Nat) (M : ARR) (a1 : Int32) (a2 : Int32) (hi : vp_in ((0 : Int32) + a1) 55) (hv : ¬ (a2 - (300 : Int32)) = 0) : CtI (U := Int32) l yX3_stateWith cX3_stateWith 4 (some .int) { frames := 1, cells := 0, slots := 0, locals := 23 } D (tysG kI kC kQ) (wM kI o M) [.ref (o 0), .int a1, .int a2] (fun u => u) (fun _ => (wM kI o M)) (fun u => u = F_M_stateWith M a1 a2) := by
  refine met_Zi (own := "ShadowLatchesModel") (by decide +kernel) rfl (Nat.le_of_ble_eq_true rfl) ?_
  intro p e s m args below meth c A Q X hQ
  show Z p l e { frames := 1, cells := 0, slots := 0, locals := 23 } s m args below meth c D A 4 0 0 Q (wM kI o M) [(0, .ref (o 0)), (1, .int a1), (2, .int a2)] 0 []
  refine z_aload_n X dX3_stateWith_0 0 rfl ?_
  refine z_iload_n X dX3_stateWith_1 1 rfl ?_
  refine z_iload_n X dX3_stateWith_2 2 rfl ?_
  refine z_aload_n X dX3_stateWith_3 0 rfl ?_
  refine zM_g0 X wd2_126 dX3_stateWith_4 ?_
  refine z_bipush (v := (40 : Int32)) X dX3_stateWith_7 (by decide) ?_
  refine zM_l0 X vi_40_55 cl_40 dX3_stateWith_9 ?_
  refine z_callVi0 X (c_M_delayWith l D kI kC kQ o M a1 a2 (M 0 40) hi hv) (gV wd3_44 wd3_46 wd0_22 wd1_4 wd3_47) k_M_delayWith rfl rfl ⟨Nat.le_of_ble_eq_true rfl, Nat.le_of_ble_eq_true rfl⟩ ⟨Nat.zero_le _, Nat.zero_le _⟩ 3 0 rfl rfl rfl rfl rfl (Nat.le_of_ble_eq_true rfl) dX3_stateWith_10 (fun r_10 er_10 => ?_)
  refine z_istore_n (lv' := [(3, .int r_10), (0, .ref (o 0)), (1, .int a1), (2, .int a2)]) X dX3_stateWith_13 (Nat.le_of_ble_eq_true rfl) rfl ?_
  refine z_iload_n X dX3_stateWith_14 0 rfl ?_
  refine z_aload_n X dX3_stateWith_15 1 rfl ?_
  refine zM_g0 X wd2_126 dX3_stateWith_16 ?_
  refine z_bipush (v := (32 : Int32)) X dX3_stateWith_19 (by decide) ?_
  refine zM_l0 X vi_32_55 cl_32 dX3_stateWith_21 ?_
  have J_j_53 : ∀ j_53 : Int32, j_53 = (if (M 0 32) < r_10 then (if ((M 0 32) + (M 0 33)) < r_10 then ((2 : Int32)) else ((1 : Int32))) else ((0 : Int32))) → Z p l e { frames := 1, cells := 0, slots := 0, locals := 23 } s m args below meth c D A 4 0 0 Q (wM kI o M) [] 53 [.int j_53] := by
    intro j_53 ej_53
    exact z_iret X hQ rfl j_53 rfl rfl (by subst er_10 ej_53; simp only [F_M_stateWith]) dX3_stateWith_53
  refine z_icmp_gt (tgt := 29) X dX3_stateWith_22 (by decide) (fun c_22 => ?_) (fun c_22 => ?_)
  · refine z_iload_n X dX3_stateWith_29 0 rfl ?_
    refine z_aload_n X dX3_stateWith_30 1 rfl ?_
    refine zM_g0 X wd2_126 dX3_stateWith_31 ?_
    refine z_bipush (v := (32 : Int32)) X dX3_stateWith_34 (by decide) ?_
    refine zM_l0 X vi_32_55 cl_32 dX3_stateWith_36 ?_
    refine z_aload_n X dX3_stateWith_37 1 rfl ?_
    refine zM_g0 X wd2_126 dX3_stateWith_38 ?_
    refine z_bipush (v := (33 : Int32)) X dX3_stateWith_41 (by decide) ?_
    refine zM_l0 X vi_33_55 cl_33 dX3_stateWith_43 ?_
    refine z_iadd X dX3_stateWith_44 ?_
    refine z_icmp_gt (tgt := 52) X dX3_stateWith_45 (by decide) (fun c_45 => ?_) (fun c_45 => ?_)
    · refine z_iconst (v := (2 : Int32)) X dX3_stateWith_52 (by decide) ?_
      refine z_lv (lv' := []) [] rfl ?_
      exact J_j_53 (2 : Int32) (by simp only [if_pos c_22, if_pos c_45])
    · refine z_iconst (v := (1 : Int32)) X dX3_stateWith_48 (by decide) ?_
      refine z_goto (tgt := 53) X dX3_stateWith_49 (by decide) ?_
      refine z_lv (lv' := []) [] rfl ?_
      exact J_j_53 (1 : Int32) (by simp only [if_pos c_22, if_neg c_45])
  · refine z_iconst (v := (0 : Int32)) X dX3_stateWith_25 (by decide) ?_
    refine z_goto (tgt := 53) X dX3_stateWith_26 (by decide) ?_
    refine z_lv (lv' := []) [] rfl ?_
    exact J_j_53 (0 : Int32) (by simp only [if_neg c_22])
set_option maxRecDepth 100000 in
set_option maxHeartbeats 4000000 in
theorem c_M_worstOf (l : Launch) (D : va_G) (kI kC kQ : ClassId) (o : Nat → Nat) (M : ARR) (a1 : Int32) (hI : IA (M 0)) : CtI (U := Int32) l yX3_worstOf cX3_worstOf 5 (some .int) { frames := 2, cells := 0, slots := 0, locals := 46 } D (tysG kI kC kQ) (wM kI o M) [.ref (o 0), .int a1] (fun u => u) (fun _ => (wM kI o M)) (fun u => u = F_M_worstOf M a1) := by
  refine met_Zi (own := "ShadowLatchesModel") (by decide +kernel) rfl (Nat.le_of_ble_eq_true rfl) ?_
  intro p e s m args below meth c A Q X hQ
  show Z p l e { frames := 2, cells := 0, slots := 0, locals := 46 } s m args below meth c D A 5 0 0 Q (wM kI o M) [(0, .ref (o 0)), (1, .int a1)] 0 []
  obtain ⟨P, hP1, hP2, hP⟩ := hI.p
  refine z_iconst (v := (0 : Int32)) X dX3_worstOf_0 (by decide) ?_
  refine z_istore_n (lv' := [(2, .int (0 : Int32)), (0, .ref (o 0)), (1, .int a1)]) X dX3_worstOf_1 (Nat.le_of_ble_eq_true rfl) rfl ?_
  refine z_iconst (v := (0 : Int32)) X dX3_worstOf_2 (by decide) ?_
  refine z_istore_n (lv' := [(3, .int (0 : Int32)), (2, .int (0 : Int32)), (0, .ref (o 0)), (1, .int a1)]) X dX3_worstOf_3 (Nat.le_of_ble_eq_true rfl) rfl ?_
  refine z_lv (lv' := [(0, .ref (o 0)), (1, .int a1), (2, .int (0 : Int32)), (3, .int (0 : Int32))]) [2, 3, 1, 0] rfl ?_
  have Lp_4 : ∀ (n : Nat) (x2_4 : Int32) (x3_4 : Int32), (cu P n x3_4) → (∀ q_4 : Int32, q_4 = L_M_worstOf_4 M a1 n x2_4 x3_4 → Z p l e { frames := 2, cells := 0, slots := 0, locals := 46 } s m args below meth c D A 5 0 0 Q (wM kI o M) [(2, .int q_4)] 60 []) → Z p l e { frames := 2, cells := 0, slots := 0, locals := 46 } s m args below meth c D A 5 0 0 Q (wM kI o M) [(0, .ref (o 0)), (1, .int a1), (2, .int x2_4), (3, .int x3_4)] 4 [] := by
    intro n
    induction n with
    | zero =>
      intro x2_4 x3_4 hi kk_4
      exfalso
      exact cu_0 hi
    | succ n ih_4 =>
      intro x2_4 x3_4 hi kk_4
      refine z_iload_n X dX3_worstOf_4 3 rfl ?_
      refine z_aload_n X dX3_worstOf_5 0 rfl ?_
      refine zM_g0 X wd2_126 dX3_worstOf_6 ?_
      refine z_bipush (v := (51 : Int32)) X dX3_worstOf_9 (by decide) ?_
      refine zM_l0 X vi_51_55 cl_51 dX3_worstOf_11 ?_
      refine z_icmp_ge (tgt := 60) X dX3_worstOf_12 (by decide) (fun c_12 => ?_) (fun c_12 => ?_)
      · refine z_lv (lv' := [(2, .int x2_4)]) [2] rfl ?_
        exact kk_4 x2_4 (by simp only [L_M_worstOf_4, if_pos c_12]) 
      · refine z_iload_n X dX3_worstOf_15 1 rfl ?_
        refine z_iload_n X dX3_worstOf_16 3 rfl ?_
        refine z_callSiN X (c_M_has l D kI kC kQ a1 x3_4) (gS wd3_37 wd3_38 wd1_4 wd3_39) k_M_has rfl rfl ⟨Nat.le_of_ble_eq_true rfl, Nat.le_of_ble_eq_true rfl⟩ ⟨Nat.zero_le _, Nat.zero_le _⟩ rfl rfl (Nat.le_of_ble_eq_true rfl) dX3_worstOf_17 rfl (fun _ => rfl) (fun r_17 er_17 => ?_)
        have J_j_39 : ∀ j_39 : Int32, j_39 = (if r_17 = (0 : Int32) then ((0 : Int32)) else (let r_32 : Int32 := (F_M_stateWith M x3_4 (M 0 39)); r_32)) → Z p l e { frames := 2, cells := 0, slots := 0, locals := 46 } s m args below meth c D A 5 0 0 Q (wM kI o M) [(0, .ref (o 0)), (1, .int a1), (2, .int x2_4), (3, .int x3_4)] 39 [.int j_39] := by
          intro j_39 ej_39
          refine z_istore (lv' := [(4, .int j_39), (0, .ref (o 0)), (1, .int a1), (2, .int x2_4), (3, .int x3_4)]) X dX3_worstOf_39 (Nat.le_of_ble_eq_true rfl) rfl ?_
          refine z_iload X dX3_worstOf_41 0 rfl ?_
          refine z_iload_n X dX3_worstOf_43 3 rfl ?_
          have J_j_53 : ∀ j_53 : Int32, j_53 = (if j_39 ≤ x2_4 then (x2_4) else (j_39)) → Z p l e { frames := 2, cells := 0, slots := 0, locals := 46 } s m args below meth c D A 5 0 0 Q (wM kI o M) [(0, .ref (o 0)), (1, .int a1), (3, .int x3_4)] 53 [.int j_53] := by
            intro j_53 ej_53
            refine z_istore_n (lv' := [(2, .int j_53), (0, .ref (o 0)), (1, .int a1), (3, .int x3_4)]) X dX3_worstOf_53 (Nat.le_of_ble_eq_true rfl) rfl ?_
            obtain ⟨v_54, ev_54⟩ : ∃ y : Int32, y = x3_4 + (1 : Int32) := ⟨_, rfl⟩
            refine z_iinc (v := v_54) (lv' := [(3, .int v_54), (2, .int j_53), (0, .ref (o 0)), (1, .int a1)]) X dX3_worstOf_54 3 rfl (by rw [ev_54]; rfl) (Nat.le_of_ble_eq_true rfl) rfl ?_
            refine z_goto (tgt := 4) X dX3_worstOf_57 (by decide) ?_
            refine z_lv (lv' := [(0, .ref (o 0)), (1, .int a1), (2, .int j_53), (3, .int v_54)]) [2, 3, 1, 0] rfl ?_
            exact ih_4 j_53 v_54 (cu_b hi (by omega) hP c_12 ev_54) (fun q_4 eq_4 => kk_4 q_4 (eq_4.trans (by subst er_17 ej_39 ej_53 ev_54; simp only [L_M_worstOf_4, if_neg c_12])))
          refine z_icmp_le (tgt := 52) X dX3_worstOf_44 (by decide) (fun c_44 => ?_) (fun c_44 => ?_)
          · refine z_iload_n X dX3_worstOf_52 3 rfl ?_
            refine z_lv (lv' := [(0, .ref (o 0)), (1, .int a1), (3, .int x3_4)]) [1, 2, 4] rfl ?_
            exact J_j_53 x2_4 (by simp only [if_pos c_44])
          · refine z_iload X dX3_worstOf_47 0 rfl ?_
            refine z_goto (tgt := 53) X dX3_worstOf_49 (by decide) ?_
            refine z_lv (lv' := [(0, .ref (o 0)), (1, .int a1), (3, .int x3_4)]) [1, 2, 4] rfl ?_
            exact J_j_53 j_39 (by simp only [if_neg c_44])
        refine z_if_eq (tgt := 38) X dX3_worstOf_20 (by decide) (fun c_20 => ?_) (fun c_20 => ?_)
        · refine z_iconst (v := (0 : Int32)) X dX3_worstOf_38 (by decide) ?_
          exact J_j_39 (0 : Int32) (by simp only [if_pos c_20])
        · refine z_aload_n X dX3_worstOf_23 0 rfl ?_
          refine z_iload_n X dX3_worstOf_24 3 rfl ?_
          refine z_aload_n X dX3_worstOf_25 0 rfl ?_
          refine zM_g0 X wd2_126 dX3_worstOf_26 ?_
          refine z_bipush (v := (39 : Int32)) X dX3_worstOf_29 (by decide) ?_
          refine zM_l0 X vi_39_55 cl_39 dX3_worstOf_31 ?_
          refine z_callVi0 X (c_M_stateWith l D kI kC kQ o M x3_4 (M 0 39) (vin_a 0 (cu_lt hi (by omega) hP c_12) (by omega) (by omega)) (vne hI.v)) (gV wd3_40 wd3_42 wd0_21 wd1_4 wd3_43) k_M_stateWith rfl rfl ⟨Nat.le_of_ble_eq_true rfl, Nat.le_of_ble_eq_true rfl⟩ ⟨Nat.zero_le _, Nat.zero_le _⟩ 3 0 rfl rfl rfl rfl rfl (Nat.le_of_ble_eq_true rfl) dX3_worstOf_32 (fun r_32 er_32 => ?_)
          refine z_goto (tgt := 39) X dX3_worstOf_35 (by decide) ?_
          exact J_j_39 r_32 (by subst er_32; simp only [if_neg c_20])
  refine Lp_4 9 (0 : Int32) (0 : Int32) (cu_i (by omega)) (fun q_4 eq_4 => ?_)
  refine z_iload_n X dX3_worstOf_60 0 rfl ?_
  exact z_iret X hQ rfl q_4 rfl rfl (by subst eq_4; simp only [F_M_worstOf]) dX3_worstOf_61
set_option maxRecDepth 100000 in
set_option maxHeartbeats 4000000 in
theorem c_M_many (l : Launch) (D : va_G) (kI kC kQ : ClassId) (a1 : Int32) (hr : bn 0 255 a1) : CtI (U := Int32) l yX3_many cX3_many 3 (some .int) { frames := 0, cells := 0, slots := 0, locals := 0 } D (tysG kI kC kQ) [] [.int a1] (fun u => u) (fun _ => []) (fun u => u = F_M_many a1) := by
  refine met_Zi (own := "ShadowLatchesModel") (by decide +kernel) rfl (Nat.le_of_ble_eq_true rfl) ?_
  intro p e s m args below meth c A Q X hQ
  show Z p l e { frames := 0, cells := 0, slots := 0, locals := 0 } s m args below meth c D A 3 0 0 Q [] [(0, .int a1)] 0 []
  refine z_iconst (v := (0 : Int32)) X dX3_many_0 (by decide) ?_
  refine z_istore_n (lv' := [(1, .int (0 : Int32)), (0, .int a1)]) X dX3_many_1 (Nat.le_of_ble_eq_true rfl) rfl ?_
  refine z_iload_n X dX3_many_2 1 rfl ?_
  refine z_istore_n (lv' := [(2, .int a1), (1, .int (0 : Int32)), (0, .int a1)]) X dX3_many_3 (Nat.le_of_ble_eq_true rfl) rfl ?_
  refine z_lv (lv' := [(1, .int (0 : Int32)), (2, .int a1)]) [1, 0] rfl ?_
  have Lp_4 : ∀ (n : Nat) (x1_4 : Int32) (x2_4 : Int32), (∃ r : Nat, r < n ∧ r < 256 ∧ x2_4 = nI r) → (∀ q_4 : Int32, q_4 = L_M_many_4 n x1_4 x2_4 → Z p l e { frames := 0, cells := 0, slots := 0, locals := 0 } s m args below meth c D A 3 0 0 Q [] [(1, .int q_4)] 20 []) → Z p l e { frames := 0, cells := 0, slots := 0, locals := 0 } s m args below meth c D A 3 0 0 Q [] [(1, .int x1_4), (2, .int x2_4)] 4 [] := by
    intro n
    induction n with
    | zero =>
      intro x1_4 x2_4 hi kk_4
      exfalso
      obtain ⟨r, h, _⟩ := hi
      omega
    | succ n ih_4 =>
      intro x1_4 x2_4 hi kk_4
      refine z_iload_n X dX3_many_4 1 rfl ?_
      refine z_if_eq (tgt := 20) X dX3_many_5 (by decide) (fun c_5 => ?_) (fun c_5 => ?_)
      · refine z_lv (lv' := [(1, .int x1_4)]) [0] rfl ?_
        exact kk_4 x1_4 (by simp only [L_M_many_4, if_pos c_5]) 
      · obtain ⟨v_8, ev_8⟩ : ∃ y : Int32, y = x1_4 + (1 : Int32) := ⟨_, rfl⟩
        refine z_iinc (v := v_8) (lv' := [(1, .int v_8), (2, .int x2_4)]) X dX3_many_8 0 rfl (by rw [ev_8]; rfl) (Nat.le_of_ble_eq_true rfl) rfl ?_
        refine z_iload_n X dX3_many_11 1 rfl ?_
        refine z_iload_n X dX3_many_12 1 rfl ?_
        refine z_iconst (v := (1 : Int32)) X dX3_many_13 (by decide) ?_
        refine z_isub X dX3_many_14 ?_
        refine z_iand X dX3_many_15 ?_
        refine z_topi (fun v_16 ev_16 => ?_)
        refine z_istore_n (lv' := [(2, .int v_16), (1, .int v_8)]) X dX3_many_16 (Nat.le_of_ble_eq_true rfl) rfl ?_
        refine z_goto (tgt := 4) X dX3_many_17 (by decide) ?_
        refine z_lv (lv' := [(1, .int v_8), (2, .int v_16)]) [1, 0] rfl ?_
        exact ih_4 v_8 v_16 (kern_b hi c_5 ev_16) (fun q_4 eq_4 => kk_4 q_4 (eq_4.trans (by subst ev_8 ev_16; simp only [L_M_many_4, if_neg c_5])))
  refine Lp_4 257 (0 : Int32) a1 (by obtain ⟨r, _, h2, h3⟩ := hr; exact ⟨r, by omega, by omega, h3⟩) (fun q_4 eq_4 => ?_)
  refine z_iload_n X dX3_many_20 0 rfl ?_
  exact z_iret X hQ rfl q_4 rfl rfl (by subst eq_4; simp only [F_M_many]) dX3_many_21
set_option maxRecDepth 100000 in
set_option maxHeartbeats 4000000 in
theorem c_M_spends (l : Launch) (D : va_G) (kI kC kQ : ClassId) (o : Nat → Nat) (M : ARR) (a1 : Int32) : CtV (U := ARR) l yX3_spends cX3_spends 4 none { frames := 0, cells := 0, slots := 0, locals := 0 } D (tysG kI kC kQ) (wM kI o M) [.ref (o 0), .int a1] (fun u => (wM kI o u)) (fun u => u = F_M_spends M a1) := by
  refine met_Zv (own := "ShadowLatchesModel") (by decide +kernel) rfl (Nat.le_of_ble_eq_true rfl) ?_
  intro p e s m args below meth c A Q X hQ
  show Z p l e { frames := 0, cells := 0, slots := 0, locals := 0 } s m args below meth c D A 4 0 0 Q (wM kI o M) [(0, .ref (o 0)), (1, .int a1)] 0 []
  refine z_aload_n X dX3_spends_0 0 rfl ?_
  refine zM_g0 X wd2_126 dX3_spends_1 ?_
  refine z_bipush (v := (54 : Int32)) X dX3_spends_4 (by decide) ?_
  refine zM_l0 X vi_54_55 cl_54 dX3_spends_6 ?_
  refine z_aload_n X dX3_spends_7 0 rfl ?_
  refine zM_g0 X wd2_126 dX3_spends_8 ?_
  refine z_bipush (v := (39 : Int32)) X dX3_spends_11 (by decide) ?_
  refine zM_l0 X vi_39_55 cl_39 dX3_spends_13 ?_
  refine z_aload_n X dX3_spends_14 0 rfl ?_
  refine zM_g0 X wd2_126 dX3_spends_15 ?_
  refine z_bipush (v := (39 : Int32)) X dX3_spends_18 (by decide) ?_
  refine zM_l0 X vi_39_55 cl_39 dX3_spends_20 ?_
  refine z_imul X dX3_spends_21 ?_
  refine z_sipush (v := (10000 : Int32)) X dX3_spends_22 (by decide) ?_
  refine z_idiv X dX3_spends_25 (by decide) ?_
  refine z_iadd X dX3_spends_26 ?_
  refine z_topi (fun v_27 ev_27 => ?_)
  refine z_istore_n (lv' := [(2, .int v_27), (0, .ref (o 0)), (1, .int a1)]) X dX3_spends_27 (Nat.le_of_ble_eq_true rfl) rfl ?_
  refine z_aload_n X dX3_spends_28 1 rfl ?_
  refine zM_g0 X wd2_126 dX3_spends_29 ?_
  refine z_bipush (v := (46 : Int32)) X dX3_spends_32 (by decide) ?_
  refine z_dup2 X dX3_spends_34 rfl rfl ?_
  refine zM_l0 X vi_46_55 cl_46 dX3_spends_35 ?_
  refine z_iload_n X dX3_spends_36 0 rfl ?_
  refine z_sipush (v := (1000 : Int32)) X dX3_spends_37 (by decide) ?_
  refine z_idiv X dX3_spends_40 (by decide) ?_
  refine z_iadd X dX3_spends_41 ?_
  refine zM_s0 X vi_46_55 cl_46 dX3_spends_42 (fun M_42 eM_42 => ?_)
  refine z_aload_n X dX3_spends_43 1 rfl ?_
  refine zM_g0 X wd2_126 dX3_spends_44 ?_
  refine z_bipush (v := (54 : Int32)) X dX3_spends_47 (by decide) ?_
  refine z_iload_n X dX3_spends_49 0 rfl ?_
  refine z_sipush (v := (1000 : Int32)) X dX3_spends_50 (by decide) ?_
  refine z_irem X dX3_spends_53 (by decide) ?_
  refine zM_s0 X vi_54_55 cl_54 dX3_spends_54 (fun M_54 eM_54 => ?_)
  refine z_aload_n X dX3_spends_55 1 rfl ?_
  refine zM_g0 X wd2_126 dX3_spends_56 ?_
  refine z_bipush (v := (42 : Int32)) X dX3_spends_59 (by decide) ?_
  refine z_dup2 X dX3_spends_61 rfl rfl ?_
  refine zM_l0 X vi_42_55 cl_42 dX3_spends_62 ?_
  refine z_iconst (v := (1 : Int32)) X dX3_spends_63 (by decide) ?_
  refine z_iadd X dX3_spends_64 ?_
  refine zM_s0 X vi_42_55 cl_42 dX3_spends_65 (fun M_65 eM_65 => ?_)
  refine z_aload_n X dX3_spends_66 1 rfl ?_
  refine zM_g0 X wd2_126 dX3_spends_67 ?_
  refine z_bipush (v := (47 : Int32)) X dX3_spends_70 (by decide) ?_
  refine z_dup2 X dX3_spends_72 rfl rfl ?_
  refine zM_l0 X vi_47_55 cl_47 dX3_spends_73 ?_
  refine z_aload_n X dX3_spends_74 1 rfl ?_
  refine zM_g0 X wd2_126 dX3_spends_75 ?_
  refine z_bipush (v := (41 : Int32)) X dX3_spends_78 (by decide) ?_
  refine zM_l0 X vi_41_55 cl_41 dX3_spends_80 ?_
  refine z_iadd X dX3_spends_81 ?_
  refine zM_s0 X vi_47_55 cl_47 dX3_spends_82 (fun M_82 eM_82 => ?_)
  refine z_bipush (v := (20 : Int32)) X dX3_spends_83 (by decide) ?_
  refine z_iload_n X dX3_spends_85 2 rfl ?_
  refine z_aload_n X dX3_spends_86 1 rfl ?_
  refine zM_g0 X wd2_126 dX3_spends_87 ?_
  refine z_bipush (v := (39 : Int32)) X dX3_spends_90 (by decide) ?_
  refine zM_l0 X vi_39_55 cl_39 dX3_spends_92 ?_
  refine z_imul X dX3_spends_93 ?_
  refine z_bipush (v := (100 : Int32)) X dX3_spends_94 (by decide) ?_
  refine z_idiv X dX3_spends_96 (by decide) ?_
  refine z_iadd X dX3_spends_97 ?_
  refine z_topi (fun v_98 ev_98 => ?_)
  refine z_istore_n (lv' := [(3, .int v_98), (2, .int v_27), (0, .ref (o 0)), (1, .int a1)]) X dX3_spends_98 (Nat.le_of_ble_eq_true rfl) rfl ?_
  refine z_iload_n X dX3_spends_99 0 rfl ?_
  refine z_bipush (v := (120 : Int32)) X dX3_spends_100 (by decide) ?_
  have J_j_111 : ∀ j_111 : Int32, j_111 = (if v_98 ≤ (120 : Int32) then (v_98) else ((120 : Int32))) → Z p l e { frames := 0, cells := 0, slots := 0, locals := 0 } s m args below meth c D A 4 0 0 Q (wM kI o M_82) [(0, .ref (o 0))] 111 [.int j_111] := by
    intro j_111 ej_111
    refine z_istore_n (lv' := [(3, .int j_111), (0, .ref (o 0))]) X dX3_spends_111 (Nat.le_of_ble_eq_true rfl) rfl ?_
    refine z_aload_n X dX3_spends_112 1 rfl ?_
    refine zM_g0 X wd2_126 dX3_spends_113 ?_
    refine z_bipush (v := (42 : Int32)) X dX3_spends_116 (by decide) ?_
    refine zM_l0 X vi_42_55 cl_42 dX3_spends_118 ?_
    refine z_iconst (v := (4 : Int32)) X dX3_spends_119 (by decide) ?_
    refine z_irem X dX3_spends_120 (by decide) ?_
    have J_j_165 : ∀ j_165 : ARR, j_165 = (if ((M_82 0 42) - (M_82 0 42) / (4 : Int32) * (4 : Int32)) = (0 : Int32) then (let j_163 : Int32 := (if j_111 ≤ (M_82 0 40) then (if (M_82 0 40) ≤ j_111 then ((0 : Int32)) else ((-1 : Int32))) else ((1 : Int32))); let M_164 : ARR := sA M_82 0 40 ((M_82 0 40) + j_163); M_164) else (M_82)) → Z p l e { frames := 0, cells := 0, slots := 0, locals := 0 } s m args below meth c D A 4 0 0 Q (wM kI o j_165) [] 165 [] := by
      intro j_165 ej_165
      exact z_vret X hQ rfl j_165 rfl (by subst ev_27 eM_42 eM_54 eM_65 eM_82 ev_98 ej_111 ej_165; simp only [F_M_spends]) dX3_spends_165
    refine z_if_ne (tgt := 165) X dX3_spends_121 (by decide) (fun c_121 => ?_) (fun c_121 => ?_)
    · refine z_lv (lv' := []) [] rfl ?_
      exact J_j_165 M_82 (by simp only [if_neg c_121])
    · refine z_aload_n X dX3_spends_124 1 rfl ?_
      refine zM_g0 X wd2_126 dX3_spends_125 ?_
      refine z_bipush (v := (40 : Int32)) X dX3_spends_128 (by decide) ?_
      refine z_dup2 X dX3_spends_130 rfl rfl ?_
      refine zM_l0 X vi_40_55 cl_40 dX3_spends_131 ?_
      refine z_aload_n X dX3_spends_132 1 rfl ?_
      refine zM_g0 X wd2_126 dX3_spends_133 ?_
      refine z_bipush (v := (40 : Int32)) X dX3_spends_136 (by decide) ?_
      refine zM_l0 X vi_40_55 cl_40 dX3_spends_138 ?_
      refine z_iload_n X dX3_spends_139 0 rfl ?_
      have J_j_163 : ∀ j_163 : Int32, j_163 = (if j_111 ≤ (M_82 0 40) then (if (M_82 0 40) ≤ j_111 then ((0 : Int32)) else ((-1 : Int32))) else ((1 : Int32))) → Z p l e { frames := 0, cells := 0, slots := 0, locals := 0 } s m args below meth c D A 4 0 0 Q (wM kI o M_82) [] 163 [.int j_163, .int (M_82 0 40), .int (40 : Int32), .ref (o 1)] := by
        intro j_163 ej_163
        refine z_iadd X dX3_spends_163 ?_
        refine zM_s0 X vi_40_55 cl_40 dX3_spends_164 (fun M_164 eM_164 => ?_)
        exact J_j_165 M_164 (by subst ej_163 eM_164; simp only [if_pos c_121])
      refine z_icmp_ge (tgt := 147) X dX3_spends_140 (by decide) (fun c_140 => ?_) (fun c_140 => ?_)
      · refine z_aload_n X dX3_spends_147 1 rfl ?_
        refine zM_g0 X wd2_126 dX3_spends_148 ?_
        refine z_bipush (v := (40 : Int32)) X dX3_spends_151 (by decide) ?_
        refine zM_l0 X vi_40_55 cl_40 dX3_spends_153 ?_
        refine z_iload_n X dX3_spends_154 0 rfl ?_
        refine z_icmp_le (tgt := 162) X dX3_spends_155 (by decide) (fun c_155 => ?_) (fun c_155 => ?_)
        · refine z_iconst (v := (0 : Int32)) X dX3_spends_162 (by decide) ?_
          refine z_lv (lv' := []) [] rfl ?_
          exact J_j_163 (0 : Int32) (by simp only [if_pos c_140, if_pos c_155])
        · refine z_iconst (v := (-1 : Int32)) X dX3_spends_158 (by decide) ?_
          refine z_goto (tgt := 163) X dX3_spends_159 (by decide) ?_
          refine z_lv (lv' := []) [] rfl ?_
          exact J_j_163 (-1 : Int32) (by simp only [if_pos c_140, if_neg c_155])
      · refine z_iconst (v := (1 : Int32)) X dX3_spends_143 (by decide) ?_
        refine z_goto (tgt := 163) X dX3_spends_144 (by decide) ?_
        refine z_lv (lv' := []) [] rfl ?_
        exact J_j_163 (1 : Int32) (by simp only [if_neg c_140])
  refine z_icmp_le (tgt := 110) X dX3_spends_102 (by decide) (fun c_102 => ?_) (fun c_102 => ?_)
  · refine z_iload_n X dX3_spends_110 0 rfl ?_
    refine z_lv (lv' := [(0, .ref (o 0))]) [2] rfl ?_
    exact J_j_111 v_98 (by simp only [if_pos c_102])
  · refine z_bipush (v := (120 : Int32)) X dX3_spends_105 (by decide) ?_
    refine z_goto (tgt := 111) X dX3_spends_107 (by decide) ?_
    refine z_lv (lv' := [(0, .ref (o 0))]) [2] rfl ?_
    exact J_j_111 (120 : Int32) (by simp only [if_neg c_102])
set_option maxRecDepth 100000 in
set_option maxHeartbeats 4000000 in
theorem c_M_looks (l : Launch) (D : va_G) (kI kC kQ : ClassId) (o : Nat → Nat) (M : ARR) : CtV (U := ARR) l yX3_looks cX3_looks 3 none { frames := 0, cells := 0, slots := 0, locals := 0 } D (tysG kI kC kQ) (wM kI o M) [.ref (o 0)] (fun u => (wM kI o u)) (fun u => u = F_M_looks M) := by
  refine met_Zv (own := "ShadowLatchesModel") (by decide +kernel) rfl (Nat.le_of_ble_eq_true rfl) ?_
  intro p e s m args below meth c A Q X hQ
  show Z p l e { frames := 0, cells := 0, slots := 0, locals := 0 } s m args below meth c D A 3 0 0 Q (wM kI o M) [(0, .ref (o 0))] 0 []
  refine z_aload_n X dX3_looks_0 0 rfl ?_
  refine zM_g0 X wd2_126 dX3_looks_1 ?_
  refine z_bipush (v := (48 : Int32)) X dX3_looks_4 (by decide) ?_
  refine zM_l0 X vi_48_55 cl_48 dX3_looks_6 ?_
  refine z_aload_n X dX3_looks_7 0 rfl ?_
  refine zM_g0 X wd2_126 dX3_looks_8 ?_
  refine z_bipush (v := (36 : Int32)) X dX3_looks_11 (by decide) ?_
  refine zM_l0 X vi_36_55 cl_36 dX3_looks_13 ?_
  refine z_isub X dX3_looks_14 ?_
  refine z_topi (fun v_15 ev_15 => ?_)
  refine z_istore_n (lv' := [(1, .int v_15), (0, .ref (o 0))]) X dX3_looks_15 (Nat.le_of_ble_eq_true rfl) rfl ?_
  refine z_iload_n X dX3_looks_16 0 rfl ?_
  have J_j_108 : ∀ j_108 : ARR, j_108 = (if (0 : Int32) ≤ v_15 then (if v_15 ≤ (0 : Int32) then (M) else (let j_77 : Int32 := (if (M 0 38) ≤ v_15 then ((M 0 38)) else (v_15)); let M_96 : ARR := sA M 0 39 ((M 0 39) + (j_77 * (M 0 37))); let M_107 : ARR := sA M_96 0 52 ((M_96 0 52) + j_77); M_107)) else (let M_36 : ARR := sA M 0 39 ((M 0 39) - (M 0 37)); let M_47 : ARR := sA M_36 0 53 ((M_36 0 53) + (1 : Int32)); M_47)) → Z p l e { frames := 0, cells := 0, slots := 0, locals := 0 } s m args below meth c D A 3 0 0 Q (wM kI o j_108) [(0, .ref (o 0))] 108 [] := by
    intro j_108 ej_108
    refine z_aload_n X dX3_looks_108 0 rfl ?_
    refine zM_g0 X wd2_126 dX3_looks_109 ?_
    refine z_bipush (v := (39 : Int32)) X dX3_looks_112 (by decide) ?_
    refine z_aload_n X dX3_looks_114 0 rfl ?_
    refine zM_g0 X wd2_126 dX3_looks_115 ?_
    refine z_bipush (v := (39 : Int32)) X dX3_looks_118 (by decide) ?_
    refine zM_l0 X vi_39_55 cl_39 dX3_looks_120 ?_
    refine z_sipush (v := (500 : Int32)) X dX3_looks_121 (by decide) ?_
    have J_j_159 : ∀ j_159 : Int32, j_159 = (if (500 : Int32) ≤ (j_108 0 39) then (if (j_108 0 39) ≤ (1200 : Int32) then ((j_108 0 39)) else ((1200 : Int32))) else ((500 : Int32))) → Z p l e { frames := 0, cells := 0, slots := 0, locals := 0 } s m args below meth c D A 3 0 0 Q (wM kI o j_108) [(0, .ref (o 0))] 159 [.int j_159, .int (39 : Int32), .ref (o 1)] := by
      intro j_159 ej_159
      refine zM_s0 X vi_39_55 cl_39 dX3_looks_159 (fun M_159 eM_159 => ?_)
      refine z_aload_n X dX3_looks_160 0 rfl ?_
      refine zM_g0 X wd2_126 dX3_looks_161 ?_
      refine z_bipush (v := (47 : Int32)) X dX3_looks_164 (by decide) ?_
      refine z_iconst (v := (0 : Int32)) X dX3_looks_166 (by decide) ?_
      refine zM_s0 X vi_47_55 cl_47 dX3_looks_167 (fun M_167 eM_167 => ?_)
      refine z_aload_n X dX3_looks_168 0 rfl ?_
      refine zM_g0 X wd2_126 dX3_looks_169 ?_
      refine z_bipush (v := (48 : Int32)) X dX3_looks_172 (by decide) ?_
      refine z_iconst (v := (0 : Int32)) X dX3_looks_174 (by decide) ?_
      refine zM_s0 X vi_48_55 cl_48 dX3_looks_175 (fun M_175 eM_175 => ?_)
      exact z_vret X hQ rfl M_175 rfl (by subst ev_15 ej_108 ej_159 eM_159 eM_167 eM_175; simp only [F_M_looks]) dX3_looks_176
    refine z_icmp_ge (tgt := 133) X dX3_looks_124 (by decide) (fun c_124 => ?_) (fun c_124 => ?_)
    · refine z_aload_n X dX3_looks_133 0 rfl ?_
      refine zM_g0 X wd2_126 dX3_looks_134 ?_
      refine z_bipush (v := (39 : Int32)) X dX3_looks_137 (by decide) ?_
      refine zM_l0 X vi_39_55 cl_39 dX3_looks_139 ?_
      refine z_sipush (v := (1200 : Int32)) X dX3_looks_140 (by decide) ?_
      refine z_icmp_le (tgt := 152) X dX3_looks_143 (by decide) (fun c_143 => ?_) (fun c_143 => ?_)
      · refine z_aload_n X dX3_looks_152 0 rfl ?_
        refine zM_g0 X wd2_126 dX3_looks_153 ?_
        refine z_bipush (v := (39 : Int32)) X dX3_looks_156 (by decide) ?_
        refine zM_l0 X vi_39_55 cl_39 dX3_looks_158 ?_
        exact J_j_159 (j_108 0 39) (by simp only [if_pos c_124, if_pos c_143])
      · refine z_sipush (v := (1200 : Int32)) X dX3_looks_146 (by decide) ?_
        refine z_goto (tgt := 159) X dX3_looks_149 (by decide) ?_
        exact J_j_159 (1200 : Int32) (by simp only [if_pos c_124, if_neg c_143])
    · refine z_sipush (v := (500 : Int32)) X dX3_looks_127 (by decide) ?_
      refine z_goto (tgt := 159) X dX3_looks_130 (by decide) ?_
      exact J_j_159 (500 : Int32) (by simp only [if_neg c_124])
  refine z_if_ge (tgt := 51) X dX3_looks_17 (by decide) (fun c_17 => ?_) (fun c_17 => ?_)
  · refine z_iload_n X dX3_looks_51 0 rfl ?_
    refine z_if_le (tgt := 108) X dX3_looks_52 (by decide) (fun c_52 => ?_) (fun c_52 => ?_)
    · refine z_lv (lv' := [(0, .ref (o 0))]) [1] rfl ?_
      exact J_j_108 M (by simp only [if_pos c_17, if_pos c_52])
    · refine z_iload_n X dX3_looks_55 0 rfl ?_
      refine z_aload_n X dX3_looks_56 1 rfl ?_
      refine zM_g0 X wd2_126 dX3_looks_57 ?_
      refine z_bipush (v := (38 : Int32)) X dX3_looks_60 (by decide) ?_
      refine zM_l0 X vi_38_55 cl_38 dX3_looks_62 ?_
      have J_j_77 : ∀ j_77 : Int32, j_77 = (if (M 0 38) ≤ v_15 then ((M 0 38)) else (v_15)) → Z p l e { frames := 0, cells := 0, slots := 0, locals := 0 } s m args below meth c D A 3 0 0 Q (wM kI o M) [(0, .ref (o 0))] 77 [.int j_77] := by
        intro j_77 ej_77
        refine z_istore_n (lv' := [(2, .int j_77), (0, .ref (o 0))]) X dX3_looks_77 (Nat.le_of_ble_eq_true rfl) rfl ?_
        refine z_aload_n X dX3_looks_78 1 rfl ?_
        refine zM_g0 X wd2_126 dX3_looks_79 ?_
        refine z_bipush (v := (39 : Int32)) X dX3_looks_82 (by decide) ?_
        refine z_dup2 X dX3_looks_84 rfl rfl ?_
        refine zM_l0 X vi_39_55 cl_39 dX3_looks_85 ?_
        refine z_iload_n X dX3_looks_86 0 rfl ?_
        refine z_aload_n X dX3_looks_87 1 rfl ?_
        refine zM_g0 X wd2_126 dX3_looks_88 ?_
        refine z_bipush (v := (37 : Int32)) X dX3_looks_91 (by decide) ?_
        refine zM_l0 X vi_37_55 cl_37 dX3_looks_93 ?_
        refine z_imul X dX3_looks_94 ?_
        refine z_iadd X dX3_looks_95 ?_
        refine zM_s0 X vi_39_55 cl_39 dX3_looks_96 (fun M_96 eM_96 => ?_)
        refine z_aload_n X dX3_looks_97 1 rfl ?_
        refine zM_g0 X wd2_126 dX3_looks_98 ?_
        refine z_bipush (v := (52 : Int32)) X dX3_looks_101 (by decide) ?_
        refine z_dup2 X dX3_looks_103 rfl rfl ?_
        refine zM_l0 X vi_52_55 cl_52 dX3_looks_104 ?_
        refine z_iload_n X dX3_looks_105 0 rfl ?_
        refine z_iadd X dX3_looks_106 ?_
        refine zM_s0 X vi_52_55 cl_52 dX3_looks_107 (fun M_107 eM_107 => ?_)
        refine z_lv (lv' := [(0, .ref (o 0))]) [1] rfl ?_
        exact J_j_108 M_107 (by subst ej_77 eM_96 eM_107; simp only [if_pos c_17, if_neg c_52])
      refine z_icmp_ge (tgt := 70) X dX3_looks_63 (by decide) (fun c_63 => ?_) (fun c_63 => ?_)
      · refine z_aload_n X dX3_looks_70 1 rfl ?_
        refine zM_g0 X wd2_126 dX3_looks_71 ?_
        refine z_bipush (v := (38 : Int32)) X dX3_looks_74 (by decide) ?_
        refine zM_l0 X vi_38_55 cl_38 dX3_looks_76 ?_
        refine z_lv (lv' := [(0, .ref (o 0))]) [1] rfl ?_
        exact J_j_77 (M 0 38) (by simp only [if_pos c_63])
      · refine z_iload_n X dX3_looks_66 0 rfl ?_
        refine z_goto (tgt := 77) X dX3_looks_67 (by decide) ?_
        refine z_lv (lv' := [(0, .ref (o 0))]) [1] rfl ?_
        exact J_j_77 v_15 (by simp only [if_neg c_63])
  · refine z_aload_n X dX3_looks_20 1 rfl ?_
    refine zM_g0 X wd2_126 dX3_looks_21 ?_
    refine z_bipush (v := (39 : Int32)) X dX3_looks_24 (by decide) ?_
    refine z_dup2 X dX3_looks_26 rfl rfl ?_
    refine zM_l0 X vi_39_55 cl_39 dX3_looks_27 ?_
    refine z_aload_n X dX3_looks_28 1 rfl ?_
    refine zM_g0 X wd2_126 dX3_looks_29 ?_
    refine z_bipush (v := (37 : Int32)) X dX3_looks_32 (by decide) ?_
    refine zM_l0 X vi_37_55 cl_37 dX3_looks_34 ?_
    refine z_isub X dX3_looks_35 ?_
    refine zM_s0 X vi_39_55 cl_39 dX3_looks_36 (fun M_36 eM_36 => ?_)
    refine z_aload_n X dX3_looks_37 1 rfl ?_
    refine zM_g0 X wd2_126 dX3_looks_38 ?_
    refine z_bipush (v := (53 : Int32)) X dX3_looks_41 (by decide) ?_
    refine z_dup2 X dX3_looks_43 rfl rfl ?_
    refine zM_l0 X vi_53_55 cl_53 dX3_looks_44 ?_
    refine z_iconst (v := (1 : Int32)) X dX3_looks_45 (by decide) ?_
    refine z_iadd X dX3_looks_46 ?_
    refine zM_s0 X vi_53_55 cl_53 dX3_looks_47 (fun M_47 eM_47 => ?_)
    refine z_goto (tgt := 108) X dX3_looks_48 (by decide) ?_
    refine z_lv (lv' := [(0, .ref (o 0))]) [1] rfl ?_
    exact J_j_108 M_47 (by subst eM_36 eM_47; simp only [if_neg c_17])
set_option maxRecDepth 100000 in
set_option maxHeartbeats 4000000 in
theorem c_M_isSetting (l : Launch) (D : va_G) (kI kC kQ : ClassId) (a1 : Int32) (a2 : Int32) : CtI (U := Int32) l yX3_isSetting cX3_isSetting 2 (some .boolean) { frames := 1, cells := 0, slots := 0, locals := 25 } D (tysG kI kC kQ) [] [.int a1, .int a2] (fun u => u) (fun _ => []) (fun u => u = F_M_isSetting a1 a2) := by
  refine met_Zi (own := "ShadowLatchesModel") (by decide +kernel) rfl (Nat.le_of_ble_eq_true rfl) ?_
  intro p e s m args below meth c A Q X hQ
  show Z p l e { frames := 1, cells := 0, slots := 0, locals := 25 } s m args below meth c D A 2 0 0 Q [] [(0, .int a1), (1, .int a2)] 0 []
  refine z_iload_n X dX3_isSetting_0 0 rfl ?_
  by_cases c_1_0 : a1 = (0 : Int32)
  · refine z_tableIn (tgt := 40) X dX3_isSetting_1 (by rw [c_1_0]; decide) (by rw [c_1_0]; decide) (by rw [c_1_0]; rfl) (by decide) ?_
    refine z_iload_n X dX3_isSetting_40 1 rfl ?_
    refine z_i2l X dX3_isSetting_41 ?_
    refine z_ldc2 X dX3_isSetting_42 wd3_19 ?_
    refine z_ldc2 X dX3_isSetting_45 wd3_20 ?_
    refine z_callSiN X (c_M_in l D kI kC kQ (a2.toInt64) (50 : Int64) (1000 : Int64)) (gS wd2_172 wd2_173 wd1_4 wd2_174) k_M_in rfl rfl ⟨Nat.le_of_ble_eq_true rfl, Nat.le_of_ble_eq_true rfl⟩ ⟨Nat.zero_le _, Nat.zero_le _⟩ rfl rfl (Nat.le_of_ble_eq_true rfl) dX3_isSetting_48 rfl (fun _ => rfl) (fun r_48 er_48 => ?_)
    exact z_zret X hQ rfl r_48 rfl rfl (by subst er_48; simp only [F_M_isSetting, if_pos c_1_0]) (nb (by rw [er_48]; exact bl_in _ _ _)) dX3_isSetting_51
  by_cases c_1_1 : a1 = (1 : Int32)
  · refine z_tableIn (tgt := 52) X dX3_isSetting_1 (by rw [c_1_1]; decide) (by rw [c_1_1]; decide) (by rw [c_1_1]; rfl) (by decide) ?_
    refine z_iload_n X dX3_isSetting_52 1 rfl ?_
    refine z_i2l X dX3_isSetting_53 ?_
    refine z_lconst (v := (0 : Int64)) X dX3_isSetting_54 (by decide) ?_
    refine z_ldc2 X dX3_isSetting_55 wd3_21 ?_
    refine z_callSiN X (c_M_in l D kI kC kQ (a2.toInt64) (0 : Int64) (200 : Int64)) (gS wd2_172 wd2_173 wd1_4 wd2_174) k_M_in rfl rfl ⟨Nat.le_of_ble_eq_true rfl, Nat.le_of_ble_eq_true rfl⟩ ⟨Nat.zero_le _, Nat.zero_le _⟩ rfl rfl (Nat.le_of_ble_eq_true rfl) dX3_isSetting_58 rfl (fun _ => rfl) (fun r_58 er_58 => ?_)
    exact z_zret X hQ rfl r_58 rfl rfl (by subst er_58; simp only [F_M_isSetting, if_neg c_1_0, if_pos c_1_1]) (nb (by rw [er_58]; exact bl_in _ _ _)) dX3_isSetting_61
  by_cases c_1_2 : a1 = (2 : Int32)
  · refine z_tableIn (tgt := 62) X dX3_isSetting_1 (by rw [c_1_2]; decide) (by rw [c_1_2]; decide) (by rw [c_1_2]; rfl) (by decide) ?_
    refine z_iload_n X dX3_isSetting_62 1 rfl ?_
    refine z_i2l X dX3_isSetting_63 ?_
    refine z_lconst (v := (1 : Int64)) X dX3_isSetting_64 (by decide) ?_
    refine z_ldc2 X dX3_isSetting_65 wd3_22 ?_
    refine z_callSiN X (c_M_in l D kI kC kQ (a2.toInt64) (1 : Int64) (20 : Int64)) (gS wd2_172 wd2_173 wd1_4 wd2_174) k_M_in rfl rfl ⟨Nat.le_of_ble_eq_true rfl, Nat.le_of_ble_eq_true rfl⟩ ⟨Nat.zero_le _, Nat.zero_le _⟩ rfl rfl (Nat.le_of_ble_eq_true rfl) dX3_isSetting_68 rfl (fun _ => rfl) (fun r_68 er_68 => ?_)
    exact z_zret X hQ rfl r_68 rfl rfl (by subst er_68; simp only [F_M_isSetting, if_neg c_1_0, if_neg c_1_1, if_pos c_1_2]) (nb (by rw [er_68]; exact bl_in _ _ _)) dX3_isSetting_71
  by_cases c_1_3 : a1 = (3 : Int32)
  · refine z_tableIn (tgt := 72) X dX3_isSetting_1 (by rw [c_1_3]; decide) (by rw [c_1_3]; decide) (by rw [c_1_3]; rfl) (by decide) ?_
    refine z_iload_n X dX3_isSetting_72 1 rfl ?_
    refine z_i2l X dX3_isSetting_73 ?_
    refine z_ldc2 X dX3_isSetting_74 wd2_170 ?_
    refine z_ldc2 X dX3_isSetting_77 wd3_6 ?_
    refine z_callSiN X (c_M_in l D kI kC kQ (a2.toInt64) (10 : Int64) (500 : Int64)) (gS wd2_172 wd2_173 wd1_4 wd2_174) k_M_in rfl rfl ⟨Nat.le_of_ble_eq_true rfl, Nat.le_of_ble_eq_true rfl⟩ ⟨Nat.zero_le _, Nat.zero_le _⟩ rfl rfl (Nat.le_of_ble_eq_true rfl) dX3_isSetting_80 rfl (fun _ => rfl) (fun r_80 er_80 => ?_)
    exact z_zret X hQ rfl r_80 rfl rfl (by subst er_80; simp only [F_M_isSetting, if_neg c_1_0, if_neg c_1_1, if_neg c_1_2, if_pos c_1_3]) (nb (by rw [er_80]; exact bl_in _ _ _)) dX3_isSetting_83
  by_cases c_1_4 : a1 = (4 : Int32)
  · refine z_tableIn (tgt := 84) X dX3_isSetting_1 (by rw [c_1_4]; decide) (by rw [c_1_4]; decide) (by rw [c_1_4]; rfl) (by decide) ?_
    refine z_iload_n X dX3_isSetting_84 1 rfl ?_
    refine z_i2l X dX3_isSetting_85 ?_
    refine z_lconst (v := (0 : Int64)) X dX3_isSetting_86 (by decide) ?_
    refine z_ldc2 X dX3_isSetting_87 wd3_23 ?_
    refine z_callSiN X (c_M_in l D kI kC kQ (a2.toInt64) (0 : Int64) (100 : Int64)) (gS wd2_172 wd2_173 wd1_4 wd2_174) k_M_in rfl rfl ⟨Nat.le_of_ble_eq_true rfl, Nat.le_of_ble_eq_true rfl⟩ ⟨Nat.zero_le _, Nat.zero_le _⟩ rfl rfl (Nat.le_of_ble_eq_true rfl) dX3_isSetting_90 rfl (fun _ => rfl) (fun r_90 er_90 => ?_)
    exact z_zret X hQ rfl r_90 rfl rfl (by subst er_90; simp only [F_M_isSetting, if_neg c_1_0, if_neg c_1_1, if_neg c_1_2, if_neg c_1_3, if_pos c_1_4]) (nb (by rw [er_90]; exact bl_in _ _ _)) dX3_isSetting_93
  by_cases c_1_5 : a1 = (5 : Int32)
  · refine z_tableIn (tgt := 94) X dX3_isSetting_1 (by rw [c_1_5]; decide) (by rw [c_1_5]; decide) (by rw [c_1_5]; rfl) (by decide) ?_
    refine z_iload_n X dX3_isSetting_94 1 rfl ?_
    refine z_i2l X dX3_isSetting_95 ?_
    refine z_lconst (v := (1 : Int64)) X dX3_isSetting_96 (by decide) ?_
    refine z_ldc2 X dX3_isSetting_97 wd3_19 ?_
    refine z_callSiN X (c_M_in l D kI kC kQ (a2.toInt64) (1 : Int64) (50 : Int64)) (gS wd2_172 wd2_173 wd1_4 wd2_174) k_M_in rfl rfl ⟨Nat.le_of_ble_eq_true rfl, Nat.le_of_ble_eq_true rfl⟩ ⟨Nat.zero_le _, Nat.zero_le _⟩ rfl rfl (Nat.le_of_ble_eq_true rfl) dX3_isSetting_100 rfl (fun _ => rfl) (fun r_100 er_100 => ?_)
    exact z_zret X hQ rfl r_100 rfl rfl (by subst er_100; simp only [F_M_isSetting, if_neg c_1_0, if_neg c_1_1, if_neg c_1_2, if_neg c_1_3, if_neg c_1_4, if_pos c_1_5]) (nb (by rw [er_100]; exact bl_in _ _ _)) dX3_isSetting_103
  refine z_tableOut (tgt := 104) X dX3_isSetting_1 (by have t0 : a1.toInt ≠ 0 := fun q => c_1_0 (Int32.toInt_inj.mp q); have t1 : a1.toInt ≠ 1 := fun q => c_1_1 (Int32.toInt_inj.mp q); have t2 : a1.toInt ≠ 2 := fun q => c_1_2 (Int32.toInt_inj.mp q); have t3 : a1.toInt ≠ 3 := fun q => c_1_3 (Int32.toInt_inj.mp q); have t4 : a1.toInt ≠ 4 := fun q => c_1_4 (Int32.toInt_inj.mp q); have t5 : a1.toInt ≠ 5 := fun q => c_1_5 (Int32.toInt_inj.mp q); omega) (by decide) ?_
  refine z_iload_n X dX3_isSetting_104 0 rfl ?_
  refine z_bipush (v := (6 : Int32)) X dX3_isSetting_105 (by decide) ?_
  have J_j_127 : ∀ j_127 : Int32, j_127 = (if a1 = (6 : Int32) then (let r_116 : Int32 := (F_M_in (a2.toInt64) (1 : Int64) (10 : Int64)); if r_116 = (0 : Int32) then ((0 : Int32)) else ((1 : Int32))) else ((0 : Int32))) → Z p l e { frames := 1, cells := 0, slots := 0, locals := 25 } s m args below meth c D A 2 0 0 Q [] [] 127 [.int j_127] := by
    intro j_127 ej_127
    exact z_zret X hQ rfl j_127 rfl rfl (by subst ej_127; simp only [F_M_isSetting, if_neg c_1_0, if_neg c_1_1, if_neg c_1_2, if_neg c_1_3, if_neg c_1_4, if_neg c_1_5]) (nb (by rw [ej_127]; (try dsimp only); repeat' first | exact bl_in _ _ _ | apply bl_ite | exact Or.inl rfl | exact Or.inr rfl)) dX3_isSetting_127
  refine z_icmp_ne (tgt := 126) X dX3_isSetting_107 (by decide) (fun c_107 => ?_) (fun c_107 => ?_)
  · refine z_iconst (v := (0 : Int32)) X dX3_isSetting_126 (by decide) ?_
    refine z_lv (lv' := []) [] rfl ?_
    exact J_j_127 (0 : Int32) (by simp only [if_neg c_107])
  · refine z_iload_n X dX3_isSetting_110 1 rfl ?_
    refine z_i2l X dX3_isSetting_111 ?_
    refine z_lconst (v := (1 : Int64)) X dX3_isSetting_112 (by decide) ?_
    refine z_ldc2 X dX3_isSetting_113 wd2_170 ?_
    refine z_callSiN X (c_M_in l D kI kC kQ (a2.toInt64) (1 : Int64) (10 : Int64)) (gS wd2_172 wd2_173 wd1_4 wd2_174) k_M_in rfl rfl ⟨Nat.le_of_ble_eq_true rfl, Nat.le_of_ble_eq_true rfl⟩ ⟨Nat.zero_le _, Nat.zero_le _⟩ rfl rfl (Nat.le_of_ble_eq_true rfl) dX3_isSetting_116 rfl (fun _ => rfl) (fun r_116 er_116 => ?_)
    refine z_if_eq (tgt := 126) X dX3_isSetting_119 (by decide) (fun c_119 => ?_) (fun c_119 => ?_)
    · refine z_iconst (v := (0 : Int32)) X dX3_isSetting_126 (by decide) ?_
      refine z_lv (lv' := []) [] rfl ?_
      exact J_j_127 (0 : Int32) (by subst er_116; simp only [if_pos c_107, if_pos c_119])
    · refine z_iconst (v := (1 : Int32)) X dX3_isSetting_122 (by decide) ?_
      refine z_goto (tgt := 127) X dX3_isSetting_123 (by decide) ?_
      refine z_lv (lv' := []) [] rfl ?_
      exact J_j_127 (1 : Int32) (by subst er_116; simp only [if_pos c_107, if_neg c_119])
set_option maxRecDepth 100000 in
set_option maxHeartbeats 4000000 in
theorem c_M_remember (l : Launch) (D : va_G) (kI kC kQ : ClassId) (o : Nat → Nat) (M : ARR) : CtV (U := ARR) l yX3_remember cX3_remember 1 none { frames := 1, cells := 0, slots := 0, locals := 22 } D (tysG kI kC kQ) (wM kI o M) [.ref (o 0)] (fun u => (wM kI o u)) (fun u => u = F_M_remember M) := by
  refine met_Zv (own := "ShadowLatchesModel") (by decide +kernel) rfl (Nat.le_of_ble_eq_true rfl) ?_
  intro p e s m args below meth c A Q X hQ
  show Z p l e { frames := 1, cells := 0, slots := 0, locals := 22 } s m args below meth c D A 1 0 0 Q (wM kI o M) [(0, .ref (o 0))] 0 []
  refine z_aload_n X dX3_remember_0 0 rfl ?_
  refine zM_g0 X wd2_126 dX3_remember_1 ?_
  refine z_aload_n X dX3_remember_4 0 rfl ?_
  refine zM_g1 X wd2_127 dX3_remember_5 ?_
  refine zM_cp_0_1 X (gS wd2_179 wd2_180 wd1_4 wd2_181) ⟨Nat.le_of_ble_eq_true rfl, Nat.le_of_ble_eq_true rfl⟩ ⟨Nat.zero_le _, Nat.zero_le _⟩ (Nat.le_of_ble_eq_true rfl) dX3_remember_8 (fun M_8 eM_8 => ?_)
  exact z_vret X hQ rfl M_8 rfl (by subst eM_8; simp only [F_M_remember]) dX3_remember_11
set_option maxRecDepth 100000 in
set_option maxHeartbeats 4000000 in
theorem c_M_acted (l : Launch) (D : va_G) (kI kC kQ : ClassId) (o : Nat → Nat) (M : ARR) (a1 : Int32) (hh : bn 0 4 (M 7 4)) : CtI (U := Int32 × ARR) l yX3_acted cX3_acted 3 (some .int) { frames := 0, cells := 0, slots := 0, locals := 0 } D (tysG kI kC kQ) (wM kI o M) [.ref (o 0), .int a1] (fun u => u.1) (fun u => (wM kI o u.2)) (fun u => u = F_M_acted M a1) := by
  refine met_Zi (own := "ShadowLatchesModel") (by decide +kernel) rfl (Nat.le_of_ble_eq_true rfl) ?_
  intro p e s m args below meth c A Q X hQ
  show Z p l e { frames := 0, cells := 0, slots := 0, locals := 0 } s m args below meth c D A 3 0 0 Q (wM kI o M) [(0, .ref (o 0)), (1, .int a1)] 0 []
  refine z_aload_n X dX3_acted_0 0 rfl ?_
  refine zM_g4 X wd2_130 dX3_acted_1 ?_
  refine z_iconst (v := (4 : Int32)) X dX3_acted_4 (by decide) ?_
  have J_j_48 : ∀ j_48 : ARR, j_48 = (if (M 7 4) = (4 : Int32) then (let q_10 : ARR := L_M_acted_10 166 (0 : Int32) M; let M_45 : ARR := sA q_10 7 4 ((q_10 7 4) - (1 : Int32)); M_45) else (M)) → (bn 0 3 (j_48 7 4)) → Z p l e { frames := 0, cells := 0, slots := 0, locals := 0 } s m args below meth c D A 3 0 0 Q (wM kI o j_48) [(0, .ref (o 0)), (1, .int a1)] 48 [] := by
    intro j_48 ej_48 hj
    refine z_iconst (v := (0 : Int32)) X dX3_acted_48 (by decide) ?_
    refine z_istore_n (lv' := [(2, .int (0 : Int32)), (0, .ref (o 0)), (1, .int a1)]) X dX3_acted_49 (Nat.le_of_ble_eq_true rfl) rfl ?_
    refine z_lv (lv' := [(0, .ref (o 0)), (1, .int a1), (2, .int (0 : Int32))]) [1, 2, 0] rfl ?_
    have Lp_50 : ∀ (n : Nat) (x2_50 : Int32) (M_50 : ARR), (cu 55 n x2_50) → (bn 0 3 (M_50 7 4)) → (∀ q_50 : ARR, q_50 = L_M_acted_50 n x2_50 M_50 → Z p l e { frames := 0, cells := 0, slots := 0, locals := 0 } s m args below meth c D A 3 0 0 Q (wM kI o q_50) [(0, .ref (o 0)), (1, .int a1)] 82 []) → Z p l e { frames := 0, cells := 0, slots := 0, locals := 0 } s m args below meth c D A 3 0 0 Q (wM kI o M_50) [(0, .ref (o 0)), (1, .int a1), (2, .int x2_50)] 50 [] := by
      intro n
      induction n with
      | zero =>
        intro x2_50 M_50 hi hm kk_50
        exfalso
        exact cu_0 hi
      | succ n ih_50 =>
        intro x2_50 M_50 hi hm kk_50
        refine z_iload_n X dX3_acted_50 2 rfl ?_
        refine z_bipush (v := (55 : Int32)) X dX3_acted_51 (by decide) ?_
        refine z_icmp_ge (tgt := 82) X dX3_acted_53 (by decide) (fun c_53 => ?_) (fun c_53 => ?_)
        · refine z_lv (lv' := [(0, .ref (o 0)), (1, .int a1)]) [0, 1] rfl ?_
          exact kk_50 M_50 (by simp only [L_M_acted_50, if_pos c_53]) 
        · refine z_aload_n X dX3_acted_56 0 rfl ?_
          refine zM_g3 X wd2_129 dX3_acted_57 ?_
          refine z_bipush (v := (55 : Int32)) X dX3_acted_60 (by decide) ?_
          refine z_aload_n X dX3_acted_62 0 rfl ?_
          refine zM_g4 X wd2_130 dX3_acted_63 ?_
          refine z_imul X dX3_acted_66 ?_
          refine z_iload_n X dX3_acted_67 2 rfl ?_
          refine z_iadd X dX3_acted_68 ?_
          refine z_aload_n X dX3_acted_69 0 rfl ?_
          refine zM_g1 X wd2_127 dX3_acted_70 ?_
          refine z_iload_n X dX3_acted_73 2 rfl ?_
          refine zM_l1 X (vin_k (cu_lt hi (by omega) rfl c_53) (by omega) (by omega)) rfl dX3_acted_74 ?_
          refine zM_s3 X (vin_h hm (cu_lt hi (by omega) rfl c_53)) rfl dX3_acted_75 (fun M_75 eM_75 => ?_)
          obtain ⟨v_76, ev_76⟩ : ∃ y : Int32, y = x2_50 + (1 : Int32) := ⟨_, rfl⟩
          refine z_iinc (v := v_76) (lv' := [(2, .int v_76), (0, .ref (o 0)), (1, .int a1)]) X dX3_acted_76 2 rfl (by rw [ev_76]; rfl) (Nat.le_of_ble_eq_true rfl) rfl ?_
          refine z_goto (tgt := 50) X dX3_acted_79 (by decide) ?_
          refine z_lv (lv' := [(0, .ref (o 0)), (1, .int a1), (2, .int v_76)]) [1, 2, 0] rfl ?_
          exact ih_50 v_76 M_75 (cu_b hi (by omega) rfl c_53 ev_76) (by rw [eM_75, sA_o _ _ _ _ (by decide)]; exact hm) (fun q_50 eq_50 => kk_50 q_50 (eq_50.trans (by subst eM_75 ev_76; simp only [L_M_acted_50, if_neg c_53])))
    refine Lp_50 56 (0 : Int32) j_48 (cu_i (by omega)) hj (fun q_50 eq_50 => ?_)
    refine z_aload_n X dX3_acted_82 0 rfl ?_
    refine z_dup X dX3_acted_83 rfl ?_
    refine zM_g4 X wd2_130 dX3_acted_84 ?_
    refine z_iconst (v := (1 : Int32)) X dX3_acted_87 (by decide) ?_
    refine z_iadd X dX3_acted_88 ?_
    refine zM_p4 X wd2_130 dX3_acted_89 (fun M_89 eM_89 => ?_)
    refine z_iload_n X dX3_acted_92 1 rfl ?_
    exact z_iret X hQ rfl (a1, M_89) rfl rfl (by subst ej_48 eq_50 eM_89; simp only [F_M_acted]) dX3_acted_93
  refine z_icmp_ne (tgt := 48) X dX3_acted_5 (by decide) (fun c_5 => ?_) (fun c_5 => ?_)
  · exact J_j_48 M (by simp only [if_neg c_5]) (bn_ne4 hh c_5)
  · refine z_iconst (v := (0 : Int32)) X dX3_acted_8 (by decide) ?_
    refine z_istore_n (lv' := [(2, .int (0 : Int32)), (0, .ref (o 0)), (1, .int a1)]) X dX3_acted_9 (Nat.le_of_ble_eq_true rfl) rfl ?_
    refine z_lv (lv' := [(0, .ref (o 0)), (1, .int a1), (2, .int (0 : Int32))]) [1, 2, 0] rfl ?_
    have Lp_10 : ∀ (n : Nat) (x2_10 : Int32) (M_10 : ARR), (cu 165 n x2_10) → (M_10 7 4 = M 7 4) → (∀ q_10 : ARR, q_10 = L_M_acted_10 n x2_10 M_10 → (q_10 7 4 = M 7 4) → Z p l e { frames := 0, cells := 0, slots := 0, locals := 0 } s m args below meth c D A 3 0 0 Q (wM kI o q_10) [(0, .ref (o 0)), (1, .int a1)] 38 []) → Z p l e { frames := 0, cells := 0, slots := 0, locals := 0 } s m args below meth c D A 3 0 0 Q (wM kI o M_10) [(0, .ref (o 0)), (1, .int a1), (2, .int x2_10)] 10 [] := by
      intro n
      induction n with
      | zero =>
        intro x2_10 M_10 hi hm kk_10
        exfalso
        exact cu_0 hi
      | succ n ih_10 =>
        intro x2_10 M_10 hi hm kk_10
        refine z_iload_n X dX3_acted_10 2 rfl ?_
        refine z_sipush (v := (165 : Int32)) X dX3_acted_11 (by decide) ?_
        refine z_icmp_ge (tgt := 38) X dX3_acted_14 (by decide) (fun c_14 => ?_) (fun c_14 => ?_)
        · refine z_lv (lv' := [(0, .ref (o 0)), (1, .int a1)]) [0, 1] rfl ?_
          exact kk_10 M_10 (by simp only [L_M_acted_10, if_pos c_14]) hm
        · refine z_aload_n X dX3_acted_17 0 rfl ?_
          refine zM_g3 X wd2_129 dX3_acted_18 ?_
          refine z_iload_n X dX3_acted_21 2 rfl ?_
          refine z_aload_n X dX3_acted_22 0 rfl ?_
          refine zM_g3 X wd2_129 dX3_acted_23 ?_
          refine z_iload_n X dX3_acted_26 2 rfl ?_
          refine z_bipush (v := (55 : Int32)) X dX3_acted_27 (by decide) ?_
          refine z_iadd X dX3_acted_29 ?_
          refine zM_l3 X (vin_r 55 (cu_lt hi (by omega) rfl c_14) (by omega) (by omega)) rfl dX3_acted_30 ?_
          refine zM_s3 X (vin_k (cu_lt hi (by omega) rfl c_14) (by omega) (by omega)) rfl dX3_acted_31 (fun M_31 eM_31 => ?_)
          obtain ⟨v_32, ev_32⟩ : ∃ y : Int32, y = x2_10 + (1 : Int32) := ⟨_, rfl⟩
          refine z_iinc (v := v_32) (lv' := [(2, .int v_32), (0, .ref (o 0)), (1, .int a1)]) X dX3_acted_32 2 rfl (by rw [ev_32]; rfl) (Nat.le_of_ble_eq_true rfl) rfl ?_
          refine z_goto (tgt := 10) X dX3_acted_35 (by decide) ?_
          refine z_lv (lv' := [(0, .ref (o 0)), (1, .int a1), (2, .int v_32)]) [1, 2, 0] rfl ?_
          exact ih_10 v_32 M_31 (cu_b hi (by omega) rfl c_14 ev_32) (by rw [eM_31, sA_o _ _ _ _ (by decide)]; exact hm) (fun q_10 eq_10 => kk_10 q_10 (eq_10.trans (by subst eM_31 ev_32; simp only [L_M_acted_10, if_neg c_14])))
    refine Lp_10 166 (0 : Int32) M (cu_i (by omega)) rfl (fun q_10 eq_10 ho => ?_)
    refine z_aload_n X dX3_acted_38 0 rfl ?_
    refine z_dup X dX3_acted_39 rfl ?_
    refine zM_g4 X wd2_130 dX3_acted_40 ?_
    refine z_iconst (v := (1 : Int32)) X dX3_acted_43 (by decide) ?_
    refine z_isub X dX3_acted_44 ?_
    refine zM_p4 X wd2_130 dX3_acted_45 (fun M_45 eM_45 => ?_)
    exact J_j_48 M_45 (by subst eq_10 eM_45; simp only [if_pos c_5]) (by rw [eM_45, sA_e, ho, c_5]; exact ⟨3, by omega, by omega, by decide⟩)
set_option maxRecDepth 100000 in
set_option maxHeartbeats 4000000 in
theorem c_M_addPath (l : Launch) (D : va_G) (kI kC kQ : ClassId) (o : Nat → Nat) (M : ARR) (a1 : Int32) (hI : IA (M 0)) (hh : bn 0 4 (M 7 4)) : CtI (U := Int32 × ARR) l yX3_addPath cX3_addPath 2 (some .int) { frames := 2, cells := 0, slots := 0, locals := 45 } D (tysG kI kC kQ) (wM kI o M) [.ref (o 0), .int a1] (fun u => u.1) (fun u => (wM kI o u.2)) (fun u => u = F_M_addPath M a1) := by
  refine met_Zi (own := "ShadowLatchesModel") (by decide +kernel) rfl (Nat.le_of_ble_eq_true rfl) ?_
  intro p e s m args below meth c A Q X hQ
  show Z p l e { frames := 2, cells := 0, slots := 0, locals := 45 } s m args below meth c D A 2 0 0 Q (wM kI o M) [(0, .ref (o 0)), (1, .int a1)] 0 []
  refine z_iload_n X dX3_addPath_0 1 rfl ?_
  refine z_callSiN X (c_M_isLength l D kI kC kQ a1) (gS wd2_167 wd2_168 wd1_4 wd2_169) k_M_isLength rfl rfl ⟨Nat.le_of_ble_eq_true rfl, Nat.le_of_ble_eq_true rfl⟩ ⟨Nat.zero_le _, Nat.zero_le _⟩ rfl rfl (Nat.le_of_ble_eq_true rfl) dX3_addPath_1 rfl (fun _ => rfl) (fun r_1 er_1 => ?_)
  refine z_if_ne (tgt := 10) X dX3_addPath_4 (by decide) (fun c_4 => ?_) (fun c_4 => ?_)
  · refine z_aload_n X dX3_addPath_10 0 rfl ?_
    refine zM_g0 X wd2_126 dX3_addPath_11 ?_
    refine z_bipush (v := (51 : Int32)) X dX3_addPath_14 (by decide) ?_
    refine zM_l0 X vi_51_55 cl_51 dX3_addPath_16 ?_
    refine z_bipush (v := (8 : Int32)) X dX3_addPath_17 (by decide) ?_
    refine z_icmp_ne (tgt := 25) X dX3_addPath_19 (by decide) (fun c_19 => ?_) (fun c_19 => ?_)
    · refine z_aload_n X dX3_addPath_25 0 rfl ?_
      refine z_callVv0 X (c_M_remember l D kI kC kQ o M) (gV wd2_175 wd2_177 wd0_10 wd1_4 wd2_178) k_M_remember rfl rfl ⟨Nat.le_of_ble_eq_true rfl, Nat.le_of_ble_eq_true rfl⟩ ⟨Nat.zero_le _, Nat.zero_le _⟩ 3 0 rfl rfl rfl rfl rfl (Nat.le_of_ble_eq_true rfl) dX3_addPath_26 (fun r_26 er_26 => ?_)
      refine z_aload_n X dX3_addPath_29 0 rfl ?_
      refine zM_g0 X wd2_126 dX3_addPath_30 ?_
      refine z_iconst (v := (0 : Int32)) X dX3_addPath_33 (by decide) ?_
      refine z_aload_n X dX3_addPath_34 0 rfl ?_
      refine zM_g0 X wd2_126 dX3_addPath_35 ?_
      refine z_bipush (v := (51 : Int32)) X dX3_addPath_38 (by decide) ?_
      refine zM_l0 X vi_51_55 cl_51 dX3_addPath_40 ?_
      refine z_iadd X dX3_addPath_41 ?_
      refine z_iload_n X dX3_addPath_42 1 rfl ?_
      refine zM_s0 X (vin_a 0 (by rw [er_26, rem_o M (by decide)]; exact bn_lt hI.p) (by omega) (by omega)) rfl dX3_addPath_43 (fun M_43 eM_43 => ?_)
      refine z_aload_n X dX3_addPath_44 0 rfl ?_
      refine zM_g0 X wd2_126 dX3_addPath_45 ?_
      refine z_bipush (v := (51 : Int32)) X dX3_addPath_48 (by decide) ?_
      refine z_dup2 X dX3_addPath_50 rfl rfl ?_
      refine zM_l0 X vi_51_55 cl_51 dX3_addPath_51 ?_
      refine z_iconst (v := (1 : Int32)) X dX3_addPath_52 (by decide) ?_
      refine z_iadd X dX3_addPath_53 ?_
      refine zM_s0 X vi_51_55 cl_51 dX3_addPath_54 (fun M_54 eM_54 => ?_)
      refine z_aload_n X dX3_addPath_55 0 rfl ?_
      refine z_aload_n X dX3_addPath_56 0 rfl ?_
      refine zM_g0 X wd2_126 dX3_addPath_57 ?_
      refine z_bipush (v := (51 : Int32)) X dX3_addPath_60 (by decide) ?_
      refine zM_l0 X vi_51_55 cl_51 dX3_addPath_62 ?_
      refine z_iconst (v := (1 : Int32)) X dX3_addPath_63 (by decide) ?_
      refine z_isub X dX3_addPath_64 ?_
      refine z_callVi0 X (c_M_acted l D kI kC kQ o M_54 ((M_54 0 51) - (1 : Int32)) (by rw [eM_54, sA_o _ _ _ _ (by decide), eM_43, sA_o _ _ _ _ (by decide), er_26, rem_o M (by decide)]; exact hh)) (gV wd2_182 wd2_184 wd0_11 wd1_4 wd2_185) k_M_acted rfl rfl ⟨Nat.le_of_ble_eq_true rfl, Nat.le_of_ble_eq_true rfl⟩ ⟨Nat.zero_le _, Nat.zero_le _⟩ 3 0 rfl rfl rfl rfl rfl (Nat.le_of_ble_eq_true rfl) dX3_addPath_65 (fun r_65 er_65 => ?_)
      exact z_iret X hQ rfl (r_65.1, r_65.2) rfl rfl (by subst er_1 er_26 eM_43 eM_54 er_65; simp only [F_M_addPath, if_neg c_4, if_neg c_19]) dX3_addPath_68
    · refine z_bipush (v := (-3 : Int32)) X dX3_addPath_22 (by decide) ?_
      exact z_iret X hQ rfl ((-3 : Int32), M) rfl rfl (by subst er_1; simp only [F_M_addPath, if_neg c_4, if_pos c_19]) dX3_addPath_24
  · refine z_bipush (v := (-2 : Int32)) X dX3_addPath_7 (by decide) ?_
    exact z_iret X hQ rfl ((-2 : Int32), M) rfl rfl (by subst er_1; simp only [F_M_addPath, if_pos c_4]) dX3_addPath_9
set_option maxRecDepth 100000 in
set_option maxHeartbeats 4000000 in
theorem c_M_sets (l : Launch) (D : va_G) (kI kC kQ : ClassId) (o : Nat → Nat) (M : ARR) (a1 : Int32) (a2 : Int32) (hi : vp_in a1 55) (hh : bn 0 4 (M 7 4)) : CtI (U := Int32 × ARR) l yX3_sets cX3_sets 4 (some .int) { frames := 2, cells := 0, slots := 0, locals := 42 } D (tysG kI kC kQ) (wM kI o M) [.ref (o 0), .int a1, .int a2] (fun u => u.1) (fun u => (wM kI o u.2)) (fun u => u = F_M_sets M a1 a2) := by
  refine met_Zi (own := "ShadowLatchesModel") (by decide +kernel) rfl (Nat.le_of_ble_eq_true rfl) ?_
  intro p e s m args below meth c A Q X hQ
  show Z p l e { frames := 2, cells := 0, slots := 0, locals := 42 } s m args below meth c D A 4 0 0 Q (wM kI o M) [(0, .ref (o 0)), (1, .int a1), (2, .int a2)] 0 []
  refine z_aload_n X dX3_sets_0 0 rfl ?_
  refine zM_g0 X wd2_126 dX3_sets_1 ?_
  refine z_iload_n X dX3_sets_4 1 rfl ?_
  refine zM_l0 X hi rfl dX3_sets_5 ?_
  refine z_topi (fun v_6 ev_6 => ?_)
  refine z_istore_n (lv' := [(3, .int v_6), (0, .ref (o 0)), (1, .int a1), (2, .int a2)]) X dX3_sets_6 (Nat.le_of_ble_eq_true rfl) rfl ?_
  refine z_iload_n X dX3_sets_7 0 rfl ?_
  refine z_iload_n X dX3_sets_8 3 rfl ?_
  refine z_icmp_ne (tgt := 15) X dX3_sets_9 (by decide) (fun c_9 => ?_) (fun c_9 => ?_)
  · refine z_aload_n X dX3_sets_15 1 rfl ?_
    refine z_callVv0 X (c_M_remember l D kI kC kQ o M) (gV wd2_175 wd2_177 wd0_10 wd1_4 wd2_178) k_M_remember rfl rfl ⟨Nat.le_of_ble_eq_true rfl, Nat.le_of_ble_eq_true rfl⟩ ⟨Nat.zero_le _, Nat.zero_le _⟩ 3 0 rfl rfl rfl rfl rfl (Nat.le_of_ble_eq_true rfl) dX3_sets_16 (fun r_16 er_16 => ?_)
    refine z_aload_n X dX3_sets_19 1 rfl ?_
    refine zM_g0 X wd2_126 dX3_sets_20 ?_
    refine z_iload_n X dX3_sets_23 2 rfl ?_
    refine z_iload_n X dX3_sets_24 3 rfl ?_
    refine zM_s0 X hi rfl dX3_sets_25 (fun M_25 eM_25 => ?_)
    refine z_aload_n X dX3_sets_26 1 rfl ?_
    refine z_iload_n X dX3_sets_27 0 rfl ?_
    refine z_callVi0 X (c_M_acted l D kI kC kQ o M_25 v_6 (by rw [eM_25, sA_o _ _ _ _ (by decide), er_16, rem_o M (by decide)]; exact hh)) (gV wd2_182 wd2_184 wd0_11 wd1_4 wd2_185) k_M_acted rfl rfl ⟨Nat.le_of_ble_eq_true rfl, Nat.le_of_ble_eq_true rfl⟩ ⟨Nat.zero_le _, Nat.zero_le _⟩ 3 0 rfl rfl rfl rfl rfl (Nat.le_of_ble_eq_true rfl) dX3_sets_28 (fun r_28 er_28 => ?_)
    exact z_iret X hQ rfl (r_28.1, r_28.2) rfl rfl (by subst ev_6 er_16 eM_25 er_28; simp only [F_M_sets, if_neg c_9]) dX3_sets_31
  · refine z_bipush (v := (-5 : Int32)) X dX3_sets_12 (by decide) ?_
    exact z_iret X hQ rfl ((-5 : Int32), M) rfl rfl (by subst ev_6; simp only [F_M_sets, if_pos c_9]) dX3_sets_14
set_option maxRecDepth 100000 in
set_option maxHeartbeats 4000000 in
theorem c_M_setLength (l : Launch) (D : va_G) (kI kC kQ : ClassId) (o : Nat → Nat) (M : ARR) (a1 : Int32) (a2 : Int32) (hI : IA (M 0)) (hh : bn 0 4 (M 7 4)) : CtI (U := Int32 × ARR) l yX3_setLength cX3_setLength 3 (some .int) { frames := 3, cells := 0, slots := 0, locals := 65 } D (tysG kI kC kQ) (wM kI o M) [.ref (o 0), .int a1, .int a2] (fun u => u.1) (fun u => (wM kI o u.2)) (fun u => u = F_M_setLength M a1 a2) := by
  refine met_Zi (own := "ShadowLatchesModel") (by decide +kernel) rfl (Nat.le_of_ble_eq_true rfl) ?_
  intro p e s m args below meth c A Q X hQ
  show Z p l e { frames := 3, cells := 0, slots := 0, locals := 65 } s m args below meth c D A 3 0 0 Q (wM kI o M) [(0, .ref (o 0)), (1, .int a1), (2, .int a2)] 0 []
  refine z_aload_n X dX3_setLength_0 0 rfl ?_
  refine z_iload_n X dX3_setLength_1 1 rfl ?_
  refine z_callVi0 X (c_M_isPath l D kI kC kQ o M a1) (gV wd2_190 wd2_192 wd0_12 wd1_4 wd2_193) k_M_isPath rfl rfl ⟨Nat.le_of_ble_eq_true rfl, Nat.le_of_ble_eq_true rfl⟩ ⟨Nat.zero_le _, Nat.zero_le _⟩ 3 0 rfl rfl rfl rfl rfl (Nat.le_of_ble_eq_true rfl) dX3_setLength_2 (fun r_2 er_2 => ?_)
  refine z_if_ne (tgt := 10) X dX3_setLength_5 (by decide) (fun c_5 => ?_) (fun c_5 => ?_)
  · refine z_iload_n X dX3_setLength_10 2 rfl ?_
    refine z_callSiN X (c_M_isLength l D kI kC kQ a2) (gS wd2_167 wd2_168 wd1_4 wd2_169) k_M_isLength rfl rfl ⟨Nat.le_of_ble_eq_true rfl, Nat.le_of_ble_eq_true rfl⟩ ⟨Nat.zero_le _, Nat.zero_le _⟩ rfl rfl (Nat.le_of_ble_eq_true rfl) dX3_setLength_11 rfl (fun _ => rfl) (fun r_11 er_11 => ?_)
    have J_j_30 : ∀ j_30 : Int32 × ARR, j_30 = (if r_11 = (0 : Int32) then (((-2 : Int32), M)) else (let r_22 : Int32 × ARR := (F_M_sets M ((0 : Int32) + a1) a2); (r_22.1, r_22.2))) → Z p l e { frames := 3, cells := 0, slots := 0, locals := 65 } s m args below meth c D A 3 0 0 Q (wM kI o j_30.2) [] 30 [.int j_30.1] := by
      intro j_30 ej_30
      exact z_iret X hQ rfl (j_30.1, j_30.2) rfl rfl (by subst er_2 er_11 ej_30; simp only [F_M_setLength, if_neg c_5]) dX3_setLength_30
    refine z_if_eq (tgt := 28) X dX3_setLength_14 (by decide) (fun c_14 => ?_) (fun c_14 => ?_)
    · refine z_bipush (v := (-2 : Int32)) X dX3_setLength_28 (by decide) ?_
      refine z_lv (lv' := []) [] rfl ?_
      exact J_j_30 ((-2 : Int32), M) (by simp only [if_pos c_14])
    · refine z_aload_n X dX3_setLength_17 0 rfl ?_
      refine z_iconst (v := (0 : Int32)) X dX3_setLength_18 (by decide) ?_
      refine z_iload_n X dX3_setLength_19 1 rfl ?_
      refine z_iadd X dX3_setLength_20 ?_
      refine z_iload_n X dX3_setLength_21 2 rfl ?_
      refine z_callVi0 X (c_M_sets l D kI kC kQ o M ((0 : Int32) + a1) a2 (vin_a 0 (isPath_lt hI.p er_2 c_5) (by omega) (by omega)) hh) (gV wd2_194 wd2_196 wd0_13 wd1_4 wd2_197) k_M_sets rfl rfl ⟨Nat.le_of_ble_eq_true rfl, Nat.le_of_ble_eq_true rfl⟩ ⟨Nat.zero_le _, Nat.zero_le _⟩ 3 0 rfl rfl rfl rfl rfl (Nat.le_of_ble_eq_true rfl) dX3_setLength_22 (fun r_22 er_22 => ?_)
      refine z_goto (tgt := 30) X dX3_setLength_25 (by decide) ?_
      refine z_lv (lv' := []) [] rfl ?_
      exact J_j_30 (r_22.1, r_22.2) (by subst er_22; simp only [if_neg c_14])
  · refine z_iconst (v := (-1 : Int32)) X dX3_setLength_8 (by decide) ?_
    exact z_iret X hQ rfl ((-1 : Int32), M) rfl rfl (by subst er_2; simp only [F_M_setLength, if_pos c_5]) dX3_setLength_9
set_option maxRecDepth 100000 in
set_option maxHeartbeats 4000000 in
theorem c_M_setVoltage (l : Launch) (D : va_G) (kI kC kQ : ClassId) (o : Nat → Nat) (M : ARR) (a1 : Int32) (hh : bn 0 4 (M 7 4)) : CtI (U := Int32 × ARR) l yX3_setVoltage cX3_setVoltage 2 (some .int) { frames := 3, cells := 0, slots := 0, locals := 65 } D (tysG kI kC kQ) (wM kI o M) [.ref (o 0), .int a1] (fun u => u.1) (fun u => (wM kI o u.2)) (fun u => u = F_M_setVoltage M a1) := by
  refine met_Zi (own := "ShadowLatchesModel") (by decide +kernel) rfl (Nat.le_of_ble_eq_true rfl) ?_
  intro p e s m args below meth c A Q X hQ
  show Z p l e { frames := 3, cells := 0, slots := 0, locals := 65 } s m args below meth c D A 2 0 0 Q (wM kI o M) [(0, .ref (o 0)), (1, .int a1)] 0 []
  refine z_iload_n X dX3_setVoltage_0 1 rfl ?_
  refine z_callSiN X (c_M_isVoltage l D kI kC kQ a1) (gS wd3_3 wd3_4 wd1_4 wd3_5) k_M_isVoltage rfl rfl ⟨Nat.le_of_ble_eq_true rfl, Nat.le_of_ble_eq_true rfl⟩ ⟨Nat.zero_le _, Nat.zero_le _⟩ rfl rfl (Nat.le_of_ble_eq_true rfl) dX3_setVoltage_1 rfl (fun _ => rfl) (fun r_1 er_1 => ?_)
  have J_j_19 : ∀ j_19 : Int32 × ARR, j_19 = (if r_1 = (0 : Int32) then (((-2 : Int32), M)) else (let r_11 : Int32 × ARR := (F_M_sets M (39 : Int32) a1); (r_11.1, r_11.2))) → Z p l e { frames := 3, cells := 0, slots := 0, locals := 65 } s m args below meth c D A 2 0 0 Q (wM kI o j_19.2) [] 19 [.int j_19.1] := by
    intro j_19 ej_19
    exact z_iret X hQ rfl (j_19.1, j_19.2) rfl rfl (by subst er_1 ej_19; simp only [F_M_setVoltage]) dX3_setVoltage_19
  refine z_if_eq (tgt := 17) X dX3_setVoltage_4 (by decide) (fun c_4 => ?_) (fun c_4 => ?_)
  · refine z_bipush (v := (-2 : Int32)) X dX3_setVoltage_17 (by decide) ?_
    refine z_lv (lv' := []) [] rfl ?_
    exact J_j_19 ((-2 : Int32), M) (by simp only [if_pos c_4])
  · refine z_aload_n X dX3_setVoltage_7 0 rfl ?_
    refine z_bipush (v := (39 : Int32)) X dX3_setVoltage_8 (by decide) ?_
    refine z_iload_n X dX3_setVoltage_10 1 rfl ?_
    refine z_callVi0 X (c_M_sets l D kI kC kQ o M (39 : Int32) a1 vi_39_55 hh) (gV wd2_194 wd2_196 wd0_13 wd1_4 wd2_197) k_M_sets rfl rfl ⟨Nat.le_of_ble_eq_true rfl, Nat.le_of_ble_eq_true rfl⟩ ⟨Nat.zero_le _, Nat.zero_le _⟩ 3 0 rfl rfl rfl rfl rfl (Nat.le_of_ble_eq_true rfl) dX3_setVoltage_11 (fun r_11 er_11 => ?_)
    refine z_goto (tgt := 19) X dX3_setVoltage_14 (by decide) ?_
    refine z_lv (lv' := []) [] rfl ?_
    exact J_j_19 (r_11.1, r_11.2) (by subst er_11; simp only [if_neg c_4])
set_option maxRecDepth 100000 in
set_option maxHeartbeats 4000000 in
theorem c_M_set (l : Launch) (D : va_G) (kI kC kQ : ClassId) (o : Nat → Nat) (M : ARR) (a1 : Int32) (a2 : Int32) (hh : bn 0 4 (M 7 4)) : CtI (U := Int32 × ARR) l yX3_set cX3_set 3 (some .int) { frames := 3, cells := 0, slots := 0, locals := 65 } D (tysG kI kC kQ) (wM kI o M) [.ref (o 0), .int a1, .int a2] (fun u => u.1) (fun u => (wM kI o u.2)) (fun u => u = F_M_set M a1 a2) := by
  refine met_Zi (own := "ShadowLatchesModel") (by decide +kernel) rfl (Nat.le_of_ble_eq_true rfl) ?_
  intro p e s m args below meth c A Q X hQ
  show Z p l e { frames := 3, cells := 0, slots := 0, locals := 65 } s m args below meth c D A 3 0 0 Q (wM kI o M) [(0, .ref (o 0)), (1, .int a1), (2, .int a2)] 0 []
  refine z_iload_n X dX3_set_0 1 rfl ?_
  refine z_iload_n X dX3_set_1 2 rfl ?_
  refine z_callSiN X (c_M_isSetting l D kI kC kQ a1 a2) (gS wd3_16 wd3_17 wd1_4 wd3_18) k_M_isSetting rfl rfl ⟨Nat.le_of_ble_eq_true rfl, Nat.le_of_ble_eq_true rfl⟩ ⟨Nat.zero_le _, Nat.zero_le _⟩ rfl rfl (Nat.le_of_ble_eq_true rfl) dX3_set_2 rfl (fun _ => rfl) (fun r_2 er_2 => ?_)
  have J_j_22 : ∀ j_22 : Int32 × ARR, j_22 = (if r_2 = (0 : Int32) then (((-2 : Int32), M)) else (let r_14 : Int32 × ARR := (F_M_sets M ((32 : Int32) + a1) a2); (r_14.1, r_14.2))) → Z p l e { frames := 3, cells := 0, slots := 0, locals := 65 } s m args below meth c D A 3 0 0 Q (wM kI o j_22.2) [] 22 [.int j_22.1] := by
    intro j_22 ej_22
    exact z_iret X hQ rfl (j_22.1, j_22.2) rfl rfl (by subst er_2 ej_22; simp only [F_M_set]) dX3_set_22
  refine z_if_eq (tgt := 20) X dX3_set_5 (by decide) (fun c_5 => ?_) (fun c_5 => ?_)
  · refine z_bipush (v := (-2 : Int32)) X dX3_set_20 (by decide) ?_
    refine z_lv (lv' := []) [] rfl ?_
    exact J_j_22 ((-2 : Int32), M) (by simp only [if_pos c_5])
  · refine z_aload_n X dX3_set_8 0 rfl ?_
    refine z_bipush (v := (32 : Int32)) X dX3_set_9 (by decide) ?_
    refine z_iload_n X dX3_set_11 1 rfl ?_
    refine z_iadd X dX3_set_12 ?_
    refine z_iload_n X dX3_set_13 2 rfl ?_
    refine z_callVi0 X (c_M_sets l D kI kC kQ o M ((32 : Int32) + a1) a2 (vin_a 32 (isSetting_lt er_2 c_5) (by omega) (by omega)) hh) (gV wd2_194 wd2_196 wd0_13 wd1_4 wd2_197) k_M_sets rfl rfl ⟨Nat.le_of_ble_eq_true rfl, Nat.le_of_ble_eq_true rfl⟩ ⟨Nat.zero_le _, Nat.zero_le _⟩ 3 0 rfl rfl rfl rfl rfl (Nat.le_of_ble_eq_true rfl) dX3_set_14 (fun r_14 er_14 => ?_)
    refine z_goto (tgt := 22) X dX3_set_17 (by decide) ?_
    refine z_lv (lv' := []) [] rfl ?_
    exact J_j_22 (r_14.1, r_14.2) (by subst er_14; simp only [if_neg c_5])
set_option maxRecDepth 100000 in
set_option maxHeartbeats 4000000 in
theorem c_M_begins (l : Launch) (D : va_G) (kI kC kQ : ClassId) (o : Nat → Nat) (M : ARR) (a1 : Int32) (hm : bn 0 16 a1) : CtV (U := ARR) l yX3_begins cX3_begins 3 none { frames := 0, cells := 0, slots := 0, locals := 0 } D (tysG kI kC kQ) (wM kI o M) [.ref (o 0), .int a1] (fun u => (wM kI o u)) (fun u => u = F_M_begins M a1) := by
  refine met_Zv (own := "ShadowLatchesModel") (by decide +kernel) rfl (Nat.le_of_ble_eq_true rfl) ?_
  intro p e s m args below meth c A Q X hQ
  show Z p l e { frames := 0, cells := 0, slots := 0, locals := 0 } s m args below meth c D A 3 0 0 Q (wM kI o M) [(0, .ref (o 0)), (1, .int a1)] 0 []
  refine z_aload_n X dX3_begins_0 0 rfl ?_
  refine zM_g0 X wd2_126 dX3_begins_1 ?_
  refine z_bipush (v := (49 : Int32)) X dX3_begins_4 (by decide) ?_
  refine z_iload_n X dX3_begins_6 1 rfl ?_
  refine zM_s0 X vi_49_55 cl_49 dX3_begins_7 (fun M_7 eM_7 => ?_)
  refine z_aload_n X dX3_begins_8 0 rfl ?_
  refine zM_g0 X wd2_126 dX3_begins_9 ?_
  refine z_bipush (v := (50 : Int32)) X dX3_begins_12 (by decide) ?_
  refine z_iconst (v := (0 : Int32)) X dX3_begins_14 (by decide) ?_
  refine zM_s0 X vi_50_55 cl_50 dX3_begins_15 (fun M_15 eM_15 => ?_)
  refine z_iload_n X dX3_begins_16 1 rfl ?_
  refine z_istore_n (lv' := [(2, .int a1), (0, .ref (o 0)), (1, .int a1)]) X dX3_begins_17 (Nat.le_of_ble_eq_true rfl) rfl ?_
  refine z_lv (lv' := [(0, .ref (o 0)), (2, .int a1)]) [1, 0] rfl ?_
  have Lp_18 : ∀ (n : Nat) (x2_18 : Int32) (M_18 : ARR), (cu 16 n x2_18) → (∀ q_18 : ARR, q_18 = L_M_begins_18 n x2_18 M_18 → Z p l e { frames := 0, cells := 0, slots := 0, locals := 0 } s m args below meth c D A 3 0 0 Q (wM kI o q_18) [] 40 []) → Z p l e { frames := 0, cells := 0, slots := 0, locals := 0 } s m args below meth c D A 3 0 0 Q (wM kI o M_18) [(0, .ref (o 0)), (2, .int x2_18)] 18 [] := by
    intro n
    induction n with
    | zero =>
      intro x2_18 M_18 hi kk_18
      exfalso
      exact cu_0 hi
    | succ n ih_18 =>
      intro x2_18 M_18 hi kk_18
      refine z_iload_n X dX3_begins_18 1 rfl ?_
      refine z_bipush (v := (16 : Int32)) X dX3_begins_19 (by decide) ?_
      refine z_icmp_ge (tgt := 40) X dX3_begins_21 (by decide) (fun c_21 => ?_) (fun c_21 => ?_)
      · refine z_lv (lv' := []) [] rfl ?_
        exact kk_18 M_18 (by simp only [L_M_begins_18, if_pos c_21]) 
      · refine z_aload_n X dX3_begins_24 0 rfl ?_
        refine zM_g0 X wd2_126 dX3_begins_25 ?_
        refine z_bipush (v := (16 : Int32)) X dX3_begins_28 (by decide) ?_
        refine z_iload_n X dX3_begins_30 1 rfl ?_
        refine z_iadd X dX3_begins_31 ?_
        refine z_iconst (v := (0 : Int32)) X dX3_begins_32 (by decide) ?_
        refine zM_s0 X (vin_a 16 (cu_lt hi (by omega) rfl c_21) (by omega) (by omega)) rfl dX3_begins_33 (fun M_33 eM_33 => ?_)
        obtain ⟨v_34, ev_34⟩ : ∃ y : Int32, y = x2_18 + (1 : Int32) := ⟨_, rfl⟩
        refine z_iinc (v := v_34) (lv' := [(2, .int v_34), (0, .ref (o 0))]) X dX3_begins_34 1 rfl (by rw [ev_34]; rfl) (Nat.le_of_ble_eq_true rfl) rfl ?_
        refine z_goto (tgt := 18) X dX3_begins_37 (by decide) ?_
        refine z_lv (lv' := [(0, .ref (o 0)), (2, .int v_34)]) [1, 0] rfl ?_
        exact ih_18 v_34 M_33 (cu_b hi (by omega) rfl c_21 ev_34) (fun q_18 eq_18 => kk_18 q_18 (eq_18.trans (by subst eM_33 ev_34; simp only [L_M_begins_18, if_neg c_21])))
  refine Lp_18 17 a1 M_15 (by obtain ⟨k, _, h2, h3⟩ := hm; exact ⟨k, h3, h2, by omega⟩) (fun q_18 eq_18 => ?_)
  exact z_vret X hQ rfl q_18 rfl (by subst eM_7 eM_15 eq_18; simp only [F_M_begins]) dX3_begins_40
set_option maxRecDepth 100000 in
set_option maxHeartbeats 4000000 in
theorem c_M_layWorkload (l : Launch) (D : va_G) (kI kC kQ : ClassId) (o : Nat → Nat) (M : ARR) (a1 : Int32) (a2 : Int32) (hI : IA (M 0)) (hh : bn 0 4 (M 7 4)) : CtI (U := Int32 × ARR) l yX3_layWorkload cX3_layWorkload 6 (some .int) { frames := 2, cells := 0, slots := 0, locals := 42 } D (tysG kI kC kQ) (wM kI o M) [.ref (o 0), .int a1, .int a2] (fun u => u.1) (fun u => (wM kI o u.2)) (fun u => u = F_M_layWorkload M a1 a2) := by
  refine met_Zi (own := "ShadowLatchesModel") (by decide +kernel) rfl (Nat.le_of_ble_eq_true rfl) ?_
  intro p e s m args below meth c A Q X hQ
  show Z p l e { frames := 2, cells := 0, slots := 0, locals := 42 } s m args below meth c D A 6 0 0 Q (wM kI o M) [(0, .ref (o 0)), (1, .int a1), (2, .int a2)] 0 []
  obtain ⟨P, hP1, hP2, hP⟩ := hI.p
  refine z_iload_n X dX3_layWorkload_0 1 rfl ?_
  refine z_i2l X dX3_layWorkload_1 ?_
  refine z_lconst (v := (1 : Int64)) X dX3_layWorkload_2 (by decide) ?_
  refine z_ldc2 X dX3_layWorkload_3 wd2_202 ?_
  refine z_callSiN X (c_M_in l D kI kC kQ (a1.toInt64) (1 : Int64) (16 : Int64)) (gS wd2_172 wd2_173 wd1_4 wd2_174) k_M_in rfl rfl ⟨Nat.le_of_ble_eq_true rfl, Nat.le_of_ble_eq_true rfl⟩ ⟨Nat.zero_le _, Nat.zero_le _⟩ rfl rfl (Nat.le_of_ble_eq_true rfl) dX3_layWorkload_6 rfl (fun _ => rfl) (fun r_6 er_6 => ?_)
  refine z_if_eq (tgt := 24) X dX3_layWorkload_9 (by decide) (fun c_9 => ?_) (fun c_9 => ?_)
  · refine z_bipush (v := (-2 : Int32)) X dX3_layWorkload_24 (by decide) ?_
    exact z_iret X hQ rfl ((-2 : Int32), M) rfl rfl (by subst er_6; simp only [F_M_layWorkload, if_pos c_9]) dX3_layWorkload_26
  · refine z_iload_n X dX3_layWorkload_12 2 rfl ?_
    refine z_i2l X dX3_layWorkload_13 ?_
    refine z_lconst (v := (0 : Int64)) X dX3_layWorkload_14 (by decide) ?_
    refine z_ldc2 X dX3_layWorkload_15 wd2_203 ?_
    refine z_callSiN X (c_M_in l D kI kC kQ (a2.toInt64) (0 : Int64) (9999 : Int64)) (gS wd2_172 wd2_173 wd1_4 wd2_174) k_M_in rfl rfl ⟨Nat.le_of_ble_eq_true rfl, Nat.le_of_ble_eq_true rfl⟩ ⟨Nat.zero_le _, Nat.zero_le _⟩ rfl rfl (Nat.le_of_ble_eq_true rfl) dX3_layWorkload_18 rfl (fun _ => rfl) (fun r_18 er_18 => ?_)
    refine z_if_ne (tgt := 27) X dX3_layWorkload_21 (by decide) (fun c_21 => ?_) (fun c_21 => ?_)
    · refine z_aload_n X dX3_layWorkload_27 0 rfl ?_
      refine z_callVv0 X (c_M_remember l D kI kC kQ o M) (gV wd2_175 wd2_177 wd0_10 wd1_4 wd2_178) k_M_remember rfl rfl ⟨Nat.le_of_ble_eq_true rfl, Nat.le_of_ble_eq_true rfl⟩ ⟨Nat.zero_le _, Nat.zero_le _⟩ 3 0 rfl rfl rfl rfl rfl (Nat.le_of_ble_eq_true rfl) dX3_layWorkload_28 (fun r_28 er_28 => ?_)
      obtain ⟨N, hN1, hN2, hN⟩ := in_bn 1 16 (by omega) er_6 c_9
      refine z_iload_n X dX3_layWorkload_31 2 rfl ?_
      refine z_istore_n (lv' := [(3, .int a2), (0, .ref (o 0)), (1, .int a1), (2, .int a2)]) X dX3_layWorkload_32 (Nat.le_of_ble_eq_true rfl) rfl ?_
      refine z_iconst (v := (0 : Int32)) X dX3_layWorkload_33 (by decide) ?_
      refine z_istore (lv' := [(4, .int (0 : Int32)), (3, .int a2), (0, .ref (o 0)), (1, .int a1), (2, .int a2)]) X dX3_layWorkload_34 (Nat.le_of_ble_eq_true rfl) rfl ?_
      refine z_iconst (v := (0 : Int32)) X dX3_layWorkload_36 (by decide) ?_
      refine z_istore (lv' := [(5, .int (0 : Int32)), (4, .int (0 : Int32)), (3, .int a2), (0, .ref (o 0)), (1, .int a1), (2, .int a2)]) X dX3_layWorkload_37 (Nat.le_of_ble_eq_true rfl) rfl ?_
      refine z_lv (lv' := [(0, .ref (o 0)), (1, .int a1), (3, .int a2), (4, .int (0 : Int32)), (5, .int (0 : Int32))]) [3, 4, 2, 1, 0] rfl ?_
      have Lp_39 : ∀ (n : Nat) (x3_39 : Int32) (x4_39 : Int32) (x5_39 : Int32) (M_39 : ARR), (cu N n x5_39) → (bn 0 9999 x3_39) → (M_39 0 51 = nI P) → (M_39 7 4 = M 7 4) → (∀ q_39 : Int32 × ARR, q_39 = L_M_layWorkload_39 a1 n x3_39 x4_39 x5_39 M_39 → (q_39.2 7 4 = M 7 4) → Z p l e { frames := 2, cells := 0, slots := 0, locals := 42 } s m args below meth c D A 6 0 0 Q (wM kI o q_39.2) [(0, .ref (o 0)), (1, .int a1), (4, .int q_39.1)] 107 []) → Z p l e { frames := 2, cells := 0, slots := 0, locals := 42 } s m args below meth c D A 6 0 0 Q (wM kI o M_39) [(0, .ref (o 0)), (1, .int a1), (3, .int x3_39), (4, .int x4_39), (5, .int x5_39)] 39 [] := by
        intro n
        induction n with
        | zero =>
          intro x3_39 x4_39 x5_39 M_39 hi hx hp hm kk_39
          exfalso
          exact cu_0 hi
        | succ n ih_39 =>
          intro x3_39 x4_39 x5_39 M_39 hi hx hp hm kk_39
          refine z_iload X dX3_layWorkload_39 4 rfl ?_
          refine z_iload_n X dX3_layWorkload_41 1 rfl ?_
          refine z_icmp_ge (tgt := 107) X dX3_layWorkload_42 (by decide) (fun c_42 => ?_) (fun c_42 => ?_)
          · refine z_lv (lv' := [(0, .ref (o 0)), (1, .int a1), (4, .int x4_39)]) [0, 1, 3] rfl ?_
            exact kk_39 (x4_39, M_39) (by simp only [L_M_layWorkload_39, if_pos c_42]) hm
          · refine z_sipush (v := (421 : Int32)) X dX3_layWorkload_45 (by decide) ?_
            refine z_iload_n X dX3_layWorkload_48 2 rfl ?_
            refine z_imul X dX3_layWorkload_49 ?_
            refine z_sipush (v := (1663 : Int32)) X dX3_layWorkload_50 (by decide) ?_
            refine z_iadd X dX3_layWorkload_53 ?_
            refine z_sipush (v := (10000 : Int32)) X dX3_layWorkload_54 (by decide) ?_
            refine z_irem X dX3_layWorkload_57 (by decide) ?_
            refine z_topi (fun v_58 ev_58 => ?_)
            refine z_istore_n (lv' := [(3, .int v_58), (0, .ref (o 0)), (1, .int a1), (4, .int x4_39), (5, .int x5_39)]) X dX3_layWorkload_58 (Nat.le_of_ble_eq_true rfl) rfl ?_
            refine z_aload_n X dX3_layWorkload_59 1 rfl ?_
            refine zM_g0 X wd2_126 dX3_layWorkload_60 ?_
            refine z_bipush (v := (16 : Int32)) X dX3_layWorkload_63 (by decide) ?_
            refine z_iload X dX3_layWorkload_65 4 rfl ?_
            refine z_iadd X dX3_layWorkload_67 ?_
            refine z_iload_n X dX3_layWorkload_68 0 rfl ?_
            refine z_bipush (v := (16 : Int32)) X dX3_layWorkload_69 (by decide) ?_
            refine z_idiv X dX3_layWorkload_71 (by decide) ?_
            refine z_iconst (v := (1 : Int32)) X dX3_layWorkload_72 (by decide) ?_
            refine z_aload_n X dX3_layWorkload_73 1 rfl ?_
            refine zM_g0 X wd2_126 dX3_layWorkload_74 ?_
            refine z_bipush (v := (51 : Int32)) X dX3_layWorkload_77 (by decide) ?_
            refine zM_l0 X vi_51_55 cl_51 dX3_layWorkload_79 ?_
            refine z_ishl X dX3_layWorkload_80 ?_
            refine z_irem X dX3_layWorkload_81 (lay_d hP2 hp) ?_
            refine zM_s0 X (vin_a 16 (cu_lt hi (by omega) hN c_42) (by omega) (by omega)) rfl dX3_layWorkload_82 (fun M_82 eM_82 => ?_)
            refine z_iload X dX3_layWorkload_83 3 rfl ?_
            refine z_aload_n X dX3_layWorkload_85 1 rfl ?_
            refine zM_g0 X wd2_126 dX3_layWorkload_86 ?_
            refine z_bipush (v := (16 : Int32)) X dX3_layWorkload_89 (by decide) ?_
            refine z_iload X dX3_layWorkload_91 4 rfl ?_
            refine z_iadd X dX3_layWorkload_93 ?_
            refine zM_l0 X (vin_a 16 (cu_lt hi (by omega) hN c_42) (by omega) (by omega)) rfl dX3_layWorkload_94 ?_
            refine z_callSiN X (c_M_many l D kI kC kQ (M_82 0 (((16 : Int32) + x5_39).toNatClampNeg)) (by rw [eM_82, sA_e, ev_58]; exact lay_s hP1 hP2 hp (lay_v hx))) (gS wd2_204 wd2_205 wd1_4 wd2_206) k_M_many rfl rfl ⟨Nat.le_of_ble_eq_true rfl, Nat.le_of_ble_eq_true rfl⟩ ⟨Nat.zero_le _, Nat.zero_le _⟩ rfl rfl (Nat.le_of_ble_eq_true rfl) dX3_layWorkload_95 rfl (fun _ => rfl) (fun r_95 er_95 => ?_)
            refine z_iadd X dX3_layWorkload_98 ?_
            refine z_topi (fun v_99 ev_99 => ?_)
            refine z_istore (lv' := [(4, .int v_99), (3, .int v_58), (0, .ref (o 0)), (1, .int a1), (5, .int x5_39)]) X dX3_layWorkload_99 (Nat.le_of_ble_eq_true rfl) rfl ?_
            obtain ⟨v_101, ev_101⟩ : ∃ y : Int32, y = x5_39 + (1 : Int32) := ⟨_, rfl⟩
            refine z_iinc (v := v_101) (lv' := [(5, .int v_101), (4, .int v_99), (3, .int v_58), (0, .ref (o 0)), (1, .int a1)]) X dX3_layWorkload_101 4 rfl (by rw [ev_101]; rfl) (Nat.le_of_ble_eq_true rfl) rfl ?_
            refine z_goto (tgt := 39) X dX3_layWorkload_104 (by decide) ?_
            refine z_lv (lv' := [(0, .ref (o 0)), (1, .int a1), (3, .int v_58), (4, .int v_99), (5, .int v_101)]) [3, 4, 2, 1, 0] rfl ?_
            exact ih_39 v_58 v_99 v_101 M_82 (cu_b hi (by omega) hN c_42 ev_101) (by rw [ev_58]; exact lay_v hx) (by rw [eM_82, sA_ne _ _ _ _ (lay_ne hN2 (cu_lt hi (by omega) hN c_42))]; exact hp) (by rw [eM_82, sA_o _ _ _ _ (by decide)]; exact hm) (fun q_39 eq_39 => kk_39 q_39 (eq_39.trans (by subst ev_58 eM_82 er_95 ev_99 ev_101; simp only [L_M_layWorkload_39, if_neg c_42])))
      refine Lp_39 17 a2 (0 : Int32) (0 : Int32) r_28 (cu_i (by omega)) (in_bn 0 9999 (by omega) er_18 c_21) (by rw [er_28, rem_o M (by decide)]; exact hP) (by rw [er_28, rem_o M (by decide)]) (fun q_39 eq_39 ho => ?_)
      refine z_aload_n X dX3_layWorkload_107 0 rfl ?_
      refine z_iload_n X dX3_layWorkload_108 1 rfl ?_
      refine z_callVv0 X (c_M_begins l D kI kC kQ o q_39.2 a1 (bn_w ⟨N, hN1, hN2, hN⟩ (by omega) (by omega))) (gV wd2_207 wd2_209 wd0_14 wd1_4 wd2_210) k_M_begins rfl rfl ⟨Nat.le_of_ble_eq_true rfl, Nat.le_of_ble_eq_true rfl⟩ ⟨Nat.zero_le _, Nat.zero_le _⟩ 3 0 rfl rfl rfl rfl rfl (Nat.le_of_ble_eq_true rfl) dX3_layWorkload_109 (fun r_109 er_109 => ?_)
      refine z_aload_n X dX3_layWorkload_112 0 rfl ?_
      refine z_iload X dX3_layWorkload_113 2 rfl ?_
      refine z_callVi0 X (c_M_acted l D kI kC kQ o r_109 q_39.1 (by rw [er_109, begins_o _ _ (by decide), ho]; exact hh)) (gV wd2_182 wd2_184 wd0_11 wd1_4 wd2_185) k_M_acted rfl rfl ⟨Nat.le_of_ble_eq_true rfl, Nat.le_of_ble_eq_true rfl⟩ ⟨Nat.zero_le _, Nat.zero_le _⟩ 3 0 rfl rfl rfl rfl rfl (Nat.le_of_ble_eq_true rfl) dX3_layWorkload_115 (fun r_115 er_115 => ?_)
      exact z_iret X hQ rfl (r_115.1, r_115.2) rfl rfl (by subst er_6 er_18 er_28 eq_39 er_109 er_115; simp only [F_M_layWorkload, if_neg c_9, if_neg c_21]) dX3_layWorkload_118
    · refine z_bipush (v := (-2 : Int32)) X dX3_layWorkload_24 (by decide) ?_
      exact z_iret X hQ rfl ((-2 : Int32), M) rfl rfl (by subst er_6 er_18; simp only [F_M_layWorkload, if_neg c_9, if_pos c_21]) dX3_layWorkload_26
set_option maxRecDepth 100000 in
set_option maxHeartbeats 4000000 in
theorem c_M_type (l : Launch) (D : va_G) (kI kC kQ : ClassId) (o : Nat → Nat) (M : ARR) (a1 : Int32) (ht : bn 0 60 (M 7 8)) : CtI (U := Int32 × ARR) l yX3_type cX3_type 2 (some .int) { frames := 0, cells := 0, slots := 0, locals := 0 } D (tysG kI kC kQ) (wM kI o M) [.ref (o 0), .int a1] (fun u => u.1) (fun u => (wM kI o u.2)) (fun u => u = F_M_type M a1) := by
  refine met_Zi (own := "ShadowLatchesModel") (by decide +kernel) rfl (Nat.le_of_ble_eq_true rfl) ?_
  intro p e s m args below meth c A Q X hQ
  show Z p l e { frames := 0, cells := 0, slots := 0, locals := 0 } s m args below meth c D A 2 0 0 Q (wM kI o M) [(0, .ref (o 0)), (1, .int a1)] 0 []
  refine z_aload_n X dX3_type_0 0 rfl ?_
  refine zM_g8 X wd2_134 dX3_type_1 ?_
  refine z_bipush (v := (60 : Int32)) X dX3_type_4 (by decide) ?_
  refine z_icmp_ne (tgt := 12) X dX3_type_6 (by decide) (fun c_6 => ?_) (fun c_6 => ?_)
  · refine z_aload_n X dX3_type_12 0 rfl ?_
    refine zM_g7 X wd2_133 dX3_type_13 ?_
    refine z_aload_n X dX3_type_16 0 rfl ?_
    refine zM_g8 X wd2_134 dX3_type_17 ?_
    refine z_iload_n X dX3_type_20 1 rfl ?_
    refine zM_s5 X (type_i ht c_6) rfl dX3_type_21 (fun M_21 eM_21 => ?_)
    refine z_aload_n X dX3_type_22 0 rfl ?_
    refine z_dup X dX3_type_23 rfl ?_
    refine zM_g8 X wd2_134 dX3_type_24 ?_
    refine z_iconst (v := (1 : Int32)) X dX3_type_27 (by decide) ?_
    refine z_iadd X dX3_type_28 ?_
    refine zM_p8 X wd2_134 dX3_type_29 (fun M_29 eM_29 => ?_)
    refine z_aload_n X dX3_type_32 0 rfl ?_
    refine zM_g8 X wd2_134 dX3_type_33 ?_
    exact z_iret X hQ rfl ((M_29 7 8), M_29) rfl rfl (by subst eM_21 eM_29; simp only [F_M_type, if_neg c_6]) dX3_type_36
  · refine z_bipush (v := (-3 : Int32)) X dX3_type_9 (by decide) ?_
    exact z_iret X hQ rfl ((-3 : Int32), M) rfl rfl (by simp only [F_M_type, if_pos c_6]) dX3_type_11
set_option maxRecDepth 100000 in
set_option maxHeartbeats 4000000 in
theorem c_M_clearText (l : Launch) (D : va_G) (kI kC kQ : ClassId) (o : Nat → Nat) (M : ARR) : CtI (U := Int32 × ARR) l yX3_clearText cX3_clearText 2 (some .int) { frames := 0, cells := 0, slots := 0, locals := 0 } D (tysG kI kC kQ) (wM kI o M) [.ref (o 0)] (fun u => u.1) (fun u => (wM kI o u.2)) (fun u => u = F_M_clearText M) := by
  refine met_Zi (own := "ShadowLatchesModel") (by decide +kernel) rfl (Nat.le_of_ble_eq_true rfl) ?_
  intro p e s m args below meth c A Q X hQ
  show Z p l e { frames := 0, cells := 0, slots := 0, locals := 0 } s m args below meth c D A 2 0 0 Q (wM kI o M) [(0, .ref (o 0))] 0 []
  refine z_aload_n X dX3_clearText_0 0 rfl ?_
  refine zM_g8 X wd2_134 dX3_clearText_1 ?_
  refine z_istore_n (lv' := [(1, .int (M 7 8)), (0, .ref (o 0))]) X dX3_clearText_4 (Nat.le_of_ble_eq_true rfl) rfl ?_
  refine z_aload_n X dX3_clearText_5 1 rfl ?_
  refine z_iconst (v := (0 : Int32)) X dX3_clearText_6 (by decide) ?_
  refine zM_p8 X wd2_134 dX3_clearText_7 (fun M_7 eM_7 => ?_)
  refine z_iload_n X dX3_clearText_10 0 rfl ?_
  exact z_iret X hQ rfl ((M 7 8), M_7) rfl rfl (by subst eM_7; simp only [F_M_clearText]) dX3_clearText_11
set_option maxRecDepth 100000 in
set_option maxHeartbeats 4000000 in
theorem c_M_isHere (l : Launch) (D : va_G) (kI kC kQ : ClassId) (o : Nat → Nat) (M : ARR) (a1 : Int32) (a2 : Int32) (hs : bn 0 60 (M 7 9)) (ht : bn 0 60 (M 7 8)) : CtI (U := Int32) l yX3_isHere cX3_isHere 3 (some .boolean) { frames := 1, cells := 0, slots := 0, locals := 25 } D (tysG kI kC kQ) (wM kI o M) [.ref (o 0), .int a1, .int a2] (fun u => u) (fun _ => (wM kI o M)) (fun u => u = F_M_isHere M a1 a2) := by
  refine met_Zi (own := "ShadowLatchesModel") (by decide +kernel) rfl (Nat.le_of_ble_eq_true rfl) ?_
  intro p e s m args below meth c A Q X hQ
  show Z p l e { frames := 1, cells := 0, slots := 0, locals := 25 } s m args below meth c D A 3 0 0 Q (wM kI o M) [(0, .ref (o 0)), (1, .int a1), (2, .int a2)] 0 []
  refine z_aload_n X dX3_isHere_0 0 rfl ?_
  refine zM_g9 X wd2_135 dX3_isHere_1 ?_
  refine z_aload_n X dX3_isHere_4 0 rfl ?_
  refine zM_g8 X wd2_134 dX3_isHere_5 ?_
  have J_j_36 : ∀ j_36 : Int32, j_36 = (if (M 7 8) ≤ (M 7 9) then ((0 : Int32)) else (let r_25 : Int32 := (F_M_in (((M 5 ((M 7 9).toNatClampNeg))).toInt64) (a1.toInt64) (a2.toInt64)); if r_25 = (0 : Int32) then ((0 : Int32)) else ((1 : Int32)))) → Z p l e { frames := 1, cells := 0, slots := 0, locals := 25 } s m args below meth c D A 3 0 0 Q (wM kI o M) [] 36 [.int j_36] := by
    intro j_36 ej_36
    exact z_zret X hQ rfl j_36 rfl rfl (by subst ej_36; simp only [F_M_isHere]) (nb (by rw [ej_36]; (try dsimp only); repeat' first | exact bl_in _ _ _ | apply bl_ite | exact Or.inl rfl | exact Or.inr rfl)) dX3_isHere_36
  refine z_icmp_ge (tgt := 35) X dX3_isHere_8 (by decide) (fun c_8 => ?_) (fun c_8 => ?_)
  · refine z_iconst (v := (0 : Int32)) X dX3_isHere_35 (by decide) ?_
    refine z_lv (lv' := []) [] rfl ?_
    exact J_j_36 (0 : Int32) (by simp only [if_pos c_8])
  · refine z_aload_n X dX3_isHere_11 0 rfl ?_
    refine zM_g7 X wd2_133 dX3_isHere_12 ?_
    refine z_aload_n X dX3_isHere_15 0 rfl ?_
    refine zM_g9 X wd2_135 dX3_isHere_16 ?_
    refine zM_l5 X (here_i ht hs c_8) rfl dX3_isHere_19 ?_
    refine z_i2l X dX3_isHere_20 ?_
    refine z_iload_n X dX3_isHere_21 1 rfl ?_
    refine z_i2l X dX3_isHere_22 ?_
    refine z_iload_n X dX3_isHere_23 2 rfl ?_
    refine z_i2l X dX3_isHere_24 ?_
    refine z_callSiN X (c_M_in l D kI kC kQ (((M 5 ((M 7 9).toNatClampNeg))).toInt64) (a1.toInt64) (a2.toInt64)) (gS wd2_172 wd2_173 wd1_4 wd2_174) k_M_in rfl rfl ⟨Nat.le_of_ble_eq_true rfl, Nat.le_of_ble_eq_true rfl⟩ ⟨Nat.zero_le _, Nat.zero_le _⟩ rfl rfl (Nat.le_of_ble_eq_true rfl) dX3_isHere_25 rfl (fun _ => rfl) (fun r_25 er_25 => ?_)
    refine z_if_eq (tgt := 35) X dX3_isHere_28 (by decide) (fun c_28 => ?_) (fun c_28 => ?_)
    · refine z_iconst (v := (0 : Int32)) X dX3_isHere_35 (by decide) ?_
      refine z_lv (lv' := []) [] rfl ?_
      exact J_j_36 (0 : Int32) (by subst er_25; simp only [if_neg c_8, if_pos c_28])
    · refine z_iconst (v := (1 : Int32)) X dX3_isHere_31 (by decide) ?_
      refine z_goto (tgt := 36) X dX3_isHere_32 (by decide) ?_
      refine z_lv (lv' := []) [] rfl ?_
      exact J_j_36 (1 : Int32) (by subst er_25; simp only [if_neg c_8, if_neg c_28])
set_option maxRecDepth 100000 in
set_option maxHeartbeats 4000000 in
theorem c_M_takes (l : Launch) (D : va_G) (kI kC kQ : ClassId) (o : Nat → Nat) (M : ARR) (a1 : Int32) (hs : bn 0 60 (M 7 9)) (ht : bn 0 60 (M 7 8)) : CtI (U := Int32 × ARR) l yX3_takes cX3_takes 3 (some .boolean) { frames := 2, cells := 0, slots := 0, locals := 47 } D (tysG kI kC kQ) (wM kI o M) [.ref (o 0), .int a1] (fun u => u.1) (fun u => (wM kI o u.2)) (fun u => u = F_M_takes M a1) := by
  refine met_Zi (own := "ShadowLatchesModel") (by decide +kernel) rfl (Nat.le_of_ble_eq_true rfl) ?_
  intro p e s m args below meth c A Q X hQ
  show Z p l e { frames := 2, cells := 0, slots := 0, locals := 47 } s m args below meth c D A 3 0 0 Q (wM kI o M) [(0, .ref (o 0)), (1, .int a1)] 0 []
  refine z_aload_n X dX3_takes_0 0 rfl ?_
  refine z_iload_n X dX3_takes_1 1 rfl ?_
  refine z_iload_n X dX3_takes_2 1 rfl ?_
  refine z_callVi0 X (c_M_isHere l D kI kC kQ o M a1 a1 hs ht) (gV wd2_235 wd2_237 wd0_18 wd1_4 wd2_238) k_M_isHere rfl rfl ⟨Nat.le_of_ble_eq_true rfl, Nat.le_of_ble_eq_true rfl⟩ ⟨Nat.zero_le _, Nat.zero_le _⟩ 3 0 rfl rfl rfl rfl rfl (Nat.le_of_ble_eq_true rfl) dX3_takes_3 (fun r_3 er_3 => ?_)
  refine z_istore_n (lv' := [(2, .int r_3), (0, .ref (o 0)), (1, .int a1)]) X dX3_takes_6 (Nat.le_of_ble_eq_true rfl) rfl ?_
  refine z_aload_n X dX3_takes_7 1 rfl ?_
  refine z_dup X dX3_takes_8 rfl ?_
  refine zM_g9 X wd2_135 dX3_takes_9 ?_
  refine z_iload_n X dX3_takes_12 0 rfl ?_
  have J_j_21 : ∀ j_21 : Int32, j_21 = (if r_3 = (0 : Int32) then ((0 : Int32)) else ((1 : Int32))) → Z p l e { frames := 2, cells := 0, slots := 0, locals := 47 } s m args below meth c D A 3 0 0 Q (wM kI o M) [(2, .int r_3)] 21 [.int j_21, .int (M 7 9), .ref (o 0)] := by
    intro j_21 ej_21
    refine z_iadd X dX3_takes_21 ?_
    refine zM_p9 X wd2_135 dX3_takes_22 (fun M_22 eM_22 => ?_)
    refine z_iload_n X dX3_takes_25 0 rfl ?_
    exact z_zret X hQ rfl (r_3, M_22) rfl rfl (by subst er_3 ej_21 eM_22; simp only [F_M_takes]) (nb (by rw [er_3]; exact bl_isHere _ _ _)) dX3_takes_26
  refine z_if_eq (tgt := 20) X dX3_takes_13 (by decide) (fun c_13 => ?_) (fun c_13 => ?_)
  · refine z_iconst (v := (0 : Int32)) X dX3_takes_20 (by decide) ?_
    refine z_lv (lv' := [(2, .int r_3)]) [0] rfl ?_
    exact J_j_21 (0 : Int32) (by simp only [if_pos c_13])
  · refine z_iconst (v := (1 : Int32)) X dX3_takes_16 (by decide) ?_
    refine z_goto (tgt := 21) X dX3_takes_17 (by decide) ?_
    refine z_lv (lv' := [(2, .int r_3)]) [0] rfl ?_
    exact J_j_21 (1 : Int32) (by simp only [if_neg c_13])
end
section
/-! the invariant under the methods of the reference -/
theorem IA_mod {a b : Nat → Int32} (h : IA a) (e : ∀ j, (j < 8 ∨ (16 ≤ j ∧ j < 39) ∨ j = 51) → b j = a j) (hw : ∃ P N : Nat, P < N ∧ N ≤ 16 ∧ b 50 = nI P ∧ b 49 = nI N) (hv : bn 500 1200 (b 39)) (hh : bn 20 120 (b 40)) (hg : bn 0 1 (b 41)) : IA b := by
  obtain ⟨h1, -, -, -, -, h6, h7, h8, h9, h10, h11, h12, h13, h14⟩ := h
  refine ⟨?_, hw, hv, hh, hg, ?_, ?_, ?_, ?_, ?_, ?_, ?_, fun k hk => ?_, fun k hk => ?_⟩
  all_goals (rw [e _ (by omega)]; first | assumption | exact h13 k hk | exact h14 k hk)
theorem IA_put {M : ARR} (h : IA (M 0)) (k : Nat) (v : Int32) (hk : 41 < k ∧ k ≠ 49 ∧ k ≠ 50 ∧ k ≠ 51) : IA (sA M 0 k v 0) := by
  refine IA_mod h (fun j hj => sA_ne _ _ _ _ (by omega)) ?_ ?_ ?_ ?_
  · rw [sA_ne _ _ _ _ (by omega), sA_ne _ _ _ _ (by omega)]; exact h.w
  · rw [sA_ne _ _ _ _ (by omega)]; exact h.v
  · rw [sA_ne _ _ _ _ (by omega)]; exact h.h
  · rw [sA_ne _ _ _ _ (by omega)]; exact h.g
theorem spends_o (M : ARR) (u : Int32) {i : Nat} (h : i ≠ 0) : F_M_spends M u i = M i := by
  unfold F_M_spends
  dsimp only
  split <;> simp only [sA_o _ _ _ _ h]
theorem spends_at (M : ARR) (u : Int32) {j : Nat} (h1 : j ≠ 40) (h2 : j ≠ 42) (h3 : j ≠ 46) (h4 : j ≠ 47) (h5 : j ≠ 54) : F_M_spends M u 0 j = M 0 j := by
  unfold F_M_spends
  dsimp only
  split <;> simp only [sA_ne _ _ _ _ h1, sA_ne _ _ _ _ h2, sA_ne _ _ _ _ h3, sA_ne _ _ _ _ h4, sA_ne _ _ _ _ h5]
/-- where the heat goes: nearer by one -/
def hstep (h n : Int32) : Int32 := if n ≤ h then (if h ≤ n then 0 else -1) else 1
theorem spends_heat (M : ARR) (u : Int32) : F_M_spends M u 0 40 = (if ((M 0 42 + 1) - (M 0 42 + 1) / 4 * 4 : Int32) = 0 then M 0 40 + hstep (M 0 40) (if (20 : Int32) + u * M 0 39 / 100 ≤ 120 then (20 : Int32) + u * M 0 39 / 100 else 120) else M 0 40) := by
  have e40 : ∀ v1 v2 v3 v4, sA (sA (sA (sA M 0 46 v1) 0 54 v2) 0 42 v3) 0 47 v4 0 40 = M 0 40 := fun v1 v2 v3 v4 => by
    rw [sA_ne _ _ _ _ (by decide), sA_ne _ _ _ _ (by decide), sA_ne _ _ _ _ (by decide), sA_ne _ _ _ _ (by decide)]
  have e39 : ∀ v1 v2 v3 v4, sA (sA (sA (sA M 0 46 v1) 0 54 v2) 0 42 v3) 0 47 v4 0 39 = M 0 39 := fun v1 v2 v3 v4 => by
    rw [sA_ne _ _ _ _ (by decide), sA_ne _ _ _ _ (by decide), sA_ne _ _ _ _ (by decide), sA_ne _ _ _ _ (by decide)]
  have e42 : ∀ v1 v2 v3 v4, sA (sA (sA (sA M 0 46 v1) 0 54 v2) 0 42 v3) 0 47 v4 0 42 = v3 := fun v1 v2 v3 v4 => by
    rw [sA_ne _ _ _ _ (by decide), sA_e]
  have e42b : ∀ v1 v2, sA (sA M 0 46 v1) 0 54 v2 0 42 = M 0 42 := fun v1 v2 => by
    rw [sA_ne _ _ _ _ (by decide), sA_ne _ _ _ _ (by decide)]
  unfold F_M_spends
  dsimp only
  rw [e42, e42b]
  by_cases hc : ((M 0 42 + 1) - (M 0 42 + 1) / 4 * 4 : Int32) = 0
  · rw [if_pos hc, if_pos hc, sA_e]
    simp only [e40, e39]
    rfl
  · rw [if_neg hc, if_neg hc, e40]
theorem near_bn {u v : Int32} (hu : bn 0 8 u) (hv : bn 500 1200 v) : bn 20 120 (if (20 : Int32) + u * v / 100 ≤ 120 then (20 : Int32) + u * v / 100 else 120) := by
  obtain ⟨a, _, h2, rfl⟩ := hu
  obtain ⟨b, _, h4, rfl⟩ := hv
  have hab : a * b ≤ 8 * 1200 := Nat.mul_le_mul h2 h4
  have e : (20 : Int32) + nI a * nI b / 100 = nI (20 + a * b / 100) := by
    rw [pk_mul, show nI (a * b) / 100 = nI (a * b / 100) from pk_div (a := a * b) (d := 100) (by omega) (by omega) (by omega)]
    exact nI_add 20 _
  rw [e]
  by_cases hc : nI (20 + a * b / 100) ≤ (120 : Int32)
  · rw [if_pos hc]
    have := (nI_leI (a := 20 + a * b / 100) (b := 120) (by omega) (by omega)).mp hc
    exact ⟨_, by omega, this, rfl⟩
  · rw [if_neg hc]
    exact ⟨120, by omega, by omega, rfl⟩
theorem hstep_bn {h n : Int32} (hh : bn 20 120 h) (hn : bn 20 120 n) : bn 20 120 (h + hstep h n) := by
  obtain ⟨a, h1, h2, rfl⟩ := hh
  obtain ⟨b, h3, h4, rfl⟩ := hn
  unfold hstep
  by_cases c1 : nI b ≤ nI a
  · rw [if_pos c1]
    by_cases c2 : nI a ≤ nI b
    · rw [if_pos c2]
      exact ⟨a, h1, h2, by rw [show (0 : Int32) = nI 0 from rfl, nI_add]; rfl⟩
    · rw [if_neg c2]
      have l2 : ¬ a ≤ b := fun q => c2 ((nI_leI (by omega) (by omega)).mpr q)
      obtain ⟨a', rfl⟩ : ∃ a', a = a' + 1 := ⟨a - 1, by omega⟩
      exact ⟨a', by omega, by omega, pk_m1 a'⟩
  · rw [if_neg c1]
    have l1 : ¬ b ≤ a := fun q => c1 ((nI_leI (by omega) (by omega)).mpr q)
    exact ⟨a + 1, by omega, by omega, nI_1 a⟩
theorem IA_spends {M : ARR} {u : Int32} (h : IA (M 0)) (hu : bn 0 8 u) : IA (F_M_spends M u 0) := by
  refine IA_mod h (fun j hj => spends_at M u (by omega) (by omega) (by omega) (by omega) (by omega)) ?_ ?_ ?_ ?_
  · rw [spends_at M u (by omega) (by omega) (by omega) (by omega) (by omega), spends_at M u (by omega) (by omega) (by omega) (by omega) (by omega)]
    exact h.w
  · rw [spends_at M u (by omega) (by omega) (by omega) (by omega) (by omega)]; exact h.v
  · rw [spends_heat]
    split
    · exact hstep_bn h.h (near_bn hu h.v)
    · exact h.h
  · rw [spends_at M u (by omega) (by omega) (by omega) (by omega) (by omega)]; exact h.g
def clampV (x : Int32) : Int32 := if (500 : Int32) ≤ x then (if x ≤ (1200 : Int32) then x else 1200) else 500
theorem clampV_bn (x : Int32) : bn 500 1200 (clampV x) := by
  unfold clampV
  by_cases c1 : (500 : Int32) ≤ x
  · rw [if_pos c1]
    by_cases c2 : x ≤ (1200 : Int32)
    · rw [if_pos c2]
      rw [Int32.le_iff_toInt_le] at c1 c2
      have e1 : (500 : Int32).toInt = 500 := rfl
      have e2 : (1200 : Int32).toInt = 1200 := rfl
      have h0 : ¬ x < 0 := fun q => by
        rw [Int32.lt_iff_toInt_lt] at q
        have : (0 : Int32).toInt = 0 := rfl
        omega
      obtain ⟨j, hj, rfl⟩ := nI_of h0
      rw [nI_toInt hj] at c1 c2
      exact ⟨j, by omega, by omega, rfl⟩
    · rw [if_neg c2]; exact ⟨1200, by omega, by omega, rfl⟩
  · rw [if_neg c1]; exact ⟨500, by omega, by omega, rfl⟩
theorem looks_o (M : ARR) {i : Nat} (h : i ≠ 0) : F_M_looks M i = M i := by
  unfold F_M_looks
  dsimp only
  simp only [sA_o _ _ _ _ h]
  repeat' split
  all_goals simp only [sA_o _ _ _ _ h]
theorem looks_at (M : ARR) {j : Nat} (h1 : j ≠ 39) (h2 : j ≠ 47) (h3 : j ≠ 48) (h4 : j ≠ 52) (h5 : j ≠ 53) : F_M_looks M 0 j = M 0 j := by
  unfold F_M_looks
  dsimp only
  simp only [sA_ne _ _ _ _ h1, sA_ne _ _ _ _ h2, sA_ne _ _ _ _ h3]
  repeat' split
  all_goals simp only [sA_ne _ _ _ _ h1, sA_ne _ _ _ _ h4, sA_ne _ _ _ _ h5]
theorem looks_v (M : ARR) : ∃ x, F_M_looks M 0 39 = clampV x := by
  unfold F_M_looks
  dsimp only
  rw [sA_ne _ _ _ _ (by decide), sA_ne _ _ _ _ (by decide), sA_e]
  exact ⟨_, rfl⟩
theorem IA_looks {M : ARR} (h : IA (M 0)) : IA (F_M_looks M 0) := by
  refine IA_mod h (fun j hj => looks_at M (by omega) (by omega) (by omega) (by omega) (by omega)) ?_ ?_ ?_ ?_
  · rw [looks_at M (by omega) (by omega) (by omega) (by omega) (by omega), looks_at M (by omega) (by omega) (by omega) (by omega) (by omega)]
    exact h.w
  · obtain ⟨x, e⟩ := looks_v M
    rw [e]; exact clampV_bn x
  · rw [looks_at M (by omega) (by omega) (by omega) (by omega) (by omega)]; exact h.h
  · rw [looks_at M (by omega) (by omega) (by omega) (by omega) (by omega)]; exact h.g
theorem L48_o (v : Int32) : ∀ (n : Nat) (x : Int32) (M : ARR) {i : Nat}, i ≠ 0 → L_M_cycles_48 v n x M i = M i
  | 0, _, _, _, _ => rfl
  | n + 1, x, M, i, h => by
    simp only [L_M_cycles_48]
    split
    · rfl
    · rw [L48_o v n _ _ h, sA_o _ _ _ _ h]
theorem L48_at (v : Int32) {P : Nat} (hP : P ≤ 8) : ∀ (n : Nat) (x : Int32) (M : ARR), cu P n x → M 0 51 = nI P → ∀ j, (j < 8 ∨ 16 ≤ j) → L_M_cycles_48 v n x M 0 j = M 0 j
  | 0, _, _, h, _, _, _ => (cu_0 h).elim
  | n + 1, x, M, h, hp, j, hj => by
    simp only [L_M_cycles_48]
    split
    · rfl
    · rename_i hc
      obtain ⟨k, hk, hx⟩ := cu_lt h (by omega) hp hc
      have e : ((8 : Int32) + x).toNatClampNeg = 8 + k := by
        rw [hx, show (8 : Int32) + nI k = nI (8 + k) from nI_add 8 k, nI_clamp (by omega)]
      rw [e]
      rw [L48_at v hP n _ _ (cu_b h (by omega) hp hc rfl) (by rw [sA_ne _ _ _ _ (by omega)]; exact hp) j hj, sA_ne _ _ _ _ (by omega)]
theorem L163_o : ∀ (n : Nat) (x : Int32) (M : ARR) {i : Nat}, i ≠ 0 → L_M_cycles_163 n x M i = M i
  | 0, _, _, _, _ => rfl
  | n + 1, x, M, i, h => by
    simp only [L_M_cycles_163]
    split
    · rfl
    · rw [L163_o n _ _ h, spends_o _ _ h]
theorem IA_L163 : ∀ (n : Nat) (x : Int32) (M : ARR), IA (M 0) → IA (L_M_cycles_163 n x M 0)
  | 0, _, _, h => h
  | n + 1, x, M, h => by
    simp only [L_M_cycles_163]
    split
    · exact h
    · exact IA_L163 n _ _ (IA_spends h ⟨0, by omega, by omega, rfl⟩)
theorem set_bn {M : ARR} (h : IA (M 0)) : bn 0 255 (M 0 (((16 : Int32) + (M 0 50)).toNatClampNeg)) := by
  obtain ⟨P, N, h1, h2, h3, h4⟩ := h.w
  rw [h3, show (16 : Int32) + nI P = nI (16 + P) from nI_add 16 P, nI_clamp (by omega)]
  exact h.t P (by omega)
theorem IA_place {M : ARR} (h : IA (M 0)) : IA (sA M 0 50 (((M 0 50) + (1 : Int32)) - ((M 0 50) + (1 : Int32)) / (M 0 49) * (M 0 49)) 0) := by
  refine IA_mod h (fun j hj => sA_ne _ _ _ _ (by omega)) ?_ ?_ ?_ ?_
  · obtain ⟨P, N, h1, h2, h3, h4⟩ := h.w
    rw [sA_e, sA_ne _ _ _ _ (by omega), h3, h4, nI_1, pk_rem (by omega) (by omega) (by omega)]
    exact ⟨(P + 1) % N, N, Nat.mod_lt _ (by omega), h2, rfl, rfl⟩
  · rw [sA_ne _ _ _ _ (by omega)]; exact h.v
  · rw [sA_ne _ _ _ _ (by omega)]; exact h.h
  · rw [sA_ne _ _ _ _ (by omega)]; exact h.g
theorem IA_L48 {M : ARR} (v : Int32) (h : IA (M 0)) {P : Nat} (hP : P ≤ 8) (hp : M 0 51 = nI P) : IA (L_M_cycles_48 v 9 0 M 0) := by
  have e := L48_at v hP 9 0 M (cu_i (by omega)) hp
  refine IA_mod h (fun j hj => e j (by omega)) ?_ ?_ ?_ ?_
  · rw [e 50 (by omega), e 49 (by omega)]; exact h.w
  · rw [e 39 (by omega)]; exact h.v
  · rw [e 40 (by omega)]; exact h.h
  · rw [e 41 (by omega)]; exact h.g
theorem many8 : ∀ r : Nat, r < 256 → (F_M_many (nI r)).toNatClampNeg ≤ 8 ∧ F_M_many (nI r) = nI (F_M_many (nI r)).toNatClampNeg := by decide +kernel
theorem many_bn {x : Int32} (h : bn 0 255 x) : bn 0 8 (F_M_many x) := by
  obtain ⟨r, _, h2, rfl⟩ := h
  obtain ⟨h3, h4⟩ := many8 r (by omega)
  exact ⟨_, Nat.zero_le _, h3, h4⟩
theorem cycles_o (M : ARR) {i : Nat} (h : i ≠ 0) : F_M_cycles M i = M i := by
  unfold F_M_cycles
  dsimp only
  repeat' split
  all_goals simp only [looks_o _ h, L163_o _ _ _ h, sA_o _ _ _ _ h, spends_o _ _ h, L48_o _ _ _ _ h]
theorem IA_ite {c : Prop} {d : Decidable c} {x y : ARR} (hx : IA (x 0)) (hy : IA (y 0)) : IA ((ite c x y) 0) := by
  by_cases q : c
  · rw [if_pos q]; exact hx
  · rw [if_neg q]; exact hy
theorem IA_cycles {M : ARR} (h : IA (M 0)) : IA (F_M_cycles M 0) := by
  obtain ⟨P, hP1, hP2, hP⟩ := h.p
  have h1 := IA_place h
  have h2 := IA_L48 (M 0 (((16 : Int32) + (M 0 50)).toNatClampNeg)) h1 hP2 (by rw [sA_ne _ _ _ _ (by omega)]; exact hP)
  have h3 := IA_spends h2 (many_bn (set_bn h))
  have h4 : ∀ x : ARR, IA (x 0) → IA ((if F_M_worstOf M (M 0 (((16 : Int32) + (M 0 50)).toNatClampNeg)) = (2 : Int32) then sA x 0 45 ((x 0 45) + (1 : Int32)) else sA x 0 43 ((x 0 43) + (1 : Int32))) 0) := fun x hx => IA_ite (IA_put hx 45 _ (by omega)) (IA_put hx 43 _ (by omega))
  unfold F_M_cycles
  dsimp only
  have h5 : ∀ x : ARR, IA (x 0) → IA ((if (x 0 41) = (1 : Int32) then (if (x 0 47) < (x 0 35) then x else F_M_looks x) else x) 0) := fun x hx => IA_ite (IA_ite hx (IA_looks hx)) hx
  exact h5 _ (IA_ite (IA_L163 _ _ _ (IA_put (IA_put (h4 _ h3) 44 _ (by omega)) 48 _ (by omega))) (h4 _ h3))
end
section
/-! the text of the reference: spot and length, sets that were read -/
def TP (M : ARR) : Prop := ∃ k t : Nat, k ≤ t ∧ t ≤ 60 ∧ M 7 9 = nI k ∧ M 7 8 = nI t
theorem TP.s {M : ARR} (h : TP M) : bn 0 60 (M 7 9) := by
  obtain ⟨k, t, h1, h2, h3, h4⟩ := h
  exact ⟨k, by omega, by omega, h3⟩
theorem TP.t {M : ARR} (h : TP M) : bn 0 60 (M 7 8) := by
  obtain ⟨k, t, h1, h2, h3, h4⟩ := h
  exact ⟨t, by omega, by omega, h4⟩
theorem TP_0 {M : ARR} (h : bn 0 60 (M 7 8)) (v w : Int32) : TP (sA (sA M 7 9 0) 7 11 w) := by
  obtain ⟨t, _, h2, h3⟩ := h
  exact ⟨0, t, by omega, h2, by rw [sA_ne _ _ _ _ (by decide), sA_e]; rfl, by rw [sA_ne _ _ _ _ (by decide), sA_ne _ _ _ _ (by decide)]; exact h3⟩
theorem isHere_lt {M : ARR} {a b : Int32} (h : ¬ F_M_isHere M a b = 0) : ¬ M 7 8 ≤ M 7 9 := by
  intro q
  apply h
  unfold F_M_isHere
  dsimp only
  rw [if_pos q]
theorem TP_next {M : ARR} (h : TP M) (hc : ¬ M 7 8 ≤ M 7 9) : TP (sA M 7 9 ((M 7 9) + (1 : Int32))) := by
  obtain ⟨k, t, h1, h2, h3, h4⟩ := h
  rw [h3, h4] at hc
  have hlt : k < t := by
    rcases Nat.lt_or_ge k t with q | q
    · exact q
    · exact absurd (nI_le q (by omega)) hc
  exact ⟨k + 1, t, hlt, h2, by rw [sA_e, h3]; exact nI_1 k, by rw [sA_ne _ _ _ _ (by decide)]; exact h4⟩
theorem takes_o (M : ARR) (a : Int32) {i : Nat} (h : i ≠ 7) : (F_M_takes M a).2 i = M i := sA_o _ _ _ _ h
theorem takes_7 (M : ARR) (a : Int32) {j : Nat} (h : j ≠ 9) : (F_M_takes M a).2 7 j = M 7 j := by
  unfold F_M_takes
  exact sA_ne M 7 9 _ h
theorem takes_TP {M : ARR} (a : Int32) (h : TP M) : TP (F_M_takes M a).2 := by
  unfold F_M_takes
  dsimp only
  by_cases hc : F_M_isHere M a a = 0
  · rw [if_pos hc]
    obtain ⟨k, t, h1, h2, h3, h4⟩ := h
    exact ⟨k, t, h1, h2, by rw [sA_e, h3, show (0 : Int32) = nI 0 from rfl, nI_add]; rfl, by rw [sA_ne _ _ _ _ (by decide)]; exact h4⟩
  · rw [if_neg hc]
    exact TP_next h (isHere_lt hc)
theorem L27_o : ∀ (n : Nat) (x y : Int32) (M : ARR) {i : Nat}, i ≠ 7 → (L_M_readsSet_27 n x y M).2 i = M i
  | 0, _, _, _, _, _ => rfl
  | n + 1, x, y, M, i, h => by
    simp only [L_M_readsSet_27]
    split
    · rfl
    · rw [L27_o n _ _ _ h, sA_o _ _ _ _ h]
theorem L27_7 : ∀ (n : Nat) (x y : Int32) (M : ARR) {j : Nat}, j ≠ 9 → (L_M_readsSet_27 n x y M).2 7 j = M 7 j
  | 0, _, _, _, _, _ => rfl
  | n + 1, x, y, M, j, h => by
    simp only [L_M_readsSet_27]
    split
    · rfl
    · rw [L27_7 n _ _ _ h, sA_ne _ _ _ _ h]
theorem L27_TP : ∀ (n : Nat) (x y : Int32) (M : ARR), TP M → TP (L_M_readsSet_27 n x y M).2
  | 0, _, _, _, h => h
  | n + 1, x, y, M, h => by
    simp only [L_M_readsSet_27]
    split
    · exact h
    · rename_i hc
      exact L27_TP n _ _ _ (TP_next h (isHere_lt hc))
theorem TP_put {M : ARR} (h : TP M) (j : Nat) (v : Int32) (h8 : 8 ≠ j) (h9 : 9 ≠ j) : TP (sA M 7 j v) := by
  obtain ⟨k, t, h1, h2, h3, h4⟩ := h
  exact ⟨k, t, h1, h2, by rw [sA_ne _ _ _ _ h9]; exact h3, by rw [sA_ne _ _ _ _ h8]; exact h4⟩
theorem TP_o {M : ARR} (h : TP M) (i j : Nat) (v : Int32) (hi : 7 ≠ i) : TP (sA M i j v) := by
  obtain ⟨k, t, h1, h2, h3, h4⟩ := h
  exact ⟨k, t, h1, h2, by rw [sA_o _ _ _ _ hi]; exact h3, by rw [sA_o _ _ _ _ hi]; exact h4⟩
theorem readsSet_o (M : ARR) {i : Nat} (h6 : i ≠ 6) (h : i ≠ 7) : (F_M_readsSet M).2 i = M i := by
  unfold F_M_readsSet
  dsimp only
  repeat' split
  all_goals simp only [sA_o _ _ _ _ h, sA_o _ _ _ _ h6, L27_o _ _ _ _ h, takes_o _ _ h]
theorem readsSet_7 (M : ARR) {j : Nat} (h9 : j ≠ 9) (h11 : j ≠ 11) : (F_M_readsSet M).2 7 j = M 7 j := by
  unfold F_M_readsSet
  dsimp only
  have o6 : ∀ (N : ARR) (k : Nat) (v : Int32), sA N 6 k v 7 = N 7 := fun N k v => sA_o _ _ _ _ (by decide)
  repeat' split
  all_goals simp only [sA_ne _ _ _ _ h11, o6, L27_7 _ _ _ _ h9, takes_7 _ _ h9]
theorem readsSet_TP {M : ARR} (h : TP M) : TP (F_M_readsSet M).2 := by
  have h1 := takes_TP 45 h
  unfold F_M_readsSet
  dsimp only
  repeat' split
  · exact h1
  · exact TP_put (TP_o (L27_TP _ _ _ _ h1) _ _ _ (by decide)) _ _ (by decide) (by decide)
  · exact TP_put (TP_o h1 _ _ _ (by decide)) _ _ (by decide) (by decide)
theorem readsSet_11 (M : ARR) : ((F_M_readsSet M).1 = 0 ∧ (F_M_readsSet M).2 7 11 = M 7 11) ∨ ((F_M_readsSet M).1 = 1 ∧ (F_M_readsSet M).2 7 11 = M 7 11 + 1) := by
  unfold F_M_readsSet
  dsimp only
  have o6 : ∀ (N : ARR) (k : Nat) (v : Int32), sA N 6 k v 7 = N 7 := fun N k v => sA_o _ _ _ _ (by decide)
  repeat' split
  · exact Or.inl ⟨rfl, takes_7 M 45 (j := 11) (by decide)⟩
  · refine Or.inr ⟨rfl, ?_⟩
    dsimp only
    rw [sA_e, o6, L27_7 _ _ _ _ (by decide), takes_7 _ _ (by decide)]
  · refine Or.inr ⟨rfl, ?_⟩
    dsimp only
    rw [sA_e, o6, takes_7 _ _ (by decide)]
def FK (n : Nat) (x : Int32) (M : ARR) : Prop := TP M ∧ ∃ k : Nat, M 7 11 = nI k ∧ k ≤ 16 ∧ (¬ x = 0 → k < 16) ∧ 17 ≤ k + n
theorem FK_0 {x : Int32} {M : ARR} (h : FK 0 x M) : False := by
  obtain ⟨_, k, _, h1, _, h2⟩ := h
  omega
theorem FK_i {M : ARR} (h : bn 0 60 (M 7 8)) : FK 17 1 (sA (sA M 7 9 0) 7 11 0) := ⟨TP_0 h 0 0, 0, by rw [sA_e]; rfl, by omega, fun _ => by omega, by omega⟩
theorem FK_15 {n : Nat} {x : Int32} {M : ARR} (h : FK n x M) (hx : ¬ x = 0) : bn 0 15 (M 7 11) := by
  obtain ⟨_, k, h1, _, h2, _⟩ := h
  exact ⟨k, by omega, by have := h2 hx; omega, h1⟩
theorem FK_r {n : Nat} {x : Int32} {M : ARR} (h : FK (n + 1) x M) (hx : ¬ x = 0) {r : Int32 × ARR} (e : r = F_M_readsSet M) (hr : ¬ r.1 = 0) : TP r.2 ∧ ∃ k : Nat, r.2 7 11 = nI k ∧ k ≤ 16 ∧ 17 ≤ k + n := by
  obtain ⟨hT, k, h1, h2, h3, h4⟩ := h
  subst e
  refine ⟨readsSet_TP hT, k + 1, ?_, by have := h3 hx; omega, by omega⟩
  rcases readsSet_11 M with ⟨q1, q2⟩ | ⟨q1, q2⟩
  · exact absurd q1 hr
  · rw [q2, h1]; exact nI_1 k
theorem FK_a {n : Nat} {M : ARR} (h : TP M ∧ ∃ k : Nat, M 7 11 = nI k ∧ k ≤ 16 ∧ 17 ≤ k + n) : FK n 0 M := by
  obtain ⟨hT, k, h1, h2, h3⟩ := h
  exact ⟨hT, k, h1, h2, fun q => absurd rfl q, h3⟩
theorem FK_t {n : Nat} {M : ARR} (a : Int32) (h : TP M ∧ ∃ k : Nat, M 7 11 = nI k ∧ k ≤ 16 ∧ 17 ≤ k + n) : TP (F_M_takes M a).2 ∧ ∃ k : Nat, (F_M_takes M a).2 7 11 = nI k ∧ k ≤ 16 ∧ 17 ≤ k + n := by
  obtain ⟨hT, k, h1, h2, h3⟩ := h
  exact ⟨takes_TP a hT, k, by rw [takes_7 _ _ (by decide)]; exact h1, h2, h3⟩
theorem FK_b {n : Nat} {M : ARR} (a : Int32) (h : TP M ∧ ∃ k : Nat, M 7 11 = nI k ∧ k ≤ 16 ∧ 17 ≤ k + n) (hc : ¬ (16 : Int32) ≤ M 7 11) : FK n 1 (F_M_takes M a).2 := by
  obtain ⟨hT, k, h1, h2, h3⟩ := h
  refine ⟨takes_TP a hT, k, by rw [takes_7 _ _ (by decide)]; exact h1, h2, fun _ => ?_, h3⟩
  rcases Nat.lt_or_ge k 16 with q | q
  · exact q
  · exact absurd (by rw [h1]; exact nI_le (a := 16) q (by omega)) hc
theorem fault_L : ∀ (n : Nat) (x : Int32) (M : ARR), FK n x M → TP (L_M_fault_12 n x M).2 ∧ bn 0 16 ((L_M_fault_12 n x M).2 7 11) ∧ (∀ i, i ≠ 6 → i ≠ 7 → (L_M_fault_12 n x M).2 i = M i) ∧ (∀ j, j ≠ 9 → j ≠ 11 → (L_M_fault_12 n x M).2 7 j = M 7 j)
  | 0, _, _, h => (FK_0 h).elim
  | n + 1, x, M, h => by
    simp only [L_M_fault_12]
    by_cases hx : x = 0
    · rw [if_pos hx]
      obtain ⟨hT, k, h1, h2, _, _⟩ := h
      exact ⟨hT, ⟨k, by omega, h2, h1⟩, fun _ _ _ => rfl, fun _ _ _ => rfl⟩
    · rw [if_neg hx]
      have hT := readsSet_TP h.1
      by_cases hr : (F_M_readsSet M).1 = 0
      · rw [if_pos hr]
        refine ⟨hT, ?_, fun i a b => readsSet_o M a b, fun j a b => readsSet_7 M a b⟩
        rcases readsSet_11 M with ⟨q1, q2⟩ | ⟨q1, q2⟩
        · show bn 0 16 ((F_M_readsSet M).2 7 11)
          rw [q2]
          exact bn_w (FK_15 h hx) (by omega) (by omega)
        · rw [q1] at hr
          exact absurd hr (by decide)
      · rw [if_neg hr]
        have h5 := FK_r h hx rfl hr
        by_cases h6 : (16 : Int32) ≤ (F_M_readsSet M).2 7 11
        · simp only [if_pos h6]
          obtain ⟨a1, a2, a3, a4⟩ := fault_L n 0 _ (FK_a h5)
          exact ⟨a1, a2, fun i p q => (a3 i p q).trans (readsSet_o M p q), fun j p q => (a4 j p q).trans (readsSet_7 M p q)⟩
        · simp only [if_neg h6]
          by_cases h7 : (F_M_takes (F_M_readsSet M).2 44).1 = 0
          · simp only [if_pos h7]
            obtain ⟨a1, a2, a3, a4⟩ := fault_L n 0 _ (FK_a (FK_t 44 h5))
            exact ⟨a1, a2, fun i p q => (a3 i p q).trans ((takes_o _ _ q).trans (readsSet_o M p q)), fun j p q => (a4 j p q).trans ((takes_7 _ _ p).trans (readsSet_7 M p q))⟩
          · simp only [if_neg h7]
            obtain ⟨a1, a2, a3, a4⟩ := fault_L n 1 _ (FK_b 44 h5 h6)
            exact ⟨a1, a2, fun i p q => (a3 i p q).trans ((takes_o _ _ q).trans (readsSet_o M p q)), fun j p q => (a4 j p q).trans ((takes_7 _ _ p).trans (readsSet_7 M p q))⟩
theorem fault_TP {M : ARR} (h : bn 0 60 (M 7 8)) : TP (F_M_fault M).2 := (fault_L 17 1 _ (FK_i h)).1
theorem fault_n {M : ARR} (h : bn 0 60 (M 7 8)) : bn 0 16 ((F_M_fault M).2 7 11) := (fault_L 17 1 _ (FK_i h)).2.1
theorem fault_o {M : ARR} (h : bn 0 60 (M 7 8)) {i : Nat} (h6 : i ≠ 6) (h7 : i ≠ 7) : (F_M_fault M).2 i = M i := ((fault_L 17 1 _ (FK_i h)).2.2.1 i h6 h7).trans (by rw [sA_o _ _ _ _ h7, sA_o _ _ _ _ h7])
theorem fault_7 {M : ARR} (h : bn 0 60 (M 7 8)) {j : Nat} (h9 : j ≠ 9) (h11 : j ≠ 11) : (F_M_fault M).2 7 j = M 7 j := ((fault_L 17 1 _ (FK_i h)).2.2.2 j h9 h11).trans (by rw [sA_ne _ _ _ _ h11, sA_ne _ _ _ _ h9])
/-! what would be, tried on the row and taken back -/
theorem L30_o (a : Int32) : ∀ (n : Nat) (x : Int32) (M : ARR) {i : Nat}, i ≠ 0 → L_M_brings_30 a n x M i = M i
  | 0, _, _, _, _ => rfl
  | n + 1, x, M, i, h => by
    simp only [L_M_brings_30]
    split
    · rfl
    · rw [L30_o a n _ _ h, cycles_o _ h]
theorem IA_tr {M : ARR} {v : Int32} (h : IA (M 0)) (hv : bn 500 1200 v) (g : Nat → Int32) : IA (sA (sA (sR M 2 g) 0 39 v) 0 41 0 0) := by
  refine IA_mod h (fun j hj => ?_) ?_ ?_ ?_ ?_
  · rw [sA_ne _ _ _ _ (by omega), sA_ne _ _ _ _ (by omega), sR_o _ _ _ (by decide)]
  · rw [sA_ne _ _ _ _ (by omega), sA_ne _ _ _ _ (by omega), sA_ne _ _ _ _ (by omega), sA_ne _ _ _ _ (by omega), sR_o _ _ _ (by decide)]; exact h.w
  · rw [sA_ne _ _ _ _ (by omega), sA_e]; exact hv
  · rw [sA_ne _ _ _ _ (by omega), sA_ne _ _ _ _ (by omega), sR_o _ _ _ (by decide)]; exact h.h
  · rw [sA_e]; exact ⟨0, by omega, by omega, rfl⟩
theorem brings_row (M : ARR) (v c w : Int32) {j : Nat} (hj : j < 55) : (F_M_brings M v c w).2 0 j = M 0 j := by
  unfold F_M_brings
  dsimp only
  rw [sR_e, cpy55_lt hj, L30_o _ _ _ _ (by decide), sA_o _ _ _ _ (by decide), sA_o _ _ _ _ (by decide), sR_e, cpy55_lt hj]
theorem brings_IA {M : ARR} (h : IA (M 0)) (v c w : Int32) : IA ((F_M_brings M v c w).2 0) := IA_congr h (fun j hj => brings_row M v c w hj)
theorem wl_i {a x : Int32} (h0 : 0 ≤ a) (hx : bn 1 16 x) (hc : ¬ x ≤ a) : ∃ k : Nat, k < 16 ∧ a = nI k := by
  obtain ⟨n, h1, h2, rfl⟩ := hx
  obtain ⟨j, hj, rfl⟩ := nI_of (Int32.not_lt.mpr h0)
  refine ⟨j, ?_, rfl⟩
  rcases Nat.lt_or_ge j 16 with q | q
  · exact q
  · exact absurd (nI_le (show n ≤ j by omega) hj) hc
theorem vin_set {x : Int32} (h : bn 17 23 x) : vp_in (((32 : Int32) + x) - (17 : Int32)) 55 := by
  obtain ⟨k, h1, h2, rfl⟩ := h
  rw [show (32 : Int32) + nI k = nI (32 + k) from nI_add 32 k, show nI (32 + k) - (17 : Int32) = nI (32 + k - 17) from pk_sub (a := 32 + k) (b := 17) (by omega)]
  exact vp_in_nI (by omega) (by omega)
def lv7 (n : Nat) (x : Int32) : Prop := ∃ k : Nat, x = nI k ∧ 500 ≤ k ∧ k ≤ 1201 ∧ 1202 ≤ k + n
theorem lv7_v {n : Nat} {x : Int32} (h : lv7 n x) (hc : ¬ (1200 : Int32) < x) : bn 500 1200 x := by
  obtain ⟨k, rfl, h1, h2, _⟩ := h
  refine ⟨k, h1, ?_, rfl⟩
  rcases Nat.lt_or_ge 1200 k with q | q
  · exact absurd (nI_lt (a := 1200) q (by omega)) hc
  · exact q
theorem lv7_b {n : Nat} {x y : Int32} (h : lv7 (n + 1) x) (hc : ¬ (1200 : Int32) < x) (hy : y = x + 1) : lv7 n y := by
  obtain ⟨k, h1, h2, h3⟩ := lv7_v h hc
  obtain ⟨k', e, _, _, h6⟩ := h
  have : k' = k := by
    rw [e] at h3
    have := congrArg Int32.toNatClampNeg h3
    rw [nI_clamp (by omega), nI_clamp (by omega)] at this
    exact this
  subst this
  exact ⟨k' + 1, by rw [hy, e]; exact nI_1 k', by omega, by omega, by omega⟩
def bs5 (n : Nat) (x : Int32) : Prop := ∃ j : Nat, x = nI (500 + 50 * j) ∧ j ≤ 15 ∧ 16 ≤ j + n
theorem bs5_v {n : Nat} {x : Int32} (h : bs5 n x) (hc : ¬ (1200 : Int32) < x) : bn 500 1200 x := by
  obtain ⟨j, rfl, h1, _⟩ := h
  refine ⟨500 + 50 * j, by omega, ?_, rfl⟩
  rcases Nat.lt_or_ge 1200 (500 + 50 * j) with q | q
  · exact absurd (nI_lt (a := 1200) q (by omega)) hc
  · exact q
theorem bs5_b {n : Nat} {x y : Int32} (h : bs5 (n + 1) x) (hc : ¬ (1200 : Int32) < x) (hy : y = x + (50 : Int32)) : bs5 n y := by
  obtain ⟨k, h1, h2, h3⟩ := bs5_v h hc
  obtain ⟨j, e, _, h6⟩ := h
  have : 500 + 50 * j = k := by
    rw [e] at h3
    have := congrArg Int32.toNatClampNeg h3
    rw [nI_clamp (by omega), nI_clamp (by omega)] at this
    exact this
  exact ⟨j + 1, by rw [hy, e]; exact nI_add (500 + 50 * j) 50, by omega, by omega⟩
theorem hz_next {M : ARR} {n : Nat} (h : ∃ k t : Nat, k ≤ t ∧ t ≤ 60 ∧ M 7 9 = nI k ∧ M 7 8 = nI t ∧ t + 1 ≤ k + (n + 1)) (hc : ¬ M 7 8 ≤ M 7 9) : ∃ k t : Nat, k ≤ t ∧ t ≤ 60 ∧ sA M 7 9 ((M 7 9) + (1 : Int32)) 7 9 = nI k ∧ sA M 7 9 ((M 7 9) + (1 : Int32)) 7 8 = nI t ∧ t + 1 ≤ k + n := by
  obtain ⟨k, t, h1, h2, h3, h4, h5⟩ := h
  rw [h3, h4] at hc
  have hlt : k < t := by
    rcases Nat.lt_or_ge k t with q | q
    · exact q
    · exact absurd (nI_le q (by omega)) hc
  exact ⟨k + 1, t, hlt, h2, by rw [sA_e, h3]; exact nI_1 k, by rw [sA_ne _ _ _ _ (by decide)]; exact h4, by omega⟩
theorem bn_dec {x : Int32} (h : bn 0 4 x) (hc : ¬ x = 0) : bn 0 3 (x - (1 : Int32)) := by
  obtain ⟨k, _, h2, rfl⟩ := h
  have h0 : 1 ≤ k := by
    rcases Nat.lt_or_ge k 1 with q | q
    · exact absurd (by rw [show k = 0 by omega]; rfl) hc
    · exact q
  exact ⟨k - 1, by omega, by omega, pk_sub (b := 1) h0⟩
theorem cy_ne {P : Nat} {x v : Int32} (hP : P ≤ 8) (hv : v = (8 : Int32) + x) (h : ∃ k : Nat, k < P ∧ x = nI k) {j : Nat} (hj : 16 ≤ j) : j ≠ v.toNatClampNeg := by
  obtain ⟨k, h1, rfl⟩ := h
  rw [hv, show (8 : Int32) + nI k = nI (8 + k) from nI_add 8 k, nI_clamp (by omega)]
  omega
end
section
set_option maxRecDepth 100000 in
set_option maxHeartbeats 4000000 in
theorem c_M_cycles (l : Launch) (D : va_G) (kI kC kQ : ClassId) (o : Nat → Nat) (M : ARR) (hI : IA (M 0)) : CtV (U := ARR) l yX3_cycles cX3_cycles 4 none { frames := 3, cells := 0, slots := 0, locals := 70 } D (tysG kI kC kQ) (wM kI o M) [.ref (o 0)] (fun u => (wM kI o u)) (fun u => u = F_M_cycles M) := by
  refine met_Zv (own := "ShadowLatchesModel") (by decide +kernel) rfl (Nat.le_of_ble_eq_true rfl) ?_
  intro p e s m args below meth c A Q X hQ
  show Z p l e { frames := 3, cells := 0, slots := 0, locals := 70 } s m args below meth c D A 4 0 0 Q (wM kI o M) [(0, .ref (o 0))] 0 []
  obtain ⟨P, hP1, hP2, hP⟩ := hI.p
  obtain ⟨R9, hR1, hR2, hR9⟩ := hI.s2
  obtain ⟨K, N, hKN, hN16, hK, hN⟩ := hI.w
  refine z_aload_n X dX3_cycles_0 0 rfl ?_
  refine zM_g0 X wd2_126 dX3_cycles_1 ?_
  refine z_bipush (v := (16 : Int32)) X dX3_cycles_4 (by decide) ?_
  refine z_aload_n X dX3_cycles_6 0 rfl ?_
  refine zM_g0 X wd2_126 dX3_cycles_7 ?_
  refine z_bipush (v := (50 : Int32)) X dX3_cycles_10 (by decide) ?_
  refine zM_l0 X vi_50_55 cl_50 dX3_cycles_12 ?_
  refine z_iadd X dX3_cycles_13 ?_
  refine zM_l0 X (vin_a 16 ⟨K, Nat.lt_of_lt_of_le hKN hN16, hK⟩ (by omega) (by omega)) rfl dX3_cycles_14 ?_
  refine z_topi (fun v_15 ev_15 => ?_)
  refine z_istore_n (lv' := [(1, .int v_15), (0, .ref (o 0))]) X dX3_cycles_15 (Nat.le_of_ble_eq_true rfl) rfl ?_
  refine z_aload_n X dX3_cycles_16 1 rfl ?_
  refine z_iload_n X dX3_cycles_17 0 rfl ?_
  refine z_callVi0 X (c_M_worstOf l D kI kC kQ o M v_15 hI) (gV wd3_33 wd3_35 wd0_20 wd1_4 wd3_36) k_M_worstOf rfl rfl ⟨Nat.le_of_ble_eq_true rfl, Nat.le_of_ble_eq_true rfl⟩ ⟨Nat.zero_le _, Nat.zero_le _⟩ 3 0 rfl rfl rfl rfl rfl (Nat.le_of_ble_eq_true rfl) dX3_cycles_18 (fun r_18 er_18 => ?_)
  refine z_istore_n (lv' := [(2, .int r_18), (1, .int v_15), (0, .ref (o 0))]) X dX3_cycles_21 (Nat.le_of_ble_eq_true rfl) rfl ?_
  refine z_aload_n X dX3_cycles_22 2 rfl ?_
  refine zM_g0 X wd2_126 dX3_cycles_23 ?_
  refine z_bipush (v := (50 : Int32)) X dX3_cycles_26 (by decide) ?_
  refine z_aload_n X dX3_cycles_28 2 rfl ?_
  refine zM_g0 X wd2_126 dX3_cycles_29 ?_
  refine z_bipush (v := (50 : Int32)) X dX3_cycles_32 (by decide) ?_
  refine zM_l0 X vi_50_55 cl_50 dX3_cycles_34 ?_
  refine z_iconst (v := (1 : Int32)) X dX3_cycles_35 (by decide) ?_
  refine z_iadd X dX3_cycles_36 ?_
  refine z_aload_n X dX3_cycles_37 2 rfl ?_
  refine zM_g0 X wd2_126 dX3_cycles_38 ?_
  refine z_bipush (v := (49 : Int32)) X dX3_cycles_41 (by decide) ?_
  refine zM_l0 X vi_49_55 cl_49 dX3_cycles_43 ?_
  refine z_irem X dX3_cycles_44 (by rw [hN]; exact nI_ne0 (by omega) (by omega)) ?_
  refine zM_s0 X vi_50_55 cl_50 dX3_cycles_45 (fun M_45 eM_45 => ?_)
  refine z_iconst (v := (0 : Int32)) X dX3_cycles_46 (by decide) ?_
  refine z_istore_n (lv' := [(3, .int (0 : Int32)), (2, .int r_18), (1, .int v_15), (0, .ref (o 0))]) X dX3_cycles_47 (Nat.le_of_ble_eq_true rfl) rfl ?_
  refine z_lv (lv' := [(0, .ref (o 0)), (1, .int v_15), (2, .int r_18), (3, .int (0 : Int32))]) [3, 2, 1, 0] rfl ?_
  have Lp_48 : ∀ (n : Nat) (x3_48 : Int32) (M_48 : ARR), (cu P n x3_48) → (M_48 0 51 = nI P) → (M_48 0 34 = nI R9) → (∀ q_48 : ARR, q_48 = L_M_cycles_48 v_15 n x3_48 M_48 → (q_48 0 34 = nI R9) → Z p l e { frames := 3, cells := 0, slots := 0, locals := 70 } s m args below meth c D A 4 0 0 Q (wM kI o q_48) [(0, .ref (o 0)), (1, .int v_15), (2, .int r_18)] 90 []) → Z p l e { frames := 3, cells := 0, slots := 0, locals := 70 } s m args below meth c D A 4 0 0 Q (wM kI o M_48) [(0, .ref (o 0)), (1, .int v_15), (2, .int r_18), (3, .int x3_48)] 48 [] := by
    intro n
    induction n with
    | zero =>
      intro x3_48 M_48 hi hp hq kk_48
      exfalso
      exact cu_0 hi
    | succ n ih_48 =>
      intro x3_48 M_48 hi hp hq kk_48
      refine z_iload_n X dX3_cycles_48 3 rfl ?_
      refine z_aload_n X dX3_cycles_49 0 rfl ?_
      refine zM_g0 X wd2_126 dX3_cycles_50 ?_
      refine z_bipush (v := (51 : Int32)) X dX3_cycles_53 (by decide) ?_
      refine zM_l0 X vi_51_55 cl_51 dX3_cycles_55 ?_
      refine z_icmp_ge (tgt := 90) X dX3_cycles_56 (by decide) (fun c_56 => ?_) (fun c_56 => ?_)
      · refine z_lv (lv' := [(0, .ref (o 0)), (1, .int v_15), (2, .int r_18)]) [0, 1, 2] rfl ?_
        exact kk_48 M_48 (by simp only [L_M_cycles_48, if_pos c_56]) hq
      · refine z_aload_n X dX3_cycles_59 0 rfl ?_
        refine zM_g0 X wd2_126 dX3_cycles_60 ?_
        refine z_bipush (v := (8 : Int32)) X dX3_cycles_63 (by decide) ?_
        refine z_iload_n X dX3_cycles_65 3 rfl ?_
        refine z_iadd X dX3_cycles_66 ?_
        refine z_topi (fun v_67 ev_67 => ?_)
        refine z_dup2 X dX3_cycles_67 rfl rfl ?_
        refine zM_l0 X (by rw [ev_67]; exact vin_a 8 (cu_lt hi (by omega) hp c_56) (by omega) (by omega)) rfl dX3_cycles_68 ?_
        refine z_iload_n X dX3_cycles_69 1 rfl ?_
        refine z_iload_n X dX3_cycles_70 3 rfl ?_
        refine z_callSiN X (c_M_has l D kI kC kQ v_15 x3_48) (gS wd3_37 wd3_38 wd1_4 wd3_39) k_M_has rfl rfl ⟨Nat.le_of_ble_eq_true rfl, Nat.le_of_ble_eq_true rfl⟩ ⟨Nat.zero_le _, Nat.zero_le _⟩ rfl rfl (Nat.le_of_ble_eq_true rfl) dX3_cycles_71 rfl (fun _ => rfl) (fun r_71 er_71 => ?_)
        have J_j_82 : ∀ j_82 : Int32, j_82 = (if r_71 = (0 : Int32) then ((0 : Int32)) else ((1 : Int32))) → Z p l e { frames := 3, cells := 0, slots := 0, locals := 70 } s m args below meth c D A 4 0 0 Q (wM kI o M_48) [(0, .ref (o 0)), (1, .int v_15), (2, .int r_18), (3, .int x3_48)] 82 [.int j_82, .int (M_48 0 (v_67.toNatClampNeg)), .int v_67, .ref (o 1)] := by
          intro j_82 ej_82
          refine z_iadd X dX3_cycles_82 ?_
          refine zM_s0 X (by rw [ev_67]; exact vin_a 8 (cu_lt hi (by omega) hp c_56) (by omega) (by omega)) rfl dX3_cycles_83 (fun M_83 eM_83 => ?_)
          obtain ⟨v_84, ev_84⟩ : ∃ y : Int32, y = x3_48 + (1 : Int32) := ⟨_, rfl⟩
          refine z_iinc (v := v_84) (lv' := [(3, .int v_84), (0, .ref (o 0)), (1, .int v_15), (2, .int r_18)]) X dX3_cycles_84 3 rfl (by rw [ev_84]; rfl) (Nat.le_of_ble_eq_true rfl) rfl ?_
          refine z_goto (tgt := 48) X dX3_cycles_87 (by decide) ?_
          refine z_lv (lv' := [(0, .ref (o 0)), (1, .int v_15), (2, .int r_18), (3, .int v_84)]) [1, 2, 3, 0] rfl ?_
          exact ih_48 v_84 M_83 (cu_b hi (by omega) hp c_56 ev_84) (by rw [eM_83, sA_ne _ _ _ _ (cy_ne hP2 ev_67 (cu_lt hi (by omega) hp c_56) (by omega))]; exact hp) (by rw [eM_83, sA_ne _ _ _ _ (cy_ne hP2 ev_67 (cu_lt hi (by omega) hp c_56) (by omega))]; exact hq) (fun q_48 eq_48 => kk_48 q_48 (eq_48.trans (by subst ev_67 er_71 ej_82 eM_83 ev_84; simp only [L_M_cycles_48, if_neg c_56])))
        refine z_if_eq (tgt := 81) X dX3_cycles_74 (by decide) (fun c_74 => ?_) (fun c_74 => ?_)
        · refine z_iconst (v := (0 : Int32)) X dX3_cycles_81 (by decide) ?_
          exact J_j_82 (0 : Int32) (by simp only [if_pos c_74])
        · refine z_iconst (v := (1 : Int32)) X dX3_cycles_77 (by decide) ?_
          refine z_goto (tgt := 82) X dX3_cycles_78 (by decide) ?_
          exact J_j_82 (1 : Int32) (by simp only [if_neg c_74])
  refine Lp_48 9 (0 : Int32) M_45 (cu_i (by omega)) (by rw [eM_45, sA_ne _ _ _ _ (by decide)]; exact hP) (by rw [eM_45, sA_ne _ _ _ _ (by decide)]; exact hR9) (fun q_48 eq_48 ho => ?_)
  refine z_aload_n X dX3_cycles_90 0 rfl ?_
  refine z_iload_n X dX3_cycles_91 1 rfl ?_
  refine z_callSiN X (c_M_many l D kI kC kQ v_15 (by rw [ev_15]; exact set_bn hI)) (gS wd2_204 wd2_205 wd1_4 wd2_206) k_M_many rfl rfl ⟨Nat.le_of_ble_eq_true rfl, Nat.le_of_ble_eq_true rfl⟩ ⟨Nat.zero_le _, Nat.zero_le _⟩ rfl rfl (Nat.le_of_ble_eq_true rfl) dX3_cycles_92 rfl (fun _ => rfl) (fun r_92 er_92 => ?_)
  refine z_callVv0 X (c_M_spends l D kI kC kQ o q_48 r_92) (gV wd3_48 wd3_50 wd0_23 wd1_4 wd3_51) k_M_spends rfl rfl ⟨Nat.le_of_ble_eq_true rfl, Nat.le_of_ble_eq_true rfl⟩ ⟨Nat.zero_le _, Nat.zero_le _⟩ 3 0 rfl rfl rfl rfl rfl (Nat.le_of_ble_eq_true rfl) dX3_cycles_95 (fun r_95 er_95 => ?_)
  refine z_iload_n X dX3_cycles_98 2 rfl ?_
  refine z_iconst (v := (2 : Int32)) X dX3_cycles_99 (by decide) ?_
  have J_j_128 : ∀ j_128 : ARR, j_128 = (if r_18 = (2 : Int32) then (let M_113 : ARR := sA r_95 0 45 ((r_95 0 45) + (1 : Int32)); M_113) else (let M_127 : ARR := sA r_95 0 43 ((r_95 0 43) + (1 : Int32)); M_127)) → (j_128 0 34 = nI R9) → Z p l e { frames := 3, cells := 0, slots := 0, locals := 70 } s m args below meth c D A 4 0 0 Q (wM kI o j_128) [(0, .ref (o 0)), (2, .int r_18)] 128 [] := by
    intro j_128 ej_128 hj
    refine z_iload_n X dX3_cycles_128 1 rfl ?_
    refine z_iconst (v := (1 : Int32)) X dX3_cycles_129 (by decide) ?_
    have J_j_185 : ∀ j_185 : ARR, j_185 = (if r_18 = (1 : Int32) then (let M_143 : ARR := sA j_128 0 44 ((j_128 0 44) + (1 : Int32)); let M_160 : ARR := sA M_143 0 48 ((M_143 0 48) + (M_143 0 41)); let q_163 : ARR := L_M_cycles_163 21 (0 : Int32) M_160; q_163) else (j_128)) → Z p l e { frames := 3, cells := 0, slots := 0, locals := 70 } s m args below meth c D A 4 0 0 Q (wM kI o j_185) [(0, .ref (o 0))] 185 [] := by
      intro j_185 ej_185
      refine z_aload_n X dX3_cycles_185 0 rfl ?_
      refine zM_g0 X wd2_126 dX3_cycles_186 ?_
      refine z_bipush (v := (41 : Int32)) X dX3_cycles_189 (by decide) ?_
      refine zM_l0 X vi_41_55 cl_41 dX3_cycles_191 ?_
      refine z_iconst (v := (1 : Int32)) X dX3_cycles_192 (by decide) ?_
      have J_j_217 : ∀ j_217 : ARR, j_217 = (if (j_185 0 41) = (1 : Int32) then (if (j_185 0 47) < (j_185 0 35) then (j_185) else (let r_214 : ARR := (F_M_looks j_185); r_214)) else (j_185)) → Z p l e { frames := 3, cells := 0, slots := 0, locals := 70 } s m args below meth c D A 4 0 0 Q (wM kI o j_217) [] 217 [] := by
        intro j_217 ej_217
        exact z_vret X hQ rfl j_217 rfl (by subst ev_15 er_18 eM_45 eq_48 er_92 er_95 ej_128 ej_185 ej_217; simp only [F_M_cycles]) dX3_cycles_217
      refine z_icmp_ne (tgt := 217) X dX3_cycles_193 (by decide) (fun c_193 => ?_) (fun c_193 => ?_)
      · refine z_lv (lv' := []) [] rfl ?_
        exact J_j_217 j_185 (by simp only [if_neg c_193])
      · refine z_aload_n X dX3_cycles_196 0 rfl ?_
        refine zM_g0 X wd2_126 dX3_cycles_197 ?_
        refine z_bipush (v := (47 : Int32)) X dX3_cycles_200 (by decide) ?_
        refine zM_l0 X vi_47_55 cl_47 dX3_cycles_202 ?_
        refine z_aload_n X dX3_cycles_203 0 rfl ?_
        refine zM_g0 X wd2_126 dX3_cycles_204 ?_
        refine z_bipush (v := (35 : Int32)) X dX3_cycles_207 (by decide) ?_
        refine zM_l0 X vi_35_55 cl_35 dX3_cycles_209 ?_
        refine z_icmp_lt (tgt := 217) X dX3_cycles_210 (by decide) (fun c_210 => ?_) (fun c_210 => ?_)
        · refine z_lv (lv' := []) [] rfl ?_
          exact J_j_217 j_185 (by simp only [if_pos c_193, if_pos c_210])
        · refine z_aload_n X dX3_cycles_213 0 rfl ?_
          refine z_callVv0 X (c_M_looks l D kI kC kQ o j_185) (gV wd3_52 wd3_54 wd0_24 wd1_4 wd3_55) k_M_looks rfl rfl ⟨Nat.le_of_ble_eq_true rfl, Nat.le_of_ble_eq_true rfl⟩ ⟨Nat.zero_le _, Nat.zero_le _⟩ 3 0 rfl rfl rfl rfl rfl (Nat.le_of_ble_eq_true rfl) dX3_cycles_214 (fun r_214 er_214 => ?_)
          refine z_lv (lv' := []) [] rfl ?_
          exact J_j_217 r_214 (by subst er_214; simp only [if_pos c_193, if_neg c_210])
    refine z_icmp_ne (tgt := 185) X dX3_cycles_130 (by decide) (fun c_130 => ?_) (fun c_130 => ?_)
    · refine z_lv (lv' := [(0, .ref (o 0))]) [0] rfl ?_
      exact J_j_185 j_128 (by simp only [if_neg c_130])
    · refine z_aload_n X dX3_cycles_133 0 rfl ?_
      refine zM_g0 X wd2_126 dX3_cycles_134 ?_
      refine z_bipush (v := (44 : Int32)) X dX3_cycles_137 (by decide) ?_
      refine z_dup2 X dX3_cycles_139 rfl rfl ?_
      refine zM_l0 X vi_44_55 cl_44 dX3_cycles_140 ?_
      refine z_iconst (v := (1 : Int32)) X dX3_cycles_141 (by decide) ?_
      refine z_iadd X dX3_cycles_142 ?_
      refine zM_s0 X vi_44_55 cl_44 dX3_cycles_143 (fun M_143 eM_143 => ?_)
      refine z_aload_n X dX3_cycles_144 0 rfl ?_
      refine zM_g0 X wd2_126 dX3_cycles_145 ?_
      refine z_bipush (v := (48 : Int32)) X dX3_cycles_148 (by decide) ?_
      refine z_dup2 X dX3_cycles_150 rfl rfl ?_
      refine zM_l0 X vi_48_55 cl_48 dX3_cycles_151 ?_
      refine z_aload_n X dX3_cycles_152 0 rfl ?_
      refine zM_g0 X wd2_126 dX3_cycles_153 ?_
      refine z_bipush (v := (41 : Int32)) X dX3_cycles_156 (by decide) ?_
      refine zM_l0 X vi_41_55 cl_41 dX3_cycles_158 ?_
      refine z_iadd X dX3_cycles_159 ?_
      refine zM_s0 X vi_48_55 cl_48 dX3_cycles_160 (fun M_160 eM_160 => ?_)
      refine z_iconst (v := (0 : Int32)) X dX3_cycles_161 (by decide) ?_
      refine z_istore_n (lv' := [(3, .int (0 : Int32)), (0, .ref (o 0)), (2, .int r_18)]) X dX3_cycles_162 (Nat.le_of_ble_eq_true rfl) rfl ?_
      refine z_lv (lv' := [(0, .ref (o 0)), (3, .int (0 : Int32))]) [1, 0] rfl ?_
      have Lp_163 : ∀ (n : Nat) (x3_163 : Int32) (M_163 : ARR), (cu R9 n x3_163) → (M_163 0 34 = nI R9) → (∀ q_163 : ARR, q_163 = L_M_cycles_163 n x3_163 M_163 → Z p l e { frames := 3, cells := 0, slots := 0, locals := 70 } s m args below meth c D A 4 0 0 Q (wM kI o q_163) [(0, .ref (o 0))] 185 []) → Z p l e { frames := 3, cells := 0, slots := 0, locals := 70 } s m args below meth c D A 4 0 0 Q (wM kI o M_163) [(0, .ref (o 0)), (3, .int x3_163)] 163 [] := by
        intro n
        induction n with
        | zero =>
          intro x3_163 M_163 hi hp kk_163
          exfalso
          exact cu_0 hi
        | succ n ih_163 =>
          intro x3_163 M_163 hi hp kk_163
          refine z_iload_n X dX3_cycles_163 1 rfl ?_
          refine z_aload_n X dX3_cycles_164 0 rfl ?_
          refine zM_g0 X wd2_126 dX3_cycles_165 ?_
          refine z_bipush (v := (34 : Int32)) X dX3_cycles_168 (by decide) ?_
          refine zM_l0 X vi_34_55 cl_34 dX3_cycles_170 ?_
          refine z_icmp_ge (tgt := 185) X dX3_cycles_171 (by decide) (fun c_171 => ?_) (fun c_171 => ?_)
          · refine z_lv (lv' := [(0, .ref (o 0))]) [0] rfl ?_
            exact kk_163 M_163 (by simp only [L_M_cycles_163, if_pos c_171]) 
          · refine z_aload_n X dX3_cycles_174 0 rfl ?_
            refine z_iconst (v := (0 : Int32)) X dX3_cycles_175 (by decide) ?_
            refine z_callVv0 X (c_M_spends l D kI kC kQ o M_163 (0 : Int32)) (gV wd3_48 wd3_50 wd0_23 wd1_4 wd3_51) k_M_spends rfl rfl ⟨Nat.le_of_ble_eq_true rfl, Nat.le_of_ble_eq_true rfl⟩ ⟨Nat.zero_le _, Nat.zero_le _⟩ 3 0 rfl rfl rfl rfl rfl (Nat.le_of_ble_eq_true rfl) dX3_cycles_176 (fun r_176 er_176 => ?_)
            obtain ⟨v_179, ev_179⟩ : ∃ y : Int32, y = x3_163 + (1 : Int32) := ⟨_, rfl⟩
            refine z_iinc (v := v_179) (lv' := [(3, .int v_179), (0, .ref (o 0))]) X dX3_cycles_179 1 rfl (by rw [ev_179]; rfl) (Nat.le_of_ble_eq_true rfl) rfl ?_
            refine z_goto (tgt := 163) X dX3_cycles_182 (by decide) ?_
            refine z_lv (lv' := [(0, .ref (o 0)), (3, .int v_179)]) [1, 0] rfl ?_
            exact ih_163 v_179 r_176 (cu_b hi (by omega) hp c_171 ev_179) (by rw [er_176, spends_at _ _ (by decide) (by decide) (by decide) (by decide) (by decide)]; exact hp) (fun q_163 eq_163 => kk_163 q_163 (eq_163.trans (by subst er_176 ev_179; simp only [L_M_cycles_163, if_neg c_171])))
      refine Lp_163 21 (0 : Int32) M_160 (cu_i (by omega)) (by rw [eM_160, sA_ne _ _ _ _ (by decide), eM_143, sA_ne _ _ _ _ (by decide)]; exact hj) (fun q_163 eq_163 => ?_)
      exact J_j_185 q_163 (by subst eM_143 eM_160 eq_163; simp only [if_pos c_130])
  refine z_icmp_ne (tgt := 117) X dX3_cycles_100 (by decide) (fun c_100 => ?_) (fun c_100 => ?_)
  · refine z_aload_n X dX3_cycles_117 0 rfl ?_
    refine zM_g0 X wd2_126 dX3_cycles_118 ?_
    refine z_bipush (v := (43 : Int32)) X dX3_cycles_121 (by decide) ?_
    refine z_dup2 X dX3_cycles_123 rfl rfl ?_
    refine zM_l0 X vi_43_55 cl_43 dX3_cycles_124 ?_
    refine z_iconst (v := (1 : Int32)) X dX3_cycles_125 (by decide) ?_
    refine z_iadd X dX3_cycles_126 ?_
    refine zM_s0 X vi_43_55 cl_43 dX3_cycles_127 (fun M_127 eM_127 => ?_)
    refine z_lv (lv' := [(0, .ref (o 0)), (2, .int r_18)]) [0, 2] rfl ?_
    exact J_j_128 M_127 (by subst eM_127; simp only [if_neg c_100]) (by rw [eM_127, sA_ne _ _ _ _ (by decide), er_95, spends_at _ _ (by decide) (by decide) (by decide) (by decide) (by decide)]; exact ho)
  · refine z_aload_n X dX3_cycles_103 0 rfl ?_
    refine zM_g0 X wd2_126 dX3_cycles_104 ?_
    refine z_bipush (v := (45 : Int32)) X dX3_cycles_107 (by decide) ?_
    refine z_dup2 X dX3_cycles_109 rfl rfl ?_
    refine zM_l0 X vi_45_55 cl_45 dX3_cycles_110 ?_
    refine z_iconst (v := (1 : Int32)) X dX3_cycles_111 (by decide) ?_
    refine z_iadd X dX3_cycles_112 ?_
    refine zM_s0 X vi_45_55 cl_45 dX3_cycles_113 (fun M_113 eM_113 => ?_)
    refine z_goto (tgt := 128) X dX3_cycles_114 (by decide) ?_
    refine z_lv (lv' := [(0, .ref (o 0)), (2, .int r_18)]) [0, 2] rfl ?_
    exact J_j_128 M_113 (by subst eM_113; simp only [if_pos c_100]) (by rw [eM_113, sA_ne _ _ _ _ (by decide), er_95, spends_at _ _ (by decide) (by decide) (by decide) (by decide) (by decide)]; exact ho)
set_option maxRecDepth 100000 in
set_option maxHeartbeats 4000000 in
theorem c_M_run (l : Launch) (D : va_G) (kI kC kQ : ClassId) (o : Nat → Nat) (M : ARR) (a1 : Int32) (hI : IA (M 0)) (hh : bn 0 4 (M 7 4)) : CtI (U := Int32 × ARR) l yX3_run cX3_run 3 (some .int) { frames := 4, cells := 0, slots := 0, locals := 93 } D (tysG kI kC kQ) (wM kI o M) [.ref (o 0), .int a1] (fun u => u.1) (fun u => (wM kI o u.2)) (fun u => u = F_M_run M a1) := by
  refine met_Zi (own := "ShadowLatchesModel") (by decide +kernel) rfl (Nat.le_of_ble_eq_true rfl) ?_
  intro p e s m args below meth c A Q X hQ
  show Z p l e { frames := 4, cells := 0, slots := 0, locals := 93 } s m args below meth c D A 3 0 0 Q (wM kI o M) [(0, .ref (o 0)), (1, .int a1)] 0 []
  refine z_iload_n X dX3_run_0 1 rfl ?_
  refine z_i2l X dX3_run_1 ?_
  refine z_lconst (v := (1 : Int64)) X dX3_run_2 (by decide) ?_
  refine z_ldc2 X dX3_run_3 wd3_28 ?_
  refine z_callSiN X (c_M_in l D kI kC kQ (a1.toInt64) (1 : Int64) (2000 : Int64)) (gS wd2_172 wd2_173 wd1_4 wd2_174) k_M_in rfl rfl ⟨Nat.le_of_ble_eq_true rfl, Nat.le_of_ble_eq_true rfl⟩ ⟨Nat.zero_le _, Nat.zero_le _⟩ rfl rfl (Nat.le_of_ble_eq_true rfl) dX3_run_6 rfl (fun _ => rfl) (fun r_6 er_6 => ?_)
  refine z_if_ne (tgt := 15) X dX3_run_9 (by decide) (fun c_9 => ?_) (fun c_9 => ?_)
  · refine z_aload_n X dX3_run_15 0 rfl ?_
    refine z_callVv0 X (c_M_remember l D kI kC kQ o M) (gV wd2_175 wd2_177 wd0_10 wd1_4 wd2_178) k_M_remember rfl rfl ⟨Nat.le_of_ble_eq_true rfl, Nat.le_of_ble_eq_true rfl⟩ ⟨Nat.zero_le _, Nat.zero_le _⟩ 3 0 rfl rfl rfl rfl rfl (Nat.le_of_ble_eq_true rfl) dX3_run_16 (fun r_16 er_16 => ?_)
    obtain ⟨K, hK1, hK2, hK⟩ := in_bn 1 2000 (by omega) er_6 c_9
    refine z_iconst (v := (0 : Int32)) X dX3_run_19 (by decide) ?_
    refine z_istore_n (lv' := [(2, .int (0 : Int32)), (0, .ref (o 0)), (1, .int a1)]) X dX3_run_20 (Nat.le_of_ble_eq_true rfl) rfl ?_
    refine z_lv (lv' := [(0, .ref (o 0)), (1, .int a1), (2, .int (0 : Int32))]) [1, 2, 0] rfl ?_
    have Lp_21 : ∀ (n : Nat) (x2_21 : Int32) (M_21 : ARR), (cu K n x2_21) → (IA (M_21 0)) → (M_21 7 4 = M 7 4) → (∀ q_21 : ARR, q_21 = L_M_run_21 a1 n x2_21 M_21 → (q_21 7 4 = M 7 4) → Z p l e { frames := 4, cells := 0, slots := 0, locals := 93 } s m args below meth c D A 3 0 0 Q (wM kI o q_21) [(0, .ref (o 0))] 36 []) → Z p l e { frames := 4, cells := 0, slots := 0, locals := 93 } s m args below meth c D A 3 0 0 Q (wM kI o M_21) [(0, .ref (o 0)), (1, .int a1), (2, .int x2_21)] 21 [] := by
      intro n
      induction n with
      | zero =>
        intro x2_21 M_21 hi hJ hm kk_21
        exfalso
        exact cu_0 hi
      | succ n ih_21 =>
        intro x2_21 M_21 hi hJ hm kk_21
        refine z_iload_n X dX3_run_21 2 rfl ?_
        refine z_iload_n X dX3_run_22 1 rfl ?_
        refine z_icmp_ge (tgt := 36) X dX3_run_23 (by decide) (fun c_23 => ?_) (fun c_23 => ?_)
        · refine z_lv (lv' := [(0, .ref (o 0))]) [0] rfl ?_
          exact kk_21 M_21 (by simp only [L_M_run_21, if_pos c_23]) hm
        · refine z_aload_n X dX3_run_26 0 rfl ?_
          refine z_callVv0 X (c_M_cycles l D kI kC kQ o M_21 hJ) (gV wd3_29 wd3_31 wd0_19 wd1_4 wd3_32) k_M_cycles rfl rfl ⟨Nat.le_of_ble_eq_true rfl, Nat.le_of_ble_eq_true rfl⟩ ⟨Nat.zero_le _, Nat.zero_le _⟩ 3 0 rfl rfl rfl rfl rfl (Nat.le_of_ble_eq_true rfl) dX3_run_27 (fun r_27 er_27 => ?_)
          obtain ⟨v_30, ev_30⟩ : ∃ y : Int32, y = x2_21 + (1 : Int32) := ⟨_, rfl⟩
          refine z_iinc (v := v_30) (lv' := [(2, .int v_30), (0, .ref (o 0)), (1, .int a1)]) X dX3_run_30 2 rfl (by rw [ev_30]; rfl) (Nat.le_of_ble_eq_true rfl) rfl ?_
          refine z_goto (tgt := 21) X dX3_run_33 (by decide) ?_
          refine z_lv (lv' := [(0, .ref (o 0)), (1, .int a1), (2, .int v_30)]) [1, 2, 0] rfl ?_
          exact ih_21 v_30 r_27 (cu_b hi (by omega) hK c_23 ev_30) (by rw [er_27]; exact IA_cycles hJ) (by rw [er_27, cycles_o _ (by decide)]; exact hm) (fun q_21 eq_21 => kk_21 q_21 (eq_21.trans (by subst er_27 ev_30; simp only [L_M_run_21, if_neg c_23])))
    refine Lp_21 2001 (0 : Int32) r_16 (cu_i (by omega)) (by rw [er_16, rem_o M (by decide)]; exact hI) (by rw [er_16, rem_o M (by decide)]) (fun q_21 eq_21 ho => ?_)
    refine z_aload_n X dX3_run_36 0 rfl ?_
    refine z_aload_n X dX3_run_37 0 rfl ?_
    refine zM_g0 X wd2_126 dX3_run_38 ?_
    refine z_bipush (v := (44 : Int32)) X dX3_run_41 (by decide) ?_
    refine zM_l0 X vi_44_55 cl_44 dX3_run_43 ?_
    refine z_aload_n X dX3_run_44 0 rfl ?_
    refine zM_g1 X wd2_127 dX3_run_45 ?_
    refine z_bipush (v := (44 : Int32)) X dX3_run_48 (by decide) ?_
    refine zM_l1 X vi_44_55 cl_44 dX3_run_50 ?_
    refine z_isub X dX3_run_51 ?_
    refine z_callVi0 X (c_M_acted l D kI kC kQ o q_21 ((q_21 0 44) - (q_21 1 44)) (by rw [ho]; exact hh)) (gV wd2_182 wd2_184 wd0_11 wd1_4 wd2_185) k_M_acted rfl rfl ⟨Nat.le_of_ble_eq_true rfl, Nat.le_of_ble_eq_true rfl⟩ ⟨Nat.zero_le _, Nat.zero_le _⟩ 3 0 rfl rfl rfl rfl rfl (Nat.le_of_ble_eq_true rfl) dX3_run_52 (fun r_52 er_52 => ?_)
    exact z_iret X hQ rfl (r_52.1, r_52.2) rfl rfl (by subst er_6 er_16 eq_21 er_52; simp only [F_M_run, if_neg c_9]) dX3_run_55
  · refine z_bipush (v := (-2 : Int32)) X dX3_run_12 (by decide) ?_
    exact z_iret X hQ rfl ((-2 : Int32), M) rfl rfl (by subst er_6; simp only [F_M_run, if_pos c_9]) dX3_run_14
set_option maxRecDepth 100000 in
set_option maxHeartbeats 4000000 in
theorem c_M_undo (l : Launch) (D : va_G) (kI kC kQ : ClassId) (o : Nat → Nat) (M : ARR) (hh : bn 0 4 (M 7 4)) : CtI (U := Int32 × ARR) l yX3_undo cX3_undo 2 (some .int) { frames := 0, cells := 0, slots := 0, locals := 0 } D (tysG kI kC kQ) (wM kI o M) [.ref (o 0)] (fun u => u.1) (fun u => (wM kI o u.2)) (fun u => u = F_M_undo M) := by
  refine met_Zi (own := "ShadowLatchesModel") (by decide +kernel) rfl (Nat.le_of_ble_eq_true rfl) ?_
  intro p e s m args below meth c A Q X hQ
  show Z p l e { frames := 0, cells := 0, slots := 0, locals := 0 } s m args below meth c D A 2 0 0 Q (wM kI o M) [(0, .ref (o 0))] 0 []
  refine z_aload_n X dX3_undo_0 0 rfl ?_
  refine zM_g4 X wd2_130 dX3_undo_1 ?_
  refine z_if_ne (tgt := 10) X dX3_undo_4 (by decide) (fun c_4 => ?_) (fun c_4 => ?_)
  · refine z_aload_n X dX3_undo_10 0 rfl ?_
    refine z_dup X dX3_undo_11 rfl ?_
    refine zM_g4 X wd2_130 dX3_undo_12 ?_
    refine z_iconst (v := (1 : Int32)) X dX3_undo_15 (by decide) ?_
    refine z_isub X dX3_undo_16 ?_
    refine zM_p4 X wd2_130 dX3_undo_17 (fun M_17 eM_17 => ?_)
    refine z_iconst (v := (0 : Int32)) X dX3_undo_20 (by decide) ?_
    refine z_istore_n (lv' := [(1, .int (0 : Int32)), (0, .ref (o 0))]) X dX3_undo_21 (Nat.le_of_ble_eq_true rfl) rfl ?_
    refine z_lv (lv' := [(0, .ref (o 0)), (1, .int (0 : Int32))]) [1, 0] rfl ?_
    have Lp_22 : ∀ (n : Nat) (x1_22 : Int32) (M_22 : ARR), (cu 55 n x1_22) → (bn 0 3 (M_22 7 4)) → (∀ q_22 : ARR, q_22 = L_M_undo_22 n x1_22 M_22 → Z p l e { frames := 0, cells := 0, slots := 0, locals := 0 } s m args below meth c D A 2 0 0 Q (wM kI o q_22) [(0, .ref (o 0))] 54 []) → Z p l e { frames := 0, cells := 0, slots := 0, locals := 0 } s m args below meth c D A 2 0 0 Q (wM kI o M_22) [(0, .ref (o 0)), (1, .int x1_22)] 22 [] := by
      intro n
      induction n with
      | zero =>
        intro x1_22 M_22 hi hm kk_22
        exfalso
        exact cu_0 hi
      | succ n ih_22 =>
        intro x1_22 M_22 hi hm kk_22
        refine z_iload_n X dX3_undo_22 1 rfl ?_
        refine z_bipush (v := (55 : Int32)) X dX3_undo_23 (by decide) ?_
        refine z_icmp_ge (tgt := 54) X dX3_undo_25 (by decide) (fun c_25 => ?_) (fun c_25 => ?_)
        · refine z_lv (lv' := [(0, .ref (o 0))]) [0] rfl ?_
          exact kk_22 M_22 (by simp only [L_M_undo_22, if_pos c_25]) 
        · refine z_aload_n X dX3_undo_28 0 rfl ?_
          refine zM_g0 X wd2_126 dX3_undo_29 ?_
          refine z_iload_n X dX3_undo_32 1 rfl ?_
          refine z_aload_n X dX3_undo_33 0 rfl ?_
          refine zM_g3 X wd2_129 dX3_undo_34 ?_
          refine z_bipush (v := (55 : Int32)) X dX3_undo_37 (by decide) ?_
          refine z_aload_n X dX3_undo_39 0 rfl ?_
          refine zM_g4 X wd2_130 dX3_undo_40 ?_
          refine z_imul X dX3_undo_43 ?_
          refine z_iload_n X dX3_undo_44 1 rfl ?_
          refine z_iadd X dX3_undo_45 ?_
          refine zM_l3 X (vin_h hm (cu_lt hi (by omega) rfl c_25)) rfl dX3_undo_46 ?_
          refine zM_s0 X (vin_k (cu_lt hi (by omega) rfl c_25) (by omega) (by omega)) rfl dX3_undo_47 (fun M_47 eM_47 => ?_)
          obtain ⟨v_48, ev_48⟩ : ∃ y : Int32, y = x1_22 + (1 : Int32) := ⟨_, rfl⟩
          refine z_iinc (v := v_48) (lv' := [(1, .int v_48), (0, .ref (o 0))]) X dX3_undo_48 1 rfl (by rw [ev_48]; rfl) (Nat.le_of_ble_eq_true rfl) rfl ?_
          refine z_goto (tgt := 22) X dX3_undo_51 (by decide) ?_
          refine z_lv (lv' := [(0, .ref (o 0)), (1, .int v_48)]) [1, 0] rfl ?_
          exact ih_22 v_48 M_47 (cu_b hi (by omega) rfl c_25 ev_48) (by rw [eM_47, sA_o _ _ _ _ (by decide)]; exact hm) (fun q_22 eq_22 => kk_22 q_22 (eq_22.trans (by subst eM_47 ev_48; simp only [L_M_undo_22, if_neg c_25])))
    refine Lp_22 56 (0 : Int32) M_17 (cu_i (by omega)) (by rw [eM_17, sA_e]; exact bn_dec hh c_4) (fun q_22 eq_22 => ?_)
    refine z_aload_n X dX3_undo_54 0 rfl ?_
    refine zM_g4 X wd2_130 dX3_undo_55 ?_
    exact z_iret X hQ rfl ((q_22 7 4), q_22) rfl rfl (by subst eM_17 eq_22; simp only [F_M_undo, if_neg c_4]) dX3_undo_58
  · refine z_bipush (v := (-5 : Int32)) X dX3_undo_7 (by decide) ?_
    exact z_iret X hQ rfl ((-5 : Int32), M) rfl rfl (by simp only [F_M_undo, if_pos c_4]) dX3_undo_9
set_option maxRecDepth 100000 in
set_option maxHeartbeats 4000000 in
theorem c_M_keep (l : Launch) (D : va_G) (kI kC kQ : ClassId) (o : Nat → Nat) (M : ARR) : CtI (U := Int32 × ARR) l yX3_keep cX3_keep 1 (some .int) { frames := 1, cells := 0, slots := 0, locals := 22 } D (tysG kI kC kQ) (wM kI o M) [.ref (o 0)] (fun u => u.1) (fun u => (wM kI o u.2)) (fun u => u = F_M_keep M) := by
  refine met_Zi (own := "ShadowLatchesModel") (by decide +kernel) rfl (Nat.le_of_ble_eq_true rfl) ?_
  intro p e s m args below meth c A Q X hQ
  show Z p l e { frames := 1, cells := 0, slots := 0, locals := 22 } s m args below meth c D A 1 0 0 Q (wM kI o M) [(0, .ref (o 0))] 0 []
  refine z_aload_n X dX3_keep_0 0 rfl ?_
  refine zM_g0 X wd2_126 dX3_keep_1 ?_
  refine z_aload_n X dX3_keep_4 0 rfl ?_
  refine zM_g5 X wd2_131 dX3_keep_5 ?_
  refine zM_cp_0_4 X (gS wd2_179 wd2_180 wd1_4 wd2_181) ⟨Nat.le_of_ble_eq_true rfl, Nat.le_of_ble_eq_true rfl⟩ ⟨Nat.zero_le _, Nat.zero_le _⟩ (Nat.le_of_ble_eq_true rfl) dX3_keep_8 (fun M_8 eM_8 => ?_)
  refine z_aload_n X dX3_keep_11 0 rfl ?_
  refine z_iconst (v := (1 : Int32)) X dX3_keep_12 (by decide) ?_
  refine zM_p6 X wd2_132 dX3_keep_13 (fun M_13 eM_13 => ?_)
  refine z_aload_n X dX3_keep_16 0 rfl ?_
  refine zM_g0 X wd2_126 dX3_keep_17 ?_
  refine z_bipush (v := (39 : Int32)) X dX3_keep_20 (by decide) ?_
  refine zM_l0 X vi_39_55 cl_39 dX3_keep_22 ?_
  exact z_iret X hQ rfl ((M_13 0 39), M_13) rfl rfl (by subst eM_8 eM_13; simp only [F_M_keep]) dX3_keep_23
set_option maxRecDepth 100000 in
set_option maxHeartbeats 4000000 in
theorem c_M_restore (l : Launch) (D : va_G) (kI kC kQ : ClassId) (o : Nat → Nat) (M : ARR) (hh : bn 0 4 (M 7 4)) : CtI (U := Int32 × ARR) l yX3_restore cX3_restore 1 (some .int) { frames := 2, cells := 0, slots := 0, locals := 42 } D (tysG kI kC kQ) (wM kI o M) [.ref (o 0)] (fun u => u.1) (fun u => (wM kI o u.2)) (fun u => u = F_M_restore M) := by
  refine met_Zi (own := "ShadowLatchesModel") (by decide +kernel) rfl (Nat.le_of_ble_eq_true rfl) ?_
  intro p e s m args below meth c A Q X hQ
  show Z p l e { frames := 2, cells := 0, slots := 0, locals := 42 } s m args below meth c D A 1 0 0 Q (wM kI o M) [(0, .ref (o 0))] 0 []
  refine z_aload_n X dX3_restore_0 0 rfl ?_
  refine zM_g6 X wd2_132 dX3_restore_1 ?_
  refine z_if_ne (tgt := 10) X dX3_restore_4 (by decide) (fun c_4 => ?_) (fun c_4 => ?_)
  · refine z_aload_n X dX3_restore_10 0 rfl ?_
    refine z_callVv0 X (c_M_remember l D kI kC kQ o M) (gV wd2_175 wd2_177 wd0_10 wd1_4 wd2_178) k_M_remember rfl rfl ⟨Nat.le_of_ble_eq_true rfl, Nat.le_of_ble_eq_true rfl⟩ ⟨Nat.zero_le _, Nat.zero_le _⟩ 3 0 rfl rfl rfl rfl rfl (Nat.le_of_ble_eq_true rfl) dX3_restore_11 (fun r_11 er_11 => ?_)
    refine z_aload_n X dX3_restore_14 0 rfl ?_
    refine zM_g5 X wd2_131 dX3_restore_15 ?_
    refine z_aload_n X dX3_restore_18 0 rfl ?_
    refine zM_g0 X wd2_126 dX3_restore_19 ?_
    refine zM_cp_4_0 X (gS wd2_179 wd2_180 wd1_4 wd2_181) ⟨Nat.le_of_ble_eq_true rfl, Nat.le_of_ble_eq_true rfl⟩ ⟨Nat.zero_le _, Nat.zero_le _⟩ (Nat.le_of_ble_eq_true rfl) dX3_restore_22 (fun M_22 eM_22 => ?_)
    refine z_aload_n X dX3_restore_25 0 rfl ?_
    refine z_aload_n X dX3_restore_26 0 rfl ?_
    refine zM_g0 X wd2_126 dX3_restore_27 ?_
    refine z_bipush (v := (39 : Int32)) X dX3_restore_30 (by decide) ?_
    refine zM_l0 X vi_39_55 cl_39 dX3_restore_32 ?_
    refine z_callVi0 X (c_M_acted l D kI kC kQ o M_22 (M_22 0 39) (by rw [eM_22, sR_o _ _ _ (by decide), er_11, rem_o M (by decide)]; exact hh)) (gV wd2_182 wd2_184 wd0_11 wd1_4 wd2_185) k_M_acted rfl rfl ⟨Nat.le_of_ble_eq_true rfl, Nat.le_of_ble_eq_true rfl⟩ ⟨Nat.zero_le _, Nat.zero_le _⟩ 3 0 rfl rfl rfl rfl rfl (Nat.le_of_ble_eq_true rfl) dX3_restore_33 (fun r_33 er_33 => ?_)
    exact z_iret X hQ rfl (r_33.1, r_33.2) rfl rfl (by subst er_11 eM_22 er_33; simp only [F_M_restore, if_neg c_4]) dX3_restore_36
  · refine z_bipush (v := (-5 : Int32)) X dX3_restore_7 (by decide) ?_
    exact z_iret X hQ rfl ((-5 : Int32), M) rfl rfl (by simp only [F_M_restore, if_pos c_4]) dX3_restore_9
set_option maxRecDepth 100000 in
set_option maxHeartbeats 4000000 in
theorem c_M_govern (l : Launch) (D : va_G) (kI kC kQ : ClassId) (o : Nat → Nat) (M : ARR) (a1 : Int32) (hh : bn 0 4 (M 7 4)) : CtI (U := Int32 × ARR) l yX3_govern cX3_govern 3 (some .int) { frames := 2, cells := 0, slots := 0, locals := 42 } D (tysG kI kC kQ) (wM kI o M) [.ref (o 0), .int a1] (fun u => u.1) (fun u => (wM kI o u.2)) (fun u => u = F_M_govern M a1) := by
  refine met_Zi (own := "ShadowLatchesModel") (by decide +kernel) rfl (Nat.le_of_ble_eq_true rfl) ?_
  intro p e s m args below meth c A Q X hQ
  show Z p l e { frames := 2, cells := 0, slots := 0, locals := 42 } s m args below meth c D A 3 0 0 Q (wM kI o M) [(0, .ref (o 0)), (1, .int a1)] 0 []
  refine z_iload_n X dX3_govern_0 1 rfl ?_
  have J_j_9 : ∀ j_9 : Int32, j_9 = (if a1 = (0 : Int32) then ((0 : Int32)) else ((1 : Int32))) → Z p l e { frames := 2, cells := 0, slots := 0, locals := 42 } s m args below meth c D A 3 0 0 Q (wM kI o M) [(0, .ref (o 0))] 9 [.int j_9] := by
    intro j_9 ej_9
    refine z_istore_n (lv' := [(2, .int j_9), (0, .ref (o 0))]) X dX3_govern_9 (Nat.le_of_ble_eq_true rfl) rfl ?_
    refine z_aload_n X dX3_govern_10 1 rfl ?_
    refine zM_g0 X wd2_126 dX3_govern_11 ?_
    refine z_bipush (v := (41 : Int32)) X dX3_govern_14 (by decide) ?_
    refine zM_l0 X vi_41_55 cl_41 dX3_govern_16 ?_
    refine z_iload_n X dX3_govern_17 0 rfl ?_
    refine z_icmp_ne (tgt := 24) X dX3_govern_18 (by decide) (fun c_18 => ?_) (fun c_18 => ?_)
    · refine z_aload_n X dX3_govern_24 1 rfl ?_
      refine z_callVv0 X (c_M_remember l D kI kC kQ o M) (gV wd2_175 wd2_177 wd0_10 wd1_4 wd2_178) k_M_remember rfl rfl ⟨Nat.le_of_ble_eq_true rfl, Nat.le_of_ble_eq_true rfl⟩ ⟨Nat.zero_le _, Nat.zero_le _⟩ 3 0 rfl rfl rfl rfl rfl (Nat.le_of_ble_eq_true rfl) dX3_govern_25 (fun r_25 er_25 => ?_)
      refine z_aload_n X dX3_govern_28 1 rfl ?_
      refine zM_g0 X wd2_126 dX3_govern_29 ?_
      refine z_bipush (v := (41 : Int32)) X dX3_govern_32 (by decide) ?_
      refine z_iload_n X dX3_govern_34 0 rfl ?_
      refine zM_s0 X vi_41_55 cl_41 dX3_govern_35 (fun M_35 eM_35 => ?_)
      refine z_aload_n X dX3_govern_36 1 rfl ?_
      refine zM_g0 X wd2_126 dX3_govern_37 ?_
      refine z_bipush (v := (47 : Int32)) X dX3_govern_40 (by decide) ?_
      refine z_iconst (v := (0 : Int32)) X dX3_govern_42 (by decide) ?_
      refine zM_s0 X vi_47_55 cl_47 dX3_govern_43 (fun M_43 eM_43 => ?_)
      refine z_aload_n X dX3_govern_44 1 rfl ?_
      refine zM_g0 X wd2_126 dX3_govern_45 ?_
      refine z_bipush (v := (48 : Int32)) X dX3_govern_48 (by decide) ?_
      refine z_iconst (v := (0 : Int32)) X dX3_govern_50 (by decide) ?_
      refine zM_s0 X vi_48_55 cl_48 dX3_govern_51 (fun M_51 eM_51 => ?_)
      refine z_aload_n X dX3_govern_52 1 rfl ?_
      refine z_aload_n X dX3_govern_53 1 rfl ?_
      refine zM_g0 X wd2_126 dX3_govern_54 ?_
      refine z_bipush (v := (39 : Int32)) X dX3_govern_57 (by decide) ?_
      refine zM_l0 X vi_39_55 cl_39 dX3_govern_59 ?_
      refine z_callVi0 X (c_M_acted l D kI kC kQ o M_51 (M_51 0 39) (by rw [eM_51, sA_o _ _ _ _ (by decide), eM_43, sA_o _ _ _ _ (by decide), eM_35, sA_o _ _ _ _ (by decide), er_25, rem_o M (by decide)]; exact hh)) (gV wd2_182 wd2_184 wd0_11 wd1_4 wd2_185) k_M_acted rfl rfl ⟨Nat.le_of_ble_eq_true rfl, Nat.le_of_ble_eq_true rfl⟩ ⟨Nat.zero_le _, Nat.zero_le _⟩ 3 0 rfl rfl rfl rfl rfl (Nat.le_of_ble_eq_true rfl) dX3_govern_60 (fun r_60 er_60 => ?_)
      exact z_iret X hQ rfl (r_60.1, r_60.2) rfl rfl (by subst ej_9 er_25 eM_35 eM_43 eM_51 er_60; simp only [F_M_govern, if_neg c_18]) dX3_govern_63
    · refine z_bipush (v := (-5 : Int32)) X dX3_govern_21 (by decide) ?_
      exact z_iret X hQ rfl ((-5 : Int32), M) rfl rfl (by subst ej_9; simp only [F_M_govern, if_pos c_18]) dX3_govern_23
  refine z_if_eq (tgt := 8) X dX3_govern_1 (by decide) (fun c_1 => ?_) (fun c_1 => ?_)
  · refine z_iconst (v := (0 : Int32)) X dX3_govern_8 (by decide) ?_
    refine z_lv (lv' := [(0, .ref (o 0))]) [0] rfl ?_
    exact J_j_9 (0 : Int32) (by simp only [if_pos c_1])
  · refine z_iconst (v := (1 : Int32)) X dX3_govern_4 (by decide) ?_
    refine z_goto (tgt := 9) X dX3_govern_5 (by decide) ?_
    refine z_lv (lv' := [(0, .ref (o 0))]) [0] rfl ?_
    exact J_j_9 (1 : Int32) (by simp only [if_neg c_1])
set_option maxRecDepth 100000 in
set_option maxHeartbeats 4000000 in
theorem c_M_setsWith (l : Launch) (D : va_G) (kI kC kQ : ClassId) (o : Nat → Nat) (M : ARR) (a1 : Int32) (hI : IA (M 0)) : CtI (U := Int32) l yX3_setsWith cX3_setsWith 4 (some .int) { frames := 1, cells := 0, slots := 0, locals := 21 } D (tysG kI kC kQ) (wM kI o M) [.ref (o 0), .int a1] (fun u => u) (fun _ => (wM kI o M)) (fun u => u = F_M_setsWith M a1) := by
  refine met_Zi (own := "ShadowLatchesModel") (by decide +kernel) rfl (Nat.le_of_ble_eq_true rfl) ?_
  intro p e s m args below meth c A Q X hQ
  show Z p l e { frames := 1, cells := 0, slots := 0, locals := 21 } s m args below meth c D A 4 0 0 Q (wM kI o M) [(0, .ref (o 0)), (1, .int a1)] 0 []
  obtain ⟨N, hN1, hN2, hN⟩ := hI.c
  refine z_iconst (v := (0 : Int32)) X dX3_setsWith_0 (by decide) ?_
  refine z_istore_n (lv' := [(2, .int (0 : Int32)), (0, .ref (o 0)), (1, .int a1)]) X dX3_setsWith_1 (Nat.le_of_ble_eq_true rfl) rfl ?_
  refine z_iconst (v := (0 : Int32)) X dX3_setsWith_2 (by decide) ?_
  refine z_istore_n (lv' := [(3, .int (0 : Int32)), (2, .int (0 : Int32)), (0, .ref (o 0)), (1, .int a1)]) X dX3_setsWith_3 (Nat.le_of_ble_eq_true rfl) rfl ?_
  refine z_lv (lv' := [(0, .ref (o 0)), (1, .int a1), (2, .int (0 : Int32)), (3, .int (0 : Int32))]) [2, 3, 1, 0] rfl ?_
  have Lp_4 : ∀ (n : Nat) (x2_4 : Int32) (x3_4 : Int32), (cu N n x3_4) → (∀ q_4 : Int32, q_4 = L_M_setsWith_4 M a1 n x2_4 x3_4 → Z p l e { frames := 1, cells := 0, slots := 0, locals := 21 } s m args below meth c D A 4 0 0 Q (wM kI o M) [(2, .int q_4)] 45 []) → Z p l e { frames := 1, cells := 0, slots := 0, locals := 21 } s m args below meth c D A 4 0 0 Q (wM kI o M) [(0, .ref (o 0)), (1, .int a1), (2, .int x2_4), (3, .int x3_4)] 4 [] := by
    intro n
    induction n with
    | zero =>
      intro x2_4 x3_4 hi kk_4
      exfalso
      exact cu_0 hi
    | succ n ih_4 =>
      intro x2_4 x3_4 hi kk_4
      refine z_iload_n X dX3_setsWith_4 3 rfl ?_
      refine z_aload_n X dX3_setsWith_5 0 rfl ?_
      refine zM_g0 X wd2_126 dX3_setsWith_6 ?_
      refine z_bipush (v := (49 : Int32)) X dX3_setsWith_9 (by decide) ?_
      refine zM_l0 X vi_49_55 cl_49 dX3_setsWith_11 ?_
      refine z_icmp_ge (tgt := 45) X dX3_setsWith_12 (by decide) (fun c_12 => ?_) (fun c_12 => ?_)
      · refine z_lv (lv' := [(2, .int x2_4)]) [2] rfl ?_
        exact kk_4 x2_4 (by simp only [L_M_setsWith_4, if_pos c_12]) 
      · refine z_iload_n X dX3_setsWith_15 2 rfl ?_
        refine z_aload_n X dX3_setsWith_16 0 rfl ?_
        refine zM_g0 X wd2_126 dX3_setsWith_17 ?_
        refine z_bipush (v := (16 : Int32)) X dX3_setsWith_20 (by decide) ?_
        refine z_iload_n X dX3_setsWith_22 3 rfl ?_
        refine z_iadd X dX3_setsWith_23 ?_
        refine zM_l0 X (vin_a 16 (cu_lt hi (by omega) hN c_12) (by omega) (by omega)) rfl dX3_setsWith_24 ?_
        refine z_iload_n X dX3_setsWith_25 1 rfl ?_
        refine z_callSiN X (c_M_has l D kI kC kQ (M 0 (((16 : Int32) + x3_4).toNatClampNeg)) a1) (gS wd3_37 wd3_38 wd1_4 wd3_39) k_M_has rfl rfl ⟨Nat.le_of_ble_eq_true rfl, Nat.le_of_ble_eq_true rfl⟩ ⟨Nat.zero_le _, Nat.zero_le _⟩ rfl rfl (Nat.le_of_ble_eq_true rfl) dX3_setsWith_26 rfl (fun _ => rfl) (fun r_26 er_26 => ?_)
        have J_j_37 : ∀ j_37 : Int32, j_37 = (if r_26 = (0 : Int32) then ((0 : Int32)) else ((1 : Int32))) → Z p l e { frames := 1, cells := 0, slots := 0, locals := 21 } s m args below meth c D A 4 0 0 Q (wM kI o M) [(0, .ref (o 0)), (1, .int a1), (3, .int x3_4)] 37 [.int j_37, .int x2_4] := by
          intro j_37 ej_37
          refine z_iadd X dX3_setsWith_37 ?_
          refine z_topi (fun v_38 ev_38 => ?_)
          refine z_istore_n (lv' := [(2, .int v_38), (0, .ref (o 0)), (1, .int a1), (3, .int x3_4)]) X dX3_setsWith_38 (Nat.le_of_ble_eq_true rfl) rfl ?_
          obtain ⟨v_39, ev_39⟩ : ∃ y : Int32, y = x3_4 + (1 : Int32) := ⟨_, rfl⟩
          refine z_iinc (v := v_39) (lv' := [(3, .int v_39), (2, .int v_38), (0, .ref (o 0)), (1, .int a1)]) X dX3_setsWith_39 3 rfl (by rw [ev_39]; rfl) (Nat.le_of_ble_eq_true rfl) rfl ?_
          refine z_goto (tgt := 4) X dX3_setsWith_42 (by decide) ?_
          refine z_lv (lv' := [(0, .ref (o 0)), (1, .int a1), (2, .int v_38), (3, .int v_39)]) [2, 3, 1, 0] rfl ?_
          exact ih_4 v_38 v_39 (cu_b hi (by omega) hN c_12 ev_39) (fun q_4 eq_4 => kk_4 q_4 (eq_4.trans (by subst er_26 ej_37 ev_38 ev_39; simp only [L_M_setsWith_4, if_neg c_12])))
        refine z_if_eq (tgt := 36) X dX3_setsWith_29 (by decide) (fun c_29 => ?_) (fun c_29 => ?_)
        · refine z_iconst (v := (0 : Int32)) X dX3_setsWith_36 (by decide) ?_
          refine z_lv (lv' := [(0, .ref (o 0)), (1, .int a1), (3, .int x3_4)]) [0, 1, 3] rfl ?_
          exact J_j_37 (0 : Int32) (by simp only [if_pos c_29])
        · refine z_iconst (v := (1 : Int32)) X dX3_setsWith_32 (by decide) ?_
          refine z_goto (tgt := 37) X dX3_setsWith_33 (by decide) ?_
          refine z_lv (lv' := [(0, .ref (o 0)), (1, .int a1), (3, .int x3_4)]) [0, 1, 3] rfl ?_
          exact J_j_37 (1 : Int32) (by simp only [if_neg c_29])
  refine Lp_4 17 (0 : Int32) (0 : Int32) (cu_i (by omega)) (fun q_4 eq_4 => ?_)
  refine z_iload_n X dX3_setsWith_45 0 rfl ?_
  exact z_iret X hQ rfl q_4 rfl rfl (by subst eq_4; simp only [F_M_setsWith]) dX3_setsWith_46
set_option maxRecDepth 100000 in
set_option maxHeartbeats 4000000 in
theorem c_M_path (l : Launch) (D : va_G) (kI kC kQ : ClassId) (o : Nat → Nat) (M : ARR) (a1 : Int32) (a2 : Int32) (hI : IA (M 0)) : CtI (U := Int32) l yX3_path cX3_path 3 (some .int) { frames := 2, cells := 0, slots := 0, locals := 46 } D (tysG kI kC kQ) (wM kI o M) [.ref (o 0), .int a1, .int a2] (fun u => u) (fun _ => (wM kI o M)) (fun u => u = F_M_path M a1 a2) := by
  refine met_Zi (own := "ShadowLatchesModel") (by decide +kernel) rfl (Nat.le_of_ble_eq_true rfl) ?_
  intro p e s m args below meth c A Q X hQ
  show Z p l e { frames := 2, cells := 0, slots := 0, locals := 46 } s m args below meth c D A 3 0 0 Q (wM kI o M) [(0, .ref (o 0)), (1, .int a1), (2, .int a2)] 0 []
  refine z_aload_n X dX3_path_0 0 rfl ?_
  refine z_iload_n X dX3_path_1 1 rfl ?_
  refine z_callVi0 X (c_M_isPath l D kI kC kQ o M a1) (gV wd2_190 wd2_192 wd0_12 wd1_4 wd2_193) k_M_isPath rfl rfl ⟨Nat.le_of_ble_eq_true rfl, Nat.le_of_ble_eq_true rfl⟩ ⟨Nat.zero_le _, Nat.zero_le _⟩ 3 0 rfl rfl rfl rfl rfl (Nat.le_of_ble_eq_true rfl) dX3_path_2 (fun r_2 er_2 => ?_)
  refine z_if_ne (tgt := 10) X dX3_path_5 (by decide) (fun c_5 => ?_) (fun c_5 => ?_)
  · refine z_iload_n X dX3_path_10 2 rfl ?_
    by_cases c_11_0 : a2 = (0 : Int32)
    · refine z_tableIn (tgt := 44) X dX3_path_11 (by rw [c_11_0]; decide) (by rw [c_11_0]; decide) (by rw [c_11_0]; rfl) (by decide) ?_
      refine z_aload_n X dX3_path_44 0 rfl ?_
      refine zM_g0 X wd2_126 dX3_path_45 ?_
      refine z_iconst (v := (0 : Int32)) X dX3_path_48 (by decide) ?_
      refine z_iload_n X dX3_path_49 1 rfl ?_
      refine z_iadd X dX3_path_50 ?_
      refine zM_l0 X (vin_a 0 (isPath_lt hI.p er_2 c_5) (by omega) (by omega)) rfl dX3_path_51 ?_
      exact z_iret X hQ rfl (M 0 (((0 : Int32) + a1).toNatClampNeg)) rfl rfl (by subst er_2; simp only [F_M_path, if_neg c_5, if_pos c_11_0]) dX3_path_52
    by_cases c_11_1 : a2 = (1 : Int32)
    · refine z_tableIn (tgt := 53) X dX3_path_11 (by rw [c_11_1]; decide) (by rw [c_11_1]; decide) (by rw [c_11_1]; rfl) (by decide) ?_
      refine z_aload_n X dX3_path_53 0 rfl ?_
      refine z_iload_n X dX3_path_54 1 rfl ?_
      refine z_aload_n X dX3_path_55 0 rfl ?_
      refine zM_g0 X wd2_126 dX3_path_56 ?_
      refine z_bipush (v := (39 : Int32)) X dX3_path_59 (by decide) ?_
      refine zM_l0 X vi_39_55 cl_39 dX3_path_61 ?_
      refine z_aload_n X dX3_path_62 0 rfl ?_
      refine zM_g0 X wd2_126 dX3_path_63 ?_
      refine z_bipush (v := (40 : Int32)) X dX3_path_66 (by decide) ?_
      refine zM_l0 X vi_40_55 cl_40 dX3_path_68 ?_
      refine z_callVi0 X (c_M_delayWith l D kI kC kQ o M a1 (M 0 39) (M 0 40) (vin_a 0 (isPath_lt hI.p er_2 c_5) (by omega) (by omega)) (vne hI.v)) (gV wd3_44 wd3_46 wd0_22 wd1_4 wd3_47) k_M_delayWith rfl rfl ⟨Nat.le_of_ble_eq_true rfl, Nat.le_of_ble_eq_true rfl⟩ ⟨Nat.zero_le _, Nat.zero_le _⟩ 3 0 rfl rfl rfl rfl rfl (Nat.le_of_ble_eq_true rfl) dX3_path_69 (fun r_69 er_69 => ?_)
      exact z_iret X hQ rfl r_69 rfl rfl (by subst er_2 er_69; simp only [F_M_path, if_neg c_5, if_neg c_11_0, if_pos c_11_1]) dX3_path_72
    by_cases c_11_2 : a2 = (2 : Int32)
    · refine z_tableIn (tgt := 73) X dX3_path_11 (by rw [c_11_2]; decide) (by rw [c_11_2]; decide) (by rw [c_11_2]; rfl) (by decide) ?_
      refine z_aload_n X dX3_path_73 0 rfl ?_
      refine z_iload_n X dX3_path_74 1 rfl ?_
      refine z_aload_n X dX3_path_75 0 rfl ?_
      refine zM_g0 X wd2_126 dX3_path_76 ?_
      refine z_bipush (v := (39 : Int32)) X dX3_path_79 (by decide) ?_
      refine zM_l0 X vi_39_55 cl_39 dX3_path_81 ?_
      refine z_callVi0 X (c_M_stateWith l D kI kC kQ o M a1 (M 0 39) (vin_a 0 (isPath_lt hI.p er_2 c_5) (by omega) (by omega)) (vne hI.v)) (gV wd3_40 wd3_42 wd0_21 wd1_4 wd3_43) k_M_stateWith rfl rfl ⟨Nat.le_of_ble_eq_true rfl, Nat.le_of_ble_eq_true rfl⟩ ⟨Nat.zero_le _, Nat.zero_le _⟩ 3 0 rfl rfl rfl rfl rfl (Nat.le_of_ble_eq_true rfl) dX3_path_82 (fun r_82 er_82 => ?_)
      exact z_iret X hQ rfl r_82 rfl rfl (by subst er_2 er_82; simp only [F_M_path, if_neg c_5, if_neg c_11_0, if_neg c_11_1, if_pos c_11_2]) dX3_path_85
    by_cases c_11_3 : a2 = (3 : Int32)
    · refine z_tableIn (tgt := 86) X dX3_path_11 (by rw [c_11_3]; decide) (by rw [c_11_3]; decide) (by rw [c_11_3]; rfl) (by decide) ?_
      refine z_aload_n X dX3_path_86 0 rfl ?_
      refine zM_g0 X wd2_126 dX3_path_87 ?_
      refine z_bipush (v := (8 : Int32)) X dX3_path_90 (by decide) ?_
      refine z_iload_n X dX3_path_92 1 rfl ?_
      refine z_iadd X dX3_path_93 ?_
      refine zM_l0 X (vin_a 8 (isPath_lt hI.p er_2 c_5) (by omega) (by omega)) rfl dX3_path_94 ?_
      exact z_iret X hQ rfl (M 0 (((8 : Int32) + a1).toNatClampNeg)) rfl rfl (by subst er_2; simp only [F_M_path, if_neg c_5, if_neg c_11_0, if_neg c_11_1, if_neg c_11_2, if_pos c_11_3]) dX3_path_95
    by_cases c_11_4 : a2 = (4 : Int32)
    · refine z_tableIn (tgt := 96) X dX3_path_11 (by rw [c_11_4]; decide) (by rw [c_11_4]; decide) (by rw [c_11_4]; rfl) (by decide) ?_
      refine z_aload_n X dX3_path_96 0 rfl ?_
      refine z_iload_n X dX3_path_97 1 rfl ?_
      refine z_callVi0 X (c_M_setsWith l D kI kC kQ o M a1 hI) (gV wd3_72 wd3_74 wd0_25 wd1_4 wd3_75) k_M_setsWith rfl rfl ⟨Nat.le_of_ble_eq_true rfl, Nat.le_of_ble_eq_true rfl⟩ ⟨Nat.zero_le _, Nat.zero_le _⟩ 3 0 rfl rfl rfl rfl rfl (Nat.le_of_ble_eq_true rfl) dX3_path_98 (fun r_98 er_98 => ?_)
      exact z_iret X hQ rfl r_98 rfl rfl (by subst er_2 er_98; simp only [F_M_path, if_neg c_5, if_neg c_11_0, if_neg c_11_1, if_neg c_11_2, if_neg c_11_3, if_pos c_11_4]) dX3_path_101
    refine z_tableOut (tgt := 102) X dX3_path_11 (by have t0 : a2.toInt ≠ 0 := fun q => c_11_0 (Int32.toInt_inj.mp q); have t1 : a2.toInt ≠ 1 := fun q => c_11_1 (Int32.toInt_inj.mp q); have t2 : a2.toInt ≠ 2 := fun q => c_11_2 (Int32.toInt_inj.mp q); have t3 : a2.toInt ≠ 3 := fun q => c_11_3 (Int32.toInt_inj.mp q); have t4 : a2.toInt ≠ 4 := fun q => c_11_4 (Int32.toInt_inj.mp q); omega) (by decide) ?_
    refine z_bipush (v := (-2 : Int32)) X dX3_path_102 (by decide) ?_
    exact z_iret X hQ rfl (-2 : Int32) rfl rfl (by subst er_2; simp only [F_M_path, if_neg c_5, if_neg c_11_0, if_neg c_11_1, if_neg c_11_2, if_neg c_11_3, if_neg c_11_4]) dX3_path_104
  · refine z_iconst (v := (-1 : Int32)) X dX3_path_8 (by decide) ?_
    exact z_iret X hQ rfl (-1 : Int32) rfl rfl (by subst er_2; simp only [F_M_path, if_pos c_5]) dX3_path_9
set_option maxRecDepth 100000 in
set_option maxHeartbeats 4000000 in
theorem c_M_delay (l : Launch) (D : va_G) (kI kC kQ : ClassId) (o : Nat → Nat) (M : ARR) (a1 : Int32) (a2 : Int32) (a3 : Int32) (hI : IA (M 0)) : CtI (U := Int32) l yX3_delay cX3_delay 4 (some .int) { frames := 2, cells := 0, slots := 0, locals := 46 } D (tysG kI kC kQ) (wM kI o M) [.ref (o 0), .int a1, .int a2, .int a3] (fun u => u) (fun _ => (wM kI o M)) (fun u => u = F_M_delay M a1 a2 a3) := by
  refine met_Zi (own := "ShadowLatchesModel") (by decide +kernel) rfl (Nat.le_of_ble_eq_true rfl) ?_
  intro p e s m args below meth c A Q X hQ
  show Z p l e { frames := 2, cells := 0, slots := 0, locals := 46 } s m args below meth c D A 4 0 0 Q (wM kI o M) [(0, .ref (o 0)), (1, .int a1), (2, .int a2), (3, .int a3)] 0 []
  refine z_aload_n X dX3_delay_0 0 rfl ?_
  refine z_iload_n X dX3_delay_1 1 rfl ?_
  refine z_callVi0 X (c_M_isPath l D kI kC kQ o M a1) (gV wd2_190 wd2_192 wd0_12 wd1_4 wd2_193) k_M_isPath rfl rfl ⟨Nat.le_of_ble_eq_true rfl, Nat.le_of_ble_eq_true rfl⟩ ⟨Nat.zero_le _, Nat.zero_le _⟩ 3 0 rfl rfl rfl rfl rfl (Nat.le_of_ble_eq_true rfl) dX3_delay_2 (fun r_2 er_2 => ?_)
  refine z_if_ne (tgt := 10) X dX3_delay_5 (by decide) (fun c_5 => ?_) (fun c_5 => ?_)
  · refine z_iload_n X dX3_delay_10 2 rfl ?_
    refine z_callSiN X (c_M_isVoltage l D kI kC kQ a2) (gS wd3_3 wd3_4 wd1_4 wd3_5) k_M_isVoltage rfl rfl ⟨Nat.le_of_ble_eq_true rfl, Nat.le_of_ble_eq_true rfl⟩ ⟨Nat.zero_le _, Nat.zero_le _⟩ rfl rfl (Nat.le_of_ble_eq_true rfl) dX3_delay_11 rfl (fun _ => rfl) (fun r_11 er_11 => ?_)
    have J_j_43 : ∀ j_43 : Int32, j_43 = (if r_11 = (0 : Int32) then ((-2 : Int32)) else (let r_25 : Int32 := (F_M_in (a3.toInt64) (20 : Int64) (120 : Int64)); if r_25 = (0 : Int32) then ((-2 : Int32)) else (let r_35 : Int32 := (F_M_delayWith M a1 a2 a3); r_35))) → Z p l e { frames := 2, cells := 0, slots := 0, locals := 46 } s m args below meth c D A 4 0 0 Q (wM kI o M) [] 43 [.int j_43] := by
      intro j_43 ej_43
      exact z_iret X hQ rfl j_43 rfl rfl (by subst er_2 er_11 ej_43; simp only [F_M_delay, if_neg c_5]) dX3_delay_43
    refine z_if_eq (tgt := 41) X dX3_delay_14 (by decide) (fun c_14 => ?_) (fun c_14 => ?_)
    · refine z_bipush (v := (-2 : Int32)) X dX3_delay_41 (by decide) ?_
      refine z_lv (lv' := []) [] rfl ?_
      exact J_j_43 (-2 : Int32) (by simp only [if_pos c_14])
    · refine z_iload_n X dX3_delay_17 3 rfl ?_
      refine z_i2l X dX3_delay_18 ?_
      refine z_ldc2 X dX3_delay_19 wd3_22 ?_
      refine z_ldc2 X dX3_delay_22 wd3_80 ?_
      refine z_callSiN X (c_M_in l D kI kC kQ (a3.toInt64) (20 : Int64) (120 : Int64)) (gS wd2_172 wd2_173 wd1_4 wd2_174) k_M_in rfl rfl ⟨Nat.le_of_ble_eq_true rfl, Nat.le_of_ble_eq_true rfl⟩ ⟨Nat.zero_le _, Nat.zero_le _⟩ rfl rfl (Nat.le_of_ble_eq_true rfl) dX3_delay_25 rfl (fun _ => rfl) (fun r_25 er_25 => ?_)
      refine z_if_eq (tgt := 41) X dX3_delay_28 (by decide) (fun c_28 => ?_) (fun c_28 => ?_)
      · refine z_bipush (v := (-2 : Int32)) X dX3_delay_41 (by decide) ?_
        refine z_lv (lv' := []) [] rfl ?_
        exact J_j_43 (-2 : Int32) (by subst er_25; simp only [if_neg c_14, if_pos c_28])
      · refine z_aload_n X dX3_delay_31 0 rfl ?_
        refine z_iload_n X dX3_delay_32 1 rfl ?_
        refine z_iload_n X dX3_delay_33 2 rfl ?_
        refine z_iload_n X dX3_delay_34 3 rfl ?_
        refine z_callVi0 X (c_M_delayWith l D kI kC kQ o M a1 a2 a3 (vin_a 0 (isPath_lt hI.p er_2 c_5) (by omega) (by omega)) (vne (in_bn 500 1200 (by omega) er_11 c_14))) (gV wd3_44 wd3_46 wd0_22 wd1_4 wd3_47) k_M_delayWith rfl rfl ⟨Nat.le_of_ble_eq_true rfl, Nat.le_of_ble_eq_true rfl⟩ ⟨Nat.zero_le _, Nat.zero_le _⟩ 3 0 rfl rfl rfl rfl rfl (Nat.le_of_ble_eq_true rfl) dX3_delay_35 (fun r_35 er_35 => ?_)
        refine z_goto (tgt := 43) X dX3_delay_38 (by decide) ?_
        refine z_lv (lv' := []) [] rfl ?_
        exact J_j_43 r_35 (by subst er_25 er_35; simp only [if_neg c_14, if_neg c_28])
  · refine z_iconst (v := (-1 : Int32)) X dX3_delay_8 (by decide) ?_
    exact z_iret X hQ rfl (-1 : Int32) rfl rfl (by subst er_2; simp only [F_M_delay, if_pos c_5]) dX3_delay_9
set_option maxRecDepth 100000 in
set_option maxHeartbeats 4000000 in
theorem c_M_workload (l : Launch) (D : va_G) (kI kC kQ : ClassId) (o : Nat → Nat) (M : ARR) (a1 : Int32) (hI : IA (M 0)) : CtI (U := Int32) l yX3_workload cX3_workload 2 (some .int) { frames := 0, cells := 0, slots := 0, locals := 0 } D (tysG kI kC kQ) (wM kI o M) [.ref (o 0), .int a1] (fun u => u) (fun _ => (wM kI o M)) (fun u => u = F_M_workload M a1) := by
  refine met_Zi (own := "ShadowLatchesModel") (by decide +kernel) rfl (Nat.le_of_ble_eq_true rfl) ?_
  intro p e s m args below meth c A Q X hQ
  show Z p l e { frames := 0, cells := 0, slots := 0, locals := 0 } s m args below meth c D A 2 0 0 Q (wM kI o M) [(0, .ref (o 0)), (1, .int a1)] 0 []
  refine z_iload_n X dX3_workload_0 1 rfl ?_
  refine z_if_ge (tgt := 7) X dX3_workload_1 (by decide) (fun c_1 => ?_) (fun c_1 => ?_)
  · refine z_iload_n X dX3_workload_7 1 rfl ?_
    refine z_aload_n X dX3_workload_8 0 rfl ?_
    refine zM_g0 X wd2_126 dX3_workload_9 ?_
    refine z_bipush (v := (49 : Int32)) X dX3_workload_12 (by decide) ?_
    refine zM_l0 X vi_49_55 cl_49 dX3_workload_14 ?_
    have J_j_32 : ∀ j_32 : Int32, j_32 = (if (M 0 49) ≤ a1 then ((-5 : Int32)) else ((M 0 (((16 : Int32) + a1).toNatClampNeg)))) → Z p l e { frames := 0, cells := 0, slots := 0, locals := 0 } s m args below meth c D A 2 0 0 Q (wM kI o M) [] 32 [.int j_32] := by
      intro j_32 ej_32
      exact z_iret X hQ rfl j_32 rfl rfl (by subst ej_32; simp only [F_M_workload, if_pos c_1]) dX3_workload_32
    refine z_icmp_ge (tgt := 30) X dX3_workload_15 (by decide) (fun c_15 => ?_) (fun c_15 => ?_)
    · refine z_bipush (v := (-5 : Int32)) X dX3_workload_30 (by decide) ?_
      refine z_lv (lv' := []) [] rfl ?_
      exact J_j_32 (-5 : Int32) (by simp only [if_pos c_15])
    · refine z_aload_n X dX3_workload_18 0 rfl ?_
      refine zM_g0 X wd2_126 dX3_workload_19 ?_
      refine z_bipush (v := (16 : Int32)) X dX3_workload_22 (by decide) ?_
      refine z_iload_n X dX3_workload_24 1 rfl ?_
      refine z_iadd X dX3_workload_25 ?_
      refine zM_l0 X (vin_a 16 (wl_i c_1 hI.c c_15) (by omega) (by omega)) rfl dX3_workload_26 ?_
      refine z_goto (tgt := 32) X dX3_workload_27 (by decide) ?_
      refine z_lv (lv' := []) [] rfl ?_
      exact J_j_32 (M 0 (((16 : Int32) + a1).toNatClampNeg)) (by simp only [if_neg c_15])
  · refine z_bipush (v := (-2 : Int32)) X dX3_workload_4 (by decide) ?_
    exact z_iret X hQ rfl (-2 : Int32) rfl rfl (by simp only [F_M_workload, if_neg c_1]) dX3_workload_6
end
section
set_option maxRecDepth 100000 in
set_option maxHeartbeats 4000000 in
theorem c_M_areWell (l : Launch) (D : va_G) (kI kC kQ : ClassId) (o : Nat → Nat) (M : ARR) (a1 : Int32) (a2 : Int32) (hI : IA (M 0)) (hv : bn 500 1200 a1) : CtI (U := Int32) l yX3_areWell cX3_areWell 5 (some .boolean) { frames := 2, cells := 0, slots := 0, locals := 46 } D (tysG kI kC kQ) (wM kI o M) [.ref (o 0), .int a1, .int a2] (fun u => u) (fun _ => (wM kI o M)) (fun u => u = F_M_areWell M a1 a2) := by
  refine met_Zi (own := "ShadowLatchesModel") (by decide +kernel) rfl (Nat.le_of_ble_eq_true rfl) ?_
  intro p e s m args below meth c A Q X hQ
  show Z p l e { frames := 2, cells := 0, slots := 0, locals := 46 } s m args below meth c D A 5 0 0 Q (wM kI o M) [(0, .ref (o 0)), (1, .int a1), (2, .int a2)] 0 []
  obtain ⟨P, hP1, hP2, hP⟩ := hI.p
  refine z_iconst (v := (1 : Int32)) X dX3_areWell_0 (by decide) ?_
  refine z_istore_n (lv' := [(3, .int (1 : Int32)), (0, .ref (o 0)), (1, .int a1), (2, .int a2)]) X dX3_areWell_1 (Nat.le_of_ble_eq_true rfl) rfl ?_
  refine z_iconst (v := (0 : Int32)) X dX3_areWell_2 (by decide) ?_
  refine z_istore (lv' := [(4, .int (0 : Int32)), (3, .int (1 : Int32)), (0, .ref (o 0)), (1, .int a1), (2, .int a2)]) X dX3_areWell_3 (Nat.le_of_ble_eq_true rfl) rfl ?_
  refine z_lv (lv' := [(0, .ref (o 0)), (1, .int a1), (2, .int a2), (3, .int (1 : Int32)), (4, .int (0 : Int32))]) [2, 3, 4, 1, 0] rfl ?_
  have Lp_5 : ∀ (n : Nat) (x3_5 : Int32) (x4_5 : Int32), (cu P n x4_5) → (x3_5 = 0 ∨ x3_5 = 1) → (∀ q_5 : Int32, q_5 = L_M_areWell_5 M a1 a2 n x3_5 x4_5 → (q_5 = 0 ∨ q_5 = 1) → Z p l e { frames := 2, cells := 0, slots := 0, locals := 46 } s m args below meth c D A 5 0 0 Q (wM kI o M) [(3, .int q_5)] 53 []) → Z p l e { frames := 2, cells := 0, slots := 0, locals := 46 } s m args below meth c D A 5 0 0 Q (wM kI o M) [(0, .ref (o 0)), (1, .int a1), (2, .int a2), (3, .int x3_5), (4, .int x4_5)] 5 [] := by
    intro n
    induction n with
    | zero =>
      intro x3_5 x4_5 hi hb kk_5
      exfalso
      exact cu_0 hi
    | succ n ih_5 =>
      intro x3_5 x4_5 hi hb kk_5
      refine z_iload X dX3_areWell_5 4 rfl ?_
      refine z_aload_n X dX3_areWell_7 0 rfl ?_
      refine zM_g0 X wd2_126 dX3_areWell_8 ?_
      refine z_bipush (v := (51 : Int32)) X dX3_areWell_11 (by decide) ?_
      refine zM_l0 X vi_51_55 cl_51 dX3_areWell_13 ?_
      refine z_icmp_ge (tgt := 53) X dX3_areWell_14 (by decide) (fun c_14 => ?_) (fun c_14 => ?_)
      · refine z_lv (lv' := [(3, .int x3_5)]) [3] rfl ?_
        exact kk_5 x3_5 (by simp only [L_M_areWell_5, if_pos c_14]) hb
      · refine z_iload_n X dX3_areWell_17 3 rfl ?_
        have J_j_46 : ∀ j_46 : Int32, j_46 = (if x3_5 = (0 : Int32) then ((0 : Int32)) else (let r_24 : Int32 := (F_M_setsWith M x4_5); if r_24 = (0 : Int32) then ((1 : Int32)) else (let r_34 : Int32 := (F_M_stateWith M x4_5 a1); if a2 < r_34 then ((0 : Int32)) else ((1 : Int32))))) → Z p l e { frames := 2, cells := 0, slots := 0, locals := 46 } s m args below meth c D A 5 0 0 Q (wM kI o M) [(0, .ref (o 0)), (1, .int a1), (2, .int a2), (4, .int x4_5)] 46 [.int j_46] := by
          intro j_46 ej_46
          refine z_istore_n (lv' := [(3, .int j_46), (0, .ref (o 0)), (1, .int a1), (2, .int a2), (4, .int x4_5)]) X dX3_areWell_46 (Nat.le_of_ble_eq_true rfl) rfl ?_
          obtain ⟨v_47, ev_47⟩ : ∃ y : Int32, y = x4_5 + (1 : Int32) := ⟨_, rfl⟩
          refine z_iinc (v := v_47) (lv' := [(4, .int v_47), (3, .int j_46), (0, .ref (o 0)), (1, .int a1), (2, .int a2)]) X dX3_areWell_47 4 rfl (by rw [ev_47]; rfl) (Nat.le_of_ble_eq_true rfl) rfl ?_
          refine z_goto (tgt := 5) X dX3_areWell_50 (by decide) ?_
          refine z_lv (lv' := [(0, .ref (o 0)), (1, .int a1), (2, .int a2), (3, .int j_46), (4, .int v_47)]) [2, 3, 4, 1, 0] rfl ?_
          exact ih_5 j_46 v_47 (cu_b hi (by omega) hP c_14 ev_47) (by rw [ej_46]; (try dsimp only); repeat' first | apply bl_ite | exact Or.inl rfl | exact Or.inr rfl) (fun q_5 eq_5 => kk_5 q_5 (eq_5.trans (by subst ej_46 ev_47; simp only [L_M_areWell_5, if_neg c_14])))
        refine z_if_eq (tgt := 45) X dX3_areWell_18 (by decide) (fun c_18 => ?_) (fun c_18 => ?_)
        · refine z_iconst (v := (0 : Int32)) X dX3_areWell_45 (by decide) ?_
          refine z_lv (lv' := [(0, .ref (o 0)), (1, .int a1), (2, .int a2), (4, .int x4_5)]) [0, 1, 2, 4] rfl ?_
          exact J_j_46 (0 : Int32) (by simp only [if_pos c_18])
        · refine z_aload_n X dX3_areWell_21 0 rfl ?_
          refine z_iload X dX3_areWell_22 4 rfl ?_
          refine z_callVi0 X (c_M_setsWith l D kI kC kQ o M x4_5 hI) (gV wd3_72 wd3_74 wd0_25 wd1_4 wd3_75) k_M_setsWith rfl rfl ⟨Nat.le_of_ble_eq_true rfl, Nat.le_of_ble_eq_true rfl⟩ ⟨Nat.zero_le _, Nat.zero_le _⟩ 3 0 rfl rfl rfl rfl rfl (Nat.le_of_ble_eq_true rfl) dX3_areWell_24 (fun r_24 er_24 => ?_)
          refine z_if_eq (tgt := 41) X dX3_areWell_27 (by decide) (fun c_27 => ?_) (fun c_27 => ?_)
          · refine z_iconst (v := (1 : Int32)) X dX3_areWell_41 (by decide) ?_
            refine z_goto (tgt := 46) X dX3_areWell_42 (by decide) ?_
            refine z_lv (lv' := [(0, .ref (o 0)), (1, .int a1), (2, .int a2), (4, .int x4_5)]) [0, 1, 2, 4] rfl ?_
            exact J_j_46 (1 : Int32) (by subst er_24; simp only [if_neg c_18, if_pos c_27])
          · refine z_aload_n X dX3_areWell_30 0 rfl ?_
            refine z_iload X dX3_areWell_31 4 rfl ?_
            refine z_iload_n X dX3_areWell_33 1 rfl ?_
            refine z_callVi0 X (c_M_stateWith l D kI kC kQ o M x4_5 a1 (vin_a 0 (cu_lt hi (by omega) hP c_14) (by omega) (by omega)) (vne hv)) (gV wd3_40 wd3_42 wd0_21 wd1_4 wd3_43) k_M_stateWith rfl rfl ⟨Nat.le_of_ble_eq_true rfl, Nat.le_of_ble_eq_true rfl⟩ ⟨Nat.zero_le _, Nat.zero_le _⟩ 3 0 rfl rfl rfl rfl rfl (Nat.le_of_ble_eq_true rfl) dX3_areWell_34 (fun r_34 er_34 => ?_)
            refine z_iload_n X dX3_areWell_37 2 rfl ?_
            refine z_icmp_gt (tgt := 45) X dX3_areWell_38 (by decide) (fun c_38 => ?_) (fun c_38 => ?_)
            · refine z_iconst (v := (0 : Int32)) X dX3_areWell_45 (by decide) ?_
              refine z_lv (lv' := [(0, .ref (o 0)), (1, .int a1), (2, .int a2), (4, .int x4_5)]) [0, 1, 2, 4] rfl ?_
              exact J_j_46 (0 : Int32) (by subst er_24 er_34; simp only [if_neg c_18, if_neg c_27, if_pos c_38])
            · refine z_iconst (v := (1 : Int32)) X dX3_areWell_41 (by decide) ?_
              refine z_goto (tgt := 46) X dX3_areWell_42 (by decide) ?_
              refine z_lv (lv' := [(0, .ref (o 0)), (1, .int a1), (2, .int a2), (4, .int x4_5)]) [0, 1, 2, 4] rfl ?_
              exact J_j_46 (1 : Int32) (by subst er_24 er_34; simp only [if_neg c_18, if_neg c_27, if_neg c_38])
  refine Lp_5 9 (1 : Int32) (0 : Int32) (cu_i (by omega)) (Or.inr rfl) (fun q_5 eq_5 ho => ?_)
  refine z_iload_n X dX3_areWell_53 0 rfl ?_
  exact z_zret X hQ rfl q_5 rfl rfl (by subst eq_5; simp only [F_M_areWell]) (nb ho) dX3_areWell_54
set_option maxRecDepth 100000 in
set_option maxHeartbeats 4000000 in
theorem c_M_least (l : Launch) (D : va_G) (kI kC kQ : ClassId) (o : Nat → Nat) (M : ARR) (a1 : Int32) (hI : IA (M 0)) : CtI (U := Int32) l yX3_least cX3_least 3 (some .int) { frames := 3, cells := 0, slots := 0, locals := 70 } D (tysG kI kC kQ) (wM kI o M) [.ref (o 0), .int a1] (fun u => u) (fun _ => (wM kI o M)) (fun u => u = F_M_least M a1) := by
  refine met_Zi (own := "ShadowLatchesModel") (by decide +kernel) rfl (Nat.le_of_ble_eq_true rfl) ?_
  intro p e s m args below meth c A Q X hQ
  show Z p l e { frames := 3, cells := 0, slots := 0, locals := 70 } s m args below meth c D A 3 0 0 Q (wM kI o M) [(0, .ref (o 0)), (1, .int a1)] 0 []
  refine z_sipush (v := (500 : Int32)) X dX3_least_0 (by decide) ?_
  refine z_istore_n (lv' := [(2, .int (500 : Int32)), (0, .ref (o 0)), (1, .int a1)]) X dX3_least_3 (Nat.le_of_ble_eq_true rfl) rfl ?_
  refine z_lv (lv' := [(0, .ref (o 0)), (1, .int a1), (2, .int (500 : Int32))]) [1, 2, 0] rfl ?_
  have Lp_4 : ∀ (n : Nat) (x2_4 : Int32), (lv7 n x2_4) → (F_M_least M a1 = L_M_least_4 M a1 n x2_4) → Z p l e { frames := 3, cells := 0, slots := 0, locals := 70 } s m args below meth c D A 3 0 0 Q (wM kI o M) [(0, .ref (o 0)), (1, .int a1), (2, .int x2_4)] 4 [] := by
    intro n
    induction n with
    | zero =>
      intro x2_4 hi hF_4
      exfalso
      obtain ⟨k, _, h1, h2, h3⟩ := hi
      omega
    | succ n ih_4 =>
      intro x2_4 hi hF_4
      refine z_iload_n X dX3_least_4 2 rfl ?_
      refine z_sipush (v := (1200 : Int32)) X dX3_least_5 (by decide) ?_
      refine z_icmp_gt (tgt := 36) X dX3_least_8 (by decide) (fun c_8 => ?_) (fun c_8 => ?_)
      · refine z_bipush (v := (-5 : Int32)) X dX3_least_36 (by decide) ?_
        exact z_iret X hQ rfl (-5 : Int32) rfl rfl (by rw [hF_4]; simp only [L_M_least_4, if_pos c_8]) dX3_least_38
      · refine z_aload_n X dX3_least_11 0 rfl ?_
        refine z_iload_n X dX3_least_12 2 rfl ?_
        refine z_iload_n X dX3_least_13 1 rfl ?_
        have J_j_22 : ∀ j_22 : Int32, j_22 = (if a1 = (0 : Int32) then ((0 : Int32)) else ((1 : Int32))) → Z p l e { frames := 3, cells := 0, slots := 0, locals := 70 } s m args below meth c D A 3 0 0 Q (wM kI o M) [(0, .ref (o 0)), (1, .int a1), (2, .int x2_4)] 22 [.int j_22, .int x2_4, .ref (o 0)] := by
          intro j_22 ej_22
          refine z_callVi0 X (c_M_areWell l D kI kC kQ o M x2_4 j_22 hI (lv7_v hi c_8)) (gV wd3_89 wd3_91 wd0_26 wd1_4 wd3_92) k_M_areWell rfl rfl ⟨Nat.le_of_ble_eq_true rfl, Nat.le_of_ble_eq_true rfl⟩ ⟨Nat.zero_le _, Nat.zero_le _⟩ 3 0 rfl rfl rfl rfl rfl (Nat.le_of_ble_eq_true rfl) dX3_least_22 (fun r_22 er_22 => ?_)
          refine z_if_eq (tgt := 30) X dX3_least_25 (by decide) (fun c_25 => ?_) (fun c_25 => ?_)
          · obtain ⟨v_30, ev_30⟩ : ∃ y : Int32, y = x2_4 + (1 : Int32) := ⟨_, rfl⟩
            refine z_iinc (v := v_30) (lv' := [(2, .int v_30), (0, .ref (o 0)), (1, .int a1)]) X dX3_least_30 2 rfl (by rw [ev_30]; rfl) (Nat.le_of_ble_eq_true rfl) rfl ?_
            refine z_goto (tgt := 4) X dX3_least_33 (by decide) ?_
            refine z_lv (lv' := [(0, .ref (o 0)), (1, .int a1), (2, .int v_30)]) [1, 2, 0] rfl ?_
            exact ih_4 v_30 (lv7_b hi c_8 ev_30) (hF_4.trans (by subst ej_22 er_22 ev_30; simp only [L_M_least_4, if_neg c_8, if_pos c_25]))
          · refine z_iload_n X dX3_least_28 2 rfl ?_
            exact z_iret X hQ rfl x2_4 rfl rfl (by rw [hF_4]; subst ej_22 er_22; simp only [L_M_least_4, if_neg c_8, if_neg c_25]) dX3_least_29
        refine z_if_eq (tgt := 21) X dX3_least_14 (by decide) (fun c_14 => ?_) (fun c_14 => ?_)
        · refine z_iconst (v := (0 : Int32)) X dX3_least_21 (by decide) ?_
          exact J_j_22 (0 : Int32) (by simp only [if_pos c_14])
        · refine z_iconst (v := (1 : Int32)) X dX3_least_17 (by decide) ?_
          refine z_goto (tgt := 22) X dX3_least_18 (by decide) ?_
          exact J_j_22 (1 : Int32) (by simp only [if_neg c_14])
  exact Lp_4 702 (500 : Int32) ⟨500, rfl, by omega, by omega, by omega⟩ (by simp only [F_M_least])
set_option maxRecDepth 100000 in
set_option maxHeartbeats 4000000 in
theorem c_M_brings (l : Launch) (D : va_G) (kI kC kQ : ClassId) (o : Nat → Nat) (M : ARR) (a1 : Int32) (a2 : Int32) (a3 : Int32) (hI : IA (M 0)) (hv : bn 500 1200 a1) (hc : bn 1 500 a2) : CtI (U := Int32 × ARR) l yX3_brings cX3_brings 5 (some .int) { frames := 4, cells := 0, slots := 0, locals := 93 } D (tysG kI kC kQ) (wM kI o M) [.ref (o 0), .int a1, .int a2, .int a3] (fun u => u.1) (fun u => (wM kI o u.2)) (fun u => u = F_M_brings M a1 a2 a3) := by
  refine met_Zi (own := "ShadowLatchesModel") (by decide +kernel) rfl (Nat.le_of_ble_eq_true rfl) ?_
  intro p e s m args below meth c A Q X hQ
  show Z p l e { frames := 4, cells := 0, slots := 0, locals := 93 } s m args below meth c D A 5 0 0 Q (wM kI o M) [(0, .ref (o 0)), (1, .int a1), (2, .int a2), (3, .int a3)] 0 []
  obtain ⟨K, hK1, hK2, hK⟩ := hc
  refine z_aload_n X dX3_brings_0 0 rfl ?_
  refine zM_g0 X wd2_126 dX3_brings_1 ?_
  refine z_aload_n X dX3_brings_4 0 rfl ?_
  refine zM_g2 X wd2_128 dX3_brings_5 ?_
  refine zM_cp_0_2 X (gS wd2_179 wd2_180 wd1_4 wd2_181) ⟨Nat.le_of_ble_eq_true rfl, Nat.le_of_ble_eq_true rfl⟩ ⟨Nat.zero_le _, Nat.zero_le _⟩ (Nat.le_of_ble_eq_true rfl) dX3_brings_8 (fun M_8 eM_8 => ?_)
  refine z_aload_n X dX3_brings_11 0 rfl ?_
  refine zM_g0 X wd2_126 dX3_brings_12 ?_
  refine z_bipush (v := (39 : Int32)) X dX3_brings_15 (by decide) ?_
  refine z_iload_n X dX3_brings_17 1 rfl ?_
  refine zM_s0 X vi_39_55 cl_39 dX3_brings_18 (fun M_18 eM_18 => ?_)
  refine z_aload_n X dX3_brings_19 0 rfl ?_
  refine zM_g0 X wd2_126 dX3_brings_20 ?_
  refine z_bipush (v := (41 : Int32)) X dX3_brings_23 (by decide) ?_
  refine z_iconst (v := (0 : Int32)) X dX3_brings_25 (by decide) ?_
  refine zM_s0 X vi_41_55 cl_41 dX3_brings_26 (fun M_26 eM_26 => ?_)
  refine z_iconst (v := (0 : Int32)) X dX3_brings_27 (by decide) ?_
  refine z_istore (lv' := [(4, .int (0 : Int32)), (0, .ref (o 0)), (1, .int a1), (2, .int a2), (3, .int a3)]) X dX3_brings_28 (Nat.le_of_ble_eq_true rfl) rfl ?_
  refine z_lv (lv' := [(0, .ref (o 0)), (2, .int a2), (3, .int a3), (4, .int (0 : Int32))]) [1, 3, 4, 0] rfl ?_
  have Lp_30 : ∀ (n : Nat) (x4_30 : Int32) (M_30 : ARR), (cu K n x4_30) → (IA (M_30 0)) → (∀ q_30 : ARR, q_30 = L_M_brings_30 a2 n x4_30 M_30 → Z p l e { frames := 4, cells := 0, slots := 0, locals := 93 } s m args below meth c D A 5 0 0 Q (wM kI o q_30) [(0, .ref (o 0)), (3, .int a3)] 46 []) → Z p l e { frames := 4, cells := 0, slots := 0, locals := 93 } s m args below meth c D A 5 0 0 Q (wM kI o M_30) [(0, .ref (o 0)), (2, .int a2), (3, .int a3), (4, .int x4_30)] 30 [] := by
    intro n
    induction n with
    | zero =>
      intro x4_30 M_30 hi hJ kk_30
      exfalso
      exact cu_0 hi
    | succ n ih_30 =>
      intro x4_30 M_30 hi hJ kk_30
      refine z_iload X dX3_brings_30 3 rfl ?_
      refine z_iload_n X dX3_brings_32 1 rfl ?_
      refine z_icmp_ge (tgt := 46) X dX3_brings_33 (by decide) (fun c_33 => ?_) (fun c_33 => ?_)
      · refine z_lv (lv' := [(0, .ref (o 0)), (3, .int a3)]) [0, 2] rfl ?_
        exact kk_30 M_30 (by simp only [L_M_brings_30, if_pos c_33]) 
      · refine z_aload_n X dX3_brings_36 0 rfl ?_
        refine z_callVv0 X (c_M_cycles l D kI kC kQ o M_30 hJ) (gV wd3_29 wd3_31 wd0_19 wd1_4 wd3_32) k_M_cycles rfl rfl ⟨Nat.le_of_ble_eq_true rfl, Nat.le_of_ble_eq_true rfl⟩ ⟨Nat.zero_le _, Nat.zero_le _⟩ 3 0 rfl rfl rfl rfl rfl (Nat.le_of_ble_eq_true rfl) dX3_brings_37 (fun r_37 er_37 => ?_)
        obtain ⟨v_40, ev_40⟩ : ∃ y : Int32, y = x4_30 + (1 : Int32) := ⟨_, rfl⟩
        refine z_iinc (v := v_40) (lv' := [(4, .int v_40), (0, .ref (o 0)), (2, .int a2), (3, .int a3)]) X dX3_brings_40 3 rfl (by rw [ev_40]; rfl) (Nat.le_of_ble_eq_true rfl) rfl ?_
        refine z_goto (tgt := 30) X dX3_brings_43 (by decide) ?_
        refine z_lv (lv' := [(0, .ref (o 0)), (2, .int a2), (3, .int a3), (4, .int v_40)]) [1, 2, 3, 0] rfl ?_
        exact ih_30 v_40 r_37 (cu_b hi (by omega) hK c_33 ev_40) (by rw [er_37]; exact IA_cycles hJ) (fun q_30 eq_30 => kk_30 q_30 (eq_30.trans (by subst er_37 ev_40; simp only [L_M_brings_30, if_neg c_33])))
  refine Lp_30 501 (0 : Int32) M_26 (cu_i (by omega)) (by rw [eM_26, eM_18, eM_8]; exact IA_tr hI hv _) (fun q_30 eq_30 => ?_)
  refine z_iload_n X dX3_brings_46 1 rfl ?_
  have J_j_137 : ∀ j_137 : Int32, j_137 = (if a3 = (0 : Int32) then (((q_30 0 44) - (q_30 2 44))) else (if a3 = (1 : Int32) then (((q_30 0 45) - (q_30 2 45))) else (if a3 = (2 : Int32) then (let r_101 : Int32 := (F_M_energySince q_30); r_101) else (if a3 = (3 : Int32) then (((q_30 0 42) - (q_30 2 42))) else ((q_30 0 40)))))) → Z p l e { frames := 4, cells := 0, slots := 0, locals := 93 } s m args below meth c D A 5 0 0 Q (wM kI o q_30) [(0, .ref (o 0))] 137 [.int j_137] := by
    intro j_137 ej_137
    refine z_istore (lv' := [(4, .int j_137), (0, .ref (o 0))]) X dX3_brings_137 (Nat.le_of_ble_eq_true rfl) rfl ?_
    refine z_aload_n X dX3_brings_139 1 rfl ?_
    refine zM_g2 X wd2_128 dX3_brings_140 ?_
    refine z_aload_n X dX3_brings_143 1 rfl ?_
    refine zM_g0 X wd2_126 dX3_brings_144 ?_
    refine zM_cp_2_0 X (gS wd2_179 wd2_180 wd1_4 wd2_181) ⟨Nat.le_of_ble_eq_true rfl, Nat.le_of_ble_eq_true rfl⟩ ⟨Nat.zero_le _, Nat.zero_le _⟩ (Nat.le_of_ble_eq_true rfl) dX3_brings_147 (fun M_147 eM_147 => ?_)
    refine z_iload X dX3_brings_150 0 rfl ?_
    exact z_iret X hQ rfl (j_137, M_147) rfl rfl (by subst eM_8 eM_18 eM_26 eq_30 ej_137 eM_147; simp only [F_M_brings]) dX3_brings_152
  refine z_if_ne (tgt := 68) X dX3_brings_47 (by decide) (fun c_47 => ?_) (fun c_47 => ?_)
  · refine z_iload_n X dX3_brings_68 1 rfl ?_
    refine z_iconst (v := (1 : Int32)) X dX3_brings_69 (by decide) ?_
    refine z_icmp_ne (tgt := 91) X dX3_brings_70 (by decide) (fun c_70 => ?_) (fun c_70 => ?_)
    · refine z_iload_n X dX3_brings_91 1 rfl ?_
      refine z_iconst (v := (2 : Int32)) X dX3_brings_92 (by decide) ?_
      refine z_icmp_ne (tgt := 107) X dX3_brings_93 (by decide) (fun c_93 => ?_) (fun c_93 => ?_)
      · refine z_iload_n X dX3_brings_107 1 rfl ?_
        refine z_iconst (v := (3 : Int32)) X dX3_brings_108 (by decide) ?_
        refine z_icmp_ne (tgt := 130) X dX3_brings_109 (by decide) (fun c_109 => ?_) (fun c_109 => ?_)
        · refine z_aload_n X dX3_brings_130 0 rfl ?_
          refine zM_g0 X wd2_126 dX3_brings_131 ?_
          refine z_bipush (v := (40 : Int32)) X dX3_brings_134 (by decide) ?_
          refine zM_l0 X vi_40_55 cl_40 dX3_brings_136 ?_
          refine z_lv (lv' := [(0, .ref (o 0))]) [0] rfl ?_
          exact J_j_137 (q_30 0 40) (by simp only [if_neg c_47, if_neg c_70, if_neg c_93, if_neg c_109])
        · refine z_aload_n X dX3_brings_112 0 rfl ?_
          refine zM_g0 X wd2_126 dX3_brings_113 ?_
          refine z_bipush (v := (42 : Int32)) X dX3_brings_116 (by decide) ?_
          refine zM_l0 X vi_42_55 cl_42 dX3_brings_118 ?_
          refine z_aload_n X dX3_brings_119 0 rfl ?_
          refine zM_g2 X wd2_128 dX3_brings_120 ?_
          refine z_bipush (v := (42 : Int32)) X dX3_brings_123 (by decide) ?_
          refine zM_l2 X vi_42_55 cl_42 dX3_brings_125 ?_
          refine z_isub X dX3_brings_126 ?_
          refine z_goto (tgt := 137) X dX3_brings_127 (by decide) ?_
          refine z_lv (lv' := [(0, .ref (o 0))]) [0] rfl ?_
          exact J_j_137 ((q_30 0 42) - (q_30 2 42)) (by simp only [if_neg c_47, if_neg c_70, if_neg c_93, if_pos c_109])
      · refine z_aload_n X dX3_brings_96 0 rfl ?_
        refine z_aload_n X dX3_brings_97 0 rfl ?_
        refine zM_g2 X wd2_128 dX3_brings_98 ?_
        refine z_callVi0 X (c_M_energySince l D kI kC kQ o q_30) (gV wd3_102 wd3_104 wd0_28 wd1_4 wd3_105) k_M_energySince rfl rfl ⟨Nat.le_of_ble_eq_true rfl, Nat.le_of_ble_eq_true rfl⟩ ⟨Nat.zero_le _, Nat.zero_le _⟩ 3 0 rfl rfl rfl rfl rfl (Nat.le_of_ble_eq_true rfl) dX3_brings_101 (fun r_101 er_101 => ?_)
        refine z_goto (tgt := 137) X dX3_brings_104 (by decide) ?_
        refine z_lv (lv' := [(0, .ref (o 0))]) [0] rfl ?_
        exact J_j_137 r_101 (by subst er_101; simp only [if_neg c_47, if_neg c_70, if_pos c_93])
    · refine z_aload_n X dX3_brings_73 0 rfl ?_
      refine zM_g0 X wd2_126 dX3_brings_74 ?_
      refine z_bipush (v := (45 : Int32)) X dX3_brings_77 (by decide) ?_
      refine zM_l0 X vi_45_55 cl_45 dX3_brings_79 ?_
      refine z_aload_n X dX3_brings_80 0 rfl ?_
      refine zM_g2 X wd2_128 dX3_brings_81 ?_
      refine z_bipush (v := (45 : Int32)) X dX3_brings_84 (by decide) ?_
      refine zM_l2 X vi_45_55 cl_45 dX3_brings_86 ?_
      refine z_isub X dX3_brings_87 ?_
      refine z_goto (tgt := 137) X dX3_brings_88 (by decide) ?_
      refine z_lv (lv' := [(0, .ref (o 0))]) [0] rfl ?_
      exact J_j_137 ((q_30 0 45) - (q_30 2 45)) (by simp only [if_neg c_47, if_pos c_70])
  · refine z_aload_n X dX3_brings_50 0 rfl ?_
    refine zM_g0 X wd2_126 dX3_brings_51 ?_
    refine z_bipush (v := (44 : Int32)) X dX3_brings_54 (by decide) ?_
    refine zM_l0 X vi_44_55 cl_44 dX3_brings_56 ?_
    refine z_aload_n X dX3_brings_57 0 rfl ?_
    refine zM_g2 X wd2_128 dX3_brings_58 ?_
    refine z_bipush (v := (44 : Int32)) X dX3_brings_61 (by decide) ?_
    refine zM_l2 X vi_44_55 cl_44 dX3_brings_63 ?_
    refine z_isub X dX3_brings_64 ?_
    refine z_goto (tgt := 137) X dX3_brings_65 (by decide) ?_
    refine z_lv (lv' := [(0, .ref (o 0))]) [0] rfl ?_
    exact J_j_137 ((q_30 0 44) - (q_30 2 44)) (by simp only [if_pos c_47])
set_option maxRecDepth 100000 in
set_option maxHeartbeats 4000000 in
theorem c_M_would (l : Launch) (D : va_G) (kI kC kQ : ClassId) (o : Nat → Nat) (M : ARR) (a1 : Int32) (a2 : Int32) (a3 : Int32) (hI : IA (M 0)) : CtI (U := Int32 × ARR) l yX3_would cX3_would 4 (some .int) { frames := 5, cells := 0, slots := 0, locals := 117 } D (tysG kI kC kQ) (wM kI o M) [.ref (o 0), .int a1, .int a2, .int a3] (fun u => u.1) (fun u => (wM kI o u.2)) (fun u => u = F_M_would M a1 a2 a3) := by
  refine met_Zi (own := "ShadowLatchesModel") (by decide +kernel) rfl (Nat.le_of_ble_eq_true rfl) ?_
  intro p e s m args below meth c A Q X hQ
  show Z p l e { frames := 5, cells := 0, slots := 0, locals := 117 } s m args below meth c D A 4 0 0 Q (wM kI o M) [(0, .ref (o 0)), (1, .int a1), (2, .int a2), (3, .int a3)] 0 []
  refine z_iload_n X dX3_would_0 1 rfl ?_
  refine z_callSiN X (c_M_isVoltage l D kI kC kQ a1) (gS wd3_3 wd3_4 wd1_4 wd3_5) k_M_isVoltage rfl rfl ⟨Nat.le_of_ble_eq_true rfl, Nat.le_of_ble_eq_true rfl⟩ ⟨Nat.zero_le _, Nat.zero_le _⟩ rfl rfl (Nat.le_of_ble_eq_true rfl) dX3_would_1 rfl (fun _ => rfl) (fun r_1 er_1 => ?_)
  have J_j_43 : ∀ j_43 : Int32 × ARR, j_43 = (if r_1 = (0 : Int32) then (((-2 : Int32), M)) else (let r_13 : Int32 := (F_M_in (a2.toInt64) (1 : Int64) (500 : Int64)); if r_13 = (0 : Int32) then (((-2 : Int32), M)) else (let r_25 : Int32 := (F_M_in (a3.toInt64) (0 : Int64) (4 : Int64)); if r_25 = (0 : Int32) then (((-2 : Int32), M)) else (let r_35 : Int32 × ARR := (F_M_brings M a1 a2 a3); (r_35.1, r_35.2))))) → Z p l e { frames := 5, cells := 0, slots := 0, locals := 117 } s m args below meth c D A 4 0 0 Q (wM kI o j_43.2) [] 43 [.int j_43.1] := by
    intro j_43 ej_43
    exact z_iret X hQ rfl (j_43.1, j_43.2) rfl rfl (by subst er_1 ej_43; simp only [F_M_would]) dX3_would_43
  refine z_if_eq (tgt := 41) X dX3_would_4 (by decide) (fun c_4 => ?_) (fun c_4 => ?_)
  · refine z_bipush (v := (-2 : Int32)) X dX3_would_41 (by decide) ?_
    refine z_lv (lv' := []) [] rfl ?_
    exact J_j_43 ((-2 : Int32), M) (by simp only [if_pos c_4])
  · refine z_iload_n X dX3_would_7 2 rfl ?_
    refine z_i2l X dX3_would_8 ?_
    refine z_lconst (v := (1 : Int64)) X dX3_would_9 (by decide) ?_
    refine z_ldc2 X dX3_would_10 wd3_6 ?_
    refine z_callSiN X (c_M_in l D kI kC kQ (a2.toInt64) (1 : Int64) (500 : Int64)) (gS wd2_172 wd2_173 wd1_4 wd2_174) k_M_in rfl rfl ⟨Nat.le_of_ble_eq_true rfl, Nat.le_of_ble_eq_true rfl⟩ ⟨Nat.zero_le _, Nat.zero_le _⟩ rfl rfl (Nat.le_of_ble_eq_true rfl) dX3_would_13 rfl (fun _ => rfl) (fun r_13 er_13 => ?_)
    refine z_if_eq (tgt := 41) X dX3_would_16 (by decide) (fun c_16 => ?_) (fun c_16 => ?_)
    · refine z_bipush (v := (-2 : Int32)) X dX3_would_41 (by decide) ?_
      refine z_lv (lv' := []) [] rfl ?_
      exact J_j_43 ((-2 : Int32), M) (by subst er_13; simp only [if_neg c_4, if_pos c_16])
    · refine z_iload_n X dX3_would_19 3 rfl ?_
      refine z_i2l X dX3_would_20 ?_
      refine z_lconst (v := (0 : Int64)) X dX3_would_21 (by decide) ?_
      refine z_ldc2 X dX3_would_22 wd3_97 ?_
      refine z_callSiN X (c_M_in l D kI kC kQ (a3.toInt64) (0 : Int64) (4 : Int64)) (gS wd2_172 wd2_173 wd1_4 wd2_174) k_M_in rfl rfl ⟨Nat.le_of_ble_eq_true rfl, Nat.le_of_ble_eq_true rfl⟩ ⟨Nat.zero_le _, Nat.zero_le _⟩ rfl rfl (Nat.le_of_ble_eq_true rfl) dX3_would_25 rfl (fun _ => rfl) (fun r_25 er_25 => ?_)
      refine z_if_eq (tgt := 41) X dX3_would_28 (by decide) (fun c_28 => ?_) (fun c_28 => ?_)
      · refine z_bipush (v := (-2 : Int32)) X dX3_would_41 (by decide) ?_
        refine z_lv (lv' := []) [] rfl ?_
        exact J_j_43 ((-2 : Int32), M) (by subst er_13 er_25; simp only [if_neg c_4, if_neg c_16, if_pos c_28])
      · refine z_aload_n X dX3_would_31 0 rfl ?_
        refine z_iload_n X dX3_would_32 1 rfl ?_
        refine z_iload_n X dX3_would_33 2 rfl ?_
        refine z_iload_n X dX3_would_34 3 rfl ?_
        refine z_callVi0 X (c_M_brings l D kI kC kQ o M a1 a2 a3 hI (in_bn 500 1200 (by omega) er_1 c_4) (in_bn 1 500 (by omega) er_13 c_16)) (gV wd3_98 wd3_100 wd0_27 wd1_4 wd3_101) k_M_brings rfl rfl ⟨Nat.le_of_ble_eq_true rfl, Nat.le_of_ble_eq_true rfl⟩ ⟨Nat.zero_le _, Nat.zero_le _⟩ 3 0 rfl rfl rfl rfl rfl (Nat.le_of_ble_eq_true rfl) dX3_would_35 (fun r_35 er_35 => ?_)
        refine z_goto (tgt := 43) X dX3_would_38 (by decide) ?_
        refine z_lv (lv' := []) [] rfl ?_
        exact J_j_43 (r_35.1, r_35.2) (by subst er_13 er_25 er_35; simp only [if_neg c_4, if_neg c_16, if_neg c_28])
set_option maxRecDepth 100000 in
set_option maxHeartbeats 4000000 in
theorem c_M_best (l : Launch) (D : va_G) (kI kC kQ : ClassId) (o : Nat → Nat) (M : ARR) (a1 : Int32) (hI : IA (M 0)) : CtI (U := Int32 × ARR) l yX3_best cX3_best 6 (some .int) { frames := 5, cells := 0, slots := 0, locals := 117 } D (tysG kI kC kQ) (wM kI o M) [.ref (o 0), .int a1] (fun u => u.1) (fun u => (wM kI o u.2)) (fun u => u = F_M_best M a1) := by
  refine met_Zi (own := "ShadowLatchesModel") (by decide +kernel) rfl (Nat.le_of_ble_eq_true rfl) ?_
  intro p e s m args below meth c A Q X hQ
  show Z p l e { frames := 5, cells := 0, slots := 0, locals := 117 } s m args below meth c D A 6 0 0 Q (wM kI o M) [(0, .ref (o 0)), (1, .int a1)] 0 []
  refine z_iload_n X dX3_best_0 1 rfl ?_
  refine z_i2l X dX3_best_1 ?_
  refine z_lconst (v := (1 : Int64)) X dX3_best_2 (by decide) ?_
  refine z_ldc2 X dX3_best_3 wd3_21 ?_
  refine z_callSiN X (c_M_in l D kI kC kQ (a1.toInt64) (1 : Int64) (200 : Int64)) (gS wd2_172 wd2_173 wd1_4 wd2_174) k_M_in rfl rfl ⟨Nat.le_of_ble_eq_true rfl, Nat.le_of_ble_eq_true rfl⟩ ⟨Nat.zero_le _, Nat.zero_le _⟩ rfl rfl (Nat.le_of_ble_eq_true rfl) dX3_best_6 rfl (fun _ => rfl) (fun r_6 er_6 => ?_)
  refine z_if_ne (tgt := 15) X dX3_best_9 (by decide) (fun c_9 => ?_) (fun c_9 => ?_)
  · refine z_bipush (v := (-5 : Int32)) X dX3_best_15 (by decide) ?_
    refine z_istore_n (lv' := [(2, .int (-5 : Int32)), (0, .ref (o 0)), (1, .int a1)]) X dX3_best_17 (Nat.le_of_ble_eq_true rfl) rfl ?_
    refine z_iconst (v := (0 : Int32)) X dX3_best_18 (by decide) ?_
    refine z_istore_n (lv' := [(3, .int (0 : Int32)), (2, .int (-5 : Int32)), (0, .ref (o 0)), (1, .int a1)]) X dX3_best_19 (Nat.le_of_ble_eq_true rfl) rfl ?_
    refine z_sipush (v := (500 : Int32)) X dX3_best_20 (by decide) ?_
    refine z_istore (lv' := [(4, .int (500 : Int32)), (3, .int (0 : Int32)), (2, .int (-5 : Int32)), (0, .ref (o 0)), (1, .int a1)]) X dX3_best_23 (Nat.le_of_ble_eq_true rfl) rfl ?_
    refine z_lv (lv' := [(0, .ref (o 0)), (1, .int a1), (2, .int (-5 : Int32)), (3, .int (0 : Int32)), (4, .int (500 : Int32))]) [3, 4, 2, 1, 0] rfl ?_
    have Lp_25 : ∀ (n : Nat) (x2_25 : Int32) (x3_25 : Int32) (x4_25 : Int32) (M_25 : ARR), (bs5 n x4_25) → (IA (M_25 0)) → (∀ q_25 : Int32 × ARR, q_25 = L_M_best_25 a1 n x2_25 x3_25 x4_25 M_25 → Z p l e { frames := 5, cells := 0, slots := 0, locals := 117 } s m args below meth c D A 6 0 0 Q (wM kI o q_25.2) [(2, .int q_25.1)] 78 []) → Z p l e { frames := 5, cells := 0, slots := 0, locals := 117 } s m args below meth c D A 6 0 0 Q (wM kI o M_25) [(0, .ref (o 0)), (1, .int a1), (2, .int x2_25), (3, .int x3_25), (4, .int x4_25)] 25 [] := by
      intro n
      induction n with
      | zero =>
        intro x2_25 x3_25 x4_25 M_25 hi hJ kk_25
        exfalso
        obtain ⟨j, _, h1, h2⟩ := hi
        omega
      | succ n ih_25 =>
        intro x2_25 x3_25 x4_25 M_25 hi hJ kk_25
        refine z_iload X dX3_best_25 4 rfl ?_
        refine z_sipush (v := (1200 : Int32)) X dX3_best_27 (by decide) ?_
        refine z_icmp_gt (tgt := 78) X dX3_best_30 (by decide) (fun c_30 => ?_) (fun c_30 => ?_)
        · refine z_lv (lv' := [(2, .int x2_25)]) [2] rfl ?_
          exact kk_25 (x2_25, M_25) (by simp only [L_M_best_25, if_pos c_30]) 
        · refine z_aload_n X dX3_best_33 0 rfl ?_
          refine z_iload X dX3_best_34 4 rfl ?_
          refine z_iload_n X dX3_best_36 1 rfl ?_
          refine z_iconst (v := (2 : Int32)) X dX3_best_37 (by decide) ?_
          refine z_callVi0 X (c_M_brings l D kI kC kQ o M_25 x4_25 a1 (2 : Int32) hJ (bs5_v hi c_30) (bn_w (in_bn 1 200 (by omega) er_6 c_9) (by omega) (by omega))) (gV wd3_98 wd3_100 wd0_27 wd1_4 wd3_101) k_M_brings rfl rfl ⟨Nat.le_of_ble_eq_true rfl, Nat.le_of_ble_eq_true rfl⟩ ⟨Nat.zero_le _, Nat.zero_le _⟩ 3 0 rfl rfl rfl rfl rfl (Nat.le_of_ble_eq_true rfl) dX3_best_38 (fun r_38 er_38 => ?_)
          refine z_istore (lv' := [(5, .int r_38.1), (0, .ref (o 0)), (1, .int a1), (2, .int x2_25), (3, .int x3_25), (4, .int x4_25)]) X dX3_best_41 (Nat.le_of_ble_eq_true rfl) rfl ?_
          refine z_aload_n X dX3_best_43 1 rfl ?_
          refine z_iload X dX3_best_44 5 rfl ?_
          refine z_iload_n X dX3_best_46 2 rfl ?_
          refine z_iconst (v := (1 : Int32)) X dX3_best_47 (by decide) ?_
          refine z_callVi0 X (c_M_brings l D kI kC kQ o r_38.2 x4_25 a1 (1 : Int32) (by rw [er_38]; exact brings_IA hJ _ _ _) (bs5_v hi c_30) (bn_w (in_bn 1 200 (by omega) er_6 c_9) (by omega) (by omega))) (gV wd3_98 wd3_100 wd0_27 wd1_4 wd3_101) k_M_brings rfl rfl ⟨Nat.le_of_ble_eq_true rfl, Nat.le_of_ble_eq_true rfl⟩ ⟨Nat.zero_le _, Nat.zero_le _⟩ 3 0 rfl rfl rfl rfl rfl (Nat.le_of_ble_eq_true rfl) dX3_best_48 (fun r_48 er_48 => ?_)
          have J_j_72 : ∀ j_72 : Int32 × Int32, j_72 = (if r_48.1 = (0 : Int32) then (if x2_25 = (-5 : Int32) then ((x4_25, r_38.1)) else (if x3_25 ≤ r_38.1 then ((x2_25, x3_25)) else ((x4_25, r_38.1)))) else ((x2_25, x3_25))) → Z p l e { frames := 5, cells := 0, slots := 0, locals := 117 } s m args below meth c D A 6 0 0 Q (wM kI o r_48.2) [(0, .ref (o 0)), (1, .int a1), (2, .int j_72.1), (3, .int j_72.2), (4, .int x4_25)] 72 [] := by
            intro j_72 ej_72
            obtain ⟨v_72, ev_72⟩ : ∃ y : Int32, y = x4_25 + (50 : Int32) := ⟨_, rfl⟩
            refine z_iinc (v := v_72) (lv' := [(4, .int v_72), (0, .ref (o 0)), (1, .int a1), (2, .int j_72.1), (3, .int j_72.2)]) X dX3_best_72 4 rfl (by rw [ev_72]; rfl) (Nat.le_of_ble_eq_true rfl) rfl ?_
            refine z_goto (tgt := 25) X dX3_best_75 (by decide) ?_
            refine z_lv (lv' := [(0, .ref (o 0)), (1, .int a1), (2, .int j_72.1), (3, .int j_72.2), (4, .int v_72)]) [1, 2, 3, 4, 0] rfl ?_
            exact ih_25 j_72.1 j_72.2 v_72 r_48.2 (bs5_b hi c_30 ev_72) (by rw [er_48, er_38]; exact brings_IA (brings_IA hJ _ _ _) _ _ _) (fun q_25 eq_25 => kk_25 q_25 (eq_25.trans (by subst er_38 er_48 ej_72 ev_72; simp only [L_M_best_25, if_neg c_30])))
          refine z_if_ne (tgt := 72) X dX3_best_51 (by decide) (fun c_51 => ?_) (fun c_51 => ?_)
          · refine z_lv (lv' := [(0, .ref (o 0)), (1, .int a1), (2, .int x2_25), (3, .int x3_25), (4, .int x4_25)]) [1, 2, 3, 4, 5] rfl ?_
            exact J_j_72 (x2_25, x3_25) (by simp only [if_neg c_51])
          · refine z_iload_n X dX3_best_54 3 rfl ?_
            refine z_bipush (v := (-5 : Int32)) X dX3_best_55 (by decide) ?_
            refine z_icmp_eq (tgt := 66) X dX3_best_57 (by decide) (fun c_57 => ?_) (fun c_57 => ?_)
            · refine z_iload X dX3_best_66 5 rfl ?_
              refine z_istore_n (lv' := [(2, .int x4_25), (5, .int r_38.1), (0, .ref (o 0)), (1, .int a1), (3, .int x3_25), (4, .int x4_25)]) X dX3_best_68 (Nat.le_of_ble_eq_true rfl) rfl ?_
              refine z_iload X dX3_best_69 1 rfl ?_
              refine z_istore_n (lv' := [(3, .int r_38.1), (2, .int x4_25), (5, .int r_38.1), (0, .ref (o 0)), (1, .int a1), (4, .int x4_25)]) X dX3_best_71 (Nat.le_of_ble_eq_true rfl) rfl ?_
              refine z_lv (lv' := [(0, .ref (o 0)), (1, .int a1), (2, .int x4_25), (3, .int r_38.1), (4, .int x4_25)]) [3, 4, 1, 0, 5] rfl ?_
              exact J_j_72 (x4_25, r_38.1) (by simp only [if_pos c_51, if_pos c_57])
            · refine z_iload X dX3_best_60 0 rfl ?_
              refine z_iload_n X dX3_best_62 4 rfl ?_
              refine z_icmp_ge (tgt := 72) X dX3_best_63 (by decide) (fun c_63 => ?_) (fun c_63 => ?_)
              · refine z_lv (lv' := [(0, .ref (o 0)), (1, .int a1), (2, .int x2_25), (3, .int x3_25), (4, .int x4_25)]) [1, 2, 3, 4, 5] rfl ?_
                exact J_j_72 (x2_25, x3_25) (by simp only [if_pos c_51, if_neg c_57, if_pos c_63])
              · refine z_iload X dX3_best_66 5 rfl ?_
                refine z_istore_n (lv' := [(2, .int x4_25), (5, .int r_38.1), (0, .ref (o 0)), (1, .int a1), (3, .int x3_25), (4, .int x4_25)]) X dX3_best_68 (Nat.le_of_ble_eq_true rfl) rfl ?_
                refine z_iload X dX3_best_69 1 rfl ?_
                refine z_istore_n (lv' := [(3, .int r_38.1), (2, .int x4_25), (5, .int r_38.1), (0, .ref (o 0)), (1, .int a1), (4, .int x4_25)]) X dX3_best_71 (Nat.le_of_ble_eq_true rfl) rfl ?_
                refine z_lv (lv' := [(0, .ref (o 0)), (1, .int a1), (2, .int x4_25), (3, .int r_38.1), (4, .int x4_25)]) [3, 4, 1, 0, 5] rfl ?_
                exact J_j_72 (x4_25, r_38.1) (by simp only [if_pos c_51, if_neg c_57, if_neg c_63])
    refine Lp_25 16 (-5 : Int32) (0 : Int32) (500 : Int32) M ⟨0, rfl, by omega, by omega⟩ hI (fun q_25 eq_25 => ?_)
    refine z_iload_n X dX3_best_78 0 rfl ?_
    exact z_iret X hQ rfl (q_25.1, q_25.2) rfl rfl (by subst er_6 eq_25; simp only [F_M_best, if_neg c_9]) dX3_best_79
  · refine z_bipush (v := (-2 : Int32)) X dX3_best_12 (by decide) ?_
    exact z_iret X hQ rfl ((-2 : Int32), M) rfl rfl (by subst er_6; simp only [F_M_best, if_pos c_9]) dX3_best_14
set_option maxRecDepth 100000 in
set_option maxHeartbeats 4000000 in
theorem c_M_pathsThat (l : Launch) (D : va_G) (kI kC kQ : ClassId) (o : Nat → Nat) (M : ARR) (a1 : Int32) (hI : IA (M 0)) : CtI (U := Int32) l yX3_pathsThat cX3_pathsThat 4 (some .int) { frames := 2, cells := 0, slots := 0, locals := 46 } D (tysG kI kC kQ) (wM kI o M) [.ref (o 0), .int a1] (fun u => u) (fun _ => (wM kI o M)) (fun u => u = F_M_pathsThat M a1) := by
  refine met_Zi (own := "ShadowLatchesModel") (by decide +kernel) rfl (Nat.le_of_ble_eq_true rfl) ?_
  intro p e s m args below meth c A Q X hQ
  show Z p l e { frames := 2, cells := 0, slots := 0, locals := 46 } s m args below meth c D A 4 0 0 Q (wM kI o M) [(0, .ref (o 0)), (1, .int a1)] 0 []
  obtain ⟨P, hP1, hP2, hP⟩ := hI.p
  refine z_iconst (v := (0 : Int32)) X dX3_pathsThat_0 (by decide) ?_
  refine z_istore_n (lv' := [(2, .int (0 : Int32)), (0, .ref (o 0)), (1, .int a1)]) X dX3_pathsThat_1 (Nat.le_of_ble_eq_true rfl) rfl ?_
  refine z_iconst (v := (0 : Int32)) X dX3_pathsThat_2 (by decide) ?_
  refine z_istore_n (lv' := [(3, .int (0 : Int32)), (2, .int (0 : Int32)), (0, .ref (o 0)), (1, .int a1)]) X dX3_pathsThat_3 (Nat.le_of_ble_eq_true rfl) rfl ?_
  refine z_lv (lv' := [(0, .ref (o 0)), (1, .int a1), (2, .int (0 : Int32)), (3, .int (0 : Int32))]) [2, 3, 1, 0] rfl ?_
  have Lp_4 : ∀ (n : Nat) (x2_4 : Int32) (x3_4 : Int32), (cu P n x3_4) → (∀ q_4 : Int32, q_4 = L_M_pathsThat_4 M a1 n x2_4 x3_4 → Z p l e { frames := 2, cells := 0, slots := 0, locals := 46 } s m args below meth c D A 4 0 0 Q (wM kI o M) [(2, .int q_4)] 47 []) → Z p l e { frames := 2, cells := 0, slots := 0, locals := 46 } s m args below meth c D A 4 0 0 Q (wM kI o M) [(0, .ref (o 0)), (1, .int a1), (2, .int x2_4), (3, .int x3_4)] 4 [] := by
    intro n
    induction n with
    | zero =>
      intro x2_4 x3_4 hi kk_4
      exfalso
      exact cu_0 hi
    | succ n ih_4 =>
      intro x2_4 x3_4 hi kk_4
      refine z_iload_n X dX3_pathsThat_4 3 rfl ?_
      refine z_aload_n X dX3_pathsThat_5 0 rfl ?_
      refine zM_g0 X wd2_126 dX3_pathsThat_6 ?_
      refine z_bipush (v := (51 : Int32)) X dX3_pathsThat_9 (by decide) ?_
      refine zM_l0 X vi_51_55 cl_51 dX3_pathsThat_11 ?_
      refine z_icmp_ge (tgt := 47) X dX3_pathsThat_12 (by decide) (fun c_12 => ?_) (fun c_12 => ?_)
      · refine z_lv (lv' := [(2, .int x2_4)]) [2] rfl ?_
        exact kk_4 x2_4 (by simp only [L_M_pathsThat_4, if_pos c_12]) 
      · refine z_iload_n X dX3_pathsThat_15 2 rfl ?_
        refine z_aload_n X dX3_pathsThat_16 0 rfl ?_
        refine z_iload_n X dX3_pathsThat_17 3 rfl ?_
        refine z_aload_n X dX3_pathsThat_18 0 rfl ?_
        refine zM_g0 X wd2_126 dX3_pathsThat_19 ?_
        refine z_bipush (v := (39 : Int32)) X dX3_pathsThat_22 (by decide) ?_
        refine zM_l0 X vi_39_55 cl_39 dX3_pathsThat_24 ?_
        refine z_callVi0 X (c_M_stateWith l D kI kC kQ o M x3_4 (M 0 39) (vin_a 0 (cu_lt hi (by omega) hP c_12) (by omega) (by omega)) (vne hI.v)) (gV wd3_40 wd3_42 wd0_21 wd1_4 wd3_43) k_M_stateWith rfl rfl ⟨Nat.le_of_ble_eq_true rfl, Nat.le_of_ble_eq_true rfl⟩ ⟨Nat.zero_le _, Nat.zero_le _⟩ 3 0 rfl rfl rfl rfl rfl (Nat.le_of_ble_eq_true rfl) dX3_pathsThat_25 (fun r_25 er_25 => ?_)
        refine z_iload_n X dX3_pathsThat_28 1 rfl ?_
        have J_j_39 : ∀ j_39 : Int32, j_39 = (if r_25 = a1 then (((1 : Int32) <<< (x3_4 &&& 31))) else ((0 : Int32))) → Z p l e { frames := 2, cells := 0, slots := 0, locals := 46 } s m args below meth c D A 4 0 0 Q (wM kI o M) [(0, .ref (o 0)), (1, .int a1), (3, .int x3_4)] 39 [.int j_39, .int x2_4] := by
          intro j_39 ej_39
          refine z_ior X dX3_pathsThat_39 ?_
          refine z_topi (fun v_40 ev_40 => ?_)
          refine z_istore_n (lv' := [(2, .int v_40), (0, .ref (o 0)), (1, .int a1), (3, .int x3_4)]) X dX3_pathsThat_40 (Nat.le_of_ble_eq_true rfl) rfl ?_
          obtain ⟨v_41, ev_41⟩ : ∃ y : Int32, y = x3_4 + (1 : Int32) := ⟨_, rfl⟩
          refine z_iinc (v := v_41) (lv' := [(3, .int v_41), (2, .int v_40), (0, .ref (o 0)), (1, .int a1)]) X dX3_pathsThat_41 3 rfl (by rw [ev_41]; rfl) (Nat.le_of_ble_eq_true rfl) rfl ?_
          refine z_goto (tgt := 4) X dX3_pathsThat_44 (by decide) ?_
          refine z_lv (lv' := [(0, .ref (o 0)), (1, .int a1), (2, .int v_40), (3, .int v_41)]) [2, 3, 1, 0] rfl ?_
          exact ih_4 v_40 v_41 (cu_b hi (by omega) hP c_12 ev_41) (fun q_4 eq_4 => kk_4 q_4 (eq_4.trans (by subst er_25 ej_39 ev_40 ev_41; simp only [L_M_pathsThat_4, if_neg c_12])))
        refine z_icmp_ne (tgt := 38) X dX3_pathsThat_29 (by decide) (fun c_29 => ?_) (fun c_29 => ?_)
        · refine z_iconst (v := (0 : Int32)) X dX3_pathsThat_38 (by decide) ?_
          refine z_lv (lv' := [(0, .ref (o 0)), (1, .int a1), (3, .int x3_4)]) [0, 1, 3] rfl ?_
          exact J_j_39 (0 : Int32) (by simp only [if_neg c_29])
        · refine z_iconst (v := (1 : Int32)) X dX3_pathsThat_32 (by decide) ?_
          refine z_iload_n X dX3_pathsThat_33 3 rfl ?_
          refine z_ishl X dX3_pathsThat_34 ?_
          refine z_goto (tgt := 39) X dX3_pathsThat_35 (by decide) ?_
          refine z_lv (lv' := [(0, .ref (o 0)), (1, .int a1), (3, .int x3_4)]) [0, 1, 3] rfl ?_
          exact J_j_39 ((1 : Int32) <<< (x3_4 &&& 31)) (by simp only [if_pos c_29])
  refine Lp_4 9 (0 : Int32) (0 : Int32) (cu_i (by omega)) (fun q_4 eq_4 => ?_)
  refine z_iload_n X dX3_pathsThat_47 0 rfl ?_
  exact z_iret X hQ rfl q_4 rfl rfl (by subst eq_4; simp only [F_M_pathsThat]) dX3_pathsThat_48
set_option maxRecDepth 100000 in
set_option maxHeartbeats 4000000 in
theorem c_M_count (l : Launch) (D : va_G) (kI kC kQ : ClassId) (o : Nat → Nat) (M : ARR) (a1 : Int32) (hI : IA (M 0)) : CtI (U := Int32) l yX3_count cX3_count 2 (some .int) { frames := 3, cells := 0, slots := 0, locals := 69 } D (tysG kI kC kQ) (wM kI o M) [.ref (o 0), .int a1] (fun u => u) (fun _ => (wM kI o M)) (fun u => u = F_M_count M a1) := by
  refine met_Zi (own := "ShadowLatchesModel") (by decide +kernel) rfl (Nat.le_of_ble_eq_true rfl) ?_
  intro p e s m args below meth c A Q X hQ
  show Z p l e { frames := 3, cells := 0, slots := 0, locals := 69 } s m args below meth c D A 2 0 0 Q (wM kI o M) [(0, .ref (o 0)), (1, .int a1)] 0 []
  refine z_iload_n X dX3_count_0 1 rfl ?_
  refine z_i2l X dX3_count_1 ?_
  refine z_lconst (v := (0 : Int64)) X dX3_count_2 (by decide) ?_
  refine z_ldc2 X dX3_count_3 wd3_114 ?_
  refine z_callSiN X (c_M_in l D kI kC kQ (a1.toInt64) (0 : Int64) (12 : Int64)) (gS wd2_172 wd2_173 wd1_4 wd2_174) k_M_in rfl rfl ⟨Nat.le_of_ble_eq_true rfl, Nat.le_of_ble_eq_true rfl⟩ ⟨Nat.zero_le _, Nat.zero_le _⟩ rfl rfl (Nat.le_of_ble_eq_true rfl) dX3_count_6 rfl (fun _ => rfl) (fun r_6 er_6 => ?_)
  refine z_if_eq (tgt := 22) X dX3_count_9 (by decide) (fun c_9 => ?_) (fun c_9 => ?_)
  · refine z_iload_n X dX3_count_22 1 rfl ?_
    refine z_i2l X dX3_count_23 ?_
    refine z_ldc2 X dX3_count_24 wd3_115 ?_
    refine z_ldc2 X dX3_count_27 wd3_116 ?_
    refine z_callSiN X (c_M_in l D kI kC kQ (a1.toInt64) (17 : Int64) (23 : Int64)) (gS wd2_172 wd2_173 wd1_4 wd2_174) k_M_in rfl rfl ⟨Nat.le_of_ble_eq_true rfl, Nat.le_of_ble_eq_true rfl⟩ ⟨Nat.zero_le _, Nat.zero_le _⟩ rfl rfl (Nat.le_of_ble_eq_true rfl) dX3_count_30 rfl (fun _ => rfl) (fun r_30 er_30 => ?_)
    refine z_if_eq (tgt := 49) X dX3_count_33 (by decide) (fun c_33 => ?_) (fun c_33 => ?_)
    · refine z_iload_n X dX3_count_49 1 rfl ?_
      by_cases c_50_13 : a1 = (13 : Int32)
      · refine z_tableIn (tgt := 116) X dX3_count_50 (by rw [c_50_13]; decide) (by rw [c_50_13]; decide) (by rw [c_50_13]; rfl) (by decide) ?_
        refine z_aload_n X dX3_count_116 0 rfl ?_
        refine z_iload_n X dX3_count_117 1 rfl ?_
        refine z_bipush (v := (12 : Int32)) X dX3_count_118 (by decide) ?_
        refine z_isub X dX3_count_120 ?_
        refine z_callVi0 X (c_M_pathsThat l D kI kC kQ o M (a1 - (12 : Int32)) hI) (gV wd3_117 wd3_119 wd0_29 wd1_4 wd3_120) k_M_pathsThat rfl rfl ⟨Nat.le_of_ble_eq_true rfl, Nat.le_of_ble_eq_true rfl⟩ ⟨Nat.zero_le _, Nat.zero_le _⟩ 3 0 rfl rfl rfl rfl rfl (Nat.le_of_ble_eq_true rfl) dX3_count_121 (fun r_121 er_121 => ?_)
        exact z_iret X hQ rfl r_121 rfl rfl (by subst er_6 er_30 er_121; simp only [F_M_count, if_pos c_9, if_pos c_33, if_pos c_50_13]) dX3_count_124
      by_cases c_50_14 : a1 = (14 : Int32)
      · refine z_tableIn (tgt := 116) X dX3_count_50 (by rw [c_50_14]; decide) (by rw [c_50_14]; decide) (by rw [c_50_14]; rfl) (by decide) ?_
        refine z_aload_n X dX3_count_116 0 rfl ?_
        refine z_iload_n X dX3_count_117 1 rfl ?_
        refine z_bipush (v := (12 : Int32)) X dX3_count_118 (by decide) ?_
        refine z_isub X dX3_count_120 ?_
        refine z_callVi0 X (c_M_pathsThat l D kI kC kQ o M (a1 - (12 : Int32)) hI) (gV wd3_117 wd3_119 wd0_29 wd1_4 wd3_120) k_M_pathsThat rfl rfl ⟨Nat.le_of_ble_eq_true rfl, Nat.le_of_ble_eq_true rfl⟩ ⟨Nat.zero_le _, Nat.zero_le _⟩ 3 0 rfl rfl rfl rfl rfl (Nat.le_of_ble_eq_true rfl) dX3_count_121 (fun r_121 er_121 => ?_)
        exact z_iret X hQ rfl r_121 rfl rfl (by subst er_6 er_30 er_121; simp only [F_M_count, if_pos c_9, if_pos c_33, if_neg c_50_13, if_pos c_50_14]) dX3_count_124
      by_cases c_50_15 : a1 = (15 : Int32)
      · refine z_tableIn (tgt := 125) X dX3_count_50 (by rw [c_50_15]; decide) (by rw [c_50_15]; decide) (by rw [c_50_15]; rfl) (by decide) ?_
        refine z_aload_n X dX3_count_125 0 rfl ?_
        refine zM_g0 X wd2_126 dX3_count_126 ?_
        refine z_bipush (v := (52 : Int32)) X dX3_count_129 (by decide) ?_
        refine zM_l0 X vi_52_55 cl_52 dX3_count_131 ?_
        exact z_iret X hQ rfl (M 0 52) rfl rfl (by subst er_6 er_30; simp only [F_M_count, if_pos c_9, if_pos c_33, if_neg c_50_13, if_neg c_50_14, if_pos c_50_15]) dX3_count_132
      by_cases c_50_16 : a1 = (16 : Int32)
      · refine z_tableIn (tgt := 133) X dX3_count_50 (by rw [c_50_16]; decide) (by rw [c_50_16]; decide) (by rw [c_50_16]; rfl) (by decide) ?_
        refine z_aload_n X dX3_count_133 0 rfl ?_
        refine zM_g0 X wd2_126 dX3_count_134 ?_
        refine z_bipush (v := (53 : Int32)) X dX3_count_137 (by decide) ?_
        refine zM_l0 X vi_53_55 cl_53 dX3_count_139 ?_
        exact z_iret X hQ rfl (M 0 53) rfl rfl (by subst er_6 er_30; simp only [F_M_count, if_pos c_9, if_pos c_33, if_neg c_50_13, if_neg c_50_14, if_neg c_50_15, if_pos c_50_16]) dX3_count_140
      by_cases c_50_17 : a1 = (17 : Int32)
      · refine z_tableIn (tgt := 151) X dX3_count_50 (by rw [c_50_17]; decide) (by rw [c_50_17]; decide) (by rw [c_50_17]; rfl) (by decide) ?_
        refine z_bipush (v := (-2 : Int32)) X dX3_count_151 (by decide) ?_
        exact z_iret X hQ rfl (-2 : Int32) rfl rfl (by subst er_6 er_30; simp only [F_M_count, if_pos c_9, if_pos c_33, if_neg (show ¬ a1 = (13 : Int32) by rw [c_50_17]; decide), if_neg (show ¬ a1 = (14 : Int32) by rw [c_50_17]; decide), if_neg (show ¬ a1 = (15 : Int32) by rw [c_50_17]; decide), if_neg (show ¬ a1 = (16 : Int32) by rw [c_50_17]; decide), if_neg (show ¬ a1 = (24 : Int32) by rw [c_50_17]; decide), if_neg (show ¬ a1 = (25 : Int32) by rw [c_50_17]; decide)]) dX3_count_153
      by_cases c_50_18 : a1 = (18 : Int32)
      · refine z_tableIn (tgt := 151) X dX3_count_50 (by rw [c_50_18]; decide) (by rw [c_50_18]; decide) (by rw [c_50_18]; rfl) (by decide) ?_
        refine z_bipush (v := (-2 : Int32)) X dX3_count_151 (by decide) ?_
        exact z_iret X hQ rfl (-2 : Int32) rfl rfl (by subst er_6 er_30; simp only [F_M_count, if_pos c_9, if_pos c_33, if_neg (show ¬ a1 = (13 : Int32) by rw [c_50_18]; decide), if_neg (show ¬ a1 = (14 : Int32) by rw [c_50_18]; decide), if_neg (show ¬ a1 = (15 : Int32) by rw [c_50_18]; decide), if_neg (show ¬ a1 = (16 : Int32) by rw [c_50_18]; decide), if_neg (show ¬ a1 = (24 : Int32) by rw [c_50_18]; decide), if_neg (show ¬ a1 = (25 : Int32) by rw [c_50_18]; decide)]) dX3_count_153
      by_cases c_50_19 : a1 = (19 : Int32)
      · refine z_tableIn (tgt := 151) X dX3_count_50 (by rw [c_50_19]; decide) (by rw [c_50_19]; decide) (by rw [c_50_19]; rfl) (by decide) ?_
        refine z_bipush (v := (-2 : Int32)) X dX3_count_151 (by decide) ?_
        exact z_iret X hQ rfl (-2 : Int32) rfl rfl (by subst er_6 er_30; simp only [F_M_count, if_pos c_9, if_pos c_33, if_neg (show ¬ a1 = (13 : Int32) by rw [c_50_19]; decide), if_neg (show ¬ a1 = (14 : Int32) by rw [c_50_19]; decide), if_neg (show ¬ a1 = (15 : Int32) by rw [c_50_19]; decide), if_neg (show ¬ a1 = (16 : Int32) by rw [c_50_19]; decide), if_neg (show ¬ a1 = (24 : Int32) by rw [c_50_19]; decide), if_neg (show ¬ a1 = (25 : Int32) by rw [c_50_19]; decide)]) dX3_count_153
      by_cases c_50_20 : a1 = (20 : Int32)
      · refine z_tableIn (tgt := 151) X dX3_count_50 (by rw [c_50_20]; decide) (by rw [c_50_20]; decide) (by rw [c_50_20]; rfl) (by decide) ?_
        refine z_bipush (v := (-2 : Int32)) X dX3_count_151 (by decide) ?_
        exact z_iret X hQ rfl (-2 : Int32) rfl rfl (by subst er_6 er_30; simp only [F_M_count, if_pos c_9, if_pos c_33, if_neg (show ¬ a1 = (13 : Int32) by rw [c_50_20]; decide), if_neg (show ¬ a1 = (14 : Int32) by rw [c_50_20]; decide), if_neg (show ¬ a1 = (15 : Int32) by rw [c_50_20]; decide), if_neg (show ¬ a1 = (16 : Int32) by rw [c_50_20]; decide), if_neg (show ¬ a1 = (24 : Int32) by rw [c_50_20]; decide), if_neg (show ¬ a1 = (25 : Int32) by rw [c_50_20]; decide)]) dX3_count_153
      by_cases c_50_21 : a1 = (21 : Int32)
      · refine z_tableIn (tgt := 151) X dX3_count_50 (by rw [c_50_21]; decide) (by rw [c_50_21]; decide) (by rw [c_50_21]; rfl) (by decide) ?_
        refine z_bipush (v := (-2 : Int32)) X dX3_count_151 (by decide) ?_
        exact z_iret X hQ rfl (-2 : Int32) rfl rfl (by subst er_6 er_30; simp only [F_M_count, if_pos c_9, if_pos c_33, if_neg (show ¬ a1 = (13 : Int32) by rw [c_50_21]; decide), if_neg (show ¬ a1 = (14 : Int32) by rw [c_50_21]; decide), if_neg (show ¬ a1 = (15 : Int32) by rw [c_50_21]; decide), if_neg (show ¬ a1 = (16 : Int32) by rw [c_50_21]; decide), if_neg (show ¬ a1 = (24 : Int32) by rw [c_50_21]; decide), if_neg (show ¬ a1 = (25 : Int32) by rw [c_50_21]; decide)]) dX3_count_153
      by_cases c_50_22 : a1 = (22 : Int32)
      · refine z_tableIn (tgt := 151) X dX3_count_50 (by rw [c_50_22]; decide) (by rw [c_50_22]; decide) (by rw [c_50_22]; rfl) (by decide) ?_
        refine z_bipush (v := (-2 : Int32)) X dX3_count_151 (by decide) ?_
        exact z_iret X hQ rfl (-2 : Int32) rfl rfl (by subst er_6 er_30; simp only [F_M_count, if_pos c_9, if_pos c_33, if_neg (show ¬ a1 = (13 : Int32) by rw [c_50_22]; decide), if_neg (show ¬ a1 = (14 : Int32) by rw [c_50_22]; decide), if_neg (show ¬ a1 = (15 : Int32) by rw [c_50_22]; decide), if_neg (show ¬ a1 = (16 : Int32) by rw [c_50_22]; decide), if_neg (show ¬ a1 = (24 : Int32) by rw [c_50_22]; decide), if_neg (show ¬ a1 = (25 : Int32) by rw [c_50_22]; decide)]) dX3_count_153
      by_cases c_50_23 : a1 = (23 : Int32)
      · refine z_tableIn (tgt := 151) X dX3_count_50 (by rw [c_50_23]; decide) (by rw [c_50_23]; decide) (by rw [c_50_23]; rfl) (by decide) ?_
        refine z_bipush (v := (-2 : Int32)) X dX3_count_151 (by decide) ?_
        exact z_iret X hQ rfl (-2 : Int32) rfl rfl (by subst er_6 er_30; simp only [F_M_count, if_pos c_9, if_pos c_33, if_neg (show ¬ a1 = (13 : Int32) by rw [c_50_23]; decide), if_neg (show ¬ a1 = (14 : Int32) by rw [c_50_23]; decide), if_neg (show ¬ a1 = (15 : Int32) by rw [c_50_23]; decide), if_neg (show ¬ a1 = (16 : Int32) by rw [c_50_23]; decide), if_neg (show ¬ a1 = (24 : Int32) by rw [c_50_23]; decide), if_neg (show ¬ a1 = (25 : Int32) by rw [c_50_23]; decide)]) dX3_count_153
      by_cases c_50_24 : a1 = (24 : Int32)
      · refine z_tableIn (tgt := 141) X dX3_count_50 (by rw [c_50_24]; decide) (by rw [c_50_24]; decide) (by rw [c_50_24]; rfl) (by decide) ?_
        refine z_aload_n X dX3_count_141 0 rfl ?_
        refine zM_g4 X wd2_130 dX3_count_142 ?_
        exact z_iret X hQ rfl (M 7 4) rfl rfl (by subst er_6 er_30; simp only [F_M_count, if_pos c_9, if_pos c_33, if_neg c_50_13, if_neg c_50_14, if_neg c_50_15, if_neg c_50_16, if_pos c_50_24]) dX3_count_145
      by_cases c_50_25 : a1 = (25 : Int32)
      · refine z_tableIn (tgt := 146) X dX3_count_50 (by rw [c_50_25]; decide) (by rw [c_50_25]; decide) (by rw [c_50_25]; rfl) (by decide) ?_
        refine z_aload_n X dX3_count_146 0 rfl ?_
        refine zM_g8 X wd2_134 dX3_count_147 ?_
        exact z_iret X hQ rfl (M 7 8) rfl rfl (by subst er_6 er_30; simp only [F_M_count, if_pos c_9, if_pos c_33, if_neg c_50_13, if_neg c_50_14, if_neg c_50_15, if_neg c_50_16, if_neg c_50_24, if_pos c_50_25]) dX3_count_150
      refine z_tableOut (tgt := 151) X dX3_count_50 (by have t0 : a1.toInt ≠ 13 := fun q => c_50_13 (Int32.toInt_inj.mp q); have t1 : a1.toInt ≠ 14 := fun q => c_50_14 (Int32.toInt_inj.mp q); have t2 : a1.toInt ≠ 15 := fun q => c_50_15 (Int32.toInt_inj.mp q); have t3 : a1.toInt ≠ 16 := fun q => c_50_16 (Int32.toInt_inj.mp q); have t4 : a1.toInt ≠ 17 := fun q => c_50_17 (Int32.toInt_inj.mp q); have t5 : a1.toInt ≠ 18 := fun q => c_50_18 (Int32.toInt_inj.mp q); have t6 : a1.toInt ≠ 19 := fun q => c_50_19 (Int32.toInt_inj.mp q); have t7 : a1.toInt ≠ 20 := fun q => c_50_20 (Int32.toInt_inj.mp q); have t8 : a1.toInt ≠ 21 := fun q => c_50_21 (Int32.toInt_inj.mp q); have t9 : a1.toInt ≠ 22 := fun q => c_50_22 (Int32.toInt_inj.mp q); have t10 : a1.toInt ≠ 23 := fun q => c_50_23 (Int32.toInt_inj.mp q); have t11 : a1.toInt ≠ 24 := fun q => c_50_24 (Int32.toInt_inj.mp q); have t12 : a1.toInt ≠ 25 := fun q => c_50_25 (Int32.toInt_inj.mp q); omega) (by decide) ?_
      refine z_bipush (v := (-2 : Int32)) X dX3_count_151 (by decide) ?_
      exact z_iret X hQ rfl (-2 : Int32) rfl rfl (by subst er_6 er_30; simp only [F_M_count, if_pos c_9, if_pos c_33, if_neg c_50_13, if_neg c_50_14, if_neg c_50_15, if_neg c_50_16, if_neg c_50_24, if_neg c_50_25]) dX3_count_153
    · refine z_aload_n X dX3_count_36 0 rfl ?_
      refine zM_g0 X wd2_126 dX3_count_37 ?_
      refine z_bipush (v := (32 : Int32)) X dX3_count_40 (by decide) ?_
      refine z_iload_n X dX3_count_42 1 rfl ?_
      refine z_iadd X dX3_count_43 ?_
      refine z_bipush (v := (17 : Int32)) X dX3_count_44 (by decide) ?_
      refine z_isub X dX3_count_46 ?_
      refine zM_l0 X (vin_set (in_bn 17 23 (by omega) er_30 c_33)) rfl dX3_count_47 ?_
      exact z_iret X hQ rfl (M 0 ((((32 : Int32) + a1) - (17 : Int32)).toNatClampNeg)) rfl rfl (by subst er_6 er_30; simp only [F_M_count, if_pos c_9, if_neg c_33]) dX3_count_48
  · refine z_aload_n X dX3_count_12 0 rfl ?_
    refine zM_g0 X wd2_126 dX3_count_13 ?_
    refine z_bipush (v := (39 : Int32)) X dX3_count_16 (by decide) ?_
    refine z_iload_n X dX3_count_18 1 rfl ?_
    refine z_iadd X dX3_count_19 ?_
    refine zM_l0 X (vin_a 39 (bn_lt (in_bn 0 12 (by omega) er_6 c_9)) (by omega) (by omega)) rfl dX3_count_20 ?_
    exact z_iret X hQ rfl (M 0 (((39 : Int32) + a1).toNatClampNeg)) rfl rfl (by subst er_6; simp only [F_M_count, if_neg c_9]) dX3_count_21
set_option maxRecDepth 100000 in
set_option maxHeartbeats 4000000 in
theorem c_M_readsSet (l : Launch) (D : va_G) (kI kC kQ : ClassId) (o : Nat → Nat) (M : ARR) (hT : TP M) (hr : bn 0 15 (M 7 11)) : CtI (U := Int32 × ARR) l yX3_readsSet cX3_readsSet 3 (some .boolean) { frames := 3, cells := 0, slots := 0, locals := 69 } D (tysG kI kC kQ) (wM kI o M) [.ref (o 0)] (fun u => u.1) (fun u => (wM kI o u.2)) (fun u => u = F_M_readsSet M) := by
  refine met_Zi (own := "ShadowLatchesModel") (by decide +kernel) rfl (Nat.le_of_ble_eq_true rfl) ?_
  intro p e s m args below meth c A Q X hQ
  show Z p l e { frames := 3, cells := 0, slots := 0, locals := 69 } s m args below meth c D A 3 0 0 Q (wM kI o M) [(0, .ref (o 0))] 0 []
  refine z_iconst (v := (0 : Int32)) X dX3_readsSet_0 (by decide) ?_
  refine z_istore_n (lv' := [(1, .int (0 : Int32)), (0, .ref (o 0))]) X dX3_readsSet_1 (Nat.le_of_ble_eq_true rfl) rfl ?_
  refine z_aload_n X dX3_readsSet_2 1 rfl ?_
  refine z_bipush (v := (45 : Int32)) X dX3_readsSet_3 (by decide) ?_
  refine z_callVi0 X (c_M_takes l D kI kC kQ o M (45 : Int32) hT.s hT.t) (gV wd2_231 wd2_233 wd0_17 wd1_4 wd2_234) k_M_takes rfl rfl ⟨Nat.le_of_ble_eq_true rfl, Nat.le_of_ble_eq_true rfl⟩ ⟨Nat.zero_le _, Nat.zero_le _⟩ 3 0 rfl rfl rfl rfl rfl (Nat.le_of_ble_eq_true rfl) dX3_readsSet_5 (fun r_5 er_5 => ?_)
  refine z_if_ne (tgt := 71) X dX3_readsSet_8 (by decide) (fun c_8 => ?_) (fun c_8 => ?_)
  · refine z_aload_n X dX3_readsSet_71 1 rfl ?_
    refine zM_g10 X wd2_136 dX3_readsSet_72 ?_
    refine z_aload_n X dX3_readsSet_75 1 rfl ?_
    refine zM_g11 X wd2_137 dX3_readsSet_76 ?_
    refine z_iload_n X dX3_readsSet_79 0 rfl ?_
    refine zM_s6 X (vin_k (bn_lt (by first | (rw [er_5, takes_7 _ _ (by decide)]; exact hr) | (rw [eq_27, L27_7 _ _ _ _ (by decide), er_5, takes_7 _ _ (by decide)]; exact hr))) (by omega) (by omega)) rfl dX3_readsSet_80 (fun M_80 eM_80 => ?_)
    refine z_aload_n X dX3_readsSet_81 1 rfl ?_
    refine z_dup X dX3_readsSet_82 rfl ?_
    refine zM_g11 X wd2_137 dX3_readsSet_83 ?_
    refine z_iconst (v := (1 : Int32)) X dX3_readsSet_86 (by decide) ?_
    refine z_iadd X dX3_readsSet_87 ?_
    refine zM_p11 X wd2_137 dX3_readsSet_88 (fun M_88 eM_88 => ?_)
    refine z_iconst (v := (1 : Int32)) X dX3_readsSet_91 (by decide) ?_
    exact z_zret X hQ rfl ((1 : Int32), M_88) rfl rfl (by subst er_5 eM_80 eM_88; simp only [F_M_readsSet, if_neg c_8]) rfl dX3_readsSet_92
  · refine z_aload_n X dX3_readsSet_11 1 rfl ?_
    refine z_bipush (v := (48 : Int32)) X dX3_readsSet_12 (by decide) ?_
    refine z_bipush (v := (55 : Int32)) X dX3_readsSet_14 (by decide) ?_
    refine z_callVi0 X (c_M_isHere l D kI kC kQ o r_5.2 (48 : Int32) (55 : Int32) (by rw [er_5]; exact (takes_TP 45 hT).s) (by rw [er_5]; exact (takes_TP 45 hT).t)) (gV wd2_235 wd2_237 wd0_18 wd1_4 wd2_238) k_M_isHere rfl rfl ⟨Nat.le_of_ble_eq_true rfl, Nat.le_of_ble_eq_true rfl⟩ ⟨Nat.zero_le _, Nat.zero_le _⟩ 3 0 rfl rfl rfl rfl rfl (Nat.le_of_ble_eq_true rfl) dX3_readsSet_16 (fun r_16 er_16 => ?_)
    refine z_if_ne (tgt := 24) X dX3_readsSet_19 (by decide) (fun c_19 => ?_) (fun c_19 => ?_)
    · refine z_bipush (v := (47 : Int32)) X dX3_readsSet_24 (by decide) ?_
      refine z_istore_n (lv' := [(2, .int (47 : Int32)), (1, .int (0 : Int32)), (0, .ref (o 0))]) X dX3_readsSet_26 (Nat.le_of_ble_eq_true rfl) rfl ?_
      refine z_lv (lv' := [(0, .ref (o 0)), (1, .int (0 : Int32)), (2, .int (47 : Int32))]) [2, 1, 0] rfl ?_
      have Lp_27 : ∀ (n : Nat) (x1_27 : Int32) (x2_27 : Int32) (M_27 : ARR), (TP M_27) → (∃ k t : Nat, k ≤ t ∧ t ≤ 60 ∧ M_27 7 9 = nI k ∧ M_27 7 8 = nI t ∧ t + 1 ≤ k + n) → (∀ q_27 : Int32 × ARR, q_27 = L_M_readsSet_27 n x1_27 x2_27 M_27 → Z p l e { frames := 3, cells := 0, slots := 0, locals := 69 } s m args below meth c D A 3 0 0 Q (wM kI o q_27.2) [(0, .ref (o 0)), (1, .int q_27.1)] 71 []) → Z p l e { frames := 3, cells := 0, slots := 0, locals := 69 } s m args below meth c D A 3 0 0 Q (wM kI o M_27) [(0, .ref (o 0)), (1, .int x1_27), (2, .int x2_27)] 27 [] := by
        intro n
        induction n with
        | zero =>
          intro x1_27 x2_27 M_27 hU hz kk_27
          exfalso
          obtain ⟨k, t, h1, h2, h3, h4, h5⟩ := hz
          omega
        | succ n ih_27 =>
          intro x1_27 x2_27 M_27 hU hz kk_27
          refine z_aload_n X dX3_readsSet_27 0 rfl ?_
          refine z_iload_n X dX3_readsSet_28 2 rfl ?_
          refine z_iconst (v := (1 : Int32)) X dX3_readsSet_29 (by decide) ?_
          refine z_iadd X dX3_readsSet_30 ?_
          refine z_bipush (v := (55 : Int32)) X dX3_readsSet_31 (by decide) ?_
          refine z_callVi0 X (c_M_isHere l D kI kC kQ o M_27 (x2_27 + (1 : Int32)) (55 : Int32) hU.s hU.t) (gV wd2_235 wd2_237 wd0_18 wd1_4 wd2_238) k_M_isHere rfl rfl ⟨Nat.le_of_ble_eq_true rfl, Nat.le_of_ble_eq_true rfl⟩ ⟨Nat.zero_le _, Nat.zero_le _⟩ 3 0 rfl rfl rfl rfl rfl (Nat.le_of_ble_eq_true rfl) dX3_readsSet_33 (fun r_33 er_33 => ?_)
          refine z_if_eq (tgt := 71) X dX3_readsSet_36 (by decide) (fun c_36 => ?_) (fun c_36 => ?_)
          · refine z_lv (lv' := [(0, .ref (o 0)), (1, .int x1_27)]) [0, 1] rfl ?_
            exact kk_27 (x1_27, M_27) (by subst er_33; simp only [L_M_readsSet_27, if_pos c_36]) 
          · refine z_aload_n X dX3_readsSet_39 0 rfl ?_
            refine zM_g7 X wd2_133 dX3_readsSet_40 ?_
            refine z_aload_n X dX3_readsSet_43 0 rfl ?_
            refine zM_g9 X wd2_135 dX3_readsSet_44 ?_
            refine zM_l5 X (here_i hU.t hU.s (isHere_lt (by rw [← er_33]; exact c_36))) rfl dX3_readsSet_47 ?_
            refine z_topi (fun v_48 ev_48 => ?_)
            refine z_istore_n (lv' := [(2, .int v_48), (0, .ref (o 0)), (1, .int x1_27)]) X dX3_readsSet_48 (Nat.le_of_ble_eq_true rfl) rfl ?_
            refine z_iload_n X dX3_readsSet_49 2 rfl ?_
            refine z_iconst (v := (1 : Int32)) X dX3_readsSet_50 (by decide) ?_
            refine z_iload_n X dX3_readsSet_51 0 rfl ?_
            refine z_bipush (v := (48 : Int32)) X dX3_readsSet_52 (by decide) ?_
            refine z_isub X dX3_readsSet_54 ?_
            refine z_ishl X dX3_readsSet_55 ?_
            refine z_ior X dX3_readsSet_56 ?_
            refine z_topi (fun v_57 ev_57 => ?_)
            refine z_istore_n (lv' := [(1, .int v_57), (2, .int v_48), (0, .ref (o 0))]) X dX3_readsSet_57 (Nat.le_of_ble_eq_true rfl) rfl ?_
            refine z_aload_n X dX3_readsSet_58 2 rfl ?_
            refine z_dup X dX3_readsSet_59 rfl ?_
            refine zM_g9 X wd2_135 dX3_readsSet_60 ?_
            refine z_iconst (v := (1 : Int32)) X dX3_readsSet_63 (by decide) ?_
            refine z_iadd X dX3_readsSet_64 ?_
            refine zM_p9 X wd2_135 dX3_readsSet_65 (fun M_65 eM_65 => ?_)
            refine z_goto (tgt := 27) X dX3_readsSet_68 (by decide) ?_
            refine z_lv (lv' := [(0, .ref (o 0)), (1, .int v_57), (2, .int v_48)]) [2, 0, 1] rfl ?_
            exact ih_27 v_57 v_48 M_65 (by rw [eM_65]; exact TP_next hU (isHere_lt (by rw [← er_33]; exact c_36))) (by rw [eM_65]; exact hz_next hz (isHere_lt (by rw [← er_33]; exact c_36))) (fun q_27 eq_27 => kk_27 q_27 (eq_27.trans (by subst er_33 ev_48 ev_57 eM_65; simp only [L_M_readsSet_27, if_neg c_36])))
      refine Lp_27 61 (0 : Int32) (47 : Int32) r_5.2 (by rw [er_5]; exact takes_TP 45 hT) (by obtain ⟨k, t, h1, h2, h3, h4⟩ := takes_TP 45 hT; rw [er_5]; exact ⟨k, t, h1, h2, h3, h4, by omega⟩) (fun q_27 eq_27 => ?_)
      refine z_aload_n X dX3_readsSet_71 0 rfl ?_
      refine zM_g10 X wd2_136 dX3_readsSet_72 ?_
      refine z_aload_n X dX3_readsSet_75 0 rfl ?_
      refine zM_g11 X wd2_137 dX3_readsSet_76 ?_
      refine z_iload_n X dX3_readsSet_79 1 rfl ?_
      refine zM_s6 X (vin_k (bn_lt (by first | (rw [er_5, takes_7 _ _ (by decide)]; exact hr) | (rw [eq_27, L27_7 _ _ _ _ (by decide), er_5, takes_7 _ _ (by decide)]; exact hr))) (by omega) (by omega)) rfl dX3_readsSet_80 (fun M_80 eM_80 => ?_)
      refine z_aload_n X dX3_readsSet_81 0 rfl ?_
      refine z_dup X dX3_readsSet_82 rfl ?_
      refine zM_g11 X wd2_137 dX3_readsSet_83 ?_
      refine z_iconst (v := (1 : Int32)) X dX3_readsSet_86 (by decide) ?_
      refine z_iadd X dX3_readsSet_87 ?_
      refine zM_p11 X wd2_137 dX3_readsSet_88 (fun M_88 eM_88 => ?_)
      refine z_iconst (v := (1 : Int32)) X dX3_readsSet_91 (by decide) ?_
      exact z_zret X hQ rfl ((1 : Int32), M_88) rfl rfl (by subst er_5 er_16 eq_27 eM_80 eM_88; simp only [F_M_readsSet, if_pos c_8, if_neg c_19]) rfl dX3_readsSet_92
    · refine z_iconst (v := (0 : Int32)) X dX3_readsSet_22 (by decide) ?_
      exact z_zret X hQ rfl ((0 : Int32), r_5.2) rfl rfl (by subst er_5 er_16; simp only [F_M_readsSet, if_pos c_8, if_pos c_19]) rfl dX3_readsSet_23
set_option maxRecDepth 100000 in
set_option maxHeartbeats 4000000 in
theorem c_M_fault (l : Launch) (D : va_G) (kI kC kQ : ClassId) (o : Nat → Nat) (M : ARR) (ht : bn 0 60 (M 7 8)) : CtI (U := Int32 × ARR) l yX3_fault cX3_fault 2 (some .int) { frames := 4, cells := 0, slots := 0, locals := 91 } D (tysG kI kC kQ) (wM kI o M) [.ref (o 0)] (fun u => u.1) (fun u => (wM kI o u.2)) (fun u => u = F_M_fault M) := by
  refine met_Zi (own := "ShadowLatchesModel") (by decide +kernel) rfl (Nat.le_of_ble_eq_true rfl) ?_
  intro p e s m args below meth c A Q X hQ
  show Z p l e { frames := 4, cells := 0, slots := 0, locals := 91 } s m args below meth c D A 2 0 0 Q (wM kI o M) [(0, .ref (o 0))] 0 []
  refine z_aload_n X dX3_fault_0 0 rfl ?_
  refine z_iconst (v := (0 : Int32)) X dX3_fault_1 (by decide) ?_
  refine zM_p9 X wd2_135 dX3_fault_2 (fun M_2 eM_2 => ?_)
  refine z_aload_n X dX3_fault_5 0 rfl ?_
  refine z_iconst (v := (0 : Int32)) X dX3_fault_6 (by decide) ?_
  refine zM_p11 X wd2_137 dX3_fault_7 (fun M_7 eM_7 => ?_)
  refine z_iconst (v := (1 : Int32)) X dX3_fault_10 (by decide) ?_
  refine z_istore_n (lv' := [(1, .int (1 : Int32)), (0, .ref (o 0))]) X dX3_fault_11 (Nat.le_of_ble_eq_true rfl) rfl ?_
  refine z_lv (lv' := [(0, .ref (o 0)), (1, .int (1 : Int32))]) [1, 0] rfl ?_
  have Lp_12 : ∀ (n : Nat) (x1_12 : Int32) (M_12 : ARR), (FK n x1_12 M_12) → (F_M_fault M = L_M_fault_12 n x1_12 M_12) → Z p l e { frames := 4, cells := 0, slots := 0, locals := 91 } s m args below meth c D A 2 0 0 Q (wM kI o M_12) [(0, .ref (o 0)), (1, .int x1_12)] 12 [] := by
    intro n
    induction n with
    | zero =>
      intro x1_12 M_12 hi hF_12
      exfalso
      exact FK_0 hi
    | succ n ih_12 =>
      intro x1_12 M_12 hi hF_12
      refine z_iload_n X dX3_fault_12 1 rfl ?_
      refine z_if_eq (tgt := 55) X dX3_fault_13 (by decide) (fun c_13 => ?_) (fun c_13 => ?_)
      · refine z_aload_n X dX3_fault_55 0 rfl ?_
        refine zM_g9 X wd2_135 dX3_fault_56 ?_
        refine z_aload_n X dX3_fault_59 0 rfl ?_
        refine zM_g8 X wd2_134 dX3_fault_60 ?_
        have J_j_75 : ∀ j_75 : Int32, j_75 = (if (M_12 7 9) = (M_12 7 8) then ((-5 : Int32)) else ((M_12 7 9))) → Z p l e { frames := 4, cells := 0, slots := 0, locals := 91 } s m args below meth c D A 2 0 0 Q (wM kI o M_12) [] 75 [.int j_75] := by
          intro j_75 ej_75
          exact z_iret X hQ rfl (j_75, M_12) rfl rfl (by rw [hF_12]; subst ej_75; simp only [L_M_fault_12, if_pos c_13]) dX3_fault_75
        refine z_icmp_ne (tgt := 71) X dX3_fault_63 (by decide) (fun c_63 => ?_) (fun c_63 => ?_)
        · refine z_aload_n X dX3_fault_71 0 rfl ?_
          refine zM_g9 X wd2_135 dX3_fault_72 ?_
          refine z_lv (lv' := []) [] rfl ?_
          exact J_j_75 (M_12 7 9) (by simp only [if_neg c_63])
        · refine z_bipush (v := (-5 : Int32)) X dX3_fault_66 (by decide) ?_
          refine z_goto (tgt := 75) X dX3_fault_68 (by decide) ?_
          refine z_lv (lv' := []) [] rfl ?_
          exact J_j_75 (-5 : Int32) (by simp only [if_pos c_63])
      · refine z_aload_n X dX3_fault_16 0 rfl ?_
        refine z_callVi0 X (c_M_readsSet l D kI kC kQ o M_12 hi.1 (FK_15 hi c_13)) (gV wd2_227 wd2_229 wd0_16 wd1_4 wd2_230) k_M_readsSet rfl rfl ⟨Nat.le_of_ble_eq_true rfl, Nat.le_of_ble_eq_true rfl⟩ ⟨Nat.zero_le _, Nat.zero_le _⟩ 3 0 rfl rfl rfl rfl rfl (Nat.le_of_ble_eq_true rfl) dX3_fault_17 (fun r_17 er_17 => ?_)
        refine z_if_ne (tgt := 28) X dX3_fault_20 (by decide) (fun c_20 => ?_) (fun c_20 => ?_)
        · refine z_aload_n X dX3_fault_28 0 rfl ?_
          refine zM_g11 X wd2_137 dX3_fault_29 ?_
          refine z_bipush (v := (16 : Int32)) X dX3_fault_32 (by decide) ?_
          have J_j_51 : ∀ j_51 : Int32 × ARR, j_51 = (if (16 : Int32) ≤ (r_17.2 7 11) then (((0 : Int32), r_17.2)) else (let r_40 : Int32 × ARR := (F_M_takes r_17.2 (44 : Int32)); if r_40.1 = (0 : Int32) then (((0 : Int32), r_40.2)) else (((1 : Int32), r_40.2)))) → (FK n j_51.1 j_51.2) → Z p l e { frames := 4, cells := 0, slots := 0, locals := 91 } s m args below meth c D A 2 0 0 Q (wM kI o j_51.2) [(0, .ref (o 0))] 51 [.int j_51.1] := by
            intro j_51 ej_51 hk
            refine z_istore_n (lv' := [(1, .int j_51.1), (0, .ref (o 0))]) X dX3_fault_51 (Nat.le_of_ble_eq_true rfl) rfl ?_
            refine z_goto (tgt := 12) X dX3_fault_52 (by decide) ?_
            refine z_lv (lv' := [(0, .ref (o 0)), (1, .int j_51.1)]) [1, 0] rfl ?_
            exact ih_12 j_51.1 j_51.2 hk (hF_12.trans (by subst er_17 ej_51; simp only [L_M_fault_12, if_neg c_13, if_neg c_20]))
          refine z_icmp_ge (tgt := 50) X dX3_fault_34 (by decide) (fun c_34 => ?_) (fun c_34 => ?_)
          · refine z_iconst (v := (0 : Int32)) X dX3_fault_50 (by decide) ?_
            refine z_lv (lv' := [(0, .ref (o 0))]) [0] rfl ?_
            exact J_j_51 ((0 : Int32), r_17.2) (by simp only [if_pos c_34]) (FK_a (M := r_17.2) (FK_r hi c_13 er_17 c_20))
          · refine z_aload_n X dX3_fault_37 0 rfl ?_
            refine z_bipush (v := (44 : Int32)) X dX3_fault_38 (by decide) ?_
            refine z_callVi0 X (c_M_takes l D kI kC kQ o r_17.2 (44 : Int32) (FK_r hi c_13 er_17 c_20).1.s (FK_r hi c_13 er_17 c_20).1.t) (gV wd2_231 wd2_233 wd0_17 wd1_4 wd2_234) k_M_takes rfl rfl ⟨Nat.le_of_ble_eq_true rfl, Nat.le_of_ble_eq_true rfl⟩ ⟨Nat.zero_le _, Nat.zero_le _⟩ 3 0 rfl rfl rfl rfl rfl (Nat.le_of_ble_eq_true rfl) dX3_fault_40 (fun r_40 er_40 => ?_)
            refine z_if_eq (tgt := 50) X dX3_fault_43 (by decide) (fun c_43 => ?_) (fun c_43 => ?_)
            · refine z_iconst (v := (0 : Int32)) X dX3_fault_50 (by decide) ?_
              refine z_lv (lv' := [(0, .ref (o 0))]) [0] rfl ?_
              exact J_j_51 ((0 : Int32), r_40.2) (by subst er_40; simp only [if_neg c_34, if_pos c_43]) (by rw [er_40]; exact FK_a (FK_t 44 (FK_r hi c_13 er_17 c_20)))
            · refine z_iconst (v := (1 : Int32)) X dX3_fault_46 (by decide) ?_
              refine z_goto (tgt := 51) X dX3_fault_47 (by decide) ?_
              refine z_lv (lv' := [(0, .ref (o 0))]) [0] rfl ?_
              exact J_j_51 ((1 : Int32), r_40.2) (by subst er_40; simp only [if_neg c_34, if_neg c_43]) (by rw [er_40]; exact FK_b 44 (FK_r hi c_13 er_17 c_20) c_34)
        · refine z_aload_n X dX3_fault_23 0 rfl ?_
          refine zM_g9 X wd2_135 dX3_fault_24 ?_
          exact z_iret X hQ rfl ((r_17.2 7 9), r_17.2) rfl rfl (by rw [hF_12]; subst er_17; simp only [L_M_fault_12, if_neg c_13, if_pos c_20]) dX3_fault_27
  exact Lp_12 17 (1 : Int32) M_7 (by rw [eM_7, eM_2]; exact FK_i ht) (by subst eM_2 eM_7; simp only [F_M_fault])
set_option maxRecDepth 100000 in
set_option maxHeartbeats 4000000 in
theorem c_M_takeWorkload (l : Launch) (D : va_G) (kI kC kQ : ClassId) (o : Nat → Nat) (M : ARR) (hI : IA (M 0)) (hh : bn 0 4 (M 7 4)) (ht : bn 0 60 (M 7 8)) : CtI (U := Int32 × ARR) l yX3_takeWorkload cX3_takeWorkload 3 (some .int) { frames := 5, cells := 0, slots := 0, locals := 112 } D (tysG kI kC kQ) (wM kI o M) [.ref (o 0)] (fun u => u.1) (fun u => (wM kI o u.2)) (fun u => u = F_M_takeWorkload M) := by
  refine met_Zi (own := "ShadowLatchesModel") (by decide +kernel) rfl (Nat.le_of_ble_eq_true rfl) ?_
  intro p e s m args below meth c A Q X hQ
  show Z p l e { frames := 5, cells := 0, slots := 0, locals := 112 } s m args below meth c D A 3 0 0 Q (wM kI o M) [(0, .ref (o 0))] 0 []
  refine z_aload_n X dX3_takeWorkload_0 0 rfl ?_
  refine z_callVi0 X (c_M_fault l D kI kC kQ o M ht) (gV wd2_223 wd2_225 wd0_15 wd1_4 wd2_226) k_M_fault rfl rfl ⟨Nat.le_of_ble_eq_true rfl, Nat.le_of_ble_eq_true rfl⟩ ⟨Nat.zero_le _, Nat.zero_le _⟩ 3 0 rfl rfl rfl rfl rfl (Nat.le_of_ble_eq_true rfl) dX3_takeWorkload_1 (fun r_1 er_1 => ?_)
  obtain ⟨K, hK1, hK2, hK⟩ : bn 0 16 (r_1.2 7 11) := by rw [er_1]; exact fault_n ht
  have h74 : r_1.2 7 4 = M 7 4 := by rw [er_1]; exact fault_7 ht (by decide) (by decide)
  refine z_istore_n (lv' := [(1, .int r_1.1), (0, .ref (o 0))]) X dX3_takeWorkload_4 (Nat.le_of_ble_eq_true rfl) rfl ?_
  refine z_iload_n X dX3_takeWorkload_5 0 rfl ?_
  refine z_bipush (v := (-5 : Int32)) X dX3_takeWorkload_6 (by decide) ?_
  refine z_icmp_eq (tgt := 16) X dX3_takeWorkload_8 (by decide) (fun c_8 => ?_) (fun c_8 => ?_)
  · refine z_iconst (v := (0 : Int32)) X dX3_takeWorkload_16 (by decide) ?_
    refine z_istore_n (lv' := [(2, .int (0 : Int32)), (1, .int r_1.1), (0, .ref (o 0))]) X dX3_takeWorkload_17 (Nat.le_of_ble_eq_true rfl) rfl ?_
    refine z_lv (lv' := [(0, .ref (o 0)), (2, .int (0 : Int32))]) [2, 0] rfl ?_
    have Lp_18 : ∀ (n : Nat) (x2_18 : Int32), (cu K n x2_18) → (F_M_takeWorkload M = L_M_takeWorkload_18 r_1 n x2_18) → Z p l e { frames := 5, cells := 0, slots := 0, locals := 112 } s m args below meth c D A 3 0 0 Q (wM kI o r_1.2) [(0, .ref (o 0)), (2, .int x2_18)] 18 [] := by
      intro n
      induction n with
      | zero =>
        intro x2_18 hi hF_18
        exfalso
        exact cu_0 hi
      | succ n ih_18 =>
        intro x2_18 hi hF_18
        refine z_iload_n X dX3_takeWorkload_18 1 rfl ?_
        refine z_aload_n X dX3_takeWorkload_19 0 rfl ?_
        refine zM_g11 X wd2_137 dX3_takeWorkload_20 ?_
        refine z_icmp_ge (tgt := 52) X dX3_takeWorkload_23 (by decide) (fun c_23 => ?_) (fun c_23 => ?_)
        · refine z_aload_n X dX3_takeWorkload_52 0 rfl ?_
          refine z_callVv0 X (c_M_remember l D kI kC kQ o r_1.2) (gV wd2_175 wd2_177 wd0_10 wd1_4 wd2_178) k_M_remember rfl rfl ⟨Nat.le_of_ble_eq_true rfl, Nat.le_of_ble_eq_true rfl⟩ ⟨Nat.zero_le _, Nat.zero_le _⟩ 3 0 rfl rfl rfl rfl rfl (Nat.le_of_ble_eq_true rfl) dX3_takeWorkload_53 (fun r_53 er_53 => ?_)
          refine z_iconst (v := (0 : Int32)) X dX3_takeWorkload_56 (by decide) ?_
          refine z_istore_n (lv' := [(2, .int (0 : Int32)), (0, .ref (o 0))]) X dX3_takeWorkload_57 (Nat.le_of_ble_eq_true rfl) rfl ?_
          refine z_lv (lv' := [(0, .ref (o 0)), (2, .int (0 : Int32))]) [1, 0] rfl ?_
          have Lp_58 : ∀ (n : Nat) (x2_58 : Int32) (M_58 : ARR), (cu K n x2_58) → (M_58 7 11 = nI K) → (M_58 7 4 = M 7 4) → (∀ q_58 : ARR, q_58 = L_M_takeWorkload_58 n x2_58 M_58 → (q_58 7 11 = nI K) → (q_58 7 4 = M 7 4) → Z p l e { frames := 5, cells := 0, slots := 0, locals := 112 } s m args below meth c D A 3 0 0 Q (wM kI o q_58) [(0, .ref (o 0))] 87 []) → Z p l e { frames := 5, cells := 0, slots := 0, locals := 112 } s m args below meth c D A 3 0 0 Q (wM kI o M_58) [(0, .ref (o 0)), (2, .int x2_58)] 58 [] := by
            intro n
            induction n with
            | zero =>
              intro x2_58 M_58 hi hp hm kk_58
              exfalso
              exact cu_0 hi
            | succ n ih_58 =>
              intro x2_58 M_58 hi hp hm kk_58
              refine z_iload_n X dX3_takeWorkload_58 1 rfl ?_
              refine z_aload_n X dX3_takeWorkload_59 0 rfl ?_
              refine zM_g11 X wd2_137 dX3_takeWorkload_60 ?_
              refine z_icmp_ge (tgt := 87) X dX3_takeWorkload_63 (by decide) (fun c_63 => ?_) (fun c_63 => ?_)
              · refine z_lv (lv' := [(0, .ref (o 0))]) [0] rfl ?_
                exact kk_58 M_58 (by simp only [L_M_takeWorkload_58, if_pos c_63]) hp hm
              · refine z_aload_n X dX3_takeWorkload_66 0 rfl ?_
                refine zM_g0 X wd2_126 dX3_takeWorkload_67 ?_
                refine z_bipush (v := (16 : Int32)) X dX3_takeWorkload_70 (by decide) ?_
                refine z_iload_n X dX3_takeWorkload_72 1 rfl ?_
                refine z_iadd X dX3_takeWorkload_73 ?_
                refine z_aload_n X dX3_takeWorkload_74 0 rfl ?_
                refine zM_g10 X wd2_136 dX3_takeWorkload_75 ?_
                refine z_iload_n X dX3_takeWorkload_78 1 rfl ?_
                refine zM_l6 X (vin_k (cu_lt hi (by omega) hp c_63) (by omega) (by omega)) rfl dX3_takeWorkload_79 ?_
                refine zM_s0 X (vin_a 16 (cu_lt hi (by omega) hp c_63) (by omega) (by omega)) rfl dX3_takeWorkload_80 (fun M_80 eM_80 => ?_)
                obtain ⟨v_81, ev_81⟩ : ∃ y : Int32, y = x2_58 + (1 : Int32) := ⟨_, rfl⟩
                refine z_iinc (v := v_81) (lv' := [(2, .int v_81), (0, .ref (o 0))]) X dX3_takeWorkload_81 1 rfl (by rw [ev_81]; rfl) (Nat.le_of_ble_eq_true rfl) rfl ?_
                refine z_goto (tgt := 58) X dX3_takeWorkload_84 (by decide) ?_
                refine z_lv (lv' := [(0, .ref (o 0)), (2, .int v_81)]) [1, 0] rfl ?_
                exact ih_58 v_81 M_80 (cu_b hi (by omega) hp c_63 ev_81) (by rw [eM_80, sA_o _ _ _ _ (by decide)]; exact hp) (by rw [eM_80, sA_o _ _ _ _ (by decide)]; exact hm) (fun q_58 eq_58 => kk_58 q_58 (eq_58.trans (by subst eM_80 ev_81; simp only [L_M_takeWorkload_58, if_neg c_63])))
          refine Lp_58 17 (0 : Int32) r_53 (cu_i (by omega)) (by rw [er_53, rem_o _ (by decide)]; exact hK) (by rw [er_53, rem_o _ (by decide)]; exact h74) (fun q_58 eq_58 hq hm4 => ?_)
          refine z_aload_n X dX3_takeWorkload_87 0 rfl ?_
          refine z_aload_n X dX3_takeWorkload_88 0 rfl ?_
          refine zM_g11 X wd2_137 dX3_takeWorkload_89 ?_
          refine z_callVv0 X (c_M_begins l D kI kC kQ o q_58 (q_58 7 11) (bn_w ⟨K, hK1, hK2, hq⟩ (by omega) (by omega))) (gV wd2_207 wd2_209 wd0_14 wd1_4 wd2_210) k_M_begins rfl rfl ⟨Nat.le_of_ble_eq_true rfl, Nat.le_of_ble_eq_true rfl⟩ ⟨Nat.zero_le _, Nat.zero_le _⟩ 3 0 rfl rfl rfl rfl rfl (Nat.le_of_ble_eq_true rfl) dX3_takeWorkload_92 (fun r_92 er_92 => ?_)
          refine z_aload_n X dX3_takeWorkload_95 0 rfl ?_
          refine z_aload_n X dX3_takeWorkload_96 0 rfl ?_
          refine zM_g11 X wd2_137 dX3_takeWorkload_97 ?_
          refine z_callVi0 X (c_M_acted l D kI kC kQ o r_92 (r_92 7 11) (by rw [er_92, begins_o _ _ (by decide), hm4]; exact hh)) (gV wd2_182 wd2_184 wd0_11 wd1_4 wd2_185) k_M_acted rfl rfl ⟨Nat.le_of_ble_eq_true rfl, Nat.le_of_ble_eq_true rfl⟩ ⟨Nat.zero_le _, Nat.zero_le _⟩ 3 0 rfl rfl rfl rfl rfl (Nat.le_of_ble_eq_true rfl) dX3_takeWorkload_100 (fun r_100 er_100 => ?_)
          exact z_iret X hQ rfl (r_100.1, r_100.2) rfl rfl (by rw [hF_18]; subst er_53 eq_58 er_92 er_100; simp only [L_M_takeWorkload_18, if_pos c_23]) dX3_takeWorkload_103
        · refine z_aload_n X dX3_takeWorkload_26 0 rfl ?_
          refine zM_g10 X wd2_136 dX3_takeWorkload_27 ?_
          refine z_iload_n X dX3_takeWorkload_30 1 rfl ?_
          refine zM_l6 X (vin_k (cu_lt hi (by omega) hK c_23) (by omega) (by omega)) rfl dX3_takeWorkload_31 ?_
          refine z_iconst (v := (1 : Int32)) X dX3_takeWorkload_32 (by decide) ?_
          refine z_aload_n X dX3_takeWorkload_33 0 rfl ?_
          refine zM_g0 X wd2_126 dX3_takeWorkload_34 ?_
          refine z_bipush (v := (51 : Int32)) X dX3_takeWorkload_37 (by decide) ?_
          refine zM_l0 X vi_51_55 cl_51 dX3_takeWorkload_39 ?_
          refine z_ishl X dX3_takeWorkload_40 ?_
          refine z_icmp_lt (tgt := 46) X dX3_takeWorkload_41 (by decide) (fun c_41 => ?_) (fun c_41 => ?_)
          · obtain ⟨v_46, ev_46⟩ : ∃ y : Int32, y = x2_18 + (1 : Int32) := ⟨_, rfl⟩
            refine z_iinc (v := v_46) (lv' := [(2, .int v_46), (0, .ref (o 0))]) X dX3_takeWorkload_46 1 rfl (by rw [ev_46]; rfl) (Nat.le_of_ble_eq_true rfl) rfl ?_
            refine z_goto (tgt := 18) X dX3_takeWorkload_49 (by decide) ?_
            refine z_lv (lv' := [(0, .ref (o 0)), (2, .int v_46)]) [1, 0] rfl ?_
            exact ih_18 v_46 (cu_b hi (by omega) hK c_23 ev_46) (hF_18.trans (by subst ev_46; simp only [L_M_takeWorkload_18, if_neg c_23, if_pos c_41]))
          · refine z_iconst (v := (-1 : Int32)) X dX3_takeWorkload_44 (by decide) ?_
            exact z_iret X hQ rfl ((-1 : Int32), r_1.2) rfl rfl (by rw [hF_18]; simp only [L_M_takeWorkload_18, if_neg c_23, if_neg c_41]) dX3_takeWorkload_45
    exact Lp_18 17 (0 : Int32) (cu_i (by omega)) (by subst er_1; simp only [F_M_takeWorkload, if_pos c_8])
  · refine z_bipush (v := (-100 : Int32)) X dX3_takeWorkload_11 (by decide) ?_
    refine z_iload_n X dX3_takeWorkload_13 0 rfl ?_
    refine z_isub X dX3_takeWorkload_14 ?_
    exact z_iret X hQ rfl (((-100 : Int32) - r_1.1), r_1.2) rfl rfl (by subst er_1; simp only [F_M_takeWorkload, if_neg c_8]) dX3_takeWorkload_15
end
