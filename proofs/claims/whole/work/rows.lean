section
-- ===== PART A: goes FIRST, ahead of the names: the tables' words, and 'selects' of the private methods out of them =====
/-- a private method of a class that the tables say can be made, by its rows of tables_1 -/
def lw_okq (q : MethodName × Nat) : Prop := (q.1.cls ≠ "java/lang/invoke/MethodHandle" ∧ q.1.cls ≠ "java/lang/invoke/VarHandle") ∧ Cond.instantiable q.1.cls q.2 ∈ tables_1 ∧ Cond.privateMethod q.1 ∈ tables_1 ∧ Cond.instanceMethod q.1 ∈ tables_1
theorem lw_p0 : lw_okq (⟨"QuietWatch", "workerAt", "(I)LQuietWatch$Worker;"⟩, 11) := ⟨⟨by decide +kernel, by decide +kernel⟩, List.mem_of_getElem? (i := 9) (by decide +kernel), List.mem_of_getElem? (i := 164) (by decide +kernel), List.mem_of_getElem? (i := 165) (by decide +kernel)⟩
theorem lw_p1 : lw_okq (⟨"QuietWatch", "isProcess", "(I)Z"⟩, 11) := ⟨⟨by decide +kernel, by decide +kernel⟩, List.mem_of_getElem? (i := 9) (by decide +kernel), List.mem_of_getElem? (i := 168) (by decide +kernel), List.mem_of_getElem? (i := 169) (by decide +kernel)⟩
theorem lw_p2 : lw_okq (⟨"QuietWatch", "rowBetween", "(II)LQuietWatch$Row;"⟩, 11) := ⟨⟨by decide +kernel, by decide +kernel⟩, List.mem_of_getElem? (i := 9) (by decide +kernel), List.mem_of_getElem? (i := 172) (by decide +kernel), List.mem_of_getElem? (i := 173) (by decide +kernel)⟩
theorem lw_p3 : lw_okq (⟨"QuietWatch$Row", "grow", "()V"⟩, 4) := ⟨⟨by decide +kernel, by decide +kernel⟩, List.mem_of_getElem? (i := 78) (by decide +kernel), List.mem_of_getElem? (i := 188) (by decide +kernel), List.mem_of_getElem? (i := 189) (by decide +kernel)⟩
theorem lw_p4 : lw_okq (⟨"QuietWatch$Row", "placeOf", "(I)I"⟩, 4) := ⟨⟨by decide +kernel, by decide +kernel⟩, List.mem_of_getElem? (i := 78) (by decide +kernel), List.mem_of_getElem? (i := 192) (by decide +kernel), List.mem_of_getElem? (i := 193) (by decide +kernel)⟩
theorem lw_p5 : lw_okq (⟨"QuietWatch", "leaveTreeIfDone", "(ILQuietWatch$Worker;)V"⟩, 11) := ⟨⟨by decide +kernel, by decide +kernel⟩, List.mem_of_getElem? (i := 9) (by decide +kernel), List.mem_of_getElem? (i := 206) (by decide +kernel), List.mem_of_getElem? (i := 207) (by decide +kernel)⟩
theorem lw_p6 : lw_okq (⟨"QuietWatch", "isInTree", "(ILQuietWatch$Worker;)Z"⟩, 11) := ⟨⟨by decide +kernel, by decide +kernel⟩, List.mem_of_getElem? (i := 9) (by decide +kernel), List.mem_of_getElem? (i := 210) (by decide +kernel), List.mem_of_getElem? (i := 211) (by decide +kernel)⟩
theorem lw_p7 : lw_okq (⟨"QuietWatch", "judgeEnd", "()V"⟩, 11) := ⟨⟨by decide +kernel, by decide +kernel⟩, List.mem_of_getElem? (i := 9) (by decide +kernel), List.mem_of_getElem? (i := 214) (by decide +kernel), List.mem_of_getElem? (i := 215) (by decide +kernel)⟩
theorem lw_p8 : lw_okq (⟨"QuietWatch", "worksUnderWay", "()I"⟩, 11) := ⟨⟨by decide +kernel, by decide +kernel⟩, List.mem_of_getElem? (i := 9) (by decide +kernel), List.mem_of_getElem? (i := 222) (by decide +kernel), List.mem_of_getElem? (i := 223) (by decide +kernel)⟩
theorem lw_p9 : lw_okq (⟨"QuietWatch", "put", "(III)V"⟩, 11) := ⟨⟨by decide +kernel, by decide +kernel⟩, List.mem_of_getElem? (i := 9) (by decide +kernel), List.mem_of_getElem? (i := 226) (by decide +kernel), List.mem_of_getElem? (i := 227) (by decide +kernel)⟩
theorem lw_p10 : lw_okq (⟨"QuietWatch", "putToEach", "(III)V"⟩, 11) := ⟨⟨by decide +kernel, by decide +kernel⟩, List.mem_of_getElem? (i := 9) (by decide +kernel), List.mem_of_getElem? (i := 240) (by decide +kernel), List.mem_of_getElem? (i := 241) (by decide +kernel)⟩
theorem lw_p11 : lw_okq (⟨"QuietWatch", "giveToken", "(II)V"⟩, 11) := ⟨⟨by decide +kernel, by decide +kernel⟩, List.mem_of_getElem? (i := 9) (by decide +kernel), List.mem_of_getElem? (i := 273) (by decide +kernel), List.mem_of_getElem? (i := 274) (by decide +kernel)⟩
theorem lw_p12 : lw_okq (⟨"QuietWatch", "takeWork", "(IILQuietWatch$Worker;)V"⟩, 11) := ⟨⟨by decide +kernel, by decide +kernel⟩, List.mem_of_getElem? (i := 9) (by decide +kernel), List.mem_of_getElem? (i := 294) (by decide +kernel), List.mem_of_getElem? (i := 295) (by decide +kernel)⟩
theorem lw_p13 : lw_okq (⟨"QuietWatch", "takeProbe", "(IILQuietWatch$Worker;I)V"⟩, 11) := ⟨⟨by decide +kernel, by decide +kernel⟩, List.mem_of_getElem? (i := 9) (by decide +kernel), List.mem_of_getElem? (i := 298) (by decide +kernel), List.mem_of_getElem? (i := 299) (by decide +kernel)⟩
theorem lw_p14 : lw_okq (⟨"QuietWatch", "tellDead", "(ILQuietWatch$Worker;)V"⟩, 11) := ⟨⟨by decide +kernel, by decide +kernel⟩, List.mem_of_getElem? (i := 9) (by decide +kernel), List.mem_of_getElem? (i := 305) (by decide +kernel), List.mem_of_getElem? (i := 306) (by decide +kernel)⟩
theorem lw_p15 : lw_okq (⟨"QuietWatch", "isInRing", "(I)Z"⟩, 11) := ⟨⟨by decide +kernel, by decide +kernel⟩, List.mem_of_getElem? (i := 9) (by decide +kernel), List.mem_of_getElem? (i := 309) (by decide +kernel), List.mem_of_getElem? (i := 310) (by decide +kernel)⟩
def lw_privs_1 : List (MethodName × Nat) := [(⟨"QuietWatch", "workerAt", "(I)LQuietWatch$Worker;"⟩, 11), (⟨"QuietWatch", "isProcess", "(I)Z"⟩, 11), (⟨"QuietWatch", "rowBetween", "(II)LQuietWatch$Row;"⟩, 11), (⟨"QuietWatch$Row", "grow", "()V"⟩, 4), (⟨"QuietWatch$Row", "placeOf", "(I)I"⟩, 4), (⟨"QuietWatch", "leaveTreeIfDone", "(ILQuietWatch$Worker;)V"⟩, 11), (⟨"QuietWatch", "isInTree", "(ILQuietWatch$Worker;)Z"⟩, 11), (⟨"QuietWatch", "judgeEnd", "()V"⟩, 11), (⟨"QuietWatch", "worksUnderWay", "()I"⟩, 11), (⟨"QuietWatch", "put", "(III)V"⟩, 11), (⟨"QuietWatch", "putToEach", "(III)V"⟩, 11), (⟨"QuietWatch", "giveToken", "(II)V"⟩, 11), (⟨"QuietWatch", "takeWork", "(IILQuietWatch$Worker;)V"⟩, 11), (⟨"QuietWatch", "takeProbe", "(IILQuietWatch$Worker;I)V"⟩, 11), (⟨"QuietWatch", "tellDead", "(ILQuietWatch$Worker;)V"⟩, 11), (⟨"QuietWatch", "isInRing", "(I)Z"⟩, 11)]
theorem lw_r1 : ∀ q ∈ lw_privs_1, lw_okq q := List.forall_mem_cons.mpr ⟨lw_p0, List.forall_mem_cons.mpr ⟨lw_p1, List.forall_mem_cons.mpr ⟨lw_p2, List.forall_mem_cons.mpr ⟨lw_p3, List.forall_mem_cons.mpr ⟨lw_p4, List.forall_mem_cons.mpr ⟨lw_p5, List.forall_mem_cons.mpr ⟨lw_p6, List.forall_mem_cons.mpr ⟨lw_p7, List.forall_mem_cons.mpr ⟨lw_p8, List.forall_mem_cons.mpr ⟨lw_p9, List.forall_mem_cons.mpr ⟨lw_p10, List.forall_mem_cons.mpr ⟨lw_p11, List.forall_mem_cons.mpr ⟨lw_p12, List.forall_mem_cons.mpr ⟨lw_p13, List.forall_mem_cons.mpr ⟨lw_p14, List.forall_mem_cons.mpr ⟨lw_p15, fun _ h => absurd h List.not_mem_nil⟩⟩⟩⟩⟩⟩⟩⟩⟩⟩⟩⟩⟩⟩⟩⟩
theorem lw_p16 : lw_okq (⟨"QuietWatch", "messagesUnderWay", "()I"⟩, 11) := ⟨⟨by decide +kernel, by decide +kernel⟩, List.mem_of_getElem? (i := 9) (by decide +kernel), List.mem_of_getElem? (i := 361) (by decide +kernel), List.mem_of_getElem? (i := 362) (by decide +kernel)⟩
theorem lw_p17 : lw_okq (⟨"QuietWatchModel", "counted", "(II)I"⟩, 27) := ⟨⟨by decide +kernel, by decide +kernel⟩, List.mem_of_getElem? (i := 368) (by decide +kernel), List.mem_of_getElem? (i := 465) (by decide +kernel), List.mem_of_getElem? (i := 466) (by decide +kernel)⟩
theorem lw_p18 : lw_okq (⟨"QuietWatchModel", "isRow", "(II)Z"⟩, 27) := ⟨⟨by decide +kernel, by decide +kernel⟩, List.mem_of_getElem? (i := 368) (by decide +kernel), List.mem_of_getElem? (i := 477) (by decide +kernel), List.mem_of_getElem? (i := 478) (by decide +kernel)⟩
theorem lw_p19 : lw_okq (⟨"QuietWatchModel", "isOne", "(I)Z"⟩, 27) := ⟨⟨by decide +kernel, by decide +kernel⟩, List.mem_of_getElem? (i := 368) (by decide +kernel), List.mem_of_getElem? (i := 481) (by decide +kernel), List.mem_of_getElem? (i := 482) (by decide +kernel)⟩
theorem lw_p20 : lw_okq (⟨"QuietWatchModel", "isFree", "(I)Z"⟩, 27) := ⟨⟨by decide +kernel, by decide +kernel⟩, List.mem_of_getElem? (i := 368) (by decide +kernel), List.mem_of_getElem? (i := 485) (by decide +kernel), List.mem_of_getElem? (i := 486) (by decide +kernel)⟩
theorem lw_p21 : lw_okq (⟨"QuietWatchModel", "isBlocked", "(I)Z"⟩, 27) := ⟨⟨by decide +kernel, by decide +kernel⟩, List.mem_of_getElem? (i := 368) (by decide +kernel), List.mem_of_getElem? (i := 489) (by decide +kernel), List.mem_of_getElem? (i := 490) (by decide +kernel)⟩
theorem lw_p22 : lw_okq (⟨"QuietWatchModel", "waitsFor", "(I)I"⟩, 27) := ⟨⟨by decide +kernel, by decide +kernel⟩, List.mem_of_getElem? (i := 368) (by decide +kernel), List.mem_of_getElem? (i := 493) (by decide +kernel), List.mem_of_getElem? (i := 494) (by decide +kernel)⟩
theorem lw_p23 : lw_okq (⟨"QuietWatchModel", "sends", "(IIIII)V"⟩, 27) := ⟨⟨by decide +kernel, by decide +kernel⟩, List.mem_of_getElem? (i := 368) (by decide +kernel), List.mem_of_getElem? (i := 497) (by decide +kernel), List.mem_of_getElem? (i := 498) (by decide +kernel)⟩
theorem lw_p24 : lw_okq (⟨"QuietWatchModel", "settles", "()V"⟩, 27) := ⟨⟨by decide +kernel, by decide +kernel⟩, List.mem_of_getElem? (i := 368) (by decide +kernel), List.mem_of_getElem? (i := 505) (by decide +kernel), List.mem_of_getElem? (i := 506) (by decide +kernel)⟩
theorem lw_p25 : lw_okq (⟨"QuietWatchModel", "isInTree", "(I)Z"⟩, 27) := ⟨⟨by decide +kernel, by decide +kernel⟩, List.mem_of_getElem? (i := 368) (by decide +kernel), List.mem_of_getElem? (i := 509) (by decide +kernel), List.mem_of_getElem? (i := 510) (by decide +kernel)⟩
theorem lw_p26 : lw_okq (⟨"QuietWatchModel", "probes", "(III)V"⟩, 27) := ⟨⟨by decide +kernel, by decide +kernel⟩, List.mem_of_getElem? (i := 368) (by decide +kernel), List.mem_of_getElem? (i := 526) (by decide +kernel), List.mem_of_getElem? (i := 527) (by decide +kernel)⟩
theorem lw_p27 : lw_okq (⟨"QuietWatchModel", "work", "(II)V"⟩, 27) := ⟨⟨by decide +kernel, by decide +kernel⟩, List.mem_of_getElem? (i := 368) (by decide +kernel), List.mem_of_getElem? (i := 538) (by decide +kernel), List.mem_of_getElem? (i := 539) (by decide +kernel)⟩
theorem lw_p28 : lw_okq (⟨"QuietWatchModel", "probed", "(IIII)V"⟩, 27) := ⟨⟨by decide +kernel, by decide +kernel⟩, List.mem_of_getElem? (i := 368) (by decide +kernel), List.mem_of_getElem? (i := 542) (by decide +kernel), List.mem_of_getElem? (i := 543) (by decide +kernel)⟩
theorem lw_p29 : lw_okq (⟨"QuietWatchModel", "isInRing", "(I)Z"⟩, 27) := ⟨⟨by decide +kernel, by decide +kernel⟩, List.mem_of_getElem? (i := 368) (by decide +kernel), List.mem_of_getElem? (i := 546) (by decide +kernel), List.mem_of_getElem? (i := 547) (by decide +kernel)⟩
theorem lw_p30 : lw_okq (⟨"QuietWatchModel", "hangs", "(II)Z"⟩, 27) := ⟨⟨by decide +kernel, by decide +kernel⟩, List.mem_of_getElem? (i := 368) (by decide +kernel), List.mem_of_getElem? (i := 550) (by decide +kernel), List.mem_of_getElem? (i := 551) (by decide +kernel)⟩
theorem lw_p31 : lw_okq (⟨"QuietWatchModel", "pendingAt", "(I)I"⟩, 27) := ⟨⟨by decide +kernel, by decide +kernel⟩, List.mem_of_getElem? (i := 368) (by decide +kernel), List.mem_of_getElem? (i := 568) (by decide +kernel), List.mem_of_getElem? (i := 569) (by decide +kernel)⟩
def lw_privs_2 : List (MethodName × Nat) := [(⟨"QuietWatch", "messagesUnderWay", "()I"⟩, 11), (⟨"QuietWatchModel", "counted", "(II)I"⟩, 27), (⟨"QuietWatchModel", "isRow", "(II)Z"⟩, 27), (⟨"QuietWatchModel", "isOne", "(I)Z"⟩, 27), (⟨"QuietWatchModel", "isFree", "(I)Z"⟩, 27), (⟨"QuietWatchModel", "isBlocked", "(I)Z"⟩, 27), (⟨"QuietWatchModel", "waitsFor", "(I)I"⟩, 27), (⟨"QuietWatchModel", "sends", "(IIIII)V"⟩, 27), (⟨"QuietWatchModel", "settles", "()V"⟩, 27), (⟨"QuietWatchModel", "isInTree", "(I)Z"⟩, 27), (⟨"QuietWatchModel", "probes", "(III)V"⟩, 27), (⟨"QuietWatchModel", "work", "(II)V"⟩, 27), (⟨"QuietWatchModel", "probed", "(IIII)V"⟩, 27), (⟨"QuietWatchModel", "isInRing", "(I)Z"⟩, 27), (⟨"QuietWatchModel", "hangs", "(II)Z"⟩, 27), (⟨"QuietWatchModel", "pendingAt", "(I)I"⟩, 27)]
theorem lw_r2 : ∀ q ∈ lw_privs_2, lw_okq q := List.forall_mem_cons.mpr ⟨lw_p16, List.forall_mem_cons.mpr ⟨lw_p17, List.forall_mem_cons.mpr ⟨lw_p18, List.forall_mem_cons.mpr ⟨lw_p19, List.forall_mem_cons.mpr ⟨lw_p20, List.forall_mem_cons.mpr ⟨lw_p21, List.forall_mem_cons.mpr ⟨lw_p22, List.forall_mem_cons.mpr ⟨lw_p23, List.forall_mem_cons.mpr ⟨lw_p24, List.forall_mem_cons.mpr ⟨lw_p25, List.forall_mem_cons.mpr ⟨lw_p26, List.forall_mem_cons.mpr ⟨lw_p27, List.forall_mem_cons.mpr ⟨lw_p28, List.forall_mem_cons.mpr ⟨lw_p29, List.forall_mem_cons.mpr ⟨lw_p30, List.forall_mem_cons.mpr ⟨lw_p31, fun _ h => absurd h List.not_mem_nil⟩⟩⟩⟩⟩⟩⟩⟩⟩⟩⟩⟩⟩⟩⟩⟩
def lw_privs : List (MethodName × Nat) := lw_privs_1 ++ (lw_privs_2)
def lw_tbl : List Cond := k2_sels lw_privs ++ tables_1
theorem lw_privs_ok : ∀ q ∈ lw_privs, lw_okq q := by
  show ∀ q ∈ lw_privs_1 ++ (lw_privs_2), lw_okq q
  exact List.forall_mem_append.mpr ⟨lw_r1, lw_r2⟩
def RX0 : String := "QuietWatch$Row"
def TX0 : u_T := fun k => match k with
  | 0 => ("QuietWatch$Row", "cells", "[I", false)
  | 1 => ("QuietWatch$Row", "first", "I", false)
  | 2 => ("QuietWatch$Row", "size", "I", false)
  | _ => ("QuietWatch$Row", "works", "I", false)
def tyX0 : Nat → FieldType := fun k => match k with
  | 0 => .array .int
  | 1 => .int
  | 2 => .int
  | _ => .int
abbrev wsX00 : List Cond := u_ws RX0 TX0 4
theorem nmX0 : ∀ a, a < 4 → ∀ b, b < 4 → a ≠ b → (TX0 a).2.1 ≠ (TX0 b).2.1 := by decide +kernel
theorem tyX0_ok : ∀ k, k < 4 → parseFieldDescriptor (TX0 k).2.2.1 = some (tyX0 k) := by decide +kernel
abbrev cX0_init : ByteArray := prog_2_method_1_code
def yX0_init : MethodName := ⟨RX0, "<init>", "()V"⟩
abbrev cX0_at : ByteArray := prog_2_method_2_code
def yX0_at : MethodName := ⟨RX0, "at", "(I)I"⟩
abbrev cX0_append : ByteArray := prog_2_method_3_code
def yX0_append : MethodName := ⟨RX0, "append", "(I)V"⟩
abbrev cX0_takeFirst : ByteArray := prog_2_method_4_code
def yX0_takeFirst : MethodName := ⟨RX0, "takeFirst", "()I"⟩
abbrev cX0_placeOf : ByteArray := prog_2_method_5_code
def yX0_placeOf : MethodName := ⟨RX0, "placeOf", "(I)I"⟩
abbrev cX0_grow : ByteArray := prog_2_method_6_code
def yX0_grow : MethodName := ⟨RX0, "grow", "()V"⟩
def RX1 : String := "QuietWatch$Token"
def TX1 : u_T := fun k => match k with
  | 0 => ("QuietWatch$Token", "holder", "I", false)
  | 1 => ("QuietWatch$Token", "sum", "I", false)
  | 2 => ("QuietWatch$Token", "black", "Z", false)
  | _ => ("QuietWatch$Token", "round", "I", false)
def tyX1 : Nat → FieldType := fun k => match k with
  | 0 => .int
  | 1 => .int
  | 2 => .boolean
  | _ => .int
abbrev wsX10 : List Cond := u_ws RX1 TX1 4
theorem nmX1 : ∀ a, a < 4 → ∀ b, b < 4 → a ≠ b → (TX1 a).2.1 ≠ (TX1 b).2.1 := by decide +kernel
theorem tyX1_ok : ∀ k, k < 4 → parseFieldDescriptor (TX1 k).2.2.1 = some (tyX1 k) := by decide +kernel
abbrev cX1_init : ByteArray := prog_3_method_1_code
def yX1_init : MethodName := ⟨RX1, "<init>", "()V"⟩
abbrev cX1_showsEndTo : ByteArray := prog_3_method_2_code
def yX1_showsEndTo : MethodName := ⟨RX1, "showsEndTo", "(LQuietWatch$Worker;)Z"⟩
abbrev cX1_beginRound : ByteArray := prog_3_method_3_code
def yX1_beginRound : MethodName := ⟨RX1, "beginRound", "()V"⟩
abbrev cX1_collect : ByteArray := prog_3_method_4_code
def yX1_collect : MethodName := ⟨RX1, "collect", "(LQuietWatch$Worker;)V"⟩
def RX2 : String := "QuietWatch$Worker"
def TX2 : u_T := fun k => match k with
  | 0 => ("QuietWatch$Worker", "latestProbe", "[I", true)
  | 1 => ("QuietWatch$Worker", "active", "Z", false)
  | 2 => ("QuietWatch$Worker", "black", "Z", false)
  | 3 => ("QuietWatch$Worker", "parent", "I", false)
  | 4 => ("QuietWatch$Worker", "owed", "I", false)
  | 5 => ("QuietWatch$Worker", "balance", "I", false)
  | 6 => ("QuietWatch$Worker", "waitsFor", "I", false)
  | 7 => ("QuietWatch$Worker", "repliesComing", "I", false)
  | 8 => ("QuietWatch$Worker", "pending", "I", false)
  | 9 => ("QuietWatch$Worker", "deaths", "I", false)
  | _ => ("QuietWatch$Worker", "probings", "I", false)
def tyX2 : Nat → FieldType := fun k => match k with
  | 0 => .array .int
  | 1 => .boolean
  | 2 => .boolean
  | 3 => .int
  | 4 => .int
  | 5 => .int
  | 6 => .int
  | 7 => .int
  | 8 => .int
  | 9 => .int
  | _ => .int
abbrev wsX20 : List Cond := u_ws RX2 TX2 11
theorem nmX2 : ∀ a, a < 11 → ∀ b, b < 11 → a ≠ b → (TX2 a).2.1 ≠ (TX2 b).2.1 := by decide +kernel
theorem tyX2_ok : ∀ k, k < 11 → parseFieldDescriptor (TX2 k).2.2.1 = some (tyX2 k) := by decide +kernel
abbrev cX2_init : ByteArray := prog_4_method_1_code
def yX2_init : MethodName := ⟨RX2, "<init>", "(I)V"⟩
abbrev cX2_isBlocked : ByteArray := prog_4_method_2_code
def yX2_isBlocked : MethodName := ⟨RX2, "isBlocked", "()Z"⟩
abbrev cX2_isFree : ByteArray := prog_4_method_3_code
def yX2_isFree : MethodName := ⟨RX2, "isFree", "()Z"⟩
abbrev cX2_hangsOn : ByteArray := prog_4_method_4_code
def yX2_hangsOn : MethodName := ⟨RX2, "hangsOn", "()I"⟩
abbrev cX2_noteIfNewer : ByteArray := prog_4_method_5_code
def yX2_noteIfNewer : MethodName := ⟨RX2, "noteIfNewer", "(II)Z"⟩
def RX3 : String := "QuietWatch"
def TX3 : u_T := fun k => match k with
  | 0 => ("QuietWatch", "processes", "I", true)
  | 1 => ("QuietWatch", "workers", "[LQuietWatch$Worker;", true)
  | 2 => ("QuietWatch", "rows", "[LQuietWatch$Row;", true)
  | 3 => ("QuietWatch", "token", "LQuietWatch$Token;", true)
  | 4 => ("QuietWatch", "started", "Z", false)
  | 5 => ("QuietWatch", "treeTold", "Z", false)
  | 6 => ("QuietWatch", "ringTold", "Z", false)
  | 7 => ("QuietWatch", "wrongEnds", "I", false)
  | 8 => ("QuietWatch", "falseDeaths", "I", false)
  | 9 => ("QuietWatch", "deaths", "I", false)
  | _ => ("QuietWatch", "received", "I", false)
def tyX3 : Nat → FieldType := fun k => match k with
  | 0 => .int
  | 1 => .array (.object "QuietWatch$Worker")
  | 2 => .array (.object "QuietWatch$Row")
  | 3 => .object "QuietWatch$Token"
  | 4 => .boolean
  | 5 => .boolean
  | 6 => .boolean
  | 7 => .int
  | 8 => .int
  | 9 => .int
  | _ => .int
abbrev wsX30 : List Cond := u_ws RX3 TX3 11
theorem nmX3 : ∀ a, a < 11 → ∀ b, b < 11 → a ≠ b → (TX3 a).2.1 ≠ (TX3 b).2.1 := by decide +kernel
theorem tyX3_ok : ∀ k, k < 11 → parseFieldDescriptor (TX3 k).2.2.1 = some (tyX3 k) := by decide +kernel
abbrev cX3_init : ByteArray := prog_1_method_1_code
def yX3_init : MethodName := ⟨RX3, "<init>", "(I)V"⟩
abbrev cX3_start : ByteArray := prog_1_method_2_code
def yX3_start : MethodName := ⟨RX3, "start", "()Z"⟩
abbrev cX3_send : ByteArray := prog_1_method_3_code
def yX3_send : MethodName := ⟨RX3, "send", "(II)Z"⟩
abbrev cX3_rest : ByteArray := prog_1_method_4_code
def yX3_rest : MethodName := ⟨RX3, "rest", "(I)Z"⟩
abbrev cX3_ask : ByteArray := prog_1_method_5_code
def yX3_ask : MethodName := ⟨RX3, "ask", "(II)I"⟩
abbrev cX3_answer : ByteArray := prog_1_method_6_code
def yX3_answer : MethodName := ⟨RX3, "answer", "(II)Z"⟩
abbrev cX3_probe : ByteArray := prog_1_method_7_code
def yX3_probe : MethodName := ⟨RX3, "probe", "(I)I"⟩
abbrev cX3_pass : ByteArray := prog_1_method_8_code
def yX3_pass : MethodName := ⟨RX3, "pass", "(I)I"⟩
abbrev cX3_receive : ByteArray := prog_1_method_9_code
def yX3_receive : MethodName := ⟨RX3, "receive", "(II)I"⟩
abbrev cX3_run : ByteArray := prog_1_method_10_code
def yX3_run : MethodName := ⟨RX3, "run", "(II)I"⟩
abbrev cX3_told : ByteArray := prog_1_method_11_code
def yX3_told : MethodName := ⟨RX3, "told", "(II)I"⟩
abbrev cX3_waits : ByteArray := prog_1_method_12_code
def yX3_waits : MethodName := ⟨RX3, "waits", "(II)Z"⟩
abbrev cX3_message : ByteArray := prog_1_method_13_code
def yX3_message : MethodName := ⟨RX3, "message", "(IIII)I"⟩
abbrev cX3_quiet : ByteArray := prog_1_method_14_code
def yX3_quiet : MethodName := ⟨RX3, "quiet", "()Z"⟩
abbrev cX3_wrong : ByteArray := prog_1_method_15_code
def yX3_wrong : MethodName := ⟨RX3, "wrong", "()I"⟩
abbrev cX3_falsely : ByteArray := prog_1_method_16_code
def yX3_falsely : MethodName := ⟨RX3, "falsely", "()I"⟩
abbrev cX3_count : ByteArray := prog_1_method_17_code
def yX3_count : MethodName := ⟨RX3, "count", "(I)I"⟩
abbrev cX3_newWorkers : ByteArray := prog_1_method_18_code
def yX3_newWorkers : MethodName := ⟨RX3, "newWorkers", "(I)[LQuietWatch$Worker;"⟩
abbrev cX3_newRows : ByteArray := prog_1_method_19_code
def yX3_newRows : MethodName := ⟨RX3, "newRows", "(I)[LQuietWatch$Row;"⟩
abbrev cX3_oneIf : ByteArray := prog_1_method_20_code
def yX3_oneIf : MethodName := ⟨RX3, "oneIf", "(Z)I"⟩
abbrev cX3_bitOf : ByteArray := prog_1_method_21_code
def yX3_bitOf : MethodName := ⟨RX3, "bitOf", "(I)I"⟩
abbrev cX3_allOf : ByteArray := prog_1_method_22_code
def yX3_allOf : MethodName := ⟨RX3, "allOf", "(I)I"⟩
abbrev cX3_holds : ByteArray := prog_1_method_23_code
def yX3_holds : MethodName := ⟨RX3, "holds", "(II)Z"⟩
abbrev cX3_probeOf : ByteArray := prog_1_method_24_code
def yX3_probeOf : MethodName := ⟨RX3, "probeOf", "(II)I"⟩
abbrev cX3_kindOf : ByteArray := prog_1_method_25_code
def yX3_kindOf : MethodName := ⟨RX3, "kindOf", "(I)I"⟩
abbrev cX3_beginnerOf : ByteArray := prog_1_method_26_code
def yX3_beginnerOf : MethodName := ⟨RX3, "beginnerOf", "(I)I"⟩
abbrev cX3_numberOf : ByteArray := prog_1_method_27_code
def yX3_numberOf : MethodName := ⟨RX3, "numberOf", "(I)I"⟩
abbrev cX3_isProcess : ByteArray := prog_1_method_28_code
def yX3_isProcess : MethodName := ⟨RX3, "isProcess", "(I)Z"⟩
abbrev cX3_workerAt : ByteArray := prog_1_method_29_code
def yX3_workerAt : MethodName := ⟨RX3, "workerAt", "(I)LQuietWatch$Worker;"⟩
abbrev cX3_rowBetween : ByteArray := prog_1_method_30_code
def yX3_rowBetween : MethodName := ⟨RX3, "rowBetween", "(II)LQuietWatch$Row;"⟩
abbrev cX3_put : ByteArray := prog_1_method_31_code
def yX3_put : MethodName := ⟨RX3, "put", "(III)V"⟩
abbrev cX3_putToEach : ByteArray := prog_1_method_32_code
def yX3_putToEach : MethodName := ⟨RX3, "putToEach", "(III)V"⟩
abbrev cX3_giveToken : ByteArray := prog_1_method_33_code
def yX3_giveToken : MethodName := ⟨RX3, "giveToken", "(II)V"⟩
abbrev cX3_isInTree : ByteArray := prog_1_method_34_code
def yX3_isInTree : MethodName := ⟨RX3, "isInTree", "(ILQuietWatch$Worker;)Z"⟩
abbrev cX3_takeWork : ByteArray := prog_1_method_35_code
def yX3_takeWork : MethodName := ⟨RX3, "takeWork", "(IILQuietWatch$Worker;)V"⟩
abbrev cX3_leaveTreeIfDone : ByteArray := prog_1_method_36_code
def yX3_leaveTreeIfDone : MethodName := ⟨RX3, "leaveTreeIfDone", "(ILQuietWatch$Worker;)V"⟩
abbrev cX3_judgeEnd : ByteArray := prog_1_method_37_code
def yX3_judgeEnd : MethodName := ⟨RX3, "judgeEnd", "()V"⟩
abbrev cX3_takeProbe : ByteArray := prog_1_method_38_code
def yX3_takeProbe : MethodName := ⟨RX3, "takeProbe", "(IILQuietWatch$Worker;I)V"⟩
abbrev cX3_tellDead : ByteArray := prog_1_method_39_code
def yX3_tellDead : MethodName := ⟨RX3, "tellDead", "(ILQuietWatch$Worker;)V"⟩
abbrev cX3_isInRing : ByteArray := prog_1_method_40_code
def yX3_isInRing : MethodName := ⟨RX3, "isInRing", "(I)Z"⟩
abbrev cX3_messagesUnderWay : ByteArray := prog_1_method_41_code
def yX3_messagesUnderWay : MethodName := ⟨RX3, "messagesUnderWay", "()I"⟩
abbrev cX3_worksUnderWay : ByteArray := prog_1_method_42_code
def yX3_worksUnderWay : MethodName := ⟨RX3, "worksUnderWay", "()I"⟩
def RX4 : String := "QuietWatchModel"
def TX4 : u_T := fun k => match k with
  | 0 => ("QuietWatchModel", "many", "I", true)
  | 1 => ("QuietWatchModel", "isStarted", "Z", false)
  | 2 => ("QuietWatchModel", "treeTold", "Z", false)
  | 3 => ("QuietWatchModel", "ringTold", "Z", false)
  | 4 => ("QuietWatchModel", "wrongs", "I", false)
  | 5 => ("QuietWatchModel", "falses", "I", false)
  | 6 => ("QuietWatchModel", "received", "I", false)
  | 7 => ("QuietWatchModel", "deadAll", "I", false)
  | 8 => ("QuietWatchModel", "active", "[Z", true)
  | 9 => ("QuietWatchModel", "parent", "[I", true)
  | 10 => ("QuietWatchModel", "owed", "[I", true)
  | 11 => ("QuietWatchModel", "works", "[I", true)
  | 12 => ("QuietWatchModel", "black", "[Z", true)
  | 13 => ("QuietWatchModel", "has", "[Z", true)
  | 14 => ("QuietWatchModel", "dead", "[I", true)
  | 15 => ("QuietWatchModel", "probings", "[I", true)
  | 16 => ("QuietWatchModel", "waits", "[Z", true)
  | 17 => ("QuietWatchModel", "pending", "[Z", true)
  | 18 => ("QuietWatchModel", "mattered", "[I", true)
  | 19 => ("QuietWatchModel", "round", "I", false)
  | 20 => ("QuietWatchModel", "sum", "I", false)
  | 21 => ("QuietWatchModel", "isBlack", "Z", false)
  | 22 => ("QuietWatchModel", "rowMany", "[I", true)
  | 23 => ("QuietWatchModel", "rowKind", "[I", true)
  | 24 => ("QuietWatchModel", "rowWho", "[I", true)
  | 25 => ("QuietWatchModel", "rowNumber", "[I", true)
  | _ => ("QuietWatchModel", "reached", "[Z", true)
def tyX4 : Nat → FieldType := fun k => match k with
  | 0 => .int
  | 1 => .boolean
  | 2 => .boolean
  | 3 => .boolean
  | 4 => .int
  | 5 => .int
  | 6 => .int
  | 7 => .int
  | 8 => .array .boolean
  | 9 => .array .int
  | 10 => .array .int
  | 11 => .array .int
  | 12 => .array .boolean
  | 13 => .array .boolean
  | 14 => .array .int
  | 15 => .array .int
  | 16 => .array .boolean
  | 17 => .array .boolean
  | 18 => .array .int
  | 19 => .int
  | 20 => .int
  | 21 => .boolean
  | 22 => .array .int
  | 23 => .array .int
  | 24 => .array .int
  | 25 => .array .int
  | _ => .array .boolean
abbrev wsX40 : List Cond := u_ws RX4 TX4 27
theorem nmX4 : ∀ a, a < 27 → ∀ b, b < 27 → a ≠ b → (TX4 a).2.1 ≠ (TX4 b).2.1 := by decide +kernel
theorem tyX4_ok : ∀ k, k < 27 → parseFieldDescriptor (TX4 k).2.2.1 = some (tyX4 k) := by decide +kernel
abbrev cX4_init : ByteArray := prog_6_method_1_code
def yX4_init : MethodName := ⟨RX4, "<init>", "(I)V"⟩
abbrev cX4_isOne : ByteArray := prog_6_method_2_code
def yX4_isOne : MethodName := ⟨RX4, "isOne", "(I)Z"⟩
abbrev cX4_isRow : ByteArray := prog_6_method_3_code
def yX4_isRow : MethodName := ⟨RX4, "isRow", "(II)Z"⟩
abbrev cX4_row : ByteArray := prog_6_method_4_code
def yX4_row : MethodName := ⟨RX4, "row", "(II)I"⟩
abbrev cX4_sends : ByteArray := prog_6_method_5_code
def yX4_sends : MethodName := ⟨RX4, "sends", "(IIIII)V"⟩
abbrev cX4_counted : ByteArray := prog_6_method_6_code
def yX4_counted : MethodName := ⟨RX4, "counted", "(II)I"⟩
abbrev cX4_waitsFor : ByteArray := prog_6_method_7_code
def yX4_waitsFor : MethodName := ⟨RX4, "waitsFor", "(I)I"⟩
abbrev cX4_isBlocked : ByteArray := prog_6_method_8_code
def yX4_isBlocked : MethodName := ⟨RX4, "isBlocked", "(I)Z"⟩
abbrev cX4_isFree : ByteArray := prog_6_method_9_code
def yX4_isFree : MethodName := ⟨RX4, "isFree", "(I)Z"⟩
abbrev cX4_isInTree : ByteArray := prog_6_method_10_code
def yX4_isInTree : MethodName := ⟨RX4, "isInTree", "(I)Z"⟩
abbrev cX4_quiet : ByteArray := prog_6_method_11_code
def yX4_quiet : MethodName := ⟨RX4, "quiet", "()Z"⟩
abbrev cX4_settles : ByteArray := prog_6_method_12_code
def yX4_settles : MethodName := ⟨RX4, "settles", "()V"⟩
abbrev cX4_start : ByteArray := prog_6_method_13_code
def yX4_start : MethodName := ⟨RX4, "start", "()Z"⟩
abbrev cX4_send : ByteArray := prog_6_method_14_code
def yX4_send : MethodName := ⟨RX4, "send", "(II)Z"⟩
abbrev cX4_rest : ByteArray := prog_6_method_15_code
def yX4_rest : MethodName := ⟨RX4, "rest", "(I)Z"⟩
abbrev cX4_ask : ByteArray := prog_6_method_16_code
def yX4_ask : MethodName := ⟨RX4, "ask", "(II)I"⟩
abbrev cX4_answer : ByteArray := prog_6_method_17_code
def yX4_answer : MethodName := ⟨RX4, "answer", "(II)Z"⟩
abbrev cX4_probes : ByteArray := prog_6_method_18_code
def yX4_probes : MethodName := ⟨RX4, "probes", "(III)V"⟩
abbrev cX4_probe : ByteArray := prog_6_method_19_code
def yX4_probe : MethodName := ⟨RX4, "probe", "(I)I"⟩
abbrev cX4_pass : ByteArray := prog_6_method_20_code
def yX4_pass : MethodName := ⟨RX4, "pass", "(I)I"⟩
abbrev cX4_hangs : ByteArray := prog_6_method_21_code
def yX4_hangs : MethodName := ⟨RX4, "hangs", "(II)Z"⟩
abbrev cX4_isInRing : ByteArray := prog_6_method_22_code
def yX4_isInRing : MethodName := ⟨RX4, "isInRing", "(I)Z"⟩
abbrev cX4_work : ByteArray := prog_6_method_23_code
def yX4_work : MethodName := ⟨RX4, "work", "(II)V"⟩
abbrev cX4_probed : ByteArray := prog_6_method_24_code
def yX4_probed : MethodName := ⟨RX4, "probed", "(IIII)V"⟩
abbrev cX4_receive : ByteArray := prog_6_method_25_code
def yX4_receive : MethodName := ⟨RX4, "receive", "(II)I"⟩
abbrev cX4_run : ByteArray := prog_6_method_26_code
def yX4_run : MethodName := ⟨RX4, "run", "(II)I"⟩
abbrev cX4_pendingAt : ByteArray := prog_6_method_27_code
def yX4_pendingAt : MethodName := ⟨RX4, "pendingAt", "(I)I"⟩
abbrev cX4_toInt : ByteArray := prog_6_method_28_code
def yX4_toInt : MethodName := ⟨RX4, "toInt", "(Z)I"⟩
abbrev cX4_told : ByteArray := prog_6_method_29_code
def yX4_told : MethodName := ⟨RX4, "told", "(II)I"⟩
abbrev cX4_waits : ByteArray := prog_6_method_30_code
def yX4_waits : MethodName := ⟨RX4, "waits", "(II)Z"⟩
abbrev cX4_message : ByteArray := prog_6_method_31_code
def yX4_message : MethodName := ⟨RX4, "message", "(IIII)I"⟩
abbrev cX4_wrong : ByteArray := prog_6_method_32_code
def yX4_wrong : MethodName := ⟨RX4, "wrong", "()I"⟩
abbrev cX4_falsely : ByteArray := prog_6_method_33_code
def yX4_falsely : MethodName := ⟨RX4, "falsely", "()I"⟩
abbrev cX4_count : ByteArray := prog_6_method_34_code
def yX4_count : MethodName := ⟨RX4, "count", "(I)I"⟩
def RJ6 : String := "java/lang/Integer"
abbrev cJ6_bitCount_0f7a4 : ByteArray := prog_7_method_49_code
def yJ6_bitCount_0f7a4 : MethodName := ⟨RJ6, "bitCount", "(I)I"⟩
def RJ9 : String := "java/lang/Math"
abbrev cJ9_max_7cf53 : ByteArray := prog_8_method_65_code
def yJ9_max_7cf53 : MethodName := ⟨RJ9, "max", "(II)I"⟩
abbrev cJ9_min_7cf53 : ByteArray := prog_8_method_69_code
def yJ9_min_7cf53 : MethodName := ⟨RJ9, "min", "(II)I"⟩
def RL : String := "QuietWatchLaw"
abbrev cL_cell : ByteArray := method_2_code
def yL_cell : MethodName := ⟨RL, "cell", "([II)I"⟩
abbrev cL_law : ByteArray := code
def yL_law : MethodName := ⟨RL, "law", "([I)Z"⟩
abbrev vwCl : List vw_C := [(RX0, TX0, 4), (RX1, TX1, 4), (RX2, TX2, 11), (RX3, TX3, 11), (RX4, TX4, 27)]
theorem inX0 : ∀ w ∈ wsX00, w ∈ lw_tbl := by decide +kernel
theorem inX1 : ∀ w ∈ wsX10, w ∈ lw_tbl := by decide +kernel
theorem inX2 : ∀ w ∈ wsX20, w ∈ lw_tbl := by decide +kernel
theorem inX3 : ∀ w ∈ wsX30, w ∈ lw_tbl := by decide +kernel
theorem inX4 : ∀ w ∈ wsX40, w ∈ lw_tbl := by decide +kernel
end
section
theorem dX0_init_0 : decode cX0_init 0 = .ok (.aload_n 0, 1) := by decide +kernel
theorem dX0_init_1 : decode cX0_init 1 = .ok (.invokespecial 3, 3) := by decide +kernel
theorem dX0_init_4 : decode cX0_init 4 = .ok (.aload_n 0, 1) := by decide +kernel
theorem dX0_init_5 : decode cX0_init 5 = .ok (.iconst 4, 1) := by decide +kernel
theorem dX0_init_6 : decode cX0_init 6 = .ok (.newarray .int, 2) := by decide +kernel
theorem dX0_init_8 : decode cX0_init 8 = .ok (.putfield 11, 3) := by decide +kernel
theorem dX0_init_11 : decode cX0_init 11 = .ok (.return_, 1) := by decide +kernel
theorem dX0_at_0 : decode cX0_at 0 = .ok (.aload_n 0, 1) := by decide +kernel
theorem dX0_at_1 : decode cX0_at 1 = .ok (.getfield 11, 3) := by decide +kernel
theorem dX0_at_4 : decode cX0_at 4 = .ok (.aload_n 0, 1) := by decide +kernel
theorem dX0_at_5 : decode cX0_at 5 = .ok (.iload_n 1, 1) := by decide +kernel
theorem dX0_at_6 : decode cX0_at 6 = .ok (.invokevirtual 15, 3) := by decide +kernel
theorem dX0_at_9 : decode cX0_at 9 = .ok (.iaload, 1) := by decide +kernel
theorem dX0_at_10 : decode cX0_at 10 = .ok (.ireturn, 1) := by decide +kernel
theorem dX0_append_0 : decode cX0_append 0 = .ok (.aload_n 0, 1) := by decide +kernel
theorem dX0_append_1 : decode cX0_append 1 = .ok (.getfield 19, 3) := by decide +kernel
theorem dX0_append_4 : decode cX0_append 4 = .ok (.aload_n 0, 1) := by decide +kernel
theorem dX0_append_5 : decode cX0_append 5 = .ok (.getfield 11, 3) := by decide +kernel
theorem dX0_append_8 : decode cX0_append 8 = .ok (.arraylength, 1) := by decide +kernel
theorem dX0_append_9 : decode cX0_append 9 = .ok (.if_icmp .ne 7, 3) := by decide +kernel
theorem dX0_append_12 : decode cX0_append 12 = .ok (.aload_n 0, 1) := by decide +kernel
theorem dX0_append_13 : decode cX0_append 13 = .ok (.invokevirtual 23, 3) := by decide +kernel
theorem dX0_append_16 : decode cX0_append 16 = .ok (.aload_n 0, 1) := by decide +kernel
theorem dX0_append_17 : decode cX0_append 17 = .ok (.getfield 11, 3) := by decide +kernel
theorem dX0_append_20 : decode cX0_append 20 = .ok (.aload_n 0, 1) := by decide +kernel
theorem dX0_append_21 : decode cX0_append 21 = .ok (.aload_n 0, 1) := by decide +kernel
theorem dX0_append_22 : decode cX0_append 22 = .ok (.getfield 19, 3) := by decide +kernel
theorem dX0_append_25 : decode cX0_append 25 = .ok (.invokevirtual 15, 3) := by decide +kernel
theorem dX0_append_28 : decode cX0_append 28 = .ok (.iload_n 1, 1) := by decide +kernel
theorem dX0_append_29 : decode cX0_append 29 = .ok (.iastore, 1) := by decide +kernel
theorem dX0_append_30 : decode cX0_append 30 = .ok (.aload_n 0, 1) := by decide +kernel
theorem dX0_append_31 : decode cX0_append 31 = .ok (.dup, 1) := by decide +kernel
theorem dX0_append_32 : decode cX0_append 32 = .ok (.getfield 19, 3) := by decide +kernel
theorem dX0_append_35 : decode cX0_append 35 = .ok (.iconst 1, 1) := by decide +kernel
theorem dX0_append_36 : decode cX0_append 36 = .ok (.iadd, 1) := by decide +kernel
theorem dX0_append_37 : decode cX0_append 37 = .ok (.putfield 19, 3) := by decide +kernel
theorem dX0_append_40 : decode cX0_append 40 = .ok (.aload_n 0, 1) := by decide +kernel
theorem dX0_append_41 : decode cX0_append 41 = .ok (.dup, 1) := by decide +kernel
theorem dX0_append_42 : decode cX0_append 42 = .ok (.getfield 26, 3) := by decide +kernel
theorem dX0_append_45 : decode cX0_append 45 = .ok (.iload_n 1, 1) := by decide +kernel
theorem dX0_append_46 : decode cX0_append 46 = .ok (.invokestatic 29, 3) := by decide +kernel
theorem dX0_append_49 : decode cX0_append 49 = .ok (.iconst 1, 1) := by decide +kernel
theorem dX0_append_50 : decode cX0_append 50 = .ok (.if_icmp .ne 7, 3) := by decide +kernel
theorem dX0_append_53 : decode cX0_append 53 = .ok (.iconst 1, 1) := by decide +kernel
theorem dX0_append_54 : decode cX0_append 54 = .ok (.goto 4, 3) := by decide +kernel
theorem dX0_append_57 : decode cX0_append 57 = .ok (.iconst 0, 1) := by decide +kernel
theorem dX0_append_58 : decode cX0_append 58 = .ok (.invokestatic 32, 3) := by decide +kernel
theorem dX0_append_61 : decode cX0_append 61 = .ok (.iadd, 1) := by decide +kernel
theorem dX0_append_62 : decode cX0_append 62 = .ok (.putfield 26, 3) := by decide +kernel
theorem dX0_append_65 : decode cX0_append 65 = .ok (.return_, 1) := by decide +kernel
theorem dX0_takeFirst_0 : decode cX0_takeFirst 0 = .ok (.aload_n 0, 1) := by decide +kernel
theorem dX0_takeFirst_1 : decode cX0_takeFirst 1 = .ok (.getfield 11, 3) := by decide +kernel
theorem dX0_takeFirst_4 : decode cX0_takeFirst 4 = .ok (.aload_n 0, 1) := by decide +kernel
theorem dX0_takeFirst_5 : decode cX0_takeFirst 5 = .ok (.getfield 36, 3) := by decide +kernel
theorem dX0_takeFirst_8 : decode cX0_takeFirst 8 = .ok (.iaload, 1) := by decide +kernel
theorem dX0_takeFirst_9 : decode cX0_takeFirst 9 = .ok (.istore_n 1, 1) := by decide +kernel
theorem dX0_takeFirst_10 : decode cX0_takeFirst 10 = .ok (.aload_n 0, 1) := by decide +kernel
theorem dX0_takeFirst_11 : decode cX0_takeFirst 11 = .ok (.aload_n 0, 1) := by decide +kernel
theorem dX0_takeFirst_12 : decode cX0_takeFirst 12 = .ok (.iconst 1, 1) := by decide +kernel
theorem dX0_takeFirst_13 : decode cX0_takeFirst 13 = .ok (.invokevirtual 15, 3) := by decide +kernel
theorem dX0_takeFirst_16 : decode cX0_takeFirst 16 = .ok (.putfield 36, 3) := by decide +kernel
theorem dX0_takeFirst_19 : decode cX0_takeFirst 19 = .ok (.aload_n 0, 1) := by decide +kernel
theorem dX0_takeFirst_20 : decode cX0_takeFirst 20 = .ok (.dup, 1) := by decide +kernel
theorem dX0_takeFirst_21 : decode cX0_takeFirst 21 = .ok (.getfield 19, 3) := by decide +kernel
theorem dX0_takeFirst_24 : decode cX0_takeFirst 24 = .ok (.iconst 1, 1) := by decide +kernel
theorem dX0_takeFirst_25 : decode cX0_takeFirst 25 = .ok (.isub, 1) := by decide +kernel
theorem dX0_takeFirst_26 : decode cX0_takeFirst 26 = .ok (.putfield 19, 3) := by decide +kernel
theorem dX0_takeFirst_29 : decode cX0_takeFirst 29 = .ok (.aload_n 0, 1) := by decide +kernel
theorem dX0_takeFirst_30 : decode cX0_takeFirst 30 = .ok (.dup, 1) := by decide +kernel
theorem dX0_takeFirst_31 : decode cX0_takeFirst 31 = .ok (.getfield 26, 3) := by decide +kernel
theorem dX0_takeFirst_34 : decode cX0_takeFirst 34 = .ok (.iload_n 1, 1) := by decide +kernel
theorem dX0_takeFirst_35 : decode cX0_takeFirst 35 = .ok (.invokestatic 29, 3) := by decide +kernel
theorem dX0_takeFirst_38 : decode cX0_takeFirst 38 = .ok (.iconst 1, 1) := by decide +kernel
theorem dX0_takeFirst_39 : decode cX0_takeFirst 39 = .ok (.if_icmp .ne 7, 3) := by decide +kernel
theorem dX0_takeFirst_42 : decode cX0_takeFirst 42 = .ok (.iconst 1, 1) := by decide +kernel
theorem dX0_takeFirst_43 : decode cX0_takeFirst 43 = .ok (.goto 4, 3) := by decide +kernel
theorem dX0_takeFirst_46 : decode cX0_takeFirst 46 = .ok (.iconst 0, 1) := by decide +kernel
theorem dX0_takeFirst_47 : decode cX0_takeFirst 47 = .ok (.invokestatic 32, 3) := by decide +kernel
theorem dX0_takeFirst_50 : decode cX0_takeFirst 50 = .ok (.isub, 1) := by decide +kernel
theorem dX0_takeFirst_51 : decode cX0_takeFirst 51 = .ok (.putfield 26, 3) := by decide +kernel
theorem dX0_takeFirst_54 : decode cX0_takeFirst 54 = .ok (.iload_n 1, 1) := by decide +kernel
theorem dX0_takeFirst_55 : decode cX0_takeFirst 55 = .ok (.ireturn, 1) := by decide +kernel
theorem dX0_placeOf_0 : decode cX0_placeOf 0 = .ok (.aload_n 0, 1) := by decide +kernel
theorem dX0_placeOf_1 : decode cX0_placeOf 1 = .ok (.getfield 36, 3) := by decide +kernel
theorem dX0_placeOf_4 : decode cX0_placeOf 4 = .ok (.iload_n 1, 1) := by decide +kernel
theorem dX0_placeOf_5 : decode cX0_placeOf 5 = .ok (.iadd, 1) := by decide +kernel
theorem dX0_placeOf_6 : decode cX0_placeOf 6 = .ok (.istore_n 2, 1) := by decide +kernel
theorem dX0_placeOf_7 : decode cX0_placeOf 7 = .ok (.iload_n 2, 1) := by decide +kernel
theorem dX0_placeOf_8 : decode cX0_placeOf 8 = .ok (.aload_n 0, 1) := by decide +kernel
theorem dX0_placeOf_9 : decode cX0_placeOf 9 = .ok (.getfield 11, 3) := by decide +kernel
theorem dX0_placeOf_12 : decode cX0_placeOf 12 = .ok (.arraylength, 1) := by decide +kernel
theorem dX0_placeOf_13 : decode cX0_placeOf 13 = .ok (.if_icmp .ge 7, 3) := by decide +kernel
theorem dX0_placeOf_16 : decode cX0_placeOf 16 = .ok (.iload_n 2, 1) := by decide +kernel
theorem dX0_placeOf_17 : decode cX0_placeOf 17 = .ok (.goto 10, 3) := by decide +kernel
theorem dX0_placeOf_20 : decode cX0_placeOf 20 = .ok (.iload_n 2, 1) := by decide +kernel
theorem dX0_placeOf_21 : decode cX0_placeOf 21 = .ok (.aload_n 0, 1) := by decide +kernel
theorem dX0_placeOf_22 : decode cX0_placeOf 22 = .ok (.getfield 11, 3) := by decide +kernel
theorem dX0_placeOf_25 : decode cX0_placeOf 25 = .ok (.arraylength, 1) := by decide +kernel
theorem dX0_placeOf_26 : decode cX0_placeOf 26 = .ok (.isub, 1) := by decide +kernel
theorem dX0_placeOf_27 : decode cX0_placeOf 27 = .ok (.ireturn, 1) := by decide +kernel
theorem dX0_grow_0 : decode cX0_grow 0 = .ok (.aload_n 0, 1) := by decide +kernel
theorem dX0_grow_1 : decode cX0_grow 1 = .ok (.getfield 11, 3) := by decide +kernel
theorem dX0_grow_4 : decode cX0_grow 4 = .ok (.arraylength, 1) := by decide +kernel
theorem dX0_grow_5 : decode cX0_grow 5 = .ok (.iconst 2, 1) := by decide +kernel
theorem dX0_grow_6 : decode cX0_grow 6 = .ok (.imul, 1) := by decide +kernel
theorem dX0_grow_7 : decode cX0_grow 7 = .ok (.newarray .int, 2) := by decide +kernel
theorem dX0_grow_9 : decode cX0_grow 9 = .ok (.astore_n 1, 1) := by decide +kernel
theorem dX0_grow_10 : decode cX0_grow 10 = .ok (.iconst 0, 1) := by decide +kernel
theorem dX0_grow_11 : decode cX0_grow 11 = .ok (.istore_n 2, 1) := by decide +kernel
theorem dX0_grow_12 : decode cX0_grow 12 = .ok (.iload_n 2, 1) := by decide +kernel
theorem dX0_grow_13 : decode cX0_grow 13 = .ok (.aload_n 0, 1) := by decide +kernel
theorem dX0_grow_14 : decode cX0_grow 14 = .ok (.getfield 19, 3) := by decide +kernel
theorem dX0_grow_17 : decode cX0_grow 17 = .ok (.if_icmp .ge 22, 3) := by decide +kernel
theorem dX0_grow_20 : decode cX0_grow 20 = .ok (.aload_n 1, 1) := by decide +kernel
theorem dX0_grow_21 : decode cX0_grow 21 = .ok (.iload_n 2, 1) := by decide +kernel
theorem dX0_grow_22 : decode cX0_grow 22 = .ok (.aload_n 0, 1) := by decide +kernel
theorem dX0_grow_23 : decode cX0_grow 23 = .ok (.getfield 11, 3) := by decide +kernel
theorem dX0_grow_26 : decode cX0_grow 26 = .ok (.aload_n 0, 1) := by decide +kernel
theorem dX0_grow_27 : decode cX0_grow 27 = .ok (.iload_n 2, 1) := by decide +kernel
theorem dX0_grow_28 : decode cX0_grow 28 = .ok (.invokevirtual 15, 3) := by decide +kernel
theorem dX0_grow_31 : decode cX0_grow 31 = .ok (.iaload, 1) := by decide +kernel
theorem dX0_grow_32 : decode cX0_grow 32 = .ok (.iastore, 1) := by decide +kernel
theorem dX0_grow_33 : decode cX0_grow 33 = .ok (.iinc 2 1, 3) := by decide +kernel
theorem dX0_grow_36 : decode cX0_grow 36 = .ok (.goto (-24), 3) := by decide +kernel
theorem dX0_grow_39 : decode cX0_grow 39 = .ok (.aload_n 0, 1) := by decide +kernel
theorem dX0_grow_40 : decode cX0_grow 40 = .ok (.aload_n 1, 1) := by decide +kernel
theorem dX0_grow_41 : decode cX0_grow 41 = .ok (.putfield 11, 3) := by decide +kernel
theorem dX0_grow_44 : decode cX0_grow 44 = .ok (.aload_n 0, 1) := by decide +kernel
theorem dX0_grow_45 : decode cX0_grow 45 = .ok (.iconst 0, 1) := by decide +kernel
theorem dX0_grow_46 : decode cX0_grow 46 = .ok (.putfield 36, 3) := by decide +kernel
theorem dX0_grow_49 : decode cX0_grow 49 = .ok (.return_, 1) := by decide +kernel
theorem dX1_init_0 : decode cX1_init 0 = .ok (.aload_n 0, 1) := by decide +kernel
theorem dX1_init_1 : decode cX1_init 1 = .ok (.invokespecial 3, 3) := by decide +kernel
theorem dX1_init_4 : decode cX1_init 4 = .ok (.aload_n 0, 1) := by decide +kernel
theorem dX1_init_5 : decode cX1_init 5 = .ok (.iconst 0, 1) := by decide +kernel
theorem dX1_init_6 : decode cX1_init 6 = .ok (.putfield 9, 3) := by decide +kernel
theorem dX1_init_9 : decode cX1_init 9 = .ok (.return_, 1) := by decide +kernel
theorem dX1_showsEndTo_0 : decode cX1_showsEndTo 0 = .ok (.aload_n 0, 1) := by decide +kernel
theorem dX1_showsEndTo_1 : decode cX1_showsEndTo 1 = .ok (.getfield 15, 3) := by decide +kernel
theorem dX1_showsEndTo_4 : decode cX1_showsEndTo 4 = .ok (.ifCond .le 33, 3) := by decide +kernel
theorem dX1_showsEndTo_7 : decode cX1_showsEndTo 7 = .ok (.aload_n 0, 1) := by decide +kernel
theorem dX1_showsEndTo_8 : decode cX1_showsEndTo 8 = .ok (.getfield 18, 3) := by decide +kernel
theorem dX1_showsEndTo_11 : decode cX1_showsEndTo 11 = .ok (.ifCond .ne 26, 3) := by decide +kernel
theorem dX1_showsEndTo_14 : decode cX1_showsEndTo 14 = .ok (.aload_n 1, 1) := by decide +kernel
theorem dX1_showsEndTo_15 : decode cX1_showsEndTo 15 = .ok (.getfield 22, 3) := by decide +kernel
theorem dX1_showsEndTo_18 : decode cX1_showsEndTo 18 = .ok (.ifCond .ne 19, 3) := by decide +kernel
theorem dX1_showsEndTo_21 : decode cX1_showsEndTo 21 = .ok (.aload_n 0, 1) := by decide +kernel
theorem dX1_showsEndTo_22 : decode cX1_showsEndTo 22 = .ok (.getfield 25, 3) := by decide +kernel
theorem dX1_showsEndTo_25 : decode cX1_showsEndTo 25 = .ok (.aload_n 1, 1) := by decide +kernel
theorem dX1_showsEndTo_26 : decode cX1_showsEndTo 26 = .ok (.getfield 28, 3) := by decide +kernel
theorem dX1_showsEndTo_29 : decode cX1_showsEndTo 29 = .ok (.iadd, 1) := by decide +kernel
theorem dX1_showsEndTo_30 : decode cX1_showsEndTo 30 = .ok (.ifCond .ne 7, 3) := by decide +kernel
theorem dX1_showsEndTo_33 : decode cX1_showsEndTo 33 = .ok (.iconst 1, 1) := by decide +kernel
theorem dX1_showsEndTo_34 : decode cX1_showsEndTo 34 = .ok (.goto 4, 3) := by decide +kernel
theorem dX1_showsEndTo_37 : decode cX1_showsEndTo 37 = .ok (.iconst 0, 1) := by decide +kernel
theorem dX1_showsEndTo_38 : decode cX1_showsEndTo 38 = .ok (.ireturn, 1) := by decide +kernel
theorem dX1_beginRound_0 : decode cX1_beginRound 0 = .ok (.aload_n 0, 1) := by decide +kernel
theorem dX1_beginRound_1 : decode cX1_beginRound 1 = .ok (.dup, 1) := by decide +kernel
theorem dX1_beginRound_2 : decode cX1_beginRound 2 = .ok (.getfield 15, 3) := by decide +kernel
theorem dX1_beginRound_5 : decode cX1_beginRound 5 = .ok (.iconst 1, 1) := by decide +kernel
theorem dX1_beginRound_6 : decode cX1_beginRound 6 = .ok (.iadd, 1) := by decide +kernel
theorem dX1_beginRound_7 : decode cX1_beginRound 7 = .ok (.putfield 15, 3) := by decide +kernel
theorem dX1_beginRound_10 : decode cX1_beginRound 10 = .ok (.aload_n 0, 1) := by decide +kernel
theorem dX1_beginRound_11 : decode cX1_beginRound 11 = .ok (.iconst 0, 1) := by decide +kernel
theorem dX1_beginRound_12 : decode cX1_beginRound 12 = .ok (.putfield 18, 3) := by decide +kernel
theorem dX1_beginRound_15 : decode cX1_beginRound 15 = .ok (.aload_n 0, 1) := by decide +kernel
theorem dX1_beginRound_16 : decode cX1_beginRound 16 = .ok (.iconst 0, 1) := by decide +kernel
theorem dX1_beginRound_17 : decode cX1_beginRound 17 = .ok (.putfield 25, 3) := by decide +kernel
theorem dX1_beginRound_20 : decode cX1_beginRound 20 = .ok (.return_, 1) := by decide +kernel
theorem dX1_collect_0 : decode cX1_collect 0 = .ok (.aload_n 0, 1) := by decide +kernel
theorem dX1_collect_1 : decode cX1_collect 1 = .ok (.dup, 1) := by decide +kernel
theorem dX1_collect_2 : decode cX1_collect 2 = .ok (.getfield 25, 3) := by decide +kernel
theorem dX1_collect_5 : decode cX1_collect 5 = .ok (.aload_n 1, 1) := by decide +kernel
theorem dX1_collect_6 : decode cX1_collect 6 = .ok (.getfield 28, 3) := by decide +kernel
theorem dX1_collect_9 : decode cX1_collect 9 = .ok (.iadd, 1) := by decide +kernel
theorem dX1_collect_10 : decode cX1_collect 10 = .ok (.putfield 25, 3) := by decide +kernel
theorem dX1_collect_13 : decode cX1_collect 13 = .ok (.aload_n 0, 1) := by decide +kernel
theorem dX1_collect_14 : decode cX1_collect 14 = .ok (.aload_n 0, 1) := by decide +kernel
theorem dX1_collect_15 : decode cX1_collect 15 = .ok (.getfield 18, 3) := by decide +kernel
theorem dX1_collect_18 : decode cX1_collect 18 = .ok (.ifCond .ne 10, 3) := by decide +kernel
theorem dX1_collect_21 : decode cX1_collect 21 = .ok (.aload_n 1, 1) := by decide +kernel
theorem dX1_collect_22 : decode cX1_collect 22 = .ok (.getfield 22, 3) := by decide +kernel
theorem dX1_collect_25 : decode cX1_collect 25 = .ok (.ifCond .eq 7, 3) := by decide +kernel
theorem dX1_collect_28 : decode cX1_collect 28 = .ok (.iconst 1, 1) := by decide +kernel
theorem dX1_collect_29 : decode cX1_collect 29 = .ok (.goto 4, 3) := by decide +kernel
theorem dX1_collect_32 : decode cX1_collect 32 = .ok (.iconst 0, 1) := by decide +kernel
theorem dX1_collect_33 : decode cX1_collect 33 = .ok (.putfield 18, 3) := by decide +kernel
theorem dX1_collect_36 : decode cX1_collect 36 = .ok (.aload_n 1, 1) := by decide +kernel
theorem dX1_collect_37 : decode cX1_collect 37 = .ok (.iconst 0, 1) := by decide +kernel
theorem dX1_collect_38 : decode cX1_collect 38 = .ok (.putfield 22, 3) := by decide +kernel
theorem dX1_collect_41 : decode cX1_collect 41 = .ok (.return_, 1) := by decide +kernel
theorem dX2_init_0 : decode cX2_init 0 = .ok (.aload_n 0, 1) := by decide +kernel
theorem dX2_init_1 : decode cX2_init 1 = .ok (.invokespecial 3, 3) := by decide +kernel
theorem dX2_init_4 : decode cX2_init 4 = .ok (.aload_n 0, 1) := by decide +kernel
theorem dX2_init_5 : decode cX2_init 5 = .ok (.iconst (-1), 1) := by decide +kernel
theorem dX2_init_6 : decode cX2_init 6 = .ok (.putfield 9, 3) := by decide +kernel
theorem dX2_init_9 : decode cX2_init 9 = .ok (.aload_n 0, 1) := by decide +kernel
theorem dX2_init_10 : decode cX2_init 10 = .ok (.iload_n 1, 1) := by decide +kernel
theorem dX2_init_11 : decode cX2_init 11 = .ok (.newarray .int, 2) := by decide +kernel
theorem dX2_init_13 : decode cX2_init 13 = .ok (.putfield 15, 3) := by decide +kernel
theorem dX2_init_16 : decode cX2_init 16 = .ok (.return_, 1) := by decide +kernel
theorem dX2_isBlocked_0 : decode cX2_isBlocked 0 = .ok (.aload_n 0, 1) := by decide +kernel
theorem dX2_isBlocked_1 : decode cX2_isBlocked 1 = .ok (.getfield 19, 3) := by decide +kernel
theorem dX2_isBlocked_4 : decode cX2_isBlocked 4 = .ok (.ifCond .eq 7, 3) := by decide +kernel
theorem dX2_isBlocked_7 : decode cX2_isBlocked 7 = .ok (.iconst 1, 1) := by decide +kernel
theorem dX2_isBlocked_8 : decode cX2_isBlocked 8 = .ok (.goto 4, 3) := by decide +kernel
theorem dX2_isBlocked_11 : decode cX2_isBlocked 11 = .ok (.iconst 0, 1) := by decide +kernel
theorem dX2_isBlocked_12 : decode cX2_isBlocked 12 = .ok (.ireturn, 1) := by decide +kernel
theorem dX2_isFree_0 : decode cX2_isFree 0 = .ok (.aload_n 0, 1) := by decide +kernel
theorem dX2_isFree_1 : decode cX2_isFree 1 = .ok (.getfield 22, 3) := by decide +kernel
theorem dX2_isFree_4 : decode cX2_isFree 4 = .ok (.ifCond .eq 14, 3) := by decide +kernel
theorem dX2_isFree_7 : decode cX2_isFree 7 = .ok (.aload_n 0, 1) := by decide +kernel
theorem dX2_isFree_8 : decode cX2_isFree 8 = .ok (.invokevirtual 26, 3) := by decide +kernel
theorem dX2_isFree_11 : decode cX2_isFree 11 = .ok (.ifCond .ne 7, 3) := by decide +kernel
theorem dX2_isFree_14 : decode cX2_isFree 14 = .ok (.iconst 1, 1) := by decide +kernel
theorem dX2_isFree_15 : decode cX2_isFree 15 = .ok (.goto 4, 3) := by decide +kernel
theorem dX2_isFree_18 : decode cX2_isFree 18 = .ok (.iconst 0, 1) := by decide +kernel
theorem dX2_isFree_19 : decode cX2_isFree 19 = .ok (.ireturn, 1) := by decide +kernel
theorem dX2_hangsOn_0 : decode cX2_hangsOn 0 = .ok (.aload_n 0, 1) := by decide +kernel
theorem dX2_hangsOn_1 : decode cX2_hangsOn 1 = .ok (.getfield 19, 3) := by decide +kernel
theorem dX2_hangsOn_4 : decode cX2_hangsOn 4 = .ok (.aload_n 0, 1) := by decide +kernel
theorem dX2_hangsOn_5 : decode cX2_hangsOn 5 = .ok (.getfield 30, 3) := by decide +kernel
theorem dX2_hangsOn_8 : decode cX2_hangsOn 8 = .ok (.iconst (-1), 1) := by decide +kernel
theorem dX2_hangsOn_9 : decode cX2_hangsOn 9 = .ok (.ixor, 1) := by decide +kernel
theorem dX2_hangsOn_10 : decode cX2_hangsOn 10 = .ok (.iand, 1) := by decide +kernel
theorem dX2_hangsOn_11 : decode cX2_hangsOn 11 = .ok (.ireturn, 1) := by decide +kernel
theorem dX2_noteIfNewer_0 : decode cX2_noteIfNewer 0 = .ok (.iload_n 1, 1) := by decide +kernel
theorem dX2_noteIfNewer_1 : decode cX2_noteIfNewer 1 = .ok (.ifCond .lt 22, 3) := by decide +kernel
theorem dX2_noteIfNewer_4 : decode cX2_noteIfNewer 4 = .ok (.iload_n 1, 1) := by decide +kernel
theorem dX2_noteIfNewer_5 : decode cX2_noteIfNewer 5 = .ok (.aload_n 0, 1) := by decide +kernel
theorem dX2_noteIfNewer_6 : decode cX2_noteIfNewer 6 = .ok (.getfield 15, 3) := by decide +kernel
theorem dX2_noteIfNewer_9 : decode cX2_noteIfNewer 9 = .ok (.arraylength, 1) := by decide +kernel
theorem dX2_noteIfNewer_10 : decode cX2_noteIfNewer 10 = .ok (.if_icmp .ge 13, 3) := by decide +kernel
theorem dX2_noteIfNewer_13 : decode cX2_noteIfNewer 13 = .ok (.iload_n 2, 1) := by decide +kernel
theorem dX2_noteIfNewer_14 : decode cX2_noteIfNewer 14 = .ok (.aload_n 0, 1) := by decide +kernel
theorem dX2_noteIfNewer_15 : decode cX2_noteIfNewer 15 = .ok (.getfield 15, 3) := by decide +kernel
theorem dX2_noteIfNewer_18 : decode cX2_noteIfNewer 18 = .ok (.iload_n 1, 1) := by decide +kernel
theorem dX2_noteIfNewer_19 : decode cX2_noteIfNewer 19 = .ok (.iaload, 1) := by decide +kernel
theorem dX2_noteIfNewer_20 : decode cX2_noteIfNewer 20 = .ok (.if_icmp .gt 5, 3) := by decide +kernel
theorem dX2_noteIfNewer_23 : decode cX2_noteIfNewer 23 = .ok (.iconst 0, 1) := by decide +kernel
theorem dX2_noteIfNewer_24 : decode cX2_noteIfNewer 24 = .ok (.ireturn, 1) := by decide +kernel
theorem dX2_noteIfNewer_25 : decode cX2_noteIfNewer 25 = .ok (.aload_n 0, 1) := by decide +kernel
theorem dX2_noteIfNewer_26 : decode cX2_noteIfNewer 26 = .ok (.getfield 15, 3) := by decide +kernel
theorem dX2_noteIfNewer_29 : decode cX2_noteIfNewer 29 = .ok (.iload_n 1, 1) := by decide +kernel
theorem dX2_noteIfNewer_30 : decode cX2_noteIfNewer 30 = .ok (.iload_n 2, 1) := by decide +kernel
theorem dX2_noteIfNewer_31 : decode cX2_noteIfNewer 31 = .ok (.iastore, 1) := by decide +kernel
theorem dX2_noteIfNewer_32 : decode cX2_noteIfNewer 32 = .ok (.iconst 1, 1) := by decide +kernel
theorem dX2_noteIfNewer_33 : decode cX2_noteIfNewer 33 = .ok (.ireturn, 1) := by decide +kernel
theorem dJ6_bitCount_0f7a4_0 : decode cJ6_bitCount_0f7a4 0 = .ok (.iload_n 0, 1) := by decide +kernel
theorem dJ6_bitCount_0f7a4_1 : decode cJ6_bitCount_0f7a4 1 = .ok (.iload_n 0, 1) := by decide +kernel
theorem dJ6_bitCount_0f7a4_2 : decode cJ6_bitCount_0f7a4 2 = .ok (.iconst 1, 1) := by decide +kernel
theorem dJ6_bitCount_0f7a4_3 : decode cJ6_bitCount_0f7a4 3 = .ok (.iushr, 1) := by decide +kernel
theorem dJ6_bitCount_0f7a4_4 : decode cJ6_bitCount_0f7a4 4 = .ok (.ldc_w 265, 3) := by decide +kernel
theorem dJ6_bitCount_0f7a4_7 : decode cJ6_bitCount_0f7a4 7 = .ok (.iand, 1) := by decide +kernel
theorem dJ6_bitCount_0f7a4_8 : decode cJ6_bitCount_0f7a4 8 = .ok (.isub, 1) := by decide +kernel
theorem dJ6_bitCount_0f7a4_9 : decode cJ6_bitCount_0f7a4 9 = .ok (.istore_n 0, 1) := by decide +kernel
theorem dJ6_bitCount_0f7a4_10 : decode cJ6_bitCount_0f7a4 10 = .ok (.iload_n 0, 1) := by decide +kernel
theorem dJ6_bitCount_0f7a4_11 : decode cJ6_bitCount_0f7a4 11 = .ok (.ldc_w 266, 3) := by decide +kernel
theorem dJ6_bitCount_0f7a4_14 : decode cJ6_bitCount_0f7a4 14 = .ok (.iand, 1) := by decide +kernel
theorem dJ6_bitCount_0f7a4_15 : decode cJ6_bitCount_0f7a4 15 = .ok (.iload_n 0, 1) := by decide +kernel
theorem dJ6_bitCount_0f7a4_16 : decode cJ6_bitCount_0f7a4 16 = .ok (.iconst 2, 1) := by decide +kernel
theorem dJ6_bitCount_0f7a4_17 : decode cJ6_bitCount_0f7a4 17 = .ok (.iushr, 1) := by decide +kernel
theorem dJ6_bitCount_0f7a4_18 : decode cJ6_bitCount_0f7a4 18 = .ok (.ldc_w 266, 3) := by decide +kernel
theorem dJ6_bitCount_0f7a4_21 : decode cJ6_bitCount_0f7a4 21 = .ok (.iand, 1) := by decide +kernel
theorem dJ6_bitCount_0f7a4_22 : decode cJ6_bitCount_0f7a4 22 = .ok (.iadd, 1) := by decide +kernel
theorem dJ6_bitCount_0f7a4_23 : decode cJ6_bitCount_0f7a4 23 = .ok (.istore_n 0, 1) := by decide +kernel
theorem dJ6_bitCount_0f7a4_24 : decode cJ6_bitCount_0f7a4 24 = .ok (.iload_n 0, 1) := by decide +kernel
theorem dJ6_bitCount_0f7a4_25 : decode cJ6_bitCount_0f7a4 25 = .ok (.iload_n 0, 1) := by decide +kernel
theorem dJ6_bitCount_0f7a4_26 : decode cJ6_bitCount_0f7a4 26 = .ok (.iconst 4, 1) := by decide +kernel
theorem dJ6_bitCount_0f7a4_27 : decode cJ6_bitCount_0f7a4 27 = .ok (.iushr, 1) := by decide +kernel
theorem dJ6_bitCount_0f7a4_28 : decode cJ6_bitCount_0f7a4 28 = .ok (.iadd, 1) := by decide +kernel
theorem dJ6_bitCount_0f7a4_29 : decode cJ6_bitCount_0f7a4 29 = .ok (.ldc_w 267, 3) := by decide +kernel
theorem dJ6_bitCount_0f7a4_32 : decode cJ6_bitCount_0f7a4 32 = .ok (.iand, 1) := by decide +kernel
theorem dJ6_bitCount_0f7a4_33 : decode cJ6_bitCount_0f7a4 33 = .ok (.istore_n 0, 1) := by decide +kernel
theorem dJ6_bitCount_0f7a4_34 : decode cJ6_bitCount_0f7a4 34 = .ok (.iload_n 0, 1) := by decide +kernel
theorem dJ6_bitCount_0f7a4_35 : decode cJ6_bitCount_0f7a4 35 = .ok (.iload_n 0, 1) := by decide +kernel
theorem dJ6_bitCount_0f7a4_36 : decode cJ6_bitCount_0f7a4 36 = .ok (.bipush 8, 2) := by decide +kernel
theorem dJ6_bitCount_0f7a4_38 : decode cJ6_bitCount_0f7a4 38 = .ok (.iushr, 1) := by decide +kernel
theorem dJ6_bitCount_0f7a4_39 : decode cJ6_bitCount_0f7a4 39 = .ok (.iadd, 1) := by decide +kernel
theorem dJ6_bitCount_0f7a4_40 : decode cJ6_bitCount_0f7a4 40 = .ok (.istore_n 0, 1) := by decide +kernel
theorem dJ6_bitCount_0f7a4_41 : decode cJ6_bitCount_0f7a4 41 = .ok (.iload_n 0, 1) := by decide +kernel
theorem dJ6_bitCount_0f7a4_42 : decode cJ6_bitCount_0f7a4 42 = .ok (.iload_n 0, 1) := by decide +kernel
theorem dJ6_bitCount_0f7a4_43 : decode cJ6_bitCount_0f7a4 43 = .ok (.bipush 16, 2) := by decide +kernel
theorem dJ6_bitCount_0f7a4_45 : decode cJ6_bitCount_0f7a4 45 = .ok (.iushr, 1) := by decide +kernel
theorem dJ6_bitCount_0f7a4_46 : decode cJ6_bitCount_0f7a4 46 = .ok (.iadd, 1) := by decide +kernel
theorem dJ6_bitCount_0f7a4_47 : decode cJ6_bitCount_0f7a4 47 = .ok (.istore_n 0, 1) := by decide +kernel
theorem dJ6_bitCount_0f7a4_48 : decode cJ6_bitCount_0f7a4 48 = .ok (.iload_n 0, 1) := by decide +kernel
theorem dJ6_bitCount_0f7a4_49 : decode cJ6_bitCount_0f7a4 49 = .ok (.bipush 63, 2) := by decide +kernel
theorem dJ6_bitCount_0f7a4_51 : decode cJ6_bitCount_0f7a4 51 = .ok (.iand, 1) := by decide +kernel
theorem dJ6_bitCount_0f7a4_52 : decode cJ6_bitCount_0f7a4 52 = .ok (.ireturn, 1) := by decide +kernel
theorem dJ9_max_7cf53_0 : decode cJ9_max_7cf53 0 = .ok (.iload_n 0, 1) := by decide +kernel
theorem dJ9_max_7cf53_1 : decode cJ9_max_7cf53 1 = .ok (.iload_n 1, 1) := by decide +kernel
theorem dJ9_max_7cf53_2 : decode cJ9_max_7cf53 2 = .ok (.if_icmp .lt 7, 3) := by decide +kernel
theorem dJ9_max_7cf53_5 : decode cJ9_max_7cf53 5 = .ok (.iload_n 0, 1) := by decide +kernel
theorem dJ9_max_7cf53_6 : decode cJ9_max_7cf53 6 = .ok (.goto 4, 3) := by decide +kernel
theorem dJ9_max_7cf53_9 : decode cJ9_max_7cf53 9 = .ok (.iload_n 1, 1) := by decide +kernel
theorem dJ9_max_7cf53_10 : decode cJ9_max_7cf53 10 = .ok (.ireturn, 1) := by decide +kernel
theorem dJ9_min_7cf53_0 : decode cJ9_min_7cf53 0 = .ok (.iload_n 0, 1) := by decide +kernel
theorem dJ9_min_7cf53_1 : decode cJ9_min_7cf53 1 = .ok (.iload_n 1, 1) := by decide +kernel
theorem dJ9_min_7cf53_2 : decode cJ9_min_7cf53 2 = .ok (.if_icmp .gt 7, 3) := by decide +kernel
theorem dJ9_min_7cf53_5 : decode cJ9_min_7cf53 5 = .ok (.iload_n 0, 1) := by decide +kernel
theorem dJ9_min_7cf53_6 : decode cJ9_min_7cf53 6 = .ok (.goto 4, 3) := by decide +kernel
theorem dJ9_min_7cf53_9 : decode cJ9_min_7cf53 9 = .ok (.iload_n 1, 1) := by decide +kernel
theorem dJ9_min_7cf53_10 : decode cJ9_min_7cf53 10 = .ok (.ireturn, 1) := by decide +kernel
theorem dL_cell_0 : decode cL_cell 0 = .ok (.iload_n 1, 1) := by decide +kernel
theorem dL_cell_1 : decode cL_cell 1 = .ok (.aload_n 0, 1) := by decide +kernel
theorem dL_cell_2 : decode cL_cell 2 = .ok (.arraylength, 1) := by decide +kernel
theorem dL_cell_3 : decode cL_cell 3 = .ok (.if_icmp .ge 9, 3) := by decide +kernel
theorem dL_cell_6 : decode cL_cell 6 = .ok (.aload_n 0, 1) := by decide +kernel
theorem dL_cell_7 : decode cL_cell 7 = .ok (.iload_n 1, 1) := by decide +kernel
theorem dL_cell_8 : decode cL_cell 8 = .ok (.iaload, 1) := by decide +kernel
theorem dL_cell_9 : decode cL_cell 9 = .ok (.goto 4, 3) := by decide +kernel
theorem dL_cell_12 : decode cL_cell 12 = .ok (.iconst 0, 1) := by decide +kernel
theorem dL_cell_13 : decode cL_cell 13 = .ok (.ireturn, 1) := by decide +kernel
theorem dL_law_0 : decode cL_law 0 = .ok (.new 7, 3) := by decide +kernel
theorem dL_law_3 : decode cL_law 3 = .ok (.dup, 1) := by decide +kernel
theorem dL_law_4 : decode cL_law 4 = .ok (.aload_n 0, 1) := by decide +kernel
theorem dL_law_5 : decode cL_law 5 = .ok (.iconst 0, 1) := by decide +kernel
theorem dL_law_6 : decode cL_law 6 = .ok (.invokestatic 9, 3) := by decide +kernel
theorem dL_law_9 : decode cL_law 9 = .ok (.invokespecial 15, 3) := by decide +kernel
theorem dL_law_12 : decode cL_law 12 = .ok (.astore_n 1, 1) := by decide +kernel
theorem dL_law_13 : decode cL_law 13 = .ok (.new 18, 3) := by decide +kernel
theorem dL_law_16 : decode cL_law 16 = .ok (.dup, 1) := by decide +kernel
theorem dL_law_17 : decode cL_law 17 = .ok (.aload_n 0, 1) := by decide +kernel
theorem dL_law_18 : decode cL_law 18 = .ok (.iconst 0, 1) := by decide +kernel
theorem dL_law_19 : decode cL_law 19 = .ok (.invokestatic 9, 3) := by decide +kernel
theorem dL_law_22 : decode cL_law 22 = .ok (.invokespecial 20, 3) := by decide +kernel
theorem dL_law_25 : decode cL_law 25 = .ok (.astore_n 2, 1) := by decide +kernel
theorem dL_law_26 : decode cL_law 26 = .ok (.iconst 1, 1) := by decide +kernel
theorem dL_law_27 : decode cL_law 27 = .ok (.istore_n 3, 1) := by decide +kernel
theorem dL_law_28 : decode cL_law 28 = .ok (.iload_n 3, 1) := by decide +kernel
theorem dL_law_29 : decode cL_law 29 = .ok (.aload_n 0, 1) := by decide +kernel
theorem dL_law_30 : decode cL_law 30 = .ok (.arraylength, 1) := by decide +kernel
theorem dL_law_31 : decode cL_law 31 = .ok (.iconst 5, 1) := by decide +kernel
theorem dL_law_32 : decode cL_law 32 = .ok (.isub, 1) := by decide +kernel
theorem dL_law_33 : decode cL_law 33 = .ok (.if_icmp .gt 521, 3) := by decide +kernel
theorem dL_law_36 : decode cL_law 36 = .ok (.aload_n 0, 1) := by decide +kernel
theorem dL_law_37 : decode cL_law 37 = .ok (.iload_n 3, 1) := by decide +kernel
theorem dL_law_38 : decode cL_law 38 = .ok (.iaload, 1) := by decide +kernel
theorem dL_law_39 : decode cL_law 39 = .ok (.bipush 15, 2) := by decide +kernel
theorem dL_law_41 : decode cL_law 41 = .ok (.iand, 1) := by decide +kernel
theorem dL_law_42 : decode cL_law 42 = .ok (.tableswitch 506 0 15 #[78, 91, 124, 147, 180, 213, 236, 259, 292, 325, 358, 391, 444, 457, 470, 483], 78) := by decide +kernel
theorem dL_law_120 : decode cL_law 120 = .ok (.aload_n 1, 1) := by decide +kernel
theorem dL_law_121 : decode cL_law 121 = .ok (.invokevirtual 21, 3) := by decide +kernel
theorem dL_law_124 : decode cL_law 124 = .ok (.aload_n 2, 1) := by decide +kernel
theorem dL_law_125 : decode cL_law 125 = .ok (.invokevirtual 25, 3) := by decide +kernel
theorem dL_law_128 : decode cL_law 128 = .ok (.if_icmp .eq 420, 3) := by decide +kernel
theorem dL_law_131 : decode cL_law 131 = .ok (.iconst 0, 1) := by decide +kernel
theorem dL_law_132 : decode cL_law 132 = .ok (.ireturn, 1) := by decide +kernel
theorem dL_law_133 : decode cL_law 133 = .ok (.aload_n 1, 1) := by decide +kernel
theorem dL_law_134 : decode cL_law 134 = .ok (.aload_n 0, 1) := by decide +kernel
theorem dL_law_135 : decode cL_law 135 = .ok (.iload_n 3, 1) := by decide +kernel
theorem dL_law_136 : decode cL_law 136 = .ok (.iconst 1, 1) := by decide +kernel
theorem dL_law_137 : decode cL_law 137 = .ok (.iadd, 1) := by decide +kernel
theorem dL_law_138 : decode cL_law 138 = .ok (.iaload, 1) := by decide +kernel
theorem dL_law_139 : decode cL_law 139 = .ok (.aload_n 0, 1) := by decide +kernel
theorem dL_law_140 : decode cL_law 140 = .ok (.iload_n 3, 1) := by decide +kernel
theorem dL_law_141 : decode cL_law 141 = .ok (.iconst 2, 1) := by decide +kernel
theorem dL_law_142 : decode cL_law 142 = .ok (.iadd, 1) := by decide +kernel
theorem dL_law_143 : decode cL_law 143 = .ok (.iaload, 1) := by decide +kernel
theorem dL_law_144 : decode cL_law 144 = .ok (.invokevirtual 26, 3) := by decide +kernel
theorem dL_law_147 : decode cL_law 147 = .ok (.aload_n 2, 1) := by decide +kernel
theorem dL_law_148 : decode cL_law 148 = .ok (.aload_n 0, 1) := by decide +kernel
theorem dL_law_149 : decode cL_law 149 = .ok (.iload_n 3, 1) := by decide +kernel
theorem dL_law_150 : decode cL_law 150 = .ok (.iconst 1, 1) := by decide +kernel
theorem dL_law_151 : decode cL_law 151 = .ok (.iadd, 1) := by decide +kernel
theorem dL_law_152 : decode cL_law 152 = .ok (.iaload, 1) := by decide +kernel
theorem dL_law_153 : decode cL_law 153 = .ok (.aload_n 0, 1) := by decide +kernel
theorem dL_law_154 : decode cL_law 154 = .ok (.iload_n 3, 1) := by decide +kernel
theorem dL_law_155 : decode cL_law 155 = .ok (.iconst 2, 1) := by decide +kernel
theorem dL_law_156 : decode cL_law 156 = .ok (.iadd, 1) := by decide +kernel
theorem dL_law_157 : decode cL_law 157 = .ok (.iaload, 1) := by decide +kernel
theorem dL_law_158 : decode cL_law 158 = .ok (.invokevirtual 30, 3) := by decide +kernel
theorem dL_law_161 : decode cL_law 161 = .ok (.if_icmp .eq 387, 3) := by decide +kernel
theorem dL_law_164 : decode cL_law 164 = .ok (.iconst 0, 1) := by decide +kernel
theorem dL_law_165 : decode cL_law 165 = .ok (.ireturn, 1) := by decide +kernel
theorem dL_law_166 : decode cL_law 166 = .ok (.aload_n 1, 1) := by decide +kernel
theorem dL_law_167 : decode cL_law 167 = .ok (.aload_n 0, 1) := by decide +kernel
theorem dL_law_168 : decode cL_law 168 = .ok (.iload_n 3, 1) := by decide +kernel
theorem dL_law_169 : decode cL_law 169 = .ok (.iconst 1, 1) := by decide +kernel
theorem dL_law_170 : decode cL_law 170 = .ok (.iadd, 1) := by decide +kernel
theorem dL_law_171 : decode cL_law 171 = .ok (.iaload, 1) := by decide +kernel
theorem dL_law_172 : decode cL_law 172 = .ok (.invokevirtual 31, 3) := by decide +kernel
theorem dL_law_175 : decode cL_law 175 = .ok (.aload_n 2, 1) := by decide +kernel
theorem dL_law_176 : decode cL_law 176 = .ok (.aload_n 0, 1) := by decide +kernel
theorem dL_law_177 : decode cL_law 177 = .ok (.iload_n 3, 1) := by decide +kernel
theorem dL_law_178 : decode cL_law 178 = .ok (.iconst 1, 1) := by decide +kernel
theorem dL_law_179 : decode cL_law 179 = .ok (.iadd, 1) := by decide +kernel
theorem dL_law_180 : decode cL_law 180 = .ok (.iaload, 1) := by decide +kernel
theorem dL_law_181 : decode cL_law 181 = .ok (.invokevirtual 35, 3) := by decide +kernel
theorem dL_law_184 : decode cL_law 184 = .ok (.if_icmp .eq 364, 3) := by decide +kernel
theorem dL_law_187 : decode cL_law 187 = .ok (.iconst 0, 1) := by decide +kernel
theorem dL_law_188 : decode cL_law 188 = .ok (.ireturn, 1) := by decide +kernel
theorem dL_law_189 : decode cL_law 189 = .ok (.aload_n 1, 1) := by decide +kernel
theorem dL_law_190 : decode cL_law 190 = .ok (.aload_n 0, 1) := by decide +kernel
theorem dL_law_191 : decode cL_law 191 = .ok (.iload_n 3, 1) := by decide +kernel
theorem dL_law_192 : decode cL_law 192 = .ok (.iconst 1, 1) := by decide +kernel
theorem dL_law_193 : decode cL_law 193 = .ok (.iadd, 1) := by decide +kernel
theorem dL_law_194 : decode cL_law 194 = .ok (.iaload, 1) := by decide +kernel
theorem dL_law_195 : decode cL_law 195 = .ok (.aload_n 0, 1) := by decide +kernel
theorem dL_law_196 : decode cL_law 196 = .ok (.iload_n 3, 1) := by decide +kernel
theorem dL_law_197 : decode cL_law 197 = .ok (.iconst 2, 1) := by decide +kernel
theorem dL_law_198 : decode cL_law 198 = .ok (.iadd, 1) := by decide +kernel
theorem dL_law_199 : decode cL_law 199 = .ok (.iaload, 1) := by decide +kernel
theorem dL_law_200 : decode cL_law 200 = .ok (.invokevirtual 36, 3) := by decide +kernel
theorem dL_law_203 : decode cL_law 203 = .ok (.aload_n 2, 1) := by decide +kernel
theorem dL_law_204 : decode cL_law 204 = .ok (.aload_n 0, 1) := by decide +kernel
theorem dL_law_205 : decode cL_law 205 = .ok (.iload_n 3, 1) := by decide +kernel
theorem dL_law_206 : decode cL_law 206 = .ok (.iconst 1, 1) := by decide +kernel
theorem dL_law_207 : decode cL_law 207 = .ok (.iadd, 1) := by decide +kernel
theorem dL_law_208 : decode cL_law 208 = .ok (.iaload, 1) := by decide +kernel
theorem dL_law_209 : decode cL_law 209 = .ok (.aload_n 0, 1) := by decide +kernel
theorem dL_law_210 : decode cL_law 210 = .ok (.iload_n 3, 1) := by decide +kernel
theorem dL_law_211 : decode cL_law 211 = .ok (.iconst 2, 1) := by decide +kernel
theorem dL_law_212 : decode cL_law 212 = .ok (.iadd, 1) := by decide +kernel
theorem dL_law_213 : decode cL_law 213 = .ok (.iaload, 1) := by decide +kernel
theorem dL_law_214 : decode cL_law 214 = .ok (.invokevirtual 40, 3) := by decide +kernel
theorem dL_law_217 : decode cL_law 217 = .ok (.if_icmp .eq 331, 3) := by decide +kernel
theorem dL_law_220 : decode cL_law 220 = .ok (.iconst 0, 1) := by decide +kernel
theorem dL_law_221 : decode cL_law 221 = .ok (.ireturn, 1) := by decide +kernel
theorem dL_law_222 : decode cL_law 222 = .ok (.aload_n 1, 1) := by decide +kernel
theorem dL_law_223 : decode cL_law 223 = .ok (.aload_n 0, 1) := by decide +kernel
theorem dL_law_224 : decode cL_law 224 = .ok (.iload_n 3, 1) := by decide +kernel
theorem dL_law_225 : decode cL_law 225 = .ok (.iconst 1, 1) := by decide +kernel
theorem dL_law_226 : decode cL_law 226 = .ok (.iadd, 1) := by decide +kernel
theorem dL_law_227 : decode cL_law 227 = .ok (.iaload, 1) := by decide +kernel
theorem dL_law_228 : decode cL_law 228 = .ok (.aload_n 0, 1) := by decide +kernel
theorem dL_law_229 : decode cL_law 229 = .ok (.iload_n 3, 1) := by decide +kernel
theorem dL_law_230 : decode cL_law 230 = .ok (.iconst 2, 1) := by decide +kernel
theorem dL_law_231 : decode cL_law 231 = .ok (.iadd, 1) := by decide +kernel
theorem dL_law_232 : decode cL_law 232 = .ok (.iaload, 1) := by decide +kernel
theorem dL_law_233 : decode cL_law 233 = .ok (.invokevirtual 41, 3) := by decide +kernel
theorem dL_law_236 : decode cL_law 236 = .ok (.aload_n 2, 1) := by decide +kernel
theorem dL_law_237 : decode cL_law 237 = .ok (.aload_n 0, 1) := by decide +kernel
theorem dL_law_238 : decode cL_law 238 = .ok (.iload_n 3, 1) := by decide +kernel
theorem dL_law_239 : decode cL_law 239 = .ok (.iconst 1, 1) := by decide +kernel
theorem dL_law_240 : decode cL_law 240 = .ok (.iadd, 1) := by decide +kernel
theorem dL_law_241 : decode cL_law 241 = .ok (.iaload, 1) := by decide +kernel
theorem dL_law_242 : decode cL_law 242 = .ok (.aload_n 0, 1) := by decide +kernel
theorem dL_law_243 : decode cL_law 243 = .ok (.iload_n 3, 1) := by decide +kernel
theorem dL_law_244 : decode cL_law 244 = .ok (.iconst 2, 1) := by decide +kernel
theorem dL_law_245 : decode cL_law 245 = .ok (.iadd, 1) := by decide +kernel
theorem dL_law_246 : decode cL_law 246 = .ok (.iaload, 1) := by decide +kernel
theorem dL_law_247 : decode cL_law 247 = .ok (.invokevirtual 44, 3) := by decide +kernel
theorem dL_law_250 : decode cL_law 250 = .ok (.if_icmp .eq 298, 3) := by decide +kernel
theorem dL_law_253 : decode cL_law 253 = .ok (.iconst 0, 1) := by decide +kernel
theorem dL_law_254 : decode cL_law 254 = .ok (.ireturn, 1) := by decide +kernel
theorem dL_law_255 : decode cL_law 255 = .ok (.aload_n 1, 1) := by decide +kernel
theorem dL_law_256 : decode cL_law 256 = .ok (.aload_n 0, 1) := by decide +kernel
theorem dL_law_257 : decode cL_law 257 = .ok (.iload_n 3, 1) := by decide +kernel
theorem dL_law_258 : decode cL_law 258 = .ok (.iconst 1, 1) := by decide +kernel
theorem dL_law_259 : decode cL_law 259 = .ok (.iadd, 1) := by decide +kernel
theorem dL_law_260 : decode cL_law 260 = .ok (.iaload, 1) := by decide +kernel
theorem dL_law_261 : decode cL_law 261 = .ok (.invokevirtual 45, 3) := by decide +kernel
theorem dL_law_264 : decode cL_law 264 = .ok (.aload_n 2, 1) := by decide +kernel
theorem dL_law_265 : decode cL_law 265 = .ok (.aload_n 0, 1) := by decide +kernel
theorem dL_law_266 : decode cL_law 266 = .ok (.iload_n 3, 1) := by decide +kernel
theorem dL_law_267 : decode cL_law 267 = .ok (.iconst 1, 1) := by decide +kernel
theorem dL_law_268 : decode cL_law 268 = .ok (.iadd, 1) := by decide +kernel
theorem dL_law_269 : decode cL_law 269 = .ok (.iaload, 1) := by decide +kernel
theorem dL_law_270 : decode cL_law 270 = .ok (.invokevirtual 49, 3) := by decide +kernel
theorem dL_law_273 : decode cL_law 273 = .ok (.if_icmp .eq 275, 3) := by decide +kernel
theorem dL_law_276 : decode cL_law 276 = .ok (.iconst 0, 1) := by decide +kernel
theorem dL_law_277 : decode cL_law 277 = .ok (.ireturn, 1) := by decide +kernel
theorem dL_law_278 : decode cL_law 278 = .ok (.aload_n 1, 1) := by decide +kernel
theorem dL_law_279 : decode cL_law 279 = .ok (.aload_n 0, 1) := by decide +kernel
theorem dL_law_280 : decode cL_law 280 = .ok (.iload_n 3, 1) := by decide +kernel
theorem dL_law_281 : decode cL_law 281 = .ok (.iconst 1, 1) := by decide +kernel
theorem dL_law_282 : decode cL_law 282 = .ok (.iadd, 1) := by decide +kernel
theorem dL_law_283 : decode cL_law 283 = .ok (.iaload, 1) := by decide +kernel
theorem dL_law_284 : decode cL_law 284 = .ok (.invokevirtual 50, 3) := by decide +kernel
theorem dL_law_287 : decode cL_law 287 = .ok (.aload_n 2, 1) := by decide +kernel
theorem dL_law_288 : decode cL_law 288 = .ok (.aload_n 0, 1) := by decide +kernel
theorem dL_law_289 : decode cL_law 289 = .ok (.iload_n 3, 1) := by decide +kernel
theorem dL_law_290 : decode cL_law 290 = .ok (.iconst 1, 1) := by decide +kernel
theorem dL_law_291 : decode cL_law 291 = .ok (.iadd, 1) := by decide +kernel
theorem dL_law_292 : decode cL_law 292 = .ok (.iaload, 1) := by decide +kernel
theorem dL_law_293 : decode cL_law 293 = .ok (.invokevirtual 53, 3) := by decide +kernel
theorem dL_law_296 : decode cL_law 296 = .ok (.if_icmp .eq 252, 3) := by decide +kernel
theorem dL_law_299 : decode cL_law 299 = .ok (.iconst 0, 1) := by decide +kernel
theorem dL_law_300 : decode cL_law 300 = .ok (.ireturn, 1) := by decide +kernel
theorem dL_law_301 : decode cL_law 301 = .ok (.aload_n 1, 1) := by decide +kernel
theorem dL_law_302 : decode cL_law 302 = .ok (.aload_n 0, 1) := by decide +kernel
theorem dL_law_303 : decode cL_law 303 = .ok (.iload_n 3, 1) := by decide +kernel
theorem dL_law_304 : decode cL_law 304 = .ok (.iconst 1, 1) := by decide +kernel
theorem dL_law_305 : decode cL_law 305 = .ok (.iadd, 1) := by decide +kernel
theorem dL_law_306 : decode cL_law 306 = .ok (.iaload, 1) := by decide +kernel
theorem dL_law_307 : decode cL_law 307 = .ok (.aload_n 0, 1) := by decide +kernel
theorem dL_law_308 : decode cL_law 308 = .ok (.iload_n 3, 1) := by decide +kernel
theorem dL_law_309 : decode cL_law 309 = .ok (.iconst 2, 1) := by decide +kernel
theorem dL_law_310 : decode cL_law 310 = .ok (.iadd, 1) := by decide +kernel
theorem dL_law_311 : decode cL_law 311 = .ok (.iaload, 1) := by decide +kernel
theorem dL_law_312 : decode cL_law 312 = .ok (.invokevirtual 54, 3) := by decide +kernel
theorem dL_law_315 : decode cL_law 315 = .ok (.aload_n 2, 1) := by decide +kernel
theorem dL_law_316 : decode cL_law 316 = .ok (.aload_n 0, 1) := by decide +kernel
theorem dL_law_317 : decode cL_law 317 = .ok (.iload_n 3, 1) := by decide +kernel
theorem dL_law_318 : decode cL_law 318 = .ok (.iconst 1, 1) := by decide +kernel
theorem dL_law_319 : decode cL_law 319 = .ok (.iadd, 1) := by decide +kernel
theorem dL_law_320 : decode cL_law 320 = .ok (.iaload, 1) := by decide +kernel
theorem dL_law_321 : decode cL_law 321 = .ok (.aload_n 0, 1) := by decide +kernel
theorem dL_law_322 : decode cL_law 322 = .ok (.iload_n 3, 1) := by decide +kernel
theorem dL_law_323 : decode cL_law 323 = .ok (.iconst 2, 1) := by decide +kernel
theorem dL_law_324 : decode cL_law 324 = .ok (.iadd, 1) := by decide +kernel
theorem dL_law_325 : decode cL_law 325 = .ok (.iaload, 1) := by decide +kernel
theorem dL_law_326 : decode cL_law 326 = .ok (.invokevirtual 57, 3) := by decide +kernel
theorem dL_law_329 : decode cL_law 329 = .ok (.if_icmp .eq 219, 3) := by decide +kernel
theorem dL_law_332 : decode cL_law 332 = .ok (.iconst 0, 1) := by decide +kernel
theorem dL_law_333 : decode cL_law 333 = .ok (.ireturn, 1) := by decide +kernel
theorem dL_law_334 : decode cL_law 334 = .ok (.aload_n 1, 1) := by decide +kernel
theorem dL_law_335 : decode cL_law 335 = .ok (.aload_n 0, 1) := by decide +kernel
theorem dL_law_336 : decode cL_law 336 = .ok (.iload_n 3, 1) := by decide +kernel
theorem dL_law_337 : decode cL_law 337 = .ok (.iconst 1, 1) := by decide +kernel
theorem dL_law_338 : decode cL_law 338 = .ok (.iadd, 1) := by decide +kernel
theorem dL_law_339 : decode cL_law 339 = .ok (.iaload, 1) := by decide +kernel
theorem dL_law_340 : decode cL_law 340 = .ok (.aload_n 0, 1) := by decide +kernel
theorem dL_law_341 : decode cL_law 341 = .ok (.iload_n 3, 1) := by decide +kernel
theorem dL_law_342 : decode cL_law 342 = .ok (.iconst 2, 1) := by decide +kernel
theorem dL_law_343 : decode cL_law 343 = .ok (.iadd, 1) := by decide +kernel
theorem dL_law_344 : decode cL_law 344 = .ok (.iaload, 1) := by decide +kernel
theorem dL_law_345 : decode cL_law 345 = .ok (.invokevirtual 58, 3) := by decide +kernel
theorem dL_law_348 : decode cL_law 348 = .ok (.aload_n 2, 1) := by decide +kernel
theorem dL_law_349 : decode cL_law 349 = .ok (.aload_n 0, 1) := by decide +kernel
theorem dL_law_350 : decode cL_law 350 = .ok (.iload_n 3, 1) := by decide +kernel
theorem dL_law_351 : decode cL_law 351 = .ok (.iconst 1, 1) := by decide +kernel
theorem dL_law_352 : decode cL_law 352 = .ok (.iadd, 1) := by decide +kernel
theorem dL_law_353 : decode cL_law 353 = .ok (.iaload, 1) := by decide +kernel
theorem dL_law_354 : decode cL_law 354 = .ok (.aload_n 0, 1) := by decide +kernel
theorem dL_law_355 : decode cL_law 355 = .ok (.iload_n 3, 1) := by decide +kernel
theorem dL_law_356 : decode cL_law 356 = .ok (.iconst 2, 1) := by decide +kernel
theorem dL_law_357 : decode cL_law 357 = .ok (.iadd, 1) := by decide +kernel
theorem dL_law_358 : decode cL_law 358 = .ok (.iaload, 1) := by decide +kernel
theorem dL_law_359 : decode cL_law 359 = .ok (.invokevirtual 61, 3) := by decide +kernel
theorem dL_law_362 : decode cL_law 362 = .ok (.if_icmp .eq 186, 3) := by decide +kernel
theorem dL_law_365 : decode cL_law 365 = .ok (.iconst 0, 1) := by decide +kernel
theorem dL_law_366 : decode cL_law 366 = .ok (.ireturn, 1) := by decide +kernel
theorem dL_law_367 : decode cL_law 367 = .ok (.aload_n 1, 1) := by decide +kernel
theorem dL_law_368 : decode cL_law 368 = .ok (.aload_n 0, 1) := by decide +kernel
theorem dL_law_369 : decode cL_law 369 = .ok (.iload_n 3, 1) := by decide +kernel
theorem dL_law_370 : decode cL_law 370 = .ok (.iconst 1, 1) := by decide +kernel
theorem dL_law_371 : decode cL_law 371 = .ok (.iadd, 1) := by decide +kernel
theorem dL_law_372 : decode cL_law 372 = .ok (.iaload, 1) := by decide +kernel
theorem dL_law_373 : decode cL_law 373 = .ok (.aload_n 0, 1) := by decide +kernel
theorem dL_law_374 : decode cL_law 374 = .ok (.iload_n 3, 1) := by decide +kernel
theorem dL_law_375 : decode cL_law 375 = .ok (.iconst 2, 1) := by decide +kernel
theorem dL_law_376 : decode cL_law 376 = .ok (.iadd, 1) := by decide +kernel
theorem dL_law_377 : decode cL_law 377 = .ok (.iaload, 1) := by decide +kernel
theorem dL_law_378 : decode cL_law 378 = .ok (.invokevirtual 62, 3) := by decide +kernel
theorem dL_law_381 : decode cL_law 381 = .ok (.aload_n 2, 1) := by decide +kernel
theorem dL_law_382 : decode cL_law 382 = .ok (.aload_n 0, 1) := by decide +kernel
theorem dL_law_383 : decode cL_law 383 = .ok (.iload_n 3, 1) := by decide +kernel
theorem dL_law_384 : decode cL_law 384 = .ok (.iconst 1, 1) := by decide +kernel
theorem dL_law_385 : decode cL_law 385 = .ok (.iadd, 1) := by decide +kernel
theorem dL_law_386 : decode cL_law 386 = .ok (.iaload, 1) := by decide +kernel
theorem dL_law_387 : decode cL_law 387 = .ok (.aload_n 0, 1) := by decide +kernel
theorem dL_law_388 : decode cL_law 388 = .ok (.iload_n 3, 1) := by decide +kernel
theorem dL_law_389 : decode cL_law 389 = .ok (.iconst 2, 1) := by decide +kernel
theorem dL_law_390 : decode cL_law 390 = .ok (.iadd, 1) := by decide +kernel
theorem dL_law_391 : decode cL_law 391 = .ok (.iaload, 1) := by decide +kernel
theorem dL_law_392 : decode cL_law 392 = .ok (.invokevirtual 65, 3) := by decide +kernel
theorem dL_law_395 : decode cL_law 395 = .ok (.if_icmp .eq 153, 3) := by decide +kernel
theorem dL_law_398 : decode cL_law 398 = .ok (.iconst 0, 1) := by decide +kernel
theorem dL_law_399 : decode cL_law 399 = .ok (.ireturn, 1) := by decide +kernel
theorem dL_law_400 : decode cL_law 400 = .ok (.aload_n 1, 1) := by decide +kernel
theorem dL_law_401 : decode cL_law 401 = .ok (.aload_n 0, 1) := by decide +kernel
theorem dL_law_402 : decode cL_law 402 = .ok (.iload_n 3, 1) := by decide +kernel
theorem dL_law_403 : decode cL_law 403 = .ok (.iconst 1, 1) := by decide +kernel
theorem dL_law_404 : decode cL_law 404 = .ok (.iadd, 1) := by decide +kernel
theorem dL_law_405 : decode cL_law 405 = .ok (.iaload, 1) := by decide +kernel
theorem dL_law_406 : decode cL_law 406 = .ok (.aload_n 0, 1) := by decide +kernel
theorem dL_law_407 : decode cL_law 407 = .ok (.iload_n 3, 1) := by decide +kernel
theorem dL_law_408 : decode cL_law 408 = .ok (.iconst 2, 1) := by decide +kernel
theorem dL_law_409 : decode cL_law 409 = .ok (.iadd, 1) := by decide +kernel
theorem dL_law_410 : decode cL_law 410 = .ok (.iaload, 1) := by decide +kernel
theorem dL_law_411 : decode cL_law 411 = .ok (.invokevirtual 66, 3) := by decide +kernel
theorem dL_law_414 : decode cL_law 414 = .ok (.aload_n 2, 1) := by decide +kernel
theorem dL_law_415 : decode cL_law 415 = .ok (.aload_n 0, 1) := by decide +kernel
theorem dL_law_416 : decode cL_law 416 = .ok (.iload_n 3, 1) := by decide +kernel
theorem dL_law_417 : decode cL_law 417 = .ok (.iconst 1, 1) := by decide +kernel
theorem dL_law_418 : decode cL_law 418 = .ok (.iadd, 1) := by decide +kernel
theorem dL_law_419 : decode cL_law 419 = .ok (.iaload, 1) := by decide +kernel
theorem dL_law_420 : decode cL_law 420 = .ok (.aload_n 0, 1) := by decide +kernel
theorem dL_law_421 : decode cL_law 421 = .ok (.iload_n 3, 1) := by decide +kernel
theorem dL_law_422 : decode cL_law 422 = .ok (.iconst 2, 1) := by decide +kernel
theorem dL_law_423 : decode cL_law 423 = .ok (.iadd, 1) := by decide +kernel
theorem dL_law_424 : decode cL_law 424 = .ok (.iaload, 1) := by decide +kernel
theorem dL_law_425 : decode cL_law 425 = .ok (.invokevirtual 69, 3) := by decide +kernel
theorem dL_law_428 : decode cL_law 428 = .ok (.if_icmp .eq 120, 3) := by decide +kernel
theorem dL_law_431 : decode cL_law 431 = .ok (.iconst 0, 1) := by decide +kernel
theorem dL_law_432 : decode cL_law 432 = .ok (.ireturn, 1) := by decide +kernel
theorem dL_law_433 : decode cL_law 433 = .ok (.aload_n 1, 1) := by decide +kernel
theorem dL_law_434 : decode cL_law 434 = .ok (.aload_n 0, 1) := by decide +kernel
theorem dL_law_435 : decode cL_law 435 = .ok (.iload_n 3, 1) := by decide +kernel
theorem dL_law_436 : decode cL_law 436 = .ok (.iconst 1, 1) := by decide +kernel
theorem dL_law_437 : decode cL_law 437 = .ok (.iadd, 1) := by decide +kernel
theorem dL_law_438 : decode cL_law 438 = .ok (.iaload, 1) := by decide +kernel
theorem dL_law_439 : decode cL_law 439 = .ok (.aload_n 0, 1) := by decide +kernel
theorem dL_law_440 : decode cL_law 440 = .ok (.iload_n 3, 1) := by decide +kernel
theorem dL_law_441 : decode cL_law 441 = .ok (.iconst 2, 1) := by decide +kernel
theorem dL_law_442 : decode cL_law 442 = .ok (.iadd, 1) := by decide +kernel
theorem dL_law_443 : decode cL_law 443 = .ok (.iaload, 1) := by decide +kernel
theorem dL_law_444 : decode cL_law 444 = .ok (.aload_n 0, 1) := by decide +kernel
theorem dL_law_445 : decode cL_law 445 = .ok (.iload_n 3, 1) := by decide +kernel
theorem dL_law_446 : decode cL_law 446 = .ok (.iconst 3, 1) := by decide +kernel
theorem dL_law_447 : decode cL_law 447 = .ok (.iadd, 1) := by decide +kernel
theorem dL_law_448 : decode cL_law 448 = .ok (.iaload, 1) := by decide +kernel
theorem dL_law_449 : decode cL_law 449 = .ok (.aload_n 0, 1) := by decide +kernel
theorem dL_law_450 : decode cL_law 450 = .ok (.iload_n 3, 1) := by decide +kernel
theorem dL_law_451 : decode cL_law 451 = .ok (.iconst 4, 1) := by decide +kernel
theorem dL_law_452 : decode cL_law 452 = .ok (.iadd, 1) := by decide +kernel
theorem dL_law_453 : decode cL_law 453 = .ok (.iaload, 1) := by decide +kernel
theorem dL_law_454 : decode cL_law 454 = .ok (.invokevirtual 70, 3) := by decide +kernel
theorem dL_law_457 : decode cL_law 457 = .ok (.aload_n 2, 1) := by decide +kernel
theorem dL_law_458 : decode cL_law 458 = .ok (.aload_n 0, 1) := by decide +kernel
theorem dL_law_459 : decode cL_law 459 = .ok (.iload_n 3, 1) := by decide +kernel
theorem dL_law_460 : decode cL_law 460 = .ok (.iconst 1, 1) := by decide +kernel
theorem dL_law_461 : decode cL_law 461 = .ok (.iadd, 1) := by decide +kernel
theorem dL_law_462 : decode cL_law 462 = .ok (.iaload, 1) := by decide +kernel
theorem dL_law_463 : decode cL_law 463 = .ok (.aload_n 0, 1) := by decide +kernel
theorem dL_law_464 : decode cL_law 464 = .ok (.iload_n 3, 1) := by decide +kernel
theorem dL_law_465 : decode cL_law 465 = .ok (.iconst 2, 1) := by decide +kernel
theorem dL_law_466 : decode cL_law 466 = .ok (.iadd, 1) := by decide +kernel
theorem dL_law_467 : decode cL_law 467 = .ok (.iaload, 1) := by decide +kernel
theorem dL_law_468 : decode cL_law 468 = .ok (.aload_n 0, 1) := by decide +kernel
theorem dL_law_469 : decode cL_law 469 = .ok (.iload_n 3, 1) := by decide +kernel
theorem dL_law_470 : decode cL_law 470 = .ok (.iconst 3, 1) := by decide +kernel
theorem dL_law_471 : decode cL_law 471 = .ok (.iadd, 1) := by decide +kernel
theorem dL_law_472 : decode cL_law 472 = .ok (.iaload, 1) := by decide +kernel
theorem dL_law_473 : decode cL_law 473 = .ok (.aload_n 0, 1) := by decide +kernel
theorem dL_law_474 : decode cL_law 474 = .ok (.iload_n 3, 1) := by decide +kernel
theorem dL_law_475 : decode cL_law 475 = .ok (.iconst 4, 1) := by decide +kernel
theorem dL_law_476 : decode cL_law 476 = .ok (.iadd, 1) := by decide +kernel
theorem dL_law_477 : decode cL_law 477 = .ok (.iaload, 1) := by decide +kernel
theorem dL_law_478 : decode cL_law 478 = .ok (.invokevirtual 74, 3) := by decide +kernel
theorem dL_law_481 : decode cL_law 481 = .ok (.if_icmp .eq 67, 3) := by decide +kernel
theorem dL_law_484 : decode cL_law 484 = .ok (.iconst 0, 1) := by decide +kernel
theorem dL_law_485 : decode cL_law 485 = .ok (.ireturn, 1) := by decide +kernel
theorem dL_law_486 : decode cL_law 486 = .ok (.aload_n 1, 1) := by decide +kernel
theorem dL_law_487 : decode cL_law 487 = .ok (.invokevirtual 75, 3) := by decide +kernel
theorem dL_law_490 : decode cL_law 490 = .ok (.aload_n 2, 1) := by decide +kernel
theorem dL_law_491 : decode cL_law 491 = .ok (.invokevirtual 78, 3) := by decide +kernel
theorem dL_law_494 : decode cL_law 494 = .ok (.if_icmp .eq 54, 3) := by decide +kernel
theorem dL_law_497 : decode cL_law 497 = .ok (.iconst 0, 1) := by decide +kernel
theorem dL_law_498 : decode cL_law 498 = .ok (.ireturn, 1) := by decide +kernel
theorem dL_law_499 : decode cL_law 499 = .ok (.aload_n 1, 1) := by decide +kernel
theorem dL_law_500 : decode cL_law 500 = .ok (.invokevirtual 79, 3) := by decide +kernel
theorem dL_law_503 : decode cL_law 503 = .ok (.aload_n 2, 1) := by decide +kernel
theorem dL_law_504 : decode cL_law 504 = .ok (.invokevirtual 83, 3) := by decide +kernel
theorem dL_law_507 : decode cL_law 507 = .ok (.if_icmp .eq 41, 3) := by decide +kernel
theorem dL_law_510 : decode cL_law 510 = .ok (.iconst 0, 1) := by decide +kernel
theorem dL_law_511 : decode cL_law 511 = .ok (.ireturn, 1) := by decide +kernel
theorem dL_law_512 : decode cL_law 512 = .ok (.aload_n 1, 1) := by decide +kernel
theorem dL_law_513 : decode cL_law 513 = .ok (.invokevirtual 84, 3) := by decide +kernel
theorem dL_law_516 : decode cL_law 516 = .ok (.aload_n 2, 1) := by decide +kernel
theorem dL_law_517 : decode cL_law 517 = .ok (.invokevirtual 87, 3) := by decide +kernel
theorem dL_law_520 : decode cL_law 520 = .ok (.if_icmp .eq 28, 3) := by decide +kernel
theorem dL_law_523 : decode cL_law 523 = .ok (.iconst 0, 1) := by decide +kernel
theorem dL_law_524 : decode cL_law 524 = .ok (.ireturn, 1) := by decide +kernel
theorem dL_law_525 : decode cL_law 525 = .ok (.aload_n 1, 1) := by decide +kernel
theorem dL_law_526 : decode cL_law 526 = .ok (.aload_n 0, 1) := by decide +kernel
theorem dL_law_527 : decode cL_law 527 = .ok (.iload_n 3, 1) := by decide +kernel
theorem dL_law_528 : decode cL_law 528 = .ok (.iconst 1, 1) := by decide +kernel
theorem dL_law_529 : decode cL_law 529 = .ok (.iadd, 1) := by decide +kernel
theorem dL_law_530 : decode cL_law 530 = .ok (.iaload, 1) := by decide +kernel
theorem dL_law_531 : decode cL_law 531 = .ok (.invokevirtual 88, 3) := by decide +kernel
theorem dL_law_534 : decode cL_law 534 = .ok (.aload_n 2, 1) := by decide +kernel
theorem dL_law_535 : decode cL_law 535 = .ok (.aload_n 0, 1) := by decide +kernel
theorem dL_law_536 : decode cL_law 536 = .ok (.iload_n 3, 1) := by decide +kernel
theorem dL_law_537 : decode cL_law 537 = .ok (.iconst 1, 1) := by decide +kernel
theorem dL_law_538 : decode cL_law 538 = .ok (.iadd, 1) := by decide +kernel
theorem dL_law_539 : decode cL_law 539 = .ok (.iaload, 1) := by decide +kernel
theorem dL_law_540 : decode cL_law 540 = .ok (.invokevirtual 91, 3) := by decide +kernel
theorem dL_law_543 : decode cL_law 543 = .ok (.if_icmp .eq 5, 3) := by decide +kernel
theorem dL_law_546 : decode cL_law 546 = .ok (.iconst 0, 1) := by decide +kernel
theorem dL_law_547 : decode cL_law 547 = .ok (.ireturn, 1) := by decide +kernel
theorem dL_law_548 : decode cL_law 548 = .ok (.iinc 3 5, 3) := by decide +kernel
theorem dL_law_551 : decode cL_law 551 = .ok (.goto (-523), 3) := by decide +kernel
theorem dL_law_554 : decode cL_law 554 = .ok (.iconst 1, 1) := by decide +kernel
theorem dL_law_555 : decode cL_law 555 = .ok (.ireturn, 1) := by decide +kernel
end
section
theorem dX3_init_0 : decode cX3_init 0 = .ok (.aload_n 0, 1) := by decide +kernel
theorem dX3_init_1 : decode cX3_init 1 = .ok (.invokespecial 1, 3) := by decide +kernel
theorem dX3_init_4 : decode cX3_init 4 = .ok (.iload_n 1, 1) := by decide +kernel
theorem dX3_init_5 : decode cX3_init 5 = .ok (.bipush 10, 2) := by decide +kernel
theorem dX3_init_7 : decode cX3_init 7 = .ok (.invokestatic 9, 3) := by decide +kernel
theorem dX3_init_10 : decode cX3_init 10 = .ok (.istore_n 2, 1) := by decide +kernel
theorem dX3_init_11 : decode cX3_init 11 = .ok (.aload_n 0, 1) := by decide +kernel
theorem dX3_init_12 : decode cX3_init 12 = .ok (.iload_n 2, 1) := by decide +kernel
theorem dX3_init_13 : decode cX3_init 13 = .ok (.iconst 2, 1) := by decide +kernel
theorem dX3_init_14 : decode cX3_init 14 = .ok (.invokestatic 15, 3) := by decide +kernel
theorem dX3_init_17 : decode cX3_init 17 = .ok (.putfield 18, 3) := by decide +kernel
theorem dX3_init_20 : decode cX3_init 20 = .ok (.aload_n 0, 1) := by decide +kernel
theorem dX3_init_21 : decode cX3_init 21 = .ok (.aload_n 0, 1) := by decide +kernel
theorem dX3_init_22 : decode cX3_init 22 = .ok (.getfield 18, 3) := by decide +kernel
theorem dX3_init_25 : decode cX3_init 25 = .ok (.invokestatic 22, 3) := by decide +kernel
theorem dX3_init_28 : decode cX3_init 28 = .ok (.putfield 26, 3) := by decide +kernel
theorem dX3_init_31 : decode cX3_init 31 = .ok (.aload_n 0, 1) := by decide +kernel
theorem dX3_init_32 : decode cX3_init 32 = .ok (.aload_n 0, 1) := by decide +kernel
theorem dX3_init_33 : decode cX3_init 33 = .ok (.getfield 18, 3) := by decide +kernel
theorem dX3_init_36 : decode cX3_init 36 = .ok (.invokestatic 30, 3) := by decide +kernel
theorem dX3_init_39 : decode cX3_init 39 = .ok (.putfield 34, 3) := by decide +kernel
theorem dX3_init_42 : decode cX3_init 42 = .ok (.aload_n 0, 1) := by decide +kernel
theorem dX3_init_43 : decode cX3_init 43 = .ok (.new 38, 3) := by decide +kernel
theorem dX3_init_46 : decode cX3_init 46 = .ok (.dup, 1) := by decide +kernel
theorem dX3_init_47 : decode cX3_init 47 = .ok (.invokespecial 40, 3) := by decide +kernel
theorem dX3_init_50 : decode cX3_init 50 = .ok (.putfield 41, 3) := by decide +kernel
theorem dX3_init_53 : decode cX3_init 53 = .ok (.return_, 1) := by decide +kernel
theorem dX3_start_0 : decode cX3_start 0 = .ok (.aload_n 0, 1) := by decide +kernel
theorem dX3_start_1 : decode cX3_start 1 = .ok (.getfield 45, 3) := by decide +kernel
theorem dX3_start_4 : decode cX3_start 4 = .ok (.ifCond .eq 5, 3) := by decide +kernel
theorem dX3_start_7 : decode cX3_start 7 = .ok (.iconst 0, 1) := by decide +kernel
theorem dX3_start_8 : decode cX3_start 8 = .ok (.ireturn, 1) := by decide +kernel
theorem dX3_start_9 : decode cX3_start 9 = .ok (.aload_n 0, 1) := by decide +kernel
theorem dX3_start_10 : decode cX3_start 10 = .ok (.iconst 1, 1) := by decide +kernel
theorem dX3_start_11 : decode cX3_start 11 = .ok (.putfield 45, 3) := by decide +kernel
theorem dX3_start_14 : decode cX3_start 14 = .ok (.aload_n 0, 1) := by decide +kernel
theorem dX3_start_15 : decode cX3_start 15 = .ok (.getfield 26, 3) := by decide +kernel
theorem dX3_start_18 : decode cX3_start 18 = .ok (.iconst 0, 1) := by decide +kernel
theorem dX3_start_19 : decode cX3_start 19 = .ok (.aaload, 1) := by decide +kernel
theorem dX3_start_20 : decode cX3_start 20 = .ok (.iconst 1, 1) := by decide +kernel
theorem dX3_start_21 : decode cX3_start 21 = .ok (.putfield 49, 3) := by decide +kernel
theorem dX3_start_24 : decode cX3_start 24 = .ok (.iconst 1, 1) := by decide +kernel
theorem dX3_start_25 : decode cX3_start 25 = .ok (.ireturn, 1) := by decide +kernel
theorem dX3_send_0 : decode cX3_send 0 = .ok (.aload_n 0, 1) := by decide +kernel
theorem dX3_send_1 : decode cX3_send 1 = .ok (.iload_n 1, 1) := by decide +kernel
theorem dX3_send_2 : decode cX3_send 2 = .ok (.invokevirtual 54, 3) := by decide +kernel
theorem dX3_send_5 : decode cX3_send 5 = .ok (.astore_n 3, 1) := by decide +kernel
theorem dX3_send_6 : decode cX3_send 6 = .ok (.aload_n 0, 1) := by decide +kernel
theorem dX3_send_7 : decode cX3_send 7 = .ok (.iload_n 1, 1) := by decide +kernel
theorem dX3_send_8 : decode cX3_send 8 = .ok (.iload_n 2, 1) := by decide +kernel
theorem dX3_send_9 : decode cX3_send 9 = .ok (.invokevirtual 58, 3) := by decide +kernel
theorem dX3_send_12 : decode cX3_send 12 = .ok (.astore 4, 2) := by decide +kernel
theorem dX3_send_14 : decode cX3_send 14 = .ok (.aload_n 3, 1) := by decide +kernel
theorem dX3_send_15 : decode cX3_send 15 = .ok (.ifnull 15, 3) := by decide +kernel
theorem dX3_send_18 : decode cX3_send 18 = .ok (.aload 4, 2) := by decide +kernel
theorem dX3_send_20 : decode cX3_send 20 = .ok (.ifnull 10, 3) := by decide +kernel
theorem dX3_send_23 : decode cX3_send 23 = .ok (.aload_n 3, 1) := by decide +kernel
theorem dX3_send_24 : decode cX3_send 24 = .ok (.invokevirtual 62, 3) := by decide +kernel
theorem dX3_send_27 : decode cX3_send 27 = .ok (.ifCond .ne 5, 3) := by decide +kernel
theorem dX3_send_30 : decode cX3_send 30 = .ok (.iconst 0, 1) := by decide +kernel
theorem dX3_send_31 : decode cX3_send 31 = .ok (.ireturn, 1) := by decide +kernel
theorem dX3_send_32 : decode cX3_send 32 = .ok (.aload 4, 2) := by decide +kernel
theorem dX3_send_34 : decode cX3_send 34 = .ok (.getfield 66, 3) := by decide +kernel
theorem dX3_send_37 : decode cX3_send 37 = .ok (.bipush 20, 2) := by decide +kernel
theorem dX3_send_39 : decode cX3_send 39 = .ok (.if_icmp .ge 12, 3) := by decide +kernel
theorem dX3_send_42 : decode cX3_send 42 = .ok (.aload_n 3, 1) := by decide +kernel
theorem dX3_send_43 : decode cX3_send 43 = .ok (.getfield 71, 3) := by decide +kernel
theorem dX3_send_46 : decode cX3_send 46 = .ok (.bipush 100, 2) := by decide +kernel
theorem dX3_send_48 : decode cX3_send 48 = .ok (.if_icmp .lt 5, 3) := by decide +kernel
theorem dX3_send_51 : decode cX3_send 51 = .ok (.iconst 0, 1) := by decide +kernel
theorem dX3_send_52 : decode cX3_send 52 = .ok (.ireturn, 1) := by decide +kernel
theorem dX3_send_53 : decode cX3_send 53 = .ok (.aload 4, 2) := by decide +kernel
theorem dX3_send_55 : decode cX3_send 55 = .ok (.iconst 1, 1) := by decide +kernel
theorem dX3_send_56 : decode cX3_send 56 = .ok (.invokevirtual 74, 3) := by decide +kernel
theorem dX3_send_59 : decode cX3_send 59 = .ok (.aload_n 3, 1) := by decide +kernel
theorem dX3_send_60 : decode cX3_send 60 = .ok (.dup, 1) := by decide +kernel
theorem dX3_send_61 : decode cX3_send 61 = .ok (.getfield 71, 3) := by decide +kernel
theorem dX3_send_64 : decode cX3_send 64 = .ok (.iconst 1, 1) := by decide +kernel
theorem dX3_send_65 : decode cX3_send 65 = .ok (.iadd, 1) := by decide +kernel
theorem dX3_send_66 : decode cX3_send 66 = .ok (.putfield 71, 3) := by decide +kernel
theorem dX3_send_69 : decode cX3_send 69 = .ok (.aload_n 3, 1) := by decide +kernel
theorem dX3_send_70 : decode cX3_send 70 = .ok (.dup, 1) := by decide +kernel
theorem dX3_send_71 : decode cX3_send 71 = .ok (.getfield 78, 3) := by decide +kernel
theorem dX3_send_74 : decode cX3_send 74 = .ok (.iconst 1, 1) := by decide +kernel
theorem dX3_send_75 : decode cX3_send 75 = .ok (.iadd, 1) := by decide +kernel
theorem dX3_send_76 : decode cX3_send 76 = .ok (.putfield 78, 3) := by decide +kernel
theorem dX3_send_79 : decode cX3_send 79 = .ok (.iconst 1, 1) := by decide +kernel
theorem dX3_send_80 : decode cX3_send 80 = .ok (.ireturn, 1) := by decide +kernel
theorem dX3_rest_0 : decode cX3_rest 0 = .ok (.aload_n 0, 1) := by decide +kernel
theorem dX3_rest_1 : decode cX3_rest 1 = .ok (.iload_n 1, 1) := by decide +kernel
theorem dX3_rest_2 : decode cX3_rest 2 = .ok (.invokevirtual 54, 3) := by decide +kernel
theorem dX3_rest_5 : decode cX3_rest 5 = .ok (.astore_n 2, 1) := by decide +kernel
theorem dX3_rest_6 : decode cX3_rest 6 = .ok (.aload_n 2, 1) := by decide +kernel
theorem dX3_rest_7 : decode cX3_rest 7 = .ok (.ifnull 10, 3) := by decide +kernel
theorem dX3_rest_10 : decode cX3_rest 10 = .ok (.aload_n 2, 1) := by decide +kernel
theorem dX3_rest_11 : decode cX3_rest 11 = .ok (.invokevirtual 62, 3) := by decide +kernel
theorem dX3_rest_14 : decode cX3_rest 14 = .ok (.ifCond .ne 5, 3) := by decide +kernel
theorem dX3_rest_17 : decode cX3_rest 17 = .ok (.iconst 0, 1) := by decide +kernel
theorem dX3_rest_18 : decode cX3_rest 18 = .ok (.ireturn, 1) := by decide +kernel
theorem dX3_rest_19 : decode cX3_rest 19 = .ok (.aload_n 2, 1) := by decide +kernel
theorem dX3_rest_20 : decode cX3_rest 20 = .ok (.iconst 0, 1) := by decide +kernel
theorem dX3_rest_21 : decode cX3_rest 21 = .ok (.putfield 49, 3) := by decide +kernel
theorem dX3_rest_24 : decode cX3_rest 24 = .ok (.aload_n 0, 1) := by decide +kernel
theorem dX3_rest_25 : decode cX3_rest 25 = .ok (.iload_n 1, 1) := by decide +kernel
theorem dX3_rest_26 : decode cX3_rest 26 = .ok (.aload_n 2, 1) := by decide +kernel
theorem dX3_rest_27 : decode cX3_rest 27 = .ok (.invokevirtual 81, 3) := by decide +kernel
theorem dX3_rest_30 : decode cX3_rest 30 = .ok (.iconst 1, 1) := by decide +kernel
theorem dX3_rest_31 : decode cX3_rest 31 = .ok (.ireturn, 1) := by decide +kernel
theorem dX3_ask_0 : decode cX3_ask 0 = .ok (.aload_n 0, 1) := by decide +kernel
theorem dX3_ask_1 : decode cX3_ask 1 = .ok (.iload_n 1, 1) := by decide +kernel
theorem dX3_ask_2 : decode cX3_ask 2 = .ok (.invokevirtual 54, 3) := by decide +kernel
theorem dX3_ask_5 : decode cX3_ask 5 = .ok (.astore_n 3, 1) := by decide +kernel
theorem dX3_ask_6 : decode cX3_ask 6 = .ok (.aload_n 3, 1) := by decide +kernel
theorem dX3_ask_7 : decode cX3_ask 7 = .ok (.ifnull 10, 3) := by decide +kernel
theorem dX3_ask_10 : decode cX3_ask 10 = .ok (.aload_n 3, 1) := by decide +kernel
theorem dX3_ask_11 : decode cX3_ask 11 = .ok (.invokevirtual 62, 3) := by decide +kernel
theorem dX3_ask_14 : decode cX3_ask 14 = .ok (.ifCond .ne 5, 3) := by decide +kernel
theorem dX3_ask_17 : decode cX3_ask 17 = .ok (.iconst (-1), 1) := by decide +kernel
theorem dX3_ask_18 : decode cX3_ask 18 = .ok (.ireturn, 1) := by decide +kernel
theorem dX3_ask_19 : decode cX3_ask 19 = .ok (.iload_n 2, 1) := by decide +kernel
theorem dX3_ask_20 : decode cX3_ask 20 = .ok (.aload_n 0, 1) := by decide +kernel
theorem dX3_ask_21 : decode cX3_ask 21 = .ok (.getfield 18, 3) := by decide +kernel
theorem dX3_ask_24 : decode cX3_ask 24 = .ok (.invokestatic 85, 3) := by decide +kernel
theorem dX3_ask_27 : decode cX3_ask 27 = .ok (.iand, 1) := by decide +kernel
theorem dX3_ask_28 : decode cX3_ask 28 = .ok (.iload_n 1, 1) := by decide +kernel
theorem dX3_ask_29 : decode cX3_ask 29 = .ok (.invokestatic 89, 3) := by decide +kernel
theorem dX3_ask_32 : decode cX3_ask 32 = .ok (.iconst (-1), 1) := by decide +kernel
theorem dX3_ask_33 : decode cX3_ask 33 = .ok (.ixor, 1) := by decide +kernel
theorem dX3_ask_34 : decode cX3_ask 34 = .ok (.iand, 1) := by decide +kernel
theorem dX3_ask_35 : decode cX3_ask 35 = .ok (.istore 4, 2) := by decide +kernel
theorem dX3_ask_37 : decode cX3_ask 37 = .ok (.iload 4, 2) := by decide +kernel
theorem dX3_ask_39 : decode cX3_ask 39 = .ok (.ifCond .ne 5, 3) := by decide +kernel
theorem dX3_ask_42 : decode cX3_ask 42 = .ok (.iconst (-1), 1) := by decide +kernel
theorem dX3_ask_43 : decode cX3_ask 43 = .ok (.ireturn, 1) := by decide +kernel
theorem dX3_ask_44 : decode cX3_ask 44 = .ok (.aload_n 3, 1) := by decide +kernel
theorem dX3_ask_45 : decode cX3_ask 45 = .ok (.iload 4, 2) := by decide +kernel
theorem dX3_ask_47 : decode cX3_ask 47 = .ok (.putfield 92, 3) := by decide +kernel
theorem dX3_ask_50 : decode cX3_ask 50 = .ok (.aload_n 0, 1) := by decide +kernel
theorem dX3_ask_51 : decode cX3_ask 51 = .ok (.iload_n 1, 1) := by decide +kernel
theorem dX3_ask_52 : decode cX3_ask 52 = .ok (.iload 4, 2) := by decide +kernel
theorem dX3_ask_54 : decode cX3_ask 54 = .ok (.iconst 4, 1) := by decide +kernel
theorem dX3_ask_55 : decode cX3_ask 55 = .ok (.invokevirtual 95, 3) := by decide +kernel
theorem dX3_ask_58 : decode cX3_ask 58 = .ok (.iload 4, 2) := by decide +kernel
theorem dX3_ask_60 : decode cX3_ask 60 = .ok (.invokestatic 99, 3) := by decide +kernel
theorem dX3_ask_63 : decode cX3_ask 63 = .ok (.ireturn, 1) := by decide +kernel
theorem dX3_answer_0 : decode cX3_answer 0 = .ok (.aload_n 0, 1) := by decide +kernel
theorem dX3_answer_1 : decode cX3_answer 1 = .ok (.iload_n 1, 1) := by decide +kernel
theorem dX3_answer_2 : decode cX3_answer 2 = .ok (.invokevirtual 54, 3) := by decide +kernel
theorem dX3_answer_5 : decode cX3_answer 5 = .ok (.astore_n 3, 1) := by decide +kernel
theorem dX3_answer_6 : decode cX3_answer 6 = .ok (.aload_n 0, 1) := by decide +kernel
theorem dX3_answer_7 : decode cX3_answer 7 = .ok (.iload_n 2, 1) := by decide +kernel
theorem dX3_answer_8 : decode cX3_answer 8 = .ok (.invokevirtual 54, 3) := by decide +kernel
theorem dX3_answer_11 : decode cX3_answer 11 = .ok (.astore 4, 2) := by decide +kernel
theorem dX3_answer_13 : decode cX3_answer 13 = .ok (.aload_n 3, 1) := by decide +kernel
theorem dX3_answer_14 : decode cX3_answer 14 = .ok (.ifnull 8, 3) := by decide +kernel
theorem dX3_answer_17 : decode cX3_answer 17 = .ok (.aload 4, 2) := by decide +kernel
theorem dX3_answer_19 : decode cX3_answer 19 = .ok (.ifnonnull 5, 3) := by decide +kernel
theorem dX3_answer_22 : decode cX3_answer 22 = .ok (.iconst 0, 1) := by decide +kernel
theorem dX3_answer_23 : decode cX3_answer 23 = .ok (.ireturn, 1) := by decide +kernel
theorem dX3_answer_24 : decode cX3_answer 24 = .ok (.aload_n 3, 1) := by decide +kernel
theorem dX3_answer_25 : decode cX3_answer 25 = .ok (.invokevirtual 104, 3) := by decide +kernel
theorem dX3_answer_28 : decode cX3_answer 28 = .ok (.ifCond .ne 14, 3) := by decide +kernel
theorem dX3_answer_31 : decode cX3_answer 31 = .ok (.aload_n 3, 1) := by decide +kernel
theorem dX3_answer_32 : decode cX3_answer 32 = .ok (.getfield 107, 3) := by decide +kernel
theorem dX3_answer_35 : decode cX3_answer 35 = .ok (.iload_n 2, 1) := by decide +kernel
theorem dX3_answer_36 : decode cX3_answer 36 = .ok (.invokestatic 110, 3) := by decide +kernel
theorem dX3_answer_39 : decode cX3_answer 39 = .ok (.ifCond .ne 5, 3) := by decide +kernel
theorem dX3_answer_42 : decode cX3_answer 42 = .ok (.iconst 0, 1) := by decide +kernel
theorem dX3_answer_43 : decode cX3_answer 43 = .ok (.ireturn, 1) := by decide +kernel
theorem dX3_answer_44 : decode cX3_answer 44 = .ok (.aload_n 3, 1) := by decide +kernel
theorem dX3_answer_45 : decode cX3_answer 45 = .ok (.dup, 1) := by decide +kernel
theorem dX3_answer_46 : decode cX3_answer 46 = .ok (.getfield 107, 3) := by decide +kernel
theorem dX3_answer_49 : decode cX3_answer 49 = .ok (.iload_n 2, 1) := by decide +kernel
theorem dX3_answer_50 : decode cX3_answer 50 = .ok (.invokestatic 89, 3) := by decide +kernel
theorem dX3_answer_53 : decode cX3_answer 53 = .ok (.iconst (-1), 1) := by decide +kernel
theorem dX3_answer_54 : decode cX3_answer 54 = .ok (.ixor, 1) := by decide +kernel
theorem dX3_answer_55 : decode cX3_answer 55 = .ok (.iand, 1) := by decide +kernel
theorem dX3_answer_56 : decode cX3_answer 56 = .ok (.putfield 107, 3) := by decide +kernel
theorem dX3_answer_59 : decode cX3_answer 59 = .ok (.aload 4, 2) := by decide +kernel
theorem dX3_answer_61 : decode cX3_answer 61 = .ok (.dup, 1) := by decide +kernel
theorem dX3_answer_62 : decode cX3_answer 62 = .ok (.getfield 114, 3) := by decide +kernel
theorem dX3_answer_65 : decode cX3_answer 65 = .ok (.iload_n 1, 1) := by decide +kernel
theorem dX3_answer_66 : decode cX3_answer 66 = .ok (.invokestatic 89, 3) := by decide +kernel
theorem dX3_answer_69 : decode cX3_answer 69 = .ok (.ior, 1) := by decide +kernel
theorem dX3_answer_70 : decode cX3_answer 70 = .ok (.putfield 114, 3) := by decide +kernel
theorem dX3_answer_73 : decode cX3_answer 73 = .ok (.aload_n 0, 1) := by decide +kernel
theorem dX3_answer_74 : decode cX3_answer 74 = .ok (.iload_n 1, 1) := by decide +kernel
theorem dX3_answer_75 : decode cX3_answer 75 = .ok (.iload_n 2, 1) := by decide +kernel
theorem dX3_answer_76 : decode cX3_answer 76 = .ok (.iconst 5, 1) := by decide +kernel
theorem dX3_answer_77 : decode cX3_answer 77 = .ok (.invokevirtual 117, 3) := by decide +kernel
theorem dX3_answer_80 : decode cX3_answer 80 = .ok (.iconst 1, 1) := by decide +kernel
theorem dX3_answer_81 : decode cX3_answer 81 = .ok (.ireturn, 1) := by decide +kernel
theorem dX3_probe_0 : decode cX3_probe 0 = .ok (.aload_n 0, 1) := by decide +kernel
theorem dX3_probe_1 : decode cX3_probe 1 = .ok (.iload_n 1, 1) := by decide +kernel
theorem dX3_probe_2 : decode cX3_probe 2 = .ok (.invokevirtual 54, 3) := by decide +kernel
theorem dX3_probe_5 : decode cX3_probe 5 = .ok (.astore_n 2, 1) := by decide +kernel
theorem dX3_probe_6 : decode cX3_probe 6 = .ok (.aload_n 2, 1) := by decide +kernel
theorem dX3_probe_7 : decode cX3_probe 7 = .ok (.ifnull 19, 3) := by decide +kernel
theorem dX3_probe_10 : decode cX3_probe 10 = .ok (.aload_n 2, 1) := by decide +kernel
theorem dX3_probe_11 : decode cX3_probe 11 = .ok (.invokevirtual 104, 3) := by decide +kernel
theorem dX3_probe_14 : decode cX3_probe 14 = .ok (.ifCond .eq 12, 3) := by decide +kernel
theorem dX3_probe_17 : decode cX3_probe 17 = .ok (.aload_n 2, 1) := by decide +kernel
theorem dX3_probe_18 : decode cX3_probe 18 = .ok (.getfield 120, 3) := by decide +kernel
theorem dX3_probe_21 : decode cX3_probe 21 = .ok (.bipush 50, 2) := by decide +kernel
theorem dX3_probe_23 : decode cX3_probe 23 = .ok (.if_icmp .lt 5, 3) := by decide +kernel
theorem dX3_probe_26 : decode cX3_probe 26 = .ok (.iconst (-1), 1) := by decide +kernel
theorem dX3_probe_27 : decode cX3_probe 27 = .ok (.ireturn, 1) := by decide +kernel
theorem dX3_probe_28 : decode cX3_probe 28 = .ok (.aload_n 2, 1) := by decide +kernel
theorem dX3_probe_29 : decode cX3_probe 29 = .ok (.dup, 1) := by decide +kernel
theorem dX3_probe_30 : decode cX3_probe 30 = .ok (.getfield 120, 3) := by decide +kernel
theorem dX3_probe_33 : decode cX3_probe 33 = .ok (.iconst 1, 1) := by decide +kernel
theorem dX3_probe_34 : decode cX3_probe 34 = .ok (.iadd, 1) := by decide +kernel
theorem dX3_probe_35 : decode cX3_probe 35 = .ok (.putfield 120, 3) := by decide +kernel
theorem dX3_probe_38 : decode cX3_probe 38 = .ok (.aload_n 0, 1) := by decide +kernel
theorem dX3_probe_39 : decode cX3_probe 39 = .ok (.iload_n 1, 1) := by decide +kernel
theorem dX3_probe_40 : decode cX3_probe 40 = .ok (.aload_n 2, 1) := by decide +kernel
theorem dX3_probe_41 : decode cX3_probe 41 = .ok (.getfield 92, 3) := by decide +kernel
theorem dX3_probe_44 : decode cX3_probe 44 = .ok (.iload_n 1, 1) := by decide +kernel
theorem dX3_probe_45 : decode cX3_probe 45 = .ok (.aload_n 2, 1) := by decide +kernel
theorem dX3_probe_46 : decode cX3_probe 46 = .ok (.getfield 120, 3) := by decide +kernel
theorem dX3_probe_49 : decode cX3_probe 49 = .ok (.invokestatic 123, 3) := by decide +kernel
theorem dX3_probe_52 : decode cX3_probe 52 = .ok (.invokevirtual 95, 3) := by decide +kernel
theorem dX3_probe_55 : decode cX3_probe 55 = .ok (.aload_n 2, 1) := by decide +kernel
theorem dX3_probe_56 : decode cX3_probe 56 = .ok (.getfield 120, 3) := by decide +kernel
theorem dX3_probe_59 : decode cX3_probe 59 = .ok (.ireturn, 1) := by decide +kernel
theorem dX3_pass_0 : decode cX3_pass 0 = .ok (.aload_n 0, 1) := by decide +kernel
theorem dX3_pass_1 : decode cX3_pass 1 = .ok (.iload_n 1, 1) := by decide +kernel
theorem dX3_pass_2 : decode cX3_pass 2 = .ok (.invokevirtual 54, 3) := by decide +kernel
theorem dX3_pass_5 : decode cX3_pass 5 = .ok (.astore_n 2, 1) := by decide +kernel
theorem dX3_pass_6 : decode cX3_pass 6 = .ok (.aload_n 2, 1) := by decide +kernel
theorem dX3_pass_7 : decode cX3_pass 7 = .ok (.ifnull 35, 3) := by decide +kernel
theorem dX3_pass_10 : decode cX3_pass 10 = .ok (.aload_n 0, 1) := by decide +kernel
theorem dX3_pass_11 : decode cX3_pass 11 = .ok (.getfield 41, 3) := by decide +kernel
theorem dX3_pass_14 : decode cX3_pass 14 = .ok (.getfield 126, 3) := by decide +kernel
theorem dX3_pass_17 : decode cX3_pass 17 = .ok (.iload_n 1, 1) := by decide +kernel
theorem dX3_pass_18 : decode cX3_pass 18 = .ok (.if_icmp .ne 24, 3) := by decide +kernel
theorem dX3_pass_21 : decode cX3_pass 21 = .ok (.aload_n 2, 1) := by decide +kernel
theorem dX3_pass_22 : decode cX3_pass 22 = .ok (.getfield 49, 3) := by decide +kernel
theorem dX3_pass_25 : decode cX3_pass 25 = .ok (.ifCond .ne 17, 3) := by decide +kernel
theorem dX3_pass_28 : decode cX3_pass 28 = .ok (.aload_n 0, 1) := by decide +kernel
theorem dX3_pass_29 : decode cX3_pass 29 = .ok (.getfield 45, 3) := by decide +kernel
theorem dX3_pass_32 : decode cX3_pass 32 = .ok (.ifCond .eq 10, 3) := by decide +kernel
theorem dX3_pass_35 : decode cX3_pass 35 = .ok (.aload_n 0, 1) := by decide +kernel
theorem dX3_pass_36 : decode cX3_pass 36 = .ok (.getfield 129, 3) := by decide +kernel
theorem dX3_pass_39 : decode cX3_pass 39 = .ok (.ifCond .eq 5, 3) := by decide +kernel
theorem dX3_pass_42 : decode cX3_pass 42 = .ok (.iconst (-1), 1) := by decide +kernel
theorem dX3_pass_43 : decode cX3_pass 43 = .ok (.ireturn, 1) := by decide +kernel
theorem dX3_pass_44 : decode cX3_pass 44 = .ok (.iload_n 1, 1) := by decide +kernel
theorem dX3_pass_45 : decode cX3_pass 45 = .ok (.ifCond .eq 21, 3) := by decide +kernel
theorem dX3_pass_48 : decode cX3_pass 48 = .ok (.aload_n 0, 1) := by decide +kernel
theorem dX3_pass_49 : decode cX3_pass 49 = .ok (.getfield 41, 3) := by decide +kernel
theorem dX3_pass_52 : decode cX3_pass 52 = .ok (.aload_n 2, 1) := by decide +kernel
theorem dX3_pass_53 : decode cX3_pass 53 = .ok (.invokevirtual 132, 3) := by decide +kernel
theorem dX3_pass_56 : decode cX3_pass 56 = .ok (.aload_n 0, 1) := by decide +kernel
theorem dX3_pass_57 : decode cX3_pass 57 = .ok (.iload_n 1, 1) := by decide +kernel
theorem dX3_pass_58 : decode cX3_pass 58 = .ok (.iload_n 1, 1) := by decide +kernel
theorem dX3_pass_59 : decode cX3_pass 59 = .ok (.iconst 1, 1) := by decide +kernel
theorem dX3_pass_60 : decode cX3_pass 60 = .ok (.isub, 1) := by decide +kernel
theorem dX3_pass_61 : decode cX3_pass 61 = .ok (.invokevirtual 136, 3) := by decide +kernel
theorem dX3_pass_64 : decode cX3_pass 64 = .ok (.iconst 1, 1) := by decide +kernel
theorem dX3_pass_65 : decode cX3_pass 65 = .ok (.ireturn, 1) := by decide +kernel
theorem dX3_pass_66 : decode cX3_pass 66 = .ok (.aload_n 0, 1) := by decide +kernel
theorem dX3_pass_67 : decode cX3_pass 67 = .ok (.getfield 41, 3) := by decide +kernel
theorem dX3_pass_70 : decode cX3_pass 70 = .ok (.aload_n 2, 1) := by decide +kernel
theorem dX3_pass_71 : decode cX3_pass 71 = .ok (.invokevirtual 140, 3) := by decide +kernel
theorem dX3_pass_74 : decode cX3_pass 74 = .ok (.ifCond .eq 14, 3) := by decide +kernel
theorem dX3_pass_77 : decode cX3_pass 77 = .ok (.aload_n 0, 1) := by decide +kernel
theorem dX3_pass_78 : decode cX3_pass 78 = .ok (.iconst 1, 1) := by decide +kernel
theorem dX3_pass_79 : decode cX3_pass 79 = .ok (.putfield 129, 3) := by decide +kernel
theorem dX3_pass_82 : decode cX3_pass 82 = .ok (.aload_n 0, 1) := by decide +kernel
theorem dX3_pass_83 : decode cX3_pass 83 = .ok (.invokevirtual 144, 3) := by decide +kernel
theorem dX3_pass_86 : decode cX3_pass 86 = .ok (.iconst 2, 1) := by decide +kernel
theorem dX3_pass_87 : decode cX3_pass 87 = .ok (.ireturn, 1) := by decide +kernel
theorem dX3_pass_88 : decode cX3_pass 88 = .ok (.aload_n 0, 1) := by decide +kernel
theorem dX3_pass_89 : decode cX3_pass 89 = .ok (.getfield 41, 3) := by decide +kernel
theorem dX3_pass_92 : decode cX3_pass 92 = .ok (.invokevirtual 147, 3) := by decide +kernel
theorem dX3_pass_95 : decode cX3_pass 95 = .ok (.aload_n 2, 1) := by decide +kernel
theorem dX3_pass_96 : decode cX3_pass 96 = .ok (.iconst 0, 1) := by decide +kernel
theorem dX3_pass_97 : decode cX3_pass 97 = .ok (.putfield 150, 3) := by decide +kernel
theorem dX3_pass_100 : decode cX3_pass 100 = .ok (.aload_n 0, 1) := by decide +kernel
theorem dX3_pass_101 : decode cX3_pass 101 = .ok (.iconst 0, 1) := by decide +kernel
theorem dX3_pass_102 : decode cX3_pass 102 = .ok (.aload_n 0, 1) := by decide +kernel
theorem dX3_pass_103 : decode cX3_pass 103 = .ok (.getfield 18, 3) := by decide +kernel
theorem dX3_pass_106 : decode cX3_pass 106 = .ok (.iconst 1, 1) := by decide +kernel
theorem dX3_pass_107 : decode cX3_pass 107 = .ok (.isub, 1) := by decide +kernel
theorem dX3_pass_108 : decode cX3_pass 108 = .ok (.invokevirtual 136, 3) := by decide +kernel
theorem dX3_pass_111 : decode cX3_pass 111 = .ok (.iconst 1, 1) := by decide +kernel
theorem dX3_pass_112 : decode cX3_pass 112 = .ok (.ireturn, 1) := by decide +kernel
theorem dX3_receive_0 : decode cX3_receive 0 = .ok (.aload_n 0, 1) := by decide +kernel
theorem dX3_receive_1 : decode cX3_receive 1 = .ok (.iload_n 1, 1) := by decide +kernel
theorem dX3_receive_2 : decode cX3_receive 2 = .ok (.iload_n 2, 1) := by decide +kernel
theorem dX3_receive_3 : decode cX3_receive 3 = .ok (.invokevirtual 58, 3) := by decide +kernel
theorem dX3_receive_6 : decode cX3_receive 6 = .ok (.astore_n 3, 1) := by decide +kernel
theorem dX3_receive_7 : decode cX3_receive 7 = .ok (.aload_n 0, 1) := by decide +kernel
theorem dX3_receive_8 : decode cX3_receive 8 = .ok (.iload_n 2, 1) := by decide +kernel
theorem dX3_receive_9 : decode cX3_receive 9 = .ok (.invokevirtual 54, 3) := by decide +kernel
theorem dX3_receive_12 : decode cX3_receive 12 = .ok (.astore 4, 2) := by decide +kernel
theorem dX3_receive_14 : decode cX3_receive 14 = .ok (.aload_n 3, 1) := by decide +kernel
theorem dX3_receive_15 : decode cX3_receive 15 = .ok (.ifnull 15, 3) := by decide +kernel
theorem dX3_receive_18 : decode cX3_receive 18 = .ok (.aload 4, 2) := by decide +kernel
theorem dX3_receive_20 : decode cX3_receive 20 = .ok (.ifnull 10, 3) := by decide +kernel
theorem dX3_receive_23 : decode cX3_receive 23 = .ok (.aload_n 3, 1) := by decide +kernel
theorem dX3_receive_24 : decode cX3_receive 24 = .ok (.getfield 153, 3) := by decide +kernel
theorem dX3_receive_27 : decode cX3_receive 27 = .ok (.ifCond .ne 5, 3) := by decide +kernel
theorem dX3_receive_30 : decode cX3_receive 30 = .ok (.iconst (-1), 1) := by decide +kernel
theorem dX3_receive_31 : decode cX3_receive 31 = .ok (.ireturn, 1) := by decide +kernel
theorem dX3_receive_32 : decode cX3_receive 32 = .ok (.aload_n 3, 1) := by decide +kernel
theorem dX3_receive_33 : decode cX3_receive 33 = .ok (.invokevirtual 156, 3) := by decide +kernel
theorem dX3_receive_36 : decode cX3_receive 36 = .ok (.istore 5, 2) := by decide +kernel
theorem dX3_receive_38 : decode cX3_receive 38 = .ok (.aload_n 0, 1) := by decide +kernel
theorem dX3_receive_39 : decode cX3_receive 39 = .ok (.dup, 1) := by decide +kernel
theorem dX3_receive_40 : decode cX3_receive 40 = .ok (.getfield 160, 3) := by decide +kernel
theorem dX3_receive_43 : decode cX3_receive 43 = .ok (.iconst 1, 1) := by decide +kernel
theorem dX3_receive_44 : decode cX3_receive 44 = .ok (.iadd, 1) := by decide +kernel
theorem dX3_receive_45 : decode cX3_receive 45 = .ok (.putfield 160, 3) := by decide +kernel
theorem dX3_receive_48 : decode cX3_receive 48 = .ok (.iload 5, 2) := by decide +kernel
theorem dX3_receive_50 : decode cX3_receive 50 = .ok (.invokestatic 163, 3) := by decide +kernel
theorem dX3_receive_53 : decode cX3_receive 53 = .ok (.tableswitch 130 1 5 #[35, 46, 67, 78, 95], 35) := by decide +kernel
theorem dX3_receive_88 : decode cX3_receive 88 = .ok (.aload_n 0, 1) := by decide +kernel
theorem dX3_receive_89 : decode cX3_receive 89 = .ok (.iload_n 1, 1) := by decide +kernel
theorem dX3_receive_90 : decode cX3_receive 90 = .ok (.iload_n 2, 1) := by decide +kernel
theorem dX3_receive_91 : decode cX3_receive 91 = .ok (.aload 4, 2) := by decide +kernel
theorem dX3_receive_93 : decode cX3_receive 93 = .ok (.invokevirtual 166, 3) := by decide +kernel
theorem dX3_receive_96 : decode cX3_receive 96 = .ok (.goto 97, 3) := by decide +kernel
theorem dX3_receive_99 : decode cX3_receive 99 = .ok (.aload 4, 2) := by decide +kernel
theorem dX3_receive_101 : decode cX3_receive 101 = .ok (.dup, 1) := by decide +kernel
theorem dX3_receive_102 : decode cX3_receive 102 = .ok (.getfield 71, 3) := by decide +kernel
theorem dX3_receive_105 : decode cX3_receive 105 = .ok (.iconst 1, 1) := by decide +kernel
theorem dX3_receive_106 : decode cX3_receive 106 = .ok (.isub, 1) := by decide +kernel
theorem dX3_receive_107 : decode cX3_receive 107 = .ok (.putfield 71, 3) := by decide +kernel
theorem dX3_receive_110 : decode cX3_receive 110 = .ok (.aload_n 0, 1) := by decide +kernel
theorem dX3_receive_111 : decode cX3_receive 111 = .ok (.iload_n 2, 1) := by decide +kernel
theorem dX3_receive_112 : decode cX3_receive 112 = .ok (.aload 4, 2) := by decide +kernel
theorem dX3_receive_114 : decode cX3_receive 114 = .ok (.invokevirtual 81, 3) := by decide +kernel
theorem dX3_receive_117 : decode cX3_receive 117 = .ok (.goto 76, 3) := by decide +kernel
theorem dX3_receive_120 : decode cX3_receive 120 = .ok (.aload_n 0, 1) := by decide +kernel
theorem dX3_receive_121 : decode cX3_receive 121 = .ok (.getfield 41, 3) := by decide +kernel
theorem dX3_receive_124 : decode cX3_receive 124 = .ok (.iload_n 2, 1) := by decide +kernel
theorem dX3_receive_125 : decode cX3_receive 125 = .ok (.putfield 126, 3) := by decide +kernel
theorem dX3_receive_128 : decode cX3_receive 128 = .ok (.goto 65, 3) := by decide +kernel
theorem dX3_receive_131 : decode cX3_receive 131 = .ok (.aload 4, 2) := by decide +kernel
theorem dX3_receive_133 : decode cX3_receive 133 = .ok (.dup, 1) := by decide +kernel
theorem dX3_receive_134 : decode cX3_receive 134 = .ok (.getfield 107, 3) := by decide +kernel
theorem dX3_receive_137 : decode cX3_receive 137 = .ok (.iload_n 1, 1) := by decide +kernel
theorem dX3_receive_138 : decode cX3_receive 138 = .ok (.invokestatic 89, 3) := by decide +kernel
theorem dX3_receive_141 : decode cX3_receive 141 = .ok (.ior, 1) := by decide +kernel
theorem dX3_receive_142 : decode cX3_receive 142 = .ok (.putfield 107, 3) := by decide +kernel
theorem dX3_receive_145 : decode cX3_receive 145 = .ok (.goto 48, 3) := by decide +kernel
theorem dX3_receive_148 : decode cX3_receive 148 = .ok (.aload 4, 2) := by decide +kernel
theorem dX3_receive_150 : decode cX3_receive 150 = .ok (.dup, 1) := by decide +kernel
theorem dX3_receive_151 : decode cX3_receive 151 = .ok (.getfield 92, 3) := by decide +kernel
theorem dX3_receive_154 : decode cX3_receive 154 = .ok (.iload_n 1, 1) := by decide +kernel
theorem dX3_receive_155 : decode cX3_receive 155 = .ok (.invokestatic 89, 3) := by decide +kernel
theorem dX3_receive_158 : decode cX3_receive 158 = .ok (.iconst (-1), 1) := by decide +kernel
theorem dX3_receive_159 : decode cX3_receive 159 = .ok (.ixor, 1) := by decide +kernel
theorem dX3_receive_160 : decode cX3_receive 160 = .ok (.iand, 1) := by decide +kernel
theorem dX3_receive_161 : decode cX3_receive 161 = .ok (.putfield 92, 3) := by decide +kernel
theorem dX3_receive_164 : decode cX3_receive 164 = .ok (.aload 4, 2) := by decide +kernel
theorem dX3_receive_166 : decode cX3_receive 166 = .ok (.dup, 1) := by decide +kernel
theorem dX3_receive_167 : decode cX3_receive 167 = .ok (.getfield 114, 3) := by decide +kernel
theorem dX3_receive_170 : decode cX3_receive 170 = .ok (.iload_n 1, 1) := by decide +kernel
theorem dX3_receive_171 : decode cX3_receive 171 = .ok (.invokestatic 89, 3) := by decide +kernel
theorem dX3_receive_174 : decode cX3_receive 174 = .ok (.iconst (-1), 1) := by decide +kernel
theorem dX3_receive_175 : decode cX3_receive 175 = .ok (.ixor, 1) := by decide +kernel
theorem dX3_receive_176 : decode cX3_receive 176 = .ok (.iand, 1) := by decide +kernel
theorem dX3_receive_177 : decode cX3_receive 177 = .ok (.putfield 114, 3) := by decide +kernel
theorem dX3_receive_180 : decode cX3_receive 180 = .ok (.goto 13, 3) := by decide +kernel
theorem dX3_receive_183 : decode cX3_receive 183 = .ok (.aload_n 0, 1) := by decide +kernel
theorem dX3_receive_184 : decode cX3_receive 184 = .ok (.iload_n 1, 1) := by decide +kernel
theorem dX3_receive_185 : decode cX3_receive 185 = .ok (.iload_n 2, 1) := by decide +kernel
theorem dX3_receive_186 : decode cX3_receive 186 = .ok (.aload 4, 2) := by decide +kernel
theorem dX3_receive_188 : decode cX3_receive 188 = .ok (.iload 5, 2) := by decide +kernel
theorem dX3_receive_190 : decode cX3_receive 190 = .ok (.invokevirtual 170, 3) := by decide +kernel
theorem dX3_receive_193 : decode cX3_receive 193 = .ok (.iload 5, 2) := by decide +kernel
theorem dX3_receive_195 : decode cX3_receive 195 = .ok (.invokestatic 163, 3) := by decide +kernel
theorem dX3_receive_198 : decode cX3_receive 198 = .ok (.ireturn, 1) := by decide +kernel
theorem dX3_run_0 : decode cX3_run 0 = .ok (.iload_n 1, 1) := by decide +kernel
theorem dX3_run_1 : decode cX3_run 1 = .ok (.ifCond .lt 10, 3) := by decide +kernel
theorem dX3_run_4 : decode cX3_run 4 = .ok (.iload_n 1, 1) := by decide +kernel
theorem dX3_run_5 : decode cX3_run 5 = .ok (.sipush 2000, 3) := by decide +kernel
theorem dX3_run_8 : decode cX3_run 8 = .ok (.if_icmp .le 5, 3) := by decide +kernel
theorem dX3_run_11 : decode cX3_run 11 = .ok (.iconst (-1), 1) := by decide +kernel
theorem dX3_run_12 : decode cX3_run 12 = .ok (.ireturn, 1) := by decide +kernel
theorem dX3_run_13 : decode cX3_run 13 = .ok (.iconst 0, 1) := by decide +kernel
theorem dX3_run_14 : decode cX3_run 14 = .ok (.istore_n 3, 1) := by decide +kernel
theorem dX3_run_15 : decode cX3_run 15 = .ok (.iload_n 2, 1) := by decide +kernel
theorem dX3_run_16 : decode cX3_run 16 = .ok (.istore 4, 2) := by decide +kernel
theorem dX3_run_18 : decode cX3_run 18 = .ok (.iconst 0, 1) := by decide +kernel
theorem dX3_run_19 : decode cX3_run 19 = .ok (.istore 5, 2) := by decide +kernel
theorem dX3_run_21 : decode cX3_run 21 = .ok (.iload 5, 2) := by decide +kernel
theorem dX3_run_23 : decode cX3_run 23 = .ok (.iload_n 1, 1) := by decide +kernel
theorem dX3_run_24 : decode cX3_run 24 = .ok (.if_icmp .ge 90, 3) := by decide +kernel
theorem dX3_run_27 : decode cX3_run 27 = .ok (.iload 4, 2) := by decide +kernel
theorem dX3_run_29 : decode cX3_run 29 = .ok (.ldc 174, 2) := by decide +kernel
theorem dX3_run_31 : decode cX3_run 31 = .ok (.imul, 1) := by decide +kernel
theorem dX3_run_32 : decode cX3_run 32 = .ok (.sipush 12345, 3) := by decide +kernel
theorem dX3_run_35 : decode cX3_run 35 = .ok (.iadd, 1) := by decide +kernel
theorem dX3_run_36 : decode cX3_run 36 = .ok (.istore 4, 2) := by decide +kernel
theorem dX3_run_38 : decode cX3_run 38 = .ok (.iload 4, 2) := by decide +kernel
theorem dX3_run_40 : decode cX3_run 40 = .ok (.bipush 16, 2) := by decide +kernel
theorem dX3_run_42 : decode cX3_run 42 = .ok (.iushr, 1) := by decide +kernel
theorem dX3_run_43 : decode cX3_run 43 = .ok (.aload_n 0, 1) := by decide +kernel
theorem dX3_run_44 : decode cX3_run 44 = .ok (.getfield 18, 3) := by decide +kernel
theorem dX3_run_47 : decode cX3_run 47 = .ok (.aload_n 0, 1) := by decide +kernel
theorem dX3_run_48 : decode cX3_run 48 = .ok (.getfield 18, 3) := by decide +kernel
theorem dX3_run_51 : decode cX3_run 51 = .ok (.imul, 1) := by decide +kernel
theorem dX3_run_52 : decode cX3_run 52 = .ok (.irem, 1) := by decide +kernel
theorem dX3_run_53 : decode cX3_run 53 = .ok (.istore 6, 2) := by decide +kernel
theorem dX3_run_55 : decode cX3_run 55 = .ok (.iload 6, 2) := by decide +kernel
theorem dX3_run_57 : decode cX3_run 57 = .ok (.aload_n 0, 1) := by decide +kernel
theorem dX3_run_58 : decode cX3_run 58 = .ok (.getfield 18, 3) := by decide +kernel
theorem dX3_run_61 : decode cX3_run 61 = .ok (.idiv, 1) := by decide +kernel
theorem dX3_run_62 : decode cX3_run 62 = .ok (.istore 7, 2) := by decide +kernel
theorem dX3_run_64 : decode cX3_run 64 = .ok (.iload 6, 2) := by decide +kernel
theorem dX3_run_66 : decode cX3_run 66 = .ok (.aload_n 0, 1) := by decide +kernel
theorem dX3_run_67 : decode cX3_run 67 = .ok (.getfield 18, 3) := by decide +kernel
theorem dX3_run_70 : decode cX3_run 70 = .ok (.irem, 1) := by decide +kernel
theorem dX3_run_71 : decode cX3_run 71 = .ok (.istore 8, 2) := by decide +kernel
theorem dX3_run_73 : decode cX3_run 73 = .ok (.iload 7, 2) := by decide +kernel
theorem dX3_run_75 : decode cX3_run 75 = .ok (.iload 8, 2) := by decide +kernel
theorem dX3_run_77 : decode cX3_run 77 = .ok (.if_icmp .ne 12, 3) := by decide +kernel
theorem dX3_run_80 : decode cX3_run 80 = .ok (.aload_n 0, 1) := by decide +kernel
theorem dX3_run_81 : decode cX3_run 81 = .ok (.iload 7, 2) := by decide +kernel
theorem dX3_run_83 : decode cX3_run 83 = .ok (.invokevirtual 175, 3) := by decide +kernel
theorem dX3_run_86 : decode cX3_run 86 = .ok (.goto 11, 3) := by decide +kernel
theorem dX3_run_89 : decode cX3_run 89 = .ok (.aload_n 0, 1) := by decide +kernel
theorem dX3_run_90 : decode cX3_run 90 = .ok (.iload 7, 2) := by decide +kernel
theorem dX3_run_92 : decode cX3_run 92 = .ok (.iload 8, 2) := by decide +kernel
theorem dX3_run_94 : decode cX3_run 94 = .ok (.invokevirtual 178, 3) := by decide +kernel
theorem dX3_run_97 : decode cX3_run 97 = .ok (.istore 9, 2) := by decide +kernel
theorem dX3_run_99 : decode cX3_run 99 = .ok (.iload 9, 2) := by decide +kernel
theorem dX3_run_101 : decode cX3_run 101 = .ok (.iconst (-1), 1) := by decide +kernel
theorem dX3_run_102 : decode cX3_run 102 = .ok (.if_icmp .eq 6, 3) := by decide +kernel
theorem dX3_run_105 : decode cX3_run 105 = .ok (.iinc 3 1, 3) := by decide +kernel
theorem dX3_run_108 : decode cX3_run 108 = .ok (.iinc 5 1, 3) := by decide +kernel
theorem dX3_run_111 : decode cX3_run 111 = .ok (.goto (-90), 3) := by decide +kernel
theorem dX3_run_114 : decode cX3_run 114 = .ok (.iload_n 3, 1) := by decide +kernel
theorem dX3_run_115 : decode cX3_run 115 = .ok (.ireturn, 1) := by decide +kernel
theorem dX3_told_0 : decode cX3_told 0 = .ok (.aload_n 0, 1) := by decide +kernel
theorem dX3_told_1 : decode cX3_told 1 = .ok (.iload_n 1, 1) := by decide +kernel
theorem dX3_told_2 : decode cX3_told 2 = .ok (.invokevirtual 54, 3) := by decide +kernel
theorem dX3_told_5 : decode cX3_told 5 = .ok (.astore_n 3, 1) := by decide +kernel
theorem dX3_told_6 : decode cX3_told 6 = .ok (.aload_n 3, 1) := by decide +kernel
theorem dX3_told_7 : decode cX3_told 7 = .ok (.ifnonnull 5, 3) := by decide +kernel
theorem dX3_told_10 : decode cX3_told 10 = .ok (.iconst (-1), 1) := by decide +kernel
theorem dX3_told_11 : decode cX3_told 11 = .ok (.ireturn, 1) := by decide +kernel
theorem dX3_told_12 : decode cX3_told 12 = .ok (.iload_n 2, 1) := by decide +kernel
theorem dX3_told_13 : decode cX3_told 13 = .ok (.tableswitch 158 0 11 #[63, 71, 79, 89, 94, 99, 104, 112, 132, 140, 148, 153], 63) := by decide +kernel
theorem dX3_told_76 : decode cX3_told 76 = .ok (.aload_n 3, 1) := by decide +kernel
theorem dX3_told_77 : decode cX3_told 77 = .ok (.getfield 49, 3) := by decide +kernel
theorem dX3_told_80 : decode cX3_told 80 = .ok (.invokestatic 181, 3) := by decide +kernel
theorem dX3_told_83 : decode cX3_told 83 = .ok (.ireturn, 1) := by decide +kernel
theorem dX3_told_84 : decode cX3_told 84 = .ok (.aload_n 3, 1) := by decide +kernel
theorem dX3_told_85 : decode cX3_told 85 = .ok (.invokevirtual 104, 3) := by decide +kernel
theorem dX3_told_88 : decode cX3_told 88 = .ok (.invokestatic 181, 3) := by decide +kernel
theorem dX3_told_91 : decode cX3_told 91 = .ok (.ireturn, 1) := by decide +kernel
theorem dX3_told_92 : decode cX3_told 92 = .ok (.aload_n 0, 1) := by decide +kernel
theorem dX3_told_93 : decode cX3_told 93 = .ok (.iload_n 1, 1) := by decide +kernel
theorem dX3_told_94 : decode cX3_told 94 = .ok (.aload_n 3, 1) := by decide +kernel
theorem dX3_told_95 : decode cX3_told 95 = .ok (.invokevirtual 185, 3) := by decide +kernel
theorem dX3_told_98 : decode cX3_told 98 = .ok (.invokestatic 181, 3) := by decide +kernel
theorem dX3_told_101 : decode cX3_told 101 = .ok (.ireturn, 1) := by decide +kernel
theorem dX3_told_102 : decode cX3_told 102 = .ok (.aload_n 3, 1) := by decide +kernel
theorem dX3_told_103 : decode cX3_told 103 = .ok (.getfield 189, 3) := by decide +kernel
theorem dX3_told_106 : decode cX3_told 106 = .ok (.ireturn, 1) := by decide +kernel
theorem dX3_told_107 : decode cX3_told 107 = .ok (.aload_n 3, 1) := by decide +kernel
theorem dX3_told_108 : decode cX3_told 108 = .ok (.getfield 71, 3) := by decide +kernel
theorem dX3_told_111 : decode cX3_told 111 = .ok (.ireturn, 1) := by decide +kernel
theorem dX3_told_112 : decode cX3_told 112 = .ok (.aload_n 3, 1) := by decide +kernel
theorem dX3_told_113 : decode cX3_told 113 = .ok (.getfield 78, 3) := by decide +kernel
theorem dX3_told_116 : decode cX3_told 116 = .ok (.ireturn, 1) := by decide +kernel
theorem dX3_told_117 : decode cX3_told 117 = .ok (.aload_n 3, 1) := by decide +kernel
theorem dX3_told_118 : decode cX3_told 118 = .ok (.getfield 150, 3) := by decide +kernel
theorem dX3_told_121 : decode cX3_told 121 = .ok (.invokestatic 181, 3) := by decide +kernel
theorem dX3_told_124 : decode cX3_told 124 = .ok (.ireturn, 1) := by decide +kernel
theorem dX3_told_125 : decode cX3_told 125 = .ok (.aload_n 0, 1) := by decide +kernel
theorem dX3_told_126 : decode cX3_told 126 = .ok (.getfield 41, 3) := by decide +kernel
theorem dX3_told_129 : decode cX3_told 129 = .ok (.getfield 126, 3) := by decide +kernel
theorem dX3_told_132 : decode cX3_told 132 = .ok (.iload_n 1, 1) := by decide +kernel
theorem dX3_told_133 : decode cX3_told 133 = .ok (.if_icmp .ne 7, 3) := by decide +kernel
theorem dX3_told_136 : decode cX3_told 136 = .ok (.iconst 1, 1) := by decide +kernel
theorem dX3_told_137 : decode cX3_told 137 = .ok (.goto 4, 3) := by decide +kernel
theorem dX3_told_140 : decode cX3_told 140 = .ok (.iconst 0, 1) := by decide +kernel
theorem dX3_told_141 : decode cX3_told 141 = .ok (.invokestatic 181, 3) := by decide +kernel
theorem dX3_told_144 : decode cX3_told 144 = .ok (.ireturn, 1) := by decide +kernel
theorem dX3_told_145 : decode cX3_told 145 = .ok (.aload_n 3, 1) := by decide +kernel
theorem dX3_told_146 : decode cX3_told 146 = .ok (.getfield 92, 3) := by decide +kernel
theorem dX3_told_149 : decode cX3_told 149 = .ok (.invokestatic 99, 3) := by decide +kernel
theorem dX3_told_152 : decode cX3_told 152 = .ok (.ireturn, 1) := by decide +kernel
theorem dX3_told_153 : decode cX3_told 153 = .ok (.aload_n 3, 1) := by decide +kernel
theorem dX3_told_154 : decode cX3_told 154 = .ok (.getfield 107, 3) := by decide +kernel
theorem dX3_told_157 : decode cX3_told 157 = .ok (.invokestatic 99, 3) := by decide +kernel
theorem dX3_told_160 : decode cX3_told 160 = .ok (.ireturn, 1) := by decide +kernel
theorem dX3_told_161 : decode cX3_told 161 = .ok (.aload_n 3, 1) := by decide +kernel
theorem dX3_told_162 : decode cX3_told 162 = .ok (.getfield 192, 3) := by decide +kernel
theorem dX3_told_165 : decode cX3_told 165 = .ok (.ireturn, 1) := by decide +kernel
theorem dX3_told_166 : decode cX3_told 166 = .ok (.aload_n 3, 1) := by decide +kernel
theorem dX3_told_167 : decode cX3_told 167 = .ok (.getfield 120, 3) := by decide +kernel
theorem dX3_told_170 : decode cX3_told 170 = .ok (.ireturn, 1) := by decide +kernel
theorem dX3_told_171 : decode cX3_told 171 = .ok (.iconst (-1), 1) := by decide +kernel
theorem dX3_told_172 : decode cX3_told 172 = .ok (.ireturn, 1) := by decide +kernel
theorem dX3_waits_0 : decode cX3_waits 0 = .ok (.aload_n 0, 1) := by decide +kernel
theorem dX3_waits_1 : decode cX3_waits 1 = .ok (.iload_n 1, 1) := by decide +kernel
theorem dX3_waits_2 : decode cX3_waits 2 = .ok (.invokevirtual 54, 3) := by decide +kernel
theorem dX3_waits_5 : decode cX3_waits 5 = .ok (.astore_n 3, 1) := by decide +kernel
theorem dX3_waits_6 : decode cX3_waits 6 = .ok (.aload_n 3, 1) := by decide +kernel
theorem dX3_waits_7 : decode cX3_waits 7 = .ok (.ifnull 26, 3) := by decide +kernel
theorem dX3_waits_10 : decode cX3_waits 10 = .ok (.aload_n 0, 1) := by decide +kernel
theorem dX3_waits_11 : decode cX3_waits 11 = .ok (.iload_n 2, 1) := by decide +kernel
theorem dX3_waits_12 : decode cX3_waits 12 = .ok (.invokevirtual 54, 3) := by decide +kernel
theorem dX3_waits_15 : decode cX3_waits 15 = .ok (.ifnull 18, 3) := by decide +kernel
theorem dX3_waits_18 : decode cX3_waits 18 = .ok (.aload_n 3, 1) := by decide +kernel
theorem dX3_waits_19 : decode cX3_waits 19 = .ok (.getfield 92, 3) := by decide +kernel
theorem dX3_waits_22 : decode cX3_waits 22 = .ok (.iload_n 2, 1) := by decide +kernel
theorem dX3_waits_23 : decode cX3_waits 23 = .ok (.invokestatic 110, 3) := by decide +kernel
theorem dX3_waits_26 : decode cX3_waits 26 = .ok (.ifCond .eq 7, 3) := by decide +kernel
theorem dX3_waits_29 : decode cX3_waits 29 = .ok (.iconst 1, 1) := by decide +kernel
theorem dX3_waits_30 : decode cX3_waits 30 = .ok (.goto 4, 3) := by decide +kernel
theorem dX3_waits_33 : decode cX3_waits 33 = .ok (.iconst 0, 1) := by decide +kernel
theorem dX3_waits_34 : decode cX3_waits 34 = .ok (.ireturn, 1) := by decide +kernel
theorem dX3_message_0 : decode cX3_message 0 = .ok (.aload_n 0, 1) := by decide +kernel
theorem dX3_message_1 : decode cX3_message 1 = .ok (.iload_n 1, 1) := by decide +kernel
theorem dX3_message_2 : decode cX3_message 2 = .ok (.iload_n 2, 1) := by decide +kernel
theorem dX3_message_3 : decode cX3_message 3 = .ok (.invokevirtual 58, 3) := by decide +kernel
theorem dX3_message_6 : decode cX3_message 6 = .ok (.astore 5, 2) := by decide +kernel
theorem dX3_message_8 : decode cX3_message 8 = .ok (.aload 5, 2) := by decide +kernel
theorem dX3_message_10 : decode cX3_message 10 = .ok (.ifnull 16, 3) := by decide +kernel
theorem dX3_message_13 : decode cX3_message 13 = .ok (.iload_n 3, 1) := by decide +kernel
theorem dX3_message_14 : decode cX3_message 14 = .ok (.ifCond .lt 12, 3) := by decide +kernel
theorem dX3_message_17 : decode cX3_message 17 = .ok (.iload_n 3, 1) := by decide +kernel
theorem dX3_message_18 : decode cX3_message 18 = .ok (.aload 5, 2) := by decide +kernel
theorem dX3_message_20 : decode cX3_message 20 = .ok (.getfield 153, 3) := by decide +kernel
theorem dX3_message_23 : decode cX3_message 23 = .ok (.if_icmp .lt 5, 3) := by decide +kernel
theorem dX3_message_26 : decode cX3_message 26 = .ok (.iconst (-1), 1) := by decide +kernel
theorem dX3_message_27 : decode cX3_message 27 = .ok (.ireturn, 1) := by decide +kernel
theorem dX3_message_28 : decode cX3_message 28 = .ok (.aload 5, 2) := by decide +kernel
theorem dX3_message_30 : decode cX3_message 30 = .ok (.iload_n 3, 1) := by decide +kernel
theorem dX3_message_31 : decode cX3_message 31 = .ok (.invokevirtual 195, 3) := by decide +kernel
theorem dX3_message_34 : decode cX3_message 34 = .ok (.istore 6, 2) := by decide +kernel
theorem dX3_message_36 : decode cX3_message 36 = .ok (.iload 4, 2) := by decide +kernel
theorem dX3_message_38 : decode cX3_message 38 = .ok (.ifCond .ne 9, 3) := by decide +kernel
theorem dX3_message_41 : decode cX3_message 41 = .ok (.iload 6, 2) := by decide +kernel
theorem dX3_message_43 : decode cX3_message 43 = .ok (.invokestatic 163, 3) := by decide +kernel
theorem dX3_message_46 : decode cX3_message 46 = .ok (.ireturn, 1) := by decide +kernel
theorem dX3_message_47 : decode cX3_message 47 = .ok (.iload 6, 2) := by decide +kernel
theorem dX3_message_49 : decode cX3_message 49 = .ok (.invokestatic 163, 3) := by decide +kernel
theorem dX3_message_52 : decode cX3_message 52 = .ok (.bipush 6, 2) := by decide +kernel
theorem dX3_message_54 : decode cX3_message 54 = .ok (.if_icmp .eq 5, 3) := by decide +kernel
theorem dX3_message_57 : decode cX3_message 57 = .ok (.iconst (-1), 1) := by decide +kernel
theorem dX3_message_58 : decode cX3_message 58 = .ok (.ireturn, 1) := by decide +kernel
theorem dX3_message_59 : decode cX3_message 59 = .ok (.iload 4, 2) := by decide +kernel
theorem dX3_message_61 : decode cX3_message 61 = .ok (.iconst 1, 1) := by decide +kernel
theorem dX3_message_62 : decode cX3_message 62 = .ok (.if_icmp .ne 9, 3) := by decide +kernel
theorem dX3_message_65 : decode cX3_message 65 = .ok (.iload 6, 2) := by decide +kernel
theorem dX3_message_67 : decode cX3_message 67 = .ok (.invokestatic 198, 3) := by decide +kernel
theorem dX3_message_70 : decode cX3_message 70 = .ok (.ireturn, 1) := by decide +kernel
theorem dX3_message_71 : decode cX3_message 71 = .ok (.iload 4, 2) := by decide +kernel
theorem dX3_message_73 : decode cX3_message 73 = .ok (.iconst 2, 1) := by decide +kernel
theorem dX3_message_74 : decode cX3_message 74 = .ok (.if_icmp .ne 11, 3) := by decide +kernel
theorem dX3_message_77 : decode cX3_message 77 = .ok (.iload 6, 2) := by decide +kernel
theorem dX3_message_79 : decode cX3_message 79 = .ok (.invokestatic 201, 3) := by decide +kernel
theorem dX3_message_82 : decode cX3_message 82 = .ok (.goto 4, 3) := by decide +kernel
theorem dX3_message_85 : decode cX3_message 85 = .ok (.iconst (-1), 1) := by decide +kernel
theorem dX3_message_86 : decode cX3_message 86 = .ok (.ireturn, 1) := by decide +kernel
theorem dX3_quiet_0 : decode cX3_quiet 0 = .ok (.iconst 0, 1) := by decide +kernel
theorem dX3_quiet_1 : decode cX3_quiet 1 = .ok (.istore_n 1, 1) := by decide +kernel
theorem dX3_quiet_2 : decode cX3_quiet 2 = .ok (.iload_n 1, 1) := by decide +kernel
theorem dX3_quiet_3 : decode cX3_quiet 3 = .ok (.aload_n 0, 1) := by decide +kernel
theorem dX3_quiet_4 : decode cX3_quiet 4 = .ok (.getfield 18, 3) := by decide +kernel
theorem dX3_quiet_7 : decode cX3_quiet 7 = .ok (.if_icmp .ge 23, 3) := by decide +kernel
theorem dX3_quiet_10 : decode cX3_quiet 10 = .ok (.aload_n 0, 1) := by decide +kernel
theorem dX3_quiet_11 : decode cX3_quiet 11 = .ok (.getfield 26, 3) := by decide +kernel
theorem dX3_quiet_14 : decode cX3_quiet 14 = .ok (.iload_n 1, 1) := by decide +kernel
theorem dX3_quiet_15 : decode cX3_quiet 15 = .ok (.aaload, 1) := by decide +kernel
theorem dX3_quiet_16 : decode cX3_quiet 16 = .ok (.getfield 49, 3) := by decide +kernel
theorem dX3_quiet_19 : decode cX3_quiet 19 = .ok (.ifCond .eq 5, 3) := by decide +kernel
theorem dX3_quiet_22 : decode cX3_quiet 22 = .ok (.iconst 0, 1) := by decide +kernel
theorem dX3_quiet_23 : decode cX3_quiet 23 = .ok (.ireturn, 1) := by decide +kernel
theorem dX3_quiet_24 : decode cX3_quiet 24 = .ok (.iinc 1 1, 3) := by decide +kernel
theorem dX3_quiet_27 : decode cX3_quiet 27 = .ok (.goto (-25), 3) := by decide +kernel
theorem dX3_quiet_30 : decode cX3_quiet 30 = .ok (.aload_n 0, 1) := by decide +kernel
theorem dX3_quiet_31 : decode cX3_quiet 31 = .ok (.invokevirtual 204, 3) := by decide +kernel
theorem dX3_quiet_34 : decode cX3_quiet 34 = .ok (.ifCond .ne 7, 3) := by decide +kernel
theorem dX3_quiet_37 : decode cX3_quiet 37 = .ok (.iconst 1, 1) := by decide +kernel
theorem dX3_quiet_38 : decode cX3_quiet 38 = .ok (.goto 4, 3) := by decide +kernel
theorem dX3_quiet_41 : decode cX3_quiet 41 = .ok (.iconst 0, 1) := by decide +kernel
theorem dX3_quiet_42 : decode cX3_quiet 42 = .ok (.ireturn, 1) := by decide +kernel
theorem dX3_wrong_0 : decode cX3_wrong 0 = .ok (.aload_n 0, 1) := by decide +kernel
theorem dX3_wrong_1 : decode cX3_wrong 1 = .ok (.getfield 207, 3) := by decide +kernel
theorem dX3_wrong_4 : decode cX3_wrong 4 = .ok (.ireturn, 1) := by decide +kernel
theorem dX3_falsely_0 : decode cX3_falsely 0 = .ok (.aload_n 0, 1) := by decide +kernel
theorem dX3_falsely_1 : decode cX3_falsely 1 = .ok (.getfield 210, 3) := by decide +kernel
theorem dX3_falsely_4 : decode cX3_falsely 4 = .ok (.ireturn, 1) := by decide +kernel
theorem dX3_count_0 : decode cX3_count 0 = .ok (.iload_n 1, 1) := by decide +kernel
theorem dX3_count_1 : decode cX3_count 1 = .ok (.tableswitch 123 0 9 #[55, 60, 68, 76, 84, 92, 103, 108, 113, 118], 55) := by decide +kernel
theorem dX3_count_56 : decode cX3_count 56 = .ok (.aload_n 0, 1) := by decide +kernel
theorem dX3_count_57 : decode cX3_count 57 = .ok (.getfield 18, 3) := by decide +kernel
theorem dX3_count_60 : decode cX3_count 60 = .ok (.ireturn, 1) := by decide +kernel
theorem dX3_count_61 : decode cX3_count 61 = .ok (.aload_n 0, 1) := by decide +kernel
theorem dX3_count_62 : decode cX3_count 62 = .ok (.getfield 213, 3) := by decide +kernel
theorem dX3_count_65 : decode cX3_count 65 = .ok (.invokestatic 181, 3) := by decide +kernel
theorem dX3_count_68 : decode cX3_count 68 = .ok (.ireturn, 1) := by decide +kernel
theorem dX3_count_69 : decode cX3_count 69 = .ok (.aload_n 0, 1) := by decide +kernel
theorem dX3_count_70 : decode cX3_count 70 = .ok (.getfield 129, 3) := by decide +kernel
theorem dX3_count_73 : decode cX3_count 73 = .ok (.invokestatic 181, 3) := by decide +kernel
theorem dX3_count_76 : decode cX3_count 76 = .ok (.ireturn, 1) := by decide +kernel
theorem dX3_count_77 : decode cX3_count 77 = .ok (.aload_n 0, 1) := by decide +kernel
theorem dX3_count_78 : decode cX3_count 78 = .ok (.getfield 41, 3) := by decide +kernel
theorem dX3_count_81 : decode cX3_count 81 = .ok (.getfield 216, 3) := by decide +kernel
theorem dX3_count_84 : decode cX3_count 84 = .ok (.ireturn, 1) := by decide +kernel
theorem dX3_count_85 : decode cX3_count 85 = .ok (.aload_n 0, 1) := by decide +kernel
theorem dX3_count_86 : decode cX3_count 86 = .ok (.getfield 41, 3) := by decide +kernel
theorem dX3_count_89 : decode cX3_count 89 = .ok (.getfield 219, 3) := by decide +kernel
theorem dX3_count_92 : decode cX3_count 92 = .ok (.ireturn, 1) := by decide +kernel
theorem dX3_count_93 : decode cX3_count 93 = .ok (.aload_n 0, 1) := by decide +kernel
theorem dX3_count_94 : decode cX3_count 94 = .ok (.getfield 41, 3) := by decide +kernel
theorem dX3_count_97 : decode cX3_count 97 = .ok (.getfield 222, 3) := by decide +kernel
theorem dX3_count_100 : decode cX3_count 100 = .ok (.invokestatic 181, 3) := by decide +kernel
theorem dX3_count_103 : decode cX3_count 103 = .ok (.ireturn, 1) := by decide +kernel
theorem dX3_count_104 : decode cX3_count 104 = .ok (.aload_n 0, 1) := by decide +kernel
theorem dX3_count_105 : decode cX3_count 105 = .ok (.invokevirtual 223, 3) := by decide +kernel
theorem dX3_count_108 : decode cX3_count 108 = .ok (.ireturn, 1) := by decide +kernel
theorem dX3_count_109 : decode cX3_count 109 = .ok (.aload_n 0, 1) := by decide +kernel
theorem dX3_count_110 : decode cX3_count 110 = .ok (.invokevirtual 204, 3) := by decide +kernel
theorem dX3_count_113 : decode cX3_count 113 = .ok (.ireturn, 1) := by decide +kernel
theorem dX3_count_114 : decode cX3_count 114 = .ok (.aload_n 0, 1) := by decide +kernel
theorem dX3_count_115 : decode cX3_count 115 = .ok (.getfield 160, 3) := by decide +kernel
theorem dX3_count_118 : decode cX3_count 118 = .ok (.ireturn, 1) := by decide +kernel
theorem dX3_count_119 : decode cX3_count 119 = .ok (.aload_n 0, 1) := by decide +kernel
theorem dX3_count_120 : decode cX3_count 120 = .ok (.getfield 226, 3) := by decide +kernel
theorem dX3_count_123 : decode cX3_count 123 = .ok (.ireturn, 1) := by decide +kernel
theorem dX3_count_124 : decode cX3_count 124 = .ok (.iconst (-1), 1) := by decide +kernel
theorem dX3_count_125 : decode cX3_count 125 = .ok (.ireturn, 1) := by decide +kernel
theorem dX3_newWorkers_0 : decode cX3_newWorkers 0 = .ok (.iload_n 0, 1) := by decide +kernel
theorem dX3_newWorkers_1 : decode cX3_newWorkers 1 = .ok (.anewarray 50, 3) := by decide +kernel
theorem dX3_newWorkers_4 : decode cX3_newWorkers 4 = .ok (.astore_n 1, 1) := by decide +kernel
theorem dX3_newWorkers_5 : decode cX3_newWorkers 5 = .ok (.iconst 0, 1) := by decide +kernel
theorem dX3_newWorkers_6 : decode cX3_newWorkers 6 = .ok (.istore_n 2, 1) := by decide +kernel
theorem dX3_newWorkers_7 : decode cX3_newWorkers 7 = .ok (.iload_n 2, 1) := by decide +kernel
theorem dX3_newWorkers_8 : decode cX3_newWorkers 8 = .ok (.iload_n 0, 1) := by decide +kernel
theorem dX3_newWorkers_9 : decode cX3_newWorkers 9 = .ok (.if_icmp .ge 20, 3) := by decide +kernel
theorem dX3_newWorkers_12 : decode cX3_newWorkers 12 = .ok (.aload_n 1, 1) := by decide +kernel
theorem dX3_newWorkers_13 : decode cX3_newWorkers 13 = .ok (.iload_n 2, 1) := by decide +kernel
theorem dX3_newWorkers_14 : decode cX3_newWorkers 14 = .ok (.new 50, 3) := by decide +kernel
theorem dX3_newWorkers_17 : decode cX3_newWorkers 17 = .ok (.dup, 1) := by decide +kernel
theorem dX3_newWorkers_18 : decode cX3_newWorkers 18 = .ok (.iload_n 0, 1) := by decide +kernel
theorem dX3_newWorkers_19 : decode cX3_newWorkers 19 = .ok (.invokespecial 227, 3) := by decide +kernel
theorem dX3_newWorkers_22 : decode cX3_newWorkers 22 = .ok (.aastore, 1) := by decide +kernel
theorem dX3_newWorkers_23 : decode cX3_newWorkers 23 = .ok (.iinc 2 1, 3) := by decide +kernel
theorem dX3_newWorkers_26 : decode cX3_newWorkers 26 = .ok (.goto (-19), 3) := by decide +kernel
theorem dX3_newWorkers_29 : decode cX3_newWorkers 29 = .ok (.aload_n 1, 1) := by decide +kernel
theorem dX3_newWorkers_30 : decode cX3_newWorkers 30 = .ok (.areturn, 1) := by decide +kernel
theorem dX3_newRows_0 : decode cX3_newRows 0 = .ok (.iload_n 0, 1) := by decide +kernel
theorem dX3_newRows_1 : decode cX3_newRows 1 = .ok (.iload_n 0, 1) := by decide +kernel
theorem dX3_newRows_2 : decode cX3_newRows 2 = .ok (.imul, 1) := by decide +kernel
theorem dX3_newRows_3 : decode cX3_newRows 3 = .ok (.anewarray 67, 3) := by decide +kernel
theorem dX3_newRows_6 : decode cX3_newRows 6 = .ok (.astore_n 1, 1) := by decide +kernel
theorem dX3_newRows_7 : decode cX3_newRows 7 = .ok (.iconst 0, 1) := by decide +kernel
theorem dX3_newRows_8 : decode cX3_newRows 8 = .ok (.istore_n 2, 1) := by decide +kernel
theorem dX3_newRows_9 : decode cX3_newRows 9 = .ok (.iload_n 2, 1) := by decide +kernel
theorem dX3_newRows_10 : decode cX3_newRows 10 = .ok (.aload_n 1, 1) := by decide +kernel
theorem dX3_newRows_11 : decode cX3_newRows 11 = .ok (.arraylength, 1) := by decide +kernel
theorem dX3_newRows_12 : decode cX3_newRows 12 = .ok (.if_icmp .ge 42, 3) := by decide +kernel
theorem dX3_newRows_15 : decode cX3_newRows 15 = .ok (.iload_n 2, 1) := by decide +kernel
theorem dX3_newRows_16 : decode cX3_newRows 16 = .ok (.iload_n 0, 1) := by decide +kernel
theorem dX3_newRows_17 : decode cX3_newRows 17 = .ok (.idiv, 1) := by decide +kernel
theorem dX3_newRows_18 : decode cX3_newRows 18 = .ok (.iload_n 2, 1) := by decide +kernel
theorem dX3_newRows_19 : decode cX3_newRows 19 = .ok (.iload_n 0, 1) := by decide +kernel
theorem dX3_newRows_20 : decode cX3_newRows 20 = .ok (.irem, 1) := by decide +kernel
theorem dX3_newRows_21 : decode cX3_newRows 21 = .ok (.if_icmp .ne 7, 3) := by decide +kernel
theorem dX3_newRows_24 : decode cX3_newRows 24 = .ok (.iconst 1, 1) := by decide +kernel
theorem dX3_newRows_25 : decode cX3_newRows 25 = .ok (.goto 4, 3) := by decide +kernel
theorem dX3_newRows_28 : decode cX3_newRows 28 = .ok (.iconst 0, 1) := by decide +kernel
theorem dX3_newRows_29 : decode cX3_newRows 29 = .ok (.istore_n 3, 1) := by decide +kernel
theorem dX3_newRows_30 : decode cX3_newRows 30 = .ok (.aload_n 1, 1) := by decide +kernel
theorem dX3_newRows_31 : decode cX3_newRows 31 = .ok (.iload_n 2, 1) := by decide +kernel
theorem dX3_newRows_32 : decode cX3_newRows 32 = .ok (.iload_n 3, 1) := by decide +kernel
theorem dX3_newRows_33 : decode cX3_newRows 33 = .ok (.ifCond .eq 7, 3) := by decide +kernel
theorem dX3_newRows_36 : decode cX3_newRows 36 = .ok (.aconst_null, 1) := by decide +kernel
theorem dX3_newRows_37 : decode cX3_newRows 37 = .ok (.goto 10, 3) := by decide +kernel
theorem dX3_newRows_40 : decode cX3_newRows 40 = .ok (.new 67, 3) := by decide +kernel
theorem dX3_newRows_43 : decode cX3_newRows 43 = .ok (.dup, 1) := by decide +kernel
theorem dX3_newRows_44 : decode cX3_newRows 44 = .ok (.invokespecial 229, 3) := by decide +kernel
theorem dX3_newRows_47 : decode cX3_newRows 47 = .ok (.aastore, 1) := by decide +kernel
theorem dX3_newRows_48 : decode cX3_newRows 48 = .ok (.iinc 2 1, 3) := by decide +kernel
theorem dX3_newRows_51 : decode cX3_newRows 51 = .ok (.goto (-42), 3) := by decide +kernel
theorem dX3_newRows_54 : decode cX3_newRows 54 = .ok (.aload_n 1, 1) := by decide +kernel
theorem dX3_newRows_55 : decode cX3_newRows 55 = .ok (.areturn, 1) := by decide +kernel
theorem dX3_oneIf_0 : decode cX3_oneIf 0 = .ok (.iload_n 0, 1) := by decide +kernel
theorem dX3_oneIf_1 : decode cX3_oneIf 1 = .ok (.ifCond .eq 7, 3) := by decide +kernel
theorem dX3_oneIf_4 : decode cX3_oneIf 4 = .ok (.iconst 1, 1) := by decide +kernel
theorem dX3_oneIf_5 : decode cX3_oneIf 5 = .ok (.goto 4, 3) := by decide +kernel
theorem dX3_oneIf_8 : decode cX3_oneIf 8 = .ok (.iconst 0, 1) := by decide +kernel
theorem dX3_oneIf_9 : decode cX3_oneIf 9 = .ok (.ireturn, 1) := by decide +kernel
theorem dX3_bitOf_0 : decode cX3_bitOf 0 = .ok (.iconst 1, 1) := by decide +kernel
theorem dX3_bitOf_1 : decode cX3_bitOf 1 = .ok (.iload_n 0, 1) := by decide +kernel
theorem dX3_bitOf_2 : decode cX3_bitOf 2 = .ok (.ishl, 1) := by decide +kernel
theorem dX3_bitOf_3 : decode cX3_bitOf 3 = .ok (.ireturn, 1) := by decide +kernel
theorem dX3_allOf_0 : decode cX3_allOf 0 = .ok (.iconst 1, 1) := by decide +kernel
theorem dX3_allOf_1 : decode cX3_allOf 1 = .ok (.iload_n 0, 1) := by decide +kernel
theorem dX3_allOf_2 : decode cX3_allOf 2 = .ok (.ishl, 1) := by decide +kernel
theorem dX3_allOf_3 : decode cX3_allOf 3 = .ok (.iconst 1, 1) := by decide +kernel
theorem dX3_allOf_4 : decode cX3_allOf 4 = .ok (.isub, 1) := by decide +kernel
theorem dX3_allOf_5 : decode cX3_allOf 5 = .ok (.ireturn, 1) := by decide +kernel
theorem dX3_holds_0 : decode cX3_holds 0 = .ok (.iload_n 0, 1) := by decide +kernel
theorem dX3_holds_1 : decode cX3_holds 1 = .ok (.iload_n 1, 1) := by decide +kernel
theorem dX3_holds_2 : decode cX3_holds 2 = .ok (.invokestatic 89, 3) := by decide +kernel
theorem dX3_holds_5 : decode cX3_holds 5 = .ok (.iand, 1) := by decide +kernel
theorem dX3_holds_6 : decode cX3_holds 6 = .ok (.ifCond .eq 7, 3) := by decide +kernel
theorem dX3_holds_9 : decode cX3_holds 9 = .ok (.iconst 1, 1) := by decide +kernel
theorem dX3_holds_10 : decode cX3_holds 10 = .ok (.goto 4, 3) := by decide +kernel
theorem dX3_holds_13 : decode cX3_holds 13 = .ok (.iconst 0, 1) := by decide +kernel
theorem dX3_holds_14 : decode cX3_holds 14 = .ok (.ireturn, 1) := by decide +kernel
theorem dX3_probeOf_0 : decode cX3_probeOf 0 = .ok (.iload_n 1, 1) := by decide +kernel
theorem dX3_probeOf_1 : decode cX3_probeOf 1 = .ok (.bipush 7, 2) := by decide +kernel
theorem dX3_probeOf_3 : decode cX3_probeOf 3 = .ok (.ishl, 1) := by decide +kernel
theorem dX3_probeOf_4 : decode cX3_probeOf 4 = .ok (.iload_n 0, 1) := by decide +kernel
theorem dX3_probeOf_5 : decode cX3_probeOf 5 = .ok (.iconst 3, 1) := by decide +kernel
theorem dX3_probeOf_6 : decode cX3_probeOf 6 = .ok (.ishl, 1) := by decide +kernel
theorem dX3_probeOf_7 : decode cX3_probeOf 7 = .ok (.ior, 1) := by decide +kernel
theorem dX3_probeOf_8 : decode cX3_probeOf 8 = .ok (.bipush 6, 2) := by decide +kernel
theorem dX3_probeOf_10 : decode cX3_probeOf 10 = .ok (.ior, 1) := by decide +kernel
theorem dX3_probeOf_11 : decode cX3_probeOf 11 = .ok (.ireturn, 1) := by decide +kernel
theorem dX3_kindOf_0 : decode cX3_kindOf 0 = .ok (.iload_n 0, 1) := by decide +kernel
theorem dX3_kindOf_1 : decode cX3_kindOf 1 = .ok (.bipush 7, 2) := by decide +kernel
theorem dX3_kindOf_3 : decode cX3_kindOf 3 = .ok (.iand, 1) := by decide +kernel
theorem dX3_kindOf_4 : decode cX3_kindOf 4 = .ok (.ireturn, 1) := by decide +kernel
theorem dX3_beginnerOf_0 : decode cX3_beginnerOf 0 = .ok (.iload_n 0, 1) := by decide +kernel
theorem dX3_beginnerOf_1 : decode cX3_beginnerOf 1 = .ok (.iconst 3, 1) := by decide +kernel
theorem dX3_beginnerOf_2 : decode cX3_beginnerOf 2 = .ok (.ishr, 1) := by decide +kernel
theorem dX3_beginnerOf_3 : decode cX3_beginnerOf 3 = .ok (.bipush 15, 2) := by decide +kernel
theorem dX3_beginnerOf_5 : decode cX3_beginnerOf 5 = .ok (.iand, 1) := by decide +kernel
theorem dX3_beginnerOf_6 : decode cX3_beginnerOf 6 = .ok (.ireturn, 1) := by decide +kernel
theorem dX3_numberOf_0 : decode cX3_numberOf 0 = .ok (.iload_n 0, 1) := by decide +kernel
theorem dX3_numberOf_1 : decode cX3_numberOf 1 = .ok (.bipush 7, 2) := by decide +kernel
theorem dX3_numberOf_3 : decode cX3_numberOf 3 = .ok (.ishr, 1) := by decide +kernel
theorem dX3_numberOf_4 : decode cX3_numberOf 4 = .ok (.ireturn, 1) := by decide +kernel
theorem dX3_isProcess_0 : decode cX3_isProcess 0 = .ok (.iload_n 1, 1) := by decide +kernel
theorem dX3_isProcess_1 : decode cX3_isProcess 1 = .ok (.ifCond .lt 15, 3) := by decide +kernel
theorem dX3_isProcess_4 : decode cX3_isProcess 4 = .ok (.iload_n 1, 1) := by decide +kernel
theorem dX3_isProcess_5 : decode cX3_isProcess 5 = .ok (.aload_n 0, 1) := by decide +kernel
theorem dX3_isProcess_6 : decode cX3_isProcess 6 = .ok (.getfield 18, 3) := by decide +kernel
theorem dX3_isProcess_9 : decode cX3_isProcess 9 = .ok (.if_icmp .ge 7, 3) := by decide +kernel
theorem dX3_isProcess_12 : decode cX3_isProcess 12 = .ok (.iconst 1, 1) := by decide +kernel
theorem dX3_isProcess_13 : decode cX3_isProcess 13 = .ok (.goto 4, 3) := by decide +kernel
theorem dX3_isProcess_16 : decode cX3_isProcess 16 = .ok (.iconst 0, 1) := by decide +kernel
theorem dX3_isProcess_17 : decode cX3_isProcess 17 = .ok (.ireturn, 1) := by decide +kernel
theorem dX3_workerAt_0 : decode cX3_workerAt 0 = .ok (.aload_n 0, 1) := by decide +kernel
theorem dX3_workerAt_1 : decode cX3_workerAt 1 = .ok (.iload_n 1, 1) := by decide +kernel
theorem dX3_workerAt_2 : decode cX3_workerAt 2 = .ok (.invokevirtual 230, 3) := by decide +kernel
theorem dX3_workerAt_5 : decode cX3_workerAt 5 = .ok (.ifCond .eq 12, 3) := by decide +kernel
theorem dX3_workerAt_8 : decode cX3_workerAt 8 = .ok (.aload_n 0, 1) := by decide +kernel
theorem dX3_workerAt_9 : decode cX3_workerAt 9 = .ok (.getfield 26, 3) := by decide +kernel
theorem dX3_workerAt_12 : decode cX3_workerAt 12 = .ok (.iload_n 1, 1) := by decide +kernel
theorem dX3_workerAt_13 : decode cX3_workerAt 13 = .ok (.aaload, 1) := by decide +kernel
theorem dX3_workerAt_14 : decode cX3_workerAt 14 = .ok (.goto 4, 3) := by decide +kernel
theorem dX3_workerAt_17 : decode cX3_workerAt 17 = .ok (.aconst_null, 1) := by decide +kernel
theorem dX3_workerAt_18 : decode cX3_workerAt 18 = .ok (.areturn, 1) := by decide +kernel
theorem dX3_rowBetween_0 : decode cX3_rowBetween 0 = .ok (.aload_n 0, 1) := by decide +kernel
theorem dX3_rowBetween_1 : decode cX3_rowBetween 1 = .ok (.iload_n 1, 1) := by decide +kernel
theorem dX3_rowBetween_2 : decode cX3_rowBetween 2 = .ok (.invokevirtual 230, 3) := by decide +kernel
theorem dX3_rowBetween_5 : decode cX3_rowBetween 5 = .ok (.ifCond .eq 27, 3) := by decide +kernel
theorem dX3_rowBetween_8 : decode cX3_rowBetween 8 = .ok (.aload_n 0, 1) := by decide +kernel
theorem dX3_rowBetween_9 : decode cX3_rowBetween 9 = .ok (.iload_n 2, 1) := by decide +kernel
theorem dX3_rowBetween_10 : decode cX3_rowBetween 10 = .ok (.invokevirtual 230, 3) := by decide +kernel
theorem dX3_rowBetween_13 : decode cX3_rowBetween 13 = .ok (.ifCond .eq 19, 3) := by decide +kernel
theorem dX3_rowBetween_16 : decode cX3_rowBetween 16 = .ok (.aload_n 0, 1) := by decide +kernel
theorem dX3_rowBetween_17 : decode cX3_rowBetween 17 = .ok (.getfield 34, 3) := by decide +kernel
theorem dX3_rowBetween_20 : decode cX3_rowBetween 20 = .ok (.iload_n 1, 1) := by decide +kernel
theorem dX3_rowBetween_21 : decode cX3_rowBetween 21 = .ok (.aload_n 0, 1) := by decide +kernel
theorem dX3_rowBetween_22 : decode cX3_rowBetween 22 = .ok (.getfield 18, 3) := by decide +kernel
theorem dX3_rowBetween_25 : decode cX3_rowBetween 25 = .ok (.imul, 1) := by decide +kernel
theorem dX3_rowBetween_26 : decode cX3_rowBetween 26 = .ok (.iload_n 2, 1) := by decide +kernel
theorem dX3_rowBetween_27 : decode cX3_rowBetween 27 = .ok (.iadd, 1) := by decide +kernel
theorem dX3_rowBetween_28 : decode cX3_rowBetween 28 = .ok (.aaload, 1) := by decide +kernel
theorem dX3_rowBetween_29 : decode cX3_rowBetween 29 = .ok (.goto 4, 3) := by decide +kernel
theorem dX3_rowBetween_32 : decode cX3_rowBetween 32 = .ok (.aconst_null, 1) := by decide +kernel
theorem dX3_rowBetween_33 : decode cX3_rowBetween 33 = .ok (.areturn, 1) := by decide +kernel
theorem dX3_put_0 : decode cX3_put 0 = .ok (.aload_n 0, 1) := by decide +kernel
theorem dX3_put_1 : decode cX3_put 1 = .ok (.iload_n 1, 1) := by decide +kernel
theorem dX3_put_2 : decode cX3_put 2 = .ok (.iload_n 2, 1) := by decide +kernel
theorem dX3_put_3 : decode cX3_put 3 = .ok (.invokevirtual 58, 3) := by decide +kernel
theorem dX3_put_6 : decode cX3_put 6 = .ok (.astore 4, 2) := by decide +kernel
theorem dX3_put_8 : decode cX3_put 8 = .ok (.aload 4, 2) := by decide +kernel
theorem dX3_put_10 : decode cX3_put 10 = .ok (.ifnull 9, 3) := by decide +kernel
theorem dX3_put_13 : decode cX3_put 13 = .ok (.aload 4, 2) := by decide +kernel
theorem dX3_put_15 : decode cX3_put 15 = .ok (.iload_n 3, 1) := by decide +kernel
theorem dX3_put_16 : decode cX3_put 16 = .ok (.invokevirtual 74, 3) := by decide +kernel
theorem dX3_put_19 : decode cX3_put 19 = .ok (.return_, 1) := by decide +kernel
theorem dX3_putToEach_0 : decode cX3_putToEach 0 = .ok (.iconst 0, 1) := by decide +kernel
theorem dX3_putToEach_1 : decode cX3_putToEach 1 = .ok (.istore 4, 2) := by decide +kernel
theorem dX3_putToEach_3 : decode cX3_putToEach 3 = .ok (.iload 4, 2) := by decide +kernel
theorem dX3_putToEach_5 : decode cX3_putToEach 5 = .ok (.aload_n 0, 1) := by decide +kernel
theorem dX3_putToEach_6 : decode cX3_putToEach 6 = .ok (.getfield 18, 3) := by decide +kernel
theorem dX3_putToEach_9 : decode cX3_putToEach 9 = .ok (.if_icmp .ge 38, 3) := by decide +kernel
theorem dX3_putToEach_12 : decode cX3_putToEach 12 = .ok (.aload_n 0, 1) := by decide +kernel
theorem dX3_putToEach_13 : decode cX3_putToEach 13 = .ok (.iload_n 1, 1) := by decide +kernel
theorem dX3_putToEach_14 : decode cX3_putToEach 14 = .ok (.iload 4, 2) := by decide +kernel
theorem dX3_putToEach_16 : decode cX3_putToEach 16 = .ok (.invokevirtual 58, 3) := by decide +kernel
theorem dX3_putToEach_19 : decode cX3_putToEach 19 = .ok (.astore 5, 2) := by decide +kernel
theorem dX3_putToEach_21 : decode cX3_putToEach 21 = .ok (.aload 5, 2) := by decide +kernel
theorem dX3_putToEach_23 : decode cX3_putToEach 23 = .ok (.ifnull 18, 3) := by decide +kernel
theorem dX3_putToEach_26 : decode cX3_putToEach 26 = .ok (.iload_n 2, 1) := by decide +kernel
theorem dX3_putToEach_27 : decode cX3_putToEach 27 = .ok (.iload 4, 2) := by decide +kernel
theorem dX3_putToEach_29 : decode cX3_putToEach 29 = .ok (.invokestatic 110, 3) := by decide +kernel
theorem dX3_putToEach_32 : decode cX3_putToEach 32 = .ok (.ifCond .eq 9, 3) := by decide +kernel
theorem dX3_putToEach_35 : decode cX3_putToEach 35 = .ok (.aload 5, 2) := by decide +kernel
theorem dX3_putToEach_37 : decode cX3_putToEach 37 = .ok (.iload_n 3, 1) := by decide +kernel
theorem dX3_putToEach_38 : decode cX3_putToEach 38 = .ok (.invokevirtual 74, 3) := by decide +kernel
theorem dX3_putToEach_41 : decode cX3_putToEach 41 = .ok (.iinc 4 1, 3) := by decide +kernel
theorem dX3_putToEach_44 : decode cX3_putToEach 44 = .ok (.goto (-41), 3) := by decide +kernel
theorem dX3_putToEach_47 : decode cX3_putToEach 47 = .ok (.return_, 1) := by decide +kernel
theorem dX3_giveToken_0 : decode cX3_giveToken 0 = .ok (.aload_n 0, 1) := by decide +kernel
theorem dX3_giveToken_1 : decode cX3_giveToken 1 = .ok (.getfield 41, 3) := by decide +kernel
theorem dX3_giveToken_4 : decode cX3_giveToken 4 = .ok (.iconst (-1), 1) := by decide +kernel
theorem dX3_giveToken_5 : decode cX3_giveToken 5 = .ok (.putfield 126, 3) := by decide +kernel
theorem dX3_giveToken_8 : decode cX3_giveToken 8 = .ok (.aload_n 0, 1) := by decide +kernel
theorem dX3_giveToken_9 : decode cX3_giveToken 9 = .ok (.iload_n 1, 1) := by decide +kernel
theorem dX3_giveToken_10 : decode cX3_giveToken 10 = .ok (.iload_n 2, 1) := by decide +kernel
theorem dX3_giveToken_11 : decode cX3_giveToken 11 = .ok (.iconst 3, 1) := by decide +kernel
theorem dX3_giveToken_12 : decode cX3_giveToken 12 = .ok (.invokevirtual 117, 3) := by decide +kernel
theorem dX3_giveToken_15 : decode cX3_giveToken 15 = .ok (.return_, 1) := by decide +kernel
theorem dX3_isInTree_0 : decode cX3_isInTree 0 = .ok (.iload_n 1, 1) := by decide +kernel
theorem dX3_isInTree_1 : decode cX3_isInTree 1 = .ok (.ifCond .ne 25, 3) := by decide +kernel
theorem dX3_isInTree_4 : decode cX3_isInTree 4 = .ok (.aload_n 0, 1) := by decide +kernel
theorem dX3_isInTree_5 : decode cX3_isInTree 5 = .ok (.getfield 45, 3) := by decide +kernel
theorem dX3_isInTree_8 : decode cX3_isInTree 8 = .ok (.ifCond .eq 14, 3) := by decide +kernel
theorem dX3_isInTree_11 : decode cX3_isInTree 11 = .ok (.aload_n 0, 1) := by decide +kernel
theorem dX3_isInTree_12 : decode cX3_isInTree 12 = .ok (.getfield 213, 3) := by decide +kernel
theorem dX3_isInTree_15 : decode cX3_isInTree 15 = .ok (.ifCond .ne 7, 3) := by decide +kernel
theorem dX3_isInTree_18 : decode cX3_isInTree 18 = .ok (.iconst 1, 1) := by decide +kernel
theorem dX3_isInTree_19 : decode cX3_isInTree 19 = .ok (.goto 20, 3) := by decide +kernel
theorem dX3_isInTree_22 : decode cX3_isInTree 22 = .ok (.iconst 0, 1) := by decide +kernel
theorem dX3_isInTree_23 : decode cX3_isInTree 23 = .ok (.goto 16, 3) := by decide +kernel
theorem dX3_isInTree_26 : decode cX3_isInTree 26 = .ok (.aload_n 2, 1) := by decide +kernel
theorem dX3_isInTree_27 : decode cX3_isInTree 27 = .ok (.getfield 189, 3) := by decide +kernel
theorem dX3_isInTree_30 : decode cX3_isInTree 30 = .ok (.iconst (-1), 1) := by decide +kernel
theorem dX3_isInTree_31 : decode cX3_isInTree 31 = .ok (.if_icmp .eq 7, 3) := by decide +kernel
theorem dX3_isInTree_34 : decode cX3_isInTree 34 = .ok (.iconst 1, 1) := by decide +kernel
theorem dX3_isInTree_35 : decode cX3_isInTree 35 = .ok (.goto 4, 3) := by decide +kernel
theorem dX3_isInTree_38 : decode cX3_isInTree 38 = .ok (.iconst 0, 1) := by decide +kernel
theorem dX3_isInTree_39 : decode cX3_isInTree 39 = .ok (.ireturn, 1) := by decide +kernel
theorem dX3_takeWork_0 : decode cX3_takeWork 0 = .ok (.aload_n 3, 1) := by decide +kernel
theorem dX3_takeWork_1 : decode cX3_takeWork 1 = .ok (.iconst 1, 1) := by decide +kernel
theorem dX3_takeWork_2 : decode cX3_takeWork 2 = .ok (.putfield 49, 3) := by decide +kernel
theorem dX3_takeWork_5 : decode cX3_takeWork 5 = .ok (.aload_n 3, 1) := by decide +kernel
theorem dX3_takeWork_6 : decode cX3_takeWork 6 = .ok (.dup, 1) := by decide +kernel
theorem dX3_takeWork_7 : decode cX3_takeWork 7 = .ok (.getfield 78, 3) := by decide +kernel
theorem dX3_takeWork_10 : decode cX3_takeWork 10 = .ok (.iconst 1, 1) := by decide +kernel
theorem dX3_takeWork_11 : decode cX3_takeWork 11 = .ok (.isub, 1) := by decide +kernel
theorem dX3_takeWork_12 : decode cX3_takeWork 12 = .ok (.putfield 78, 3) := by decide +kernel
theorem dX3_takeWork_15 : decode cX3_takeWork 15 = .ok (.aload_n 3, 1) := by decide +kernel
theorem dX3_takeWork_16 : decode cX3_takeWork 16 = .ok (.iconst 1, 1) := by decide +kernel
theorem dX3_takeWork_17 : decode cX3_takeWork 17 = .ok (.putfield 150, 3) := by decide +kernel
theorem dX3_takeWork_20 : decode cX3_takeWork 20 = .ok (.iload_n 2, 1) := by decide +kernel
theorem dX3_takeWork_21 : decode cX3_takeWork 21 = .ok (.ifCond .eq 12, 3) := by decide +kernel
theorem dX3_takeWork_24 : decode cX3_takeWork 24 = .ok (.aload_n 0, 1) := by decide +kernel
theorem dX3_takeWork_25 : decode cX3_takeWork 25 = .ok (.iload_n 2, 1) := by decide +kernel
theorem dX3_takeWork_26 : decode cX3_takeWork 26 = .ok (.aload_n 3, 1) := by decide +kernel
theorem dX3_takeWork_27 : decode cX3_takeWork 27 = .ok (.invokevirtual 185, 3) := by decide +kernel
theorem dX3_takeWork_30 : decode cX3_takeWork 30 = .ok (.ifCond .eq 13, 3) := by decide +kernel
theorem dX3_takeWork_33 : decode cX3_takeWork 33 = .ok (.aload_n 0, 1) := by decide +kernel
theorem dX3_takeWork_34 : decode cX3_takeWork 34 = .ok (.iload_n 2, 1) := by decide +kernel
theorem dX3_takeWork_35 : decode cX3_takeWork 35 = .ok (.iload_n 1, 1) := by decide +kernel
theorem dX3_takeWork_36 : decode cX3_takeWork 36 = .ok (.iconst 2, 1) := by decide +kernel
theorem dX3_takeWork_37 : decode cX3_takeWork 37 = .ok (.invokevirtual 117, 3) := by decide +kernel
theorem dX3_takeWork_40 : decode cX3_takeWork 40 = .ok (.goto 8, 3) := by decide +kernel
theorem dX3_takeWork_43 : decode cX3_takeWork 43 = .ok (.aload_n 3, 1) := by decide +kernel
theorem dX3_takeWork_44 : decode cX3_takeWork 44 = .ok (.iload_n 1, 1) := by decide +kernel
theorem dX3_takeWork_45 : decode cX3_takeWork 45 = .ok (.putfield 189, 3) := by decide +kernel
theorem dX3_takeWork_48 : decode cX3_takeWork 48 = .ok (.return_, 1) := by decide +kernel
theorem dX3_leaveTreeIfDone_0 : decode cX3_leaveTreeIfDone 0 = .ok (.aload_n 2, 1) := by decide +kernel
theorem dX3_leaveTreeIfDone_1 : decode cX3_leaveTreeIfDone 1 = .ok (.getfield 49, 3) := by decide +kernel
theorem dX3_leaveTreeIfDone_4 : decode cX3_leaveTreeIfDone 4 = .ok (.ifCond .ne 19, 3) := by decide +kernel
theorem dX3_leaveTreeIfDone_7 : decode cX3_leaveTreeIfDone 7 = .ok (.aload_n 2, 1) := by decide +kernel
theorem dX3_leaveTreeIfDone_8 : decode cX3_leaveTreeIfDone 8 = .ok (.getfield 71, 3) := by decide +kernel
theorem dX3_leaveTreeIfDone_11 : decode cX3_leaveTreeIfDone 11 = .ok (.ifCond .ne 12, 3) := by decide +kernel
theorem dX3_leaveTreeIfDone_14 : decode cX3_leaveTreeIfDone 14 = .ok (.aload_n 0, 1) := by decide +kernel
theorem dX3_leaveTreeIfDone_15 : decode cX3_leaveTreeIfDone 15 = .ok (.iload_n 1, 1) := by decide +kernel
theorem dX3_leaveTreeIfDone_16 : decode cX3_leaveTreeIfDone 16 = .ok (.aload_n 2, 1) := by decide +kernel
theorem dX3_leaveTreeIfDone_17 : decode cX3_leaveTreeIfDone 17 = .ok (.invokevirtual 185, 3) := by decide +kernel
theorem dX3_leaveTreeIfDone_20 : decode cX3_leaveTreeIfDone 20 = .ok (.ifCond .ne 4, 3) := by decide +kernel
theorem dX3_leaveTreeIfDone_23 : decode cX3_leaveTreeIfDone 23 = .ok (.return_, 1) := by decide +kernel
theorem dX3_leaveTreeIfDone_24 : decode cX3_leaveTreeIfDone 24 = .ok (.iload_n 1, 1) := by decide +kernel
theorem dX3_leaveTreeIfDone_25 : decode cX3_leaveTreeIfDone 25 = .ok (.ifCond .ne 15, 3) := by decide +kernel
theorem dX3_leaveTreeIfDone_28 : decode cX3_leaveTreeIfDone 28 = .ok (.aload_n 0, 1) := by decide +kernel
theorem dX3_leaveTreeIfDone_29 : decode cX3_leaveTreeIfDone 29 = .ok (.iconst 1, 1) := by decide +kernel
theorem dX3_leaveTreeIfDone_30 : decode cX3_leaveTreeIfDone 30 = .ok (.putfield 213, 3) := by decide +kernel
theorem dX3_leaveTreeIfDone_33 : decode cX3_leaveTreeIfDone 33 = .ok (.aload_n 0, 1) := by decide +kernel
theorem dX3_leaveTreeIfDone_34 : decode cX3_leaveTreeIfDone 34 = .ok (.invokevirtual 144, 3) := by decide +kernel
theorem dX3_leaveTreeIfDone_37 : decode cX3_leaveTreeIfDone 37 = .ok (.goto 18, 3) := by decide +kernel
theorem dX3_leaveTreeIfDone_40 : decode cX3_leaveTreeIfDone 40 = .ok (.aload_n 0, 1) := by decide +kernel
theorem dX3_leaveTreeIfDone_41 : decode cX3_leaveTreeIfDone 41 = .ok (.iload_n 1, 1) := by decide +kernel
theorem dX3_leaveTreeIfDone_42 : decode cX3_leaveTreeIfDone 42 = .ok (.aload_n 2, 1) := by decide +kernel
theorem dX3_leaveTreeIfDone_43 : decode cX3_leaveTreeIfDone 43 = .ok (.getfield 189, 3) := by decide +kernel
theorem dX3_leaveTreeIfDone_46 : decode cX3_leaveTreeIfDone 46 = .ok (.iconst 2, 1) := by decide +kernel
theorem dX3_leaveTreeIfDone_47 : decode cX3_leaveTreeIfDone 47 = .ok (.invokevirtual 117, 3) := by decide +kernel
theorem dX3_leaveTreeIfDone_50 : decode cX3_leaveTreeIfDone 50 = .ok (.aload_n 2, 1) := by decide +kernel
theorem dX3_leaveTreeIfDone_51 : decode cX3_leaveTreeIfDone 51 = .ok (.iconst (-1), 1) := by decide +kernel
theorem dX3_leaveTreeIfDone_52 : decode cX3_leaveTreeIfDone 52 = .ok (.putfield 189, 3) := by decide +kernel
theorem dX3_leaveTreeIfDone_55 : decode cX3_leaveTreeIfDone 55 = .ok (.return_, 1) := by decide +kernel
theorem dX3_judgeEnd_0 : decode cX3_judgeEnd 0 = .ok (.aload_n 0, 1) := by decide +kernel
theorem dX3_judgeEnd_1 : decode cX3_judgeEnd 1 = .ok (.invokevirtual 234, 3) := by decide +kernel
theorem dX3_judgeEnd_4 : decode cX3_judgeEnd 4 = .ok (.ifCond .ne 13, 3) := by decide +kernel
theorem dX3_judgeEnd_7 : decode cX3_judgeEnd 7 = .ok (.aload_n 0, 1) := by decide +kernel
theorem dX3_judgeEnd_8 : decode cX3_judgeEnd 8 = .ok (.dup, 1) := by decide +kernel
theorem dX3_judgeEnd_9 : decode cX3_judgeEnd 9 = .ok (.getfield 207, 3) := by decide +kernel
theorem dX3_judgeEnd_12 : decode cX3_judgeEnd 12 = .ok (.iconst 1, 1) := by decide +kernel
theorem dX3_judgeEnd_13 : decode cX3_judgeEnd 13 = .ok (.iadd, 1) := by decide +kernel
theorem dX3_judgeEnd_14 : decode cX3_judgeEnd 14 = .ok (.putfield 207, 3) := by decide +kernel
theorem dX3_judgeEnd_17 : decode cX3_judgeEnd 17 = .ok (.return_, 1) := by decide +kernel
theorem dX3_takeProbe_0 : decode cX3_takeProbe 0 = .ok (.aload_n 3, 1) := by decide +kernel
theorem dX3_takeProbe_1 : decode cX3_takeProbe 1 = .ok (.invokevirtual 104, 3) := by decide +kernel
theorem dX3_takeProbe_4 : decode cX3_takeProbe 4 = .ok (.ifCond .eq 14, 3) := by decide +kernel
theorem dX3_takeProbe_7 : decode cX3_takeProbe 7 = .ok (.aload_n 3, 1) := by decide +kernel
theorem dX3_takeProbe_8 : decode cX3_takeProbe 8 = .ok (.getfield 107, 3) := by decide +kernel
theorem dX3_takeProbe_11 : decode cX3_takeProbe 11 = .ok (.iload_n 1, 1) := by decide +kernel
theorem dX3_takeProbe_12 : decode cX3_takeProbe 12 = .ok (.invokestatic 110, 3) := by decide +kernel
theorem dX3_takeProbe_15 : decode cX3_takeProbe 15 = .ok (.ifCond .ne 4, 3) := by decide +kernel
theorem dX3_takeProbe_18 : decode cX3_takeProbe 18 = .ok (.return_, 1) := by decide +kernel
theorem dX3_takeProbe_19 : decode cX3_takeProbe 19 = .ok (.iload 4, 2) := by decide +kernel
theorem dX3_takeProbe_21 : decode cX3_takeProbe 21 = .ok (.invokestatic 198, 3) := by decide +kernel
theorem dX3_takeProbe_24 : decode cX3_takeProbe 24 = .ok (.istore 5, 2) := by decide +kernel
theorem dX3_takeProbe_26 : decode cX3_takeProbe 26 = .ok (.iload 5, 2) := by decide +kernel
theorem dX3_takeProbe_28 : decode cX3_takeProbe 28 = .ok (.iload_n 2, 1) := by decide +kernel
theorem dX3_takeProbe_29 : decode cX3_takeProbe 29 = .ok (.if_icmp .ne 12, 3) := by decide +kernel
theorem dX3_takeProbe_32 : decode cX3_takeProbe 32 = .ok (.aload_n 0, 1) := by decide +kernel
theorem dX3_takeProbe_33 : decode cX3_takeProbe 33 = .ok (.iload_n 2, 1) := by decide +kernel
theorem dX3_takeProbe_34 : decode cX3_takeProbe 34 = .ok (.aload_n 3, 1) := by decide +kernel
theorem dX3_takeProbe_35 : decode cX3_takeProbe 35 = .ok (.invokevirtual 237, 3) := by decide +kernel
theorem dX3_takeProbe_38 : decode cX3_takeProbe 38 = .ok (.goto 28, 3) := by decide +kernel
theorem dX3_takeProbe_41 : decode cX3_takeProbe 41 = .ok (.aload_n 3, 1) := by decide +kernel
theorem dX3_takeProbe_42 : decode cX3_takeProbe 42 = .ok (.iload 5, 2) := by decide +kernel
theorem dX3_takeProbe_44 : decode cX3_takeProbe 44 = .ok (.iload 4, 2) := by decide +kernel
theorem dX3_takeProbe_46 : decode cX3_takeProbe 46 = .ok (.invokestatic 201, 3) := by decide +kernel
theorem dX3_takeProbe_49 : decode cX3_takeProbe 49 = .ok (.invokevirtual 240, 3) := by decide +kernel
theorem dX3_takeProbe_52 : decode cX3_takeProbe 52 = .ok (.ifCond .eq 14, 3) := by decide +kernel
theorem dX3_takeProbe_55 : decode cX3_takeProbe 55 = .ok (.aload_n 0, 1) := by decide +kernel
theorem dX3_takeProbe_56 : decode cX3_takeProbe 56 = .ok (.iload_n 2, 1) := by decide +kernel
theorem dX3_takeProbe_57 : decode cX3_takeProbe 57 = .ok (.aload_n 3, 1) := by decide +kernel
theorem dX3_takeProbe_58 : decode cX3_takeProbe 58 = .ok (.getfield 92, 3) := by decide +kernel
theorem dX3_takeProbe_61 : decode cX3_takeProbe 61 = .ok (.iload 4, 2) := by decide +kernel
theorem dX3_takeProbe_63 : decode cX3_takeProbe 63 = .ok (.invokevirtual 95, 3) := by decide +kernel
theorem dX3_takeProbe_66 : decode cX3_takeProbe 66 = .ok (.return_, 1) := by decide +kernel
theorem dX3_tellDead_0 : decode cX3_tellDead 0 = .ok (.aload_n 2, 1) := by decide +kernel
theorem dX3_tellDead_1 : decode cX3_tellDead 1 = .ok (.dup, 1) := by decide +kernel
theorem dX3_tellDead_2 : decode cX3_tellDead 2 = .ok (.getfield 192, 3) := by decide +kernel
theorem dX3_tellDead_5 : decode cX3_tellDead 5 = .ok (.iconst 1, 1) := by decide +kernel
theorem dX3_tellDead_6 : decode cX3_tellDead 6 = .ok (.iadd, 1) := by decide +kernel
theorem dX3_tellDead_7 : decode cX3_tellDead 7 = .ok (.putfield 192, 3) := by decide +kernel
theorem dX3_tellDead_10 : decode cX3_tellDead 10 = .ok (.aload_n 0, 1) := by decide +kernel
theorem dX3_tellDead_11 : decode cX3_tellDead 11 = .ok (.dup, 1) := by decide +kernel
theorem dX3_tellDead_12 : decode cX3_tellDead 12 = .ok (.getfield 226, 3) := by decide +kernel
theorem dX3_tellDead_15 : decode cX3_tellDead 15 = .ok (.iconst 1, 1) := by decide +kernel
theorem dX3_tellDead_16 : decode cX3_tellDead 16 = .ok (.iadd, 1) := by decide +kernel
theorem dX3_tellDead_17 : decode cX3_tellDead 17 = .ok (.putfield 226, 3) := by decide +kernel
theorem dX3_tellDead_20 : decode cX3_tellDead 20 = .ok (.aload_n 0, 1) := by decide +kernel
theorem dX3_tellDead_21 : decode cX3_tellDead 21 = .ok (.iload_n 1, 1) := by decide +kernel
theorem dX3_tellDead_22 : decode cX3_tellDead 22 = .ok (.invokevirtual 243, 3) := by decide +kernel
theorem dX3_tellDead_25 : decode cX3_tellDead 25 = .ok (.ifCond .ne 13, 3) := by decide +kernel
theorem dX3_tellDead_28 : decode cX3_tellDead 28 = .ok (.aload_n 0, 1) := by decide +kernel
theorem dX3_tellDead_29 : decode cX3_tellDead 29 = .ok (.dup, 1) := by decide +kernel
theorem dX3_tellDead_30 : decode cX3_tellDead 30 = .ok (.getfield 210, 3) := by decide +kernel
theorem dX3_tellDead_33 : decode cX3_tellDead 33 = .ok (.iconst 1, 1) := by decide +kernel
theorem dX3_tellDead_34 : decode cX3_tellDead 34 = .ok (.iadd, 1) := by decide +kernel
theorem dX3_tellDead_35 : decode cX3_tellDead 35 = .ok (.putfield 210, 3) := by decide +kernel
theorem dX3_tellDead_38 : decode cX3_tellDead 38 = .ok (.return_, 1) := by decide +kernel
theorem dX3_isInRing_0 : decode cX3_isInRing 0 = .ok (.aload_n 0, 1) := by decide +kernel
theorem dX3_isInRing_1 : decode cX3_isInRing 1 = .ok (.getfield 26, 3) := by decide +kernel
theorem dX3_isInRing_4 : decode cX3_isInRing 4 = .ok (.iload_n 1, 1) := by decide +kernel
theorem dX3_isInRing_5 : decode cX3_isInRing 5 = .ok (.aaload, 1) := by decide +kernel
theorem dX3_isInRing_6 : decode cX3_isInRing 6 = .ok (.invokevirtual 246, 3) := by decide +kernel
theorem dX3_isInRing_9 : decode cX3_isInRing 9 = .ok (.istore_n 2, 1) := by decide +kernel
theorem dX3_isInRing_10 : decode cX3_isInRing 10 = .ok (.iconst 0, 1) := by decide +kernel
theorem dX3_isInRing_11 : decode cX3_isInRing 11 = .ok (.istore_n 3, 1) := by decide +kernel
theorem dX3_isInRing_12 : decode cX3_isInRing 12 = .ok (.iload_n 3, 1) := by decide +kernel
theorem dX3_isInRing_13 : decode cX3_isInRing 13 = .ok (.aload_n 0, 1) := by decide +kernel
theorem dX3_isInRing_14 : decode cX3_isInRing 14 = .ok (.getfield 18, 3) := by decide +kernel
theorem dX3_isInRing_17 : decode cX3_isInRing 17 = .ok (.if_icmp .ge 57, 3) := by decide +kernel
theorem dX3_isInRing_20 : decode cX3_isInRing 20 = .ok (.iload_n 2, 1) := by decide +kernel
theorem dX3_isInRing_21 : decode cX3_isInRing 21 = .ok (.iload_n 1, 1) := by decide +kernel
theorem dX3_isInRing_22 : decode cX3_isInRing 22 = .ok (.invokestatic 110, 3) := by decide +kernel
theorem dX3_isInRing_25 : decode cX3_isInRing 25 = .ok (.ifCond .ne 49, 3) := by decide +kernel
theorem dX3_isInRing_28 : decode cX3_isInRing 28 = .ok (.iconst 0, 1) := by decide +kernel
theorem dX3_isInRing_29 : decode cX3_isInRing 29 = .ok (.istore 4, 2) := by decide +kernel
theorem dX3_isInRing_31 : decode cX3_isInRing 31 = .ok (.iload 4, 2) := by decide +kernel
theorem dX3_isInRing_33 : decode cX3_isInRing 33 = .ok (.aload_n 0, 1) := by decide +kernel
theorem dX3_isInRing_34 : decode cX3_isInRing 34 = .ok (.getfield 18, 3) := by decide +kernel
theorem dX3_isInRing_37 : decode cX3_isInRing 37 = .ok (.if_icmp .ge 31, 3) := by decide +kernel
theorem dX3_isInRing_40 : decode cX3_isInRing 40 = .ok (.iload_n 2, 1) := by decide +kernel
theorem dX3_isInRing_41 : decode cX3_isInRing 41 = .ok (.iload 4, 2) := by decide +kernel
theorem dX3_isInRing_43 : decode cX3_isInRing 43 = .ok (.invokestatic 110, 3) := by decide +kernel
theorem dX3_isInRing_46 : decode cX3_isInRing 46 = .ok (.ifCond .eq 16, 3) := by decide +kernel
theorem dX3_isInRing_49 : decode cX3_isInRing 49 = .ok (.iload_n 2, 1) := by decide +kernel
theorem dX3_isInRing_50 : decode cX3_isInRing 50 = .ok (.aload_n 0, 1) := by decide +kernel
theorem dX3_isInRing_51 : decode cX3_isInRing 51 = .ok (.getfield 26, 3) := by decide +kernel
theorem dX3_isInRing_54 : decode cX3_isInRing 54 = .ok (.iload 4, 2) := by decide +kernel
theorem dX3_isInRing_56 : decode cX3_isInRing 56 = .ok (.aaload, 1) := by decide +kernel
theorem dX3_isInRing_57 : decode cX3_isInRing 57 = .ok (.invokevirtual 246, 3) := by decide +kernel
theorem dX3_isInRing_60 : decode cX3_isInRing 60 = .ok (.ior, 1) := by decide +kernel
theorem dX3_isInRing_61 : decode cX3_isInRing 61 = .ok (.istore_n 2, 1) := by decide +kernel
theorem dX3_isInRing_62 : decode cX3_isInRing 62 = .ok (.iinc 4 1, 3) := by decide +kernel
theorem dX3_isInRing_65 : decode cX3_isInRing 65 = .ok (.goto (-34), 3) := by decide +kernel
theorem dX3_isInRing_68 : decode cX3_isInRing 68 = .ok (.iinc 3 1, 3) := by decide +kernel
theorem dX3_isInRing_71 : decode cX3_isInRing 71 = .ok (.goto (-59), 3) := by decide +kernel
theorem dX3_isInRing_74 : decode cX3_isInRing 74 = .ok (.iload_n 2, 1) := by decide +kernel
theorem dX3_isInRing_75 : decode cX3_isInRing 75 = .ok (.iload_n 1, 1) := by decide +kernel
theorem dX3_isInRing_76 : decode cX3_isInRing 76 = .ok (.invokestatic 110, 3) := by decide +kernel
theorem dX3_isInRing_79 : decode cX3_isInRing 79 = .ok (.ireturn, 1) := by decide +kernel
theorem dX3_messagesUnderWay_0 : decode cX3_messagesUnderWay 0 = .ok (.iconst 0, 1) := by decide +kernel
theorem dX3_messagesUnderWay_1 : decode cX3_messagesUnderWay 1 = .ok (.istore_n 1, 1) := by decide +kernel
theorem dX3_messagesUnderWay_2 : decode cX3_messagesUnderWay 2 = .ok (.aload_n 0, 1) := by decide +kernel
theorem dX3_messagesUnderWay_3 : decode cX3_messagesUnderWay 3 = .ok (.getfield 34, 3) := by decide +kernel
theorem dX3_messagesUnderWay_6 : decode cX3_messagesUnderWay 6 = .ok (.astore_n 2, 1) := by decide +kernel
theorem dX3_messagesUnderWay_7 : decode cX3_messagesUnderWay 7 = .ok (.aload_n 2, 1) := by decide +kernel
theorem dX3_messagesUnderWay_8 : decode cX3_messagesUnderWay 8 = .ok (.arraylength, 1) := by decide +kernel
theorem dX3_messagesUnderWay_9 : decode cX3_messagesUnderWay 9 = .ok (.istore_n 3, 1) := by decide +kernel
theorem dX3_messagesUnderWay_10 : decode cX3_messagesUnderWay 10 = .ok (.iconst 0, 1) := by decide +kernel
theorem dX3_messagesUnderWay_11 : decode cX3_messagesUnderWay 11 = .ok (.istore 4, 2) := by decide +kernel
theorem dX3_messagesUnderWay_13 : decode cX3_messagesUnderWay 13 = .ok (.iload 4, 2) := by decide +kernel
theorem dX3_messagesUnderWay_15 : decode cX3_messagesUnderWay 15 = .ok (.iload_n 3, 1) := by decide +kernel
theorem dX3_messagesUnderWay_16 : decode cX3_messagesUnderWay 16 = .ok (.if_icmp .ge 32, 3) := by decide +kernel
theorem dX3_messagesUnderWay_19 : decode cX3_messagesUnderWay 19 = .ok (.aload_n 2, 1) := by decide +kernel
theorem dX3_messagesUnderWay_20 : decode cX3_messagesUnderWay 20 = .ok (.iload 4, 2) := by decide +kernel
theorem dX3_messagesUnderWay_22 : decode cX3_messagesUnderWay 22 = .ok (.aaload, 1) := by decide +kernel
theorem dX3_messagesUnderWay_23 : decode cX3_messagesUnderWay 23 = .ok (.astore 5, 2) := by decide +kernel
theorem dX3_messagesUnderWay_25 : decode cX3_messagesUnderWay 25 = .ok (.iload_n 1, 1) := by decide +kernel
theorem dX3_messagesUnderWay_26 : decode cX3_messagesUnderWay 26 = .ok (.aload 5, 2) := by decide +kernel
theorem dX3_messagesUnderWay_28 : decode cX3_messagesUnderWay 28 = .ok (.ifnonnull 7, 3) := by decide +kernel
theorem dX3_messagesUnderWay_31 : decode cX3_messagesUnderWay 31 = .ok (.iconst 0, 1) := by decide +kernel
theorem dX3_messagesUnderWay_32 : decode cX3_messagesUnderWay 32 = .ok (.goto 8, 3) := by decide +kernel
theorem dX3_messagesUnderWay_35 : decode cX3_messagesUnderWay 35 = .ok (.aload 5, 2) := by decide +kernel
theorem dX3_messagesUnderWay_37 : decode cX3_messagesUnderWay 37 = .ok (.getfield 153, 3) := by decide +kernel
theorem dX3_messagesUnderWay_40 : decode cX3_messagesUnderWay 40 = .ok (.iadd, 1) := by decide +kernel
theorem dX3_messagesUnderWay_41 : decode cX3_messagesUnderWay 41 = .ok (.istore_n 1, 1) := by decide +kernel
theorem dX3_messagesUnderWay_42 : decode cX3_messagesUnderWay 42 = .ok (.iinc 4 1, 3) := by decide +kernel
theorem dX3_messagesUnderWay_45 : decode cX3_messagesUnderWay 45 = .ok (.goto (-32), 3) := by decide +kernel
theorem dX3_messagesUnderWay_48 : decode cX3_messagesUnderWay 48 = .ok (.iload_n 1, 1) := by decide +kernel
theorem dX3_messagesUnderWay_49 : decode cX3_messagesUnderWay 49 = .ok (.ireturn, 1) := by decide +kernel
theorem dX3_worksUnderWay_0 : decode cX3_worksUnderWay 0 = .ok (.iconst 0, 1) := by decide +kernel
theorem dX3_worksUnderWay_1 : decode cX3_worksUnderWay 1 = .ok (.istore_n 1, 1) := by decide +kernel
theorem dX3_worksUnderWay_2 : decode cX3_worksUnderWay 2 = .ok (.aload_n 0, 1) := by decide +kernel
theorem dX3_worksUnderWay_3 : decode cX3_worksUnderWay 3 = .ok (.getfield 34, 3) := by decide +kernel
theorem dX3_worksUnderWay_6 : decode cX3_worksUnderWay 6 = .ok (.astore_n 2, 1) := by decide +kernel
theorem dX3_worksUnderWay_7 : decode cX3_worksUnderWay 7 = .ok (.aload_n 2, 1) := by decide +kernel
theorem dX3_worksUnderWay_8 : decode cX3_worksUnderWay 8 = .ok (.arraylength, 1) := by decide +kernel
theorem dX3_worksUnderWay_9 : decode cX3_worksUnderWay 9 = .ok (.istore_n 3, 1) := by decide +kernel
theorem dX3_worksUnderWay_10 : decode cX3_worksUnderWay 10 = .ok (.iconst 0, 1) := by decide +kernel
theorem dX3_worksUnderWay_11 : decode cX3_worksUnderWay 11 = .ok (.istore 4, 2) := by decide +kernel
theorem dX3_worksUnderWay_13 : decode cX3_worksUnderWay 13 = .ok (.iload 4, 2) := by decide +kernel
theorem dX3_worksUnderWay_15 : decode cX3_worksUnderWay 15 = .ok (.iload_n 3, 1) := by decide +kernel
theorem dX3_worksUnderWay_16 : decode cX3_worksUnderWay 16 = .ok (.if_icmp .ge 32, 3) := by decide +kernel
theorem dX3_worksUnderWay_19 : decode cX3_worksUnderWay 19 = .ok (.aload_n 2, 1) := by decide +kernel
theorem dX3_worksUnderWay_20 : decode cX3_worksUnderWay 20 = .ok (.iload 4, 2) := by decide +kernel
theorem dX3_worksUnderWay_22 : decode cX3_worksUnderWay 22 = .ok (.aaload, 1) := by decide +kernel
theorem dX3_worksUnderWay_23 : decode cX3_worksUnderWay 23 = .ok (.astore 5, 2) := by decide +kernel
theorem dX3_worksUnderWay_25 : decode cX3_worksUnderWay 25 = .ok (.iload_n 1, 1) := by decide +kernel
theorem dX3_worksUnderWay_26 : decode cX3_worksUnderWay 26 = .ok (.aload 5, 2) := by decide +kernel
theorem dX3_worksUnderWay_28 : decode cX3_worksUnderWay 28 = .ok (.ifnonnull 7, 3) := by decide +kernel
theorem dX3_worksUnderWay_31 : decode cX3_worksUnderWay 31 = .ok (.iconst 0, 1) := by decide +kernel
theorem dX3_worksUnderWay_32 : decode cX3_worksUnderWay 32 = .ok (.goto 8, 3) := by decide +kernel
theorem dX3_worksUnderWay_35 : decode cX3_worksUnderWay 35 = .ok (.aload 5, 2) := by decide +kernel
theorem dX3_worksUnderWay_37 : decode cX3_worksUnderWay 37 = .ok (.getfield 66, 3) := by decide +kernel
theorem dX3_worksUnderWay_40 : decode cX3_worksUnderWay 40 = .ok (.iadd, 1) := by decide +kernel
theorem dX3_worksUnderWay_41 : decode cX3_worksUnderWay 41 = .ok (.istore_n 1, 1) := by decide +kernel
theorem dX3_worksUnderWay_42 : decode cX3_worksUnderWay 42 = .ok (.iinc 4 1, 3) := by decide +kernel
theorem dX3_worksUnderWay_45 : decode cX3_worksUnderWay 45 = .ok (.goto (-32), 3) := by decide +kernel
theorem dX3_worksUnderWay_48 : decode cX3_worksUnderWay 48 = .ok (.iload_n 1, 1) := by decide +kernel
theorem dX3_worksUnderWay_49 : decode cX3_worksUnderWay 49 = .ok (.ireturn, 1) := by decide +kernel
end
section
theorem dX4_init_0 : decode cX4_init 0 = .ok (.aload_n 0, 1) := by decide +kernel
theorem dX4_init_1 : decode cX4_init 1 = .ok (.invokespecial 1, 3) := by decide +kernel
theorem dX4_init_4 : decode cX4_init 4 = .ok (.aload_n 0, 1) := by decide +kernel
theorem dX4_init_5 : decode cX4_init 5 = .ok (.bipush 10, 2) := by decide +kernel
theorem dX4_init_7 : decode cX4_init 7 = .ok (.newarray .boolean, 2) := by decide +kernel
theorem dX4_init_9 : decode cX4_init 9 = .ok (.putfield 9, 3) := by decide +kernel
theorem dX4_init_12 : decode cX4_init 12 = .ok (.aload_n 0, 1) := by decide +kernel
theorem dX4_init_13 : decode cX4_init 13 = .ok (.bipush 10, 2) := by decide +kernel
theorem dX4_init_15 : decode cX4_init 15 = .ok (.newarray .int, 2) := by decide +kernel
theorem dX4_init_17 : decode cX4_init 17 = .ok (.putfield 13, 3) := by decide +kernel
theorem dX4_init_20 : decode cX4_init 20 = .ok (.aload_n 0, 1) := by decide +kernel
theorem dX4_init_21 : decode cX4_init 21 = .ok (.bipush 10, 2) := by decide +kernel
theorem dX4_init_23 : decode cX4_init 23 = .ok (.newarray .int, 2) := by decide +kernel
theorem dX4_init_25 : decode cX4_init 25 = .ok (.putfield 17, 3) := by decide +kernel
theorem dX4_init_28 : decode cX4_init 28 = .ok (.aload_n 0, 1) := by decide +kernel
theorem dX4_init_29 : decode cX4_init 29 = .ok (.bipush 10, 2) := by decide +kernel
theorem dX4_init_31 : decode cX4_init 31 = .ok (.newarray .int, 2) := by decide +kernel
theorem dX4_init_33 : decode cX4_init 33 = .ok (.putfield 20, 3) := by decide +kernel
theorem dX4_init_36 : decode cX4_init 36 = .ok (.aload_n 0, 1) := by decide +kernel
theorem dX4_init_37 : decode cX4_init 37 = .ok (.bipush 10, 2) := by decide +kernel
theorem dX4_init_39 : decode cX4_init 39 = .ok (.newarray .boolean, 2) := by decide +kernel
theorem dX4_init_41 : decode cX4_init 41 = .ok (.putfield 23, 3) := by decide +kernel
theorem dX4_init_44 : decode cX4_init 44 = .ok (.aload_n 0, 1) := by decide +kernel
theorem dX4_init_45 : decode cX4_init 45 = .ok (.bipush 10, 2) := by decide +kernel
theorem dX4_init_47 : decode cX4_init 47 = .ok (.newarray .boolean, 2) := by decide +kernel
theorem dX4_init_49 : decode cX4_init 49 = .ok (.putfield 26, 3) := by decide +kernel
theorem dX4_init_52 : decode cX4_init 52 = .ok (.aload_n 0, 1) := by decide +kernel
theorem dX4_init_53 : decode cX4_init 53 = .ok (.bipush 10, 2) := by decide +kernel
theorem dX4_init_55 : decode cX4_init 55 = .ok (.newarray .int, 2) := by decide +kernel
theorem dX4_init_57 : decode cX4_init 57 = .ok (.putfield 29, 3) := by decide +kernel
theorem dX4_init_60 : decode cX4_init 60 = .ok (.aload_n 0, 1) := by decide +kernel
theorem dX4_init_61 : decode cX4_init 61 = .ok (.bipush 10, 2) := by decide +kernel
theorem dX4_init_63 : decode cX4_init 63 = .ok (.newarray .int, 2) := by decide +kernel
theorem dX4_init_65 : decode cX4_init 65 = .ok (.putfield 32, 3) := by decide +kernel
theorem dX4_init_68 : decode cX4_init 68 = .ok (.aload_n 0, 1) := by decide +kernel
theorem dX4_init_69 : decode cX4_init 69 = .ok (.bipush 100, 2) := by decide +kernel
theorem dX4_init_71 : decode cX4_init 71 = .ok (.newarray .boolean, 2) := by decide +kernel
theorem dX4_init_73 : decode cX4_init 73 = .ok (.putfield 35, 3) := by decide +kernel
theorem dX4_init_76 : decode cX4_init 76 = .ok (.aload_n 0, 1) := by decide +kernel
theorem dX4_init_77 : decode cX4_init 77 = .ok (.bipush 100, 2) := by decide +kernel
theorem dX4_init_79 : decode cX4_init 79 = .ok (.newarray .boolean, 2) := by decide +kernel
theorem dX4_init_81 : decode cX4_init 81 = .ok (.putfield 38, 3) := by decide +kernel
theorem dX4_init_84 : decode cX4_init 84 = .ok (.aload_n 0, 1) := by decide +kernel
theorem dX4_init_85 : decode cX4_init 85 = .ok (.bipush 100, 2) := by decide +kernel
theorem dX4_init_87 : decode cX4_init 87 = .ok (.newarray .int, 2) := by decide +kernel
theorem dX4_init_89 : decode cX4_init 89 = .ok (.putfield 41, 3) := by decide +kernel
theorem dX4_init_92 : decode cX4_init 92 = .ok (.aload_n 0, 1) := by decide +kernel
theorem dX4_init_93 : decode cX4_init 93 = .ok (.bipush 100, 2) := by decide +kernel
theorem dX4_init_95 : decode cX4_init 95 = .ok (.newarray .int, 2) := by decide +kernel
theorem dX4_init_97 : decode cX4_init 97 = .ok (.putfield 44, 3) := by decide +kernel
theorem dX4_init_100 : decode cX4_init 100 = .ok (.aload_n 0, 1) := by decide +kernel
theorem dX4_init_101 : decode cX4_init 101 = .ok (.ldc 47, 2) := by decide +kernel
theorem dX4_init_103 : decode cX4_init 103 = .ok (.newarray .int, 2) := by decide +kernel
theorem dX4_init_105 : decode cX4_init 105 = .ok (.putfield 48, 3) := by decide +kernel
theorem dX4_init_108 : decode cX4_init 108 = .ok (.aload_n 0, 1) := by decide +kernel
theorem dX4_init_109 : decode cX4_init 109 = .ok (.ldc 47, 2) := by decide +kernel
theorem dX4_init_111 : decode cX4_init 111 = .ok (.newarray .int, 2) := by decide +kernel
theorem dX4_init_113 : decode cX4_init 113 = .ok (.putfield 51, 3) := by decide +kernel
theorem dX4_init_116 : decode cX4_init 116 = .ok (.aload_n 0, 1) := by decide +kernel
theorem dX4_init_117 : decode cX4_init 117 = .ok (.ldc 47, 2) := by decide +kernel
theorem dX4_init_119 : decode cX4_init 119 = .ok (.newarray .int, 2) := by decide +kernel
theorem dX4_init_121 : decode cX4_init 121 = .ok (.putfield 54, 3) := by decide +kernel
theorem dX4_init_124 : decode cX4_init 124 = .ok (.aload_n 0, 1) := by decide +kernel
theorem dX4_init_125 : decode cX4_init 125 = .ok (.bipush 10, 2) := by decide +kernel
theorem dX4_init_127 : decode cX4_init 127 = .ok (.newarray .boolean, 2) := by decide +kernel
theorem dX4_init_129 : decode cX4_init 129 = .ok (.putfield 57, 3) := by decide +kernel
theorem dX4_init_132 : decode cX4_init 132 = .ok (.aload_n 0, 1) := by decide +kernel
theorem dX4_init_133 : decode cX4_init 133 = .ok (.iload_n 1, 1) := by decide +kernel
theorem dX4_init_134 : decode cX4_init 134 = .ok (.iconst 2, 1) := by decide +kernel
theorem dX4_init_135 : decode cX4_init 135 = .ok (.if_icmp .ge 7, 3) := by decide +kernel
theorem dX4_init_138 : decode cX4_init 138 = .ok (.iconst 2, 1) := by decide +kernel
theorem dX4_init_139 : decode cX4_init 139 = .ok (.goto 15, 3) := by decide +kernel
theorem dX4_init_142 : decode cX4_init 142 = .ok (.iload_n 1, 1) := by decide +kernel
theorem dX4_init_143 : decode cX4_init 143 = .ok (.bipush 10, 2) := by decide +kernel
theorem dX4_init_145 : decode cX4_init 145 = .ok (.if_icmp .le 8, 3) := by decide +kernel
theorem dX4_init_148 : decode cX4_init 148 = .ok (.bipush 10, 2) := by decide +kernel
theorem dX4_init_150 : decode cX4_init 150 = .ok (.goto 4, 3) := by decide +kernel
theorem dX4_init_153 : decode cX4_init 153 = .ok (.iload_n 1, 1) := by decide +kernel
theorem dX4_init_154 : decode cX4_init 154 = .ok (.putfield 60, 3) := by decide +kernel
theorem dX4_init_157 : decode cX4_init 157 = .ok (.iconst 0, 1) := by decide +kernel
theorem dX4_init_158 : decode cX4_init 158 = .ok (.istore_n 2, 1) := by decide +kernel
theorem dX4_init_159 : decode cX4_init 159 = .ok (.iload_n 2, 1) := by decide +kernel
theorem dX4_init_160 : decode cX4_init 160 = .ok (.bipush 10, 2) := by decide +kernel
theorem dX4_init_162 : decode cX4_init 162 = .ok (.if_icmp .ge 16, 3) := by decide +kernel
theorem dX4_init_165 : decode cX4_init 165 = .ok (.aload_n 0, 1) := by decide +kernel
theorem dX4_init_166 : decode cX4_init 166 = .ok (.getfield 13, 3) := by decide +kernel
theorem dX4_init_169 : decode cX4_init 169 = .ok (.iload_n 2, 1) := by decide +kernel
theorem dX4_init_170 : decode cX4_init 170 = .ok (.iconst (-1), 1) := by decide +kernel
theorem dX4_init_171 : decode cX4_init 171 = .ok (.iastore, 1) := by decide +kernel
theorem dX4_init_172 : decode cX4_init 172 = .ok (.iinc 2 1, 3) := by decide +kernel
theorem dX4_init_175 : decode cX4_init 175 = .ok (.goto (-16), 3) := by decide +kernel
theorem dX4_init_178 : decode cX4_init 178 = .ok (.aload_n 0, 1) := by decide +kernel
theorem dX4_init_179 : decode cX4_init 179 = .ok (.getfield 26, 3) := by decide +kernel
theorem dX4_init_182 : decode cX4_init 182 = .ok (.iconst 0, 1) := by decide +kernel
theorem dX4_init_183 : decode cX4_init 183 = .ok (.iconst 1, 1) := by decide +kernel
theorem dX4_init_184 : decode cX4_init 184 = .ok (.bastore, 1) := by decide +kernel
theorem dX4_init_185 : decode cX4_init 185 = .ok (.return_, 1) := by decide +kernel
theorem dX4_isOne_0 : decode cX4_isOne 0 = .ok (.iload_n 1, 1) := by decide +kernel
theorem dX4_isOne_1 : decode cX4_isOne 1 = .ok (.ifCond .lt 15, 3) := by decide +kernel
theorem dX4_isOne_4 : decode cX4_isOne 4 = .ok (.iload_n 1, 1) := by decide +kernel
theorem dX4_isOne_5 : decode cX4_isOne 5 = .ok (.aload_n 0, 1) := by decide +kernel
theorem dX4_isOne_6 : decode cX4_isOne 6 = .ok (.getfield 60, 3) := by decide +kernel
theorem dX4_isOne_9 : decode cX4_isOne 9 = .ok (.if_icmp .ge 7, 3) := by decide +kernel
theorem dX4_isOne_12 : decode cX4_isOne 12 = .ok (.iconst 1, 1) := by decide +kernel
theorem dX4_isOne_13 : decode cX4_isOne 13 = .ok (.goto 4, 3) := by decide +kernel
theorem dX4_isOne_16 : decode cX4_isOne 16 = .ok (.iconst 0, 1) := by decide +kernel
theorem dX4_isOne_17 : decode cX4_isOne 17 = .ok (.ireturn, 1) := by decide +kernel
theorem dX4_isRow_0 : decode cX4_isRow 0 = .ok (.aload_n 0, 1) := by decide +kernel
theorem dX4_isRow_1 : decode cX4_isRow 1 = .ok (.iload_n 1, 1) := by decide +kernel
theorem dX4_isRow_2 : decode cX4_isRow 2 = .ok (.invokevirtual 64, 3) := by decide +kernel
theorem dX4_isRow_5 : decode cX4_isRow 5 = .ok (.ifCond .eq 20, 3) := by decide +kernel
theorem dX4_isRow_8 : decode cX4_isRow 8 = .ok (.aload_n 0, 1) := by decide +kernel
theorem dX4_isRow_9 : decode cX4_isRow 9 = .ok (.iload_n 2, 1) := by decide +kernel
theorem dX4_isRow_10 : decode cX4_isRow 10 = .ok (.invokevirtual 64, 3) := by decide +kernel
theorem dX4_isRow_13 : decode cX4_isRow 13 = .ok (.ifCond .eq 12, 3) := by decide +kernel
theorem dX4_isRow_16 : decode cX4_isRow 16 = .ok (.iload_n 1, 1) := by decide +kernel
theorem dX4_isRow_17 : decode cX4_isRow 17 = .ok (.iload_n 2, 1) := by decide +kernel
theorem dX4_isRow_18 : decode cX4_isRow 18 = .ok (.if_icmp .eq 7, 3) := by decide +kernel
theorem dX4_isRow_21 : decode cX4_isRow 21 = .ok (.iconst 1, 1) := by decide +kernel
theorem dX4_isRow_22 : decode cX4_isRow 22 = .ok (.goto 4, 3) := by decide +kernel
theorem dX4_isRow_25 : decode cX4_isRow 25 = .ok (.iconst 0, 1) := by decide +kernel
theorem dX4_isRow_26 : decode cX4_isRow 26 = .ok (.ireturn, 1) := by decide +kernel
theorem dX4_row_0 : decode cX4_row 0 = .ok (.bipush 10, 2) := by decide +kernel
theorem dX4_row_2 : decode cX4_row 2 = .ok (.iload_n 0, 1) := by decide +kernel
theorem dX4_row_3 : decode cX4_row 3 = .ok (.imul, 1) := by decide +kernel
theorem dX4_row_4 : decode cX4_row 4 = .ok (.iload_n 1, 1) := by decide +kernel
theorem dX4_row_5 : decode cX4_row 5 = .ok (.iadd, 1) := by decide +kernel
theorem dX4_row_6 : decode cX4_row 6 = .ok (.ireturn, 1) := by decide +kernel
theorem dX4_sends_0 : decode cX4_sends 0 = .ok (.iload_n 1, 1) := by decide +kernel
theorem dX4_sends_1 : decode cX4_sends 1 = .ok (.iload_n 2, 1) := by decide +kernel
theorem dX4_sends_2 : decode cX4_sends 2 = .ok (.invokestatic 68, 3) := by decide +kernel
theorem dX4_sends_5 : decode cX4_sends 5 = .ok (.istore 6, 2) := by decide +kernel
theorem dX4_sends_7 : decode cX4_sends 7 = .ok (.sipush 640, 3) := by decide +kernel
theorem dX4_sends_10 : decode cX4_sends 10 = .ok (.iload 6, 2) := by decide +kernel
theorem dX4_sends_12 : decode cX4_sends 12 = .ok (.imul, 1) := by decide +kernel
theorem dX4_sends_13 : decode cX4_sends 13 = .ok (.aload_n 0, 1) := by decide +kernel
theorem dX4_sends_14 : decode cX4_sends 14 = .ok (.getfield 44, 3) := by decide +kernel
theorem dX4_sends_17 : decode cX4_sends 17 = .ok (.iload 6, 2) := by decide +kernel
theorem dX4_sends_19 : decode cX4_sends 19 = .ok (.iaload, 1) := by decide +kernel
theorem dX4_sends_20 : decode cX4_sends 20 = .ok (.iadd, 1) := by decide +kernel
theorem dX4_sends_21 : decode cX4_sends 21 = .ok (.istore 7, 2) := by decide +kernel
theorem dX4_sends_23 : decode cX4_sends 23 = .ok (.aload_n 0, 1) := by decide +kernel
theorem dX4_sends_24 : decode cX4_sends 24 = .ok (.getfield 48, 3) := by decide +kernel
theorem dX4_sends_27 : decode cX4_sends 27 = .ok (.iload 7, 2) := by decide +kernel
theorem dX4_sends_29 : decode cX4_sends 29 = .ok (.iload_n 3, 1) := by decide +kernel
theorem dX4_sends_30 : decode cX4_sends 30 = .ok (.iastore, 1) := by decide +kernel
theorem dX4_sends_31 : decode cX4_sends 31 = .ok (.aload_n 0, 1) := by decide +kernel
theorem dX4_sends_32 : decode cX4_sends 32 = .ok (.getfield 51, 3) := by decide +kernel
theorem dX4_sends_35 : decode cX4_sends 35 = .ok (.iload 7, 2) := by decide +kernel
theorem dX4_sends_37 : decode cX4_sends 37 = .ok (.iload 4, 2) := by decide +kernel
theorem dX4_sends_39 : decode cX4_sends 39 = .ok (.iastore, 1) := by decide +kernel
theorem dX4_sends_40 : decode cX4_sends 40 = .ok (.aload_n 0, 1) := by decide +kernel
theorem dX4_sends_41 : decode cX4_sends 41 = .ok (.getfield 54, 3) := by decide +kernel
theorem dX4_sends_44 : decode cX4_sends 44 = .ok (.iload 7, 2) := by decide +kernel
theorem dX4_sends_46 : decode cX4_sends 46 = .ok (.iload 5, 2) := by decide +kernel
theorem dX4_sends_48 : decode cX4_sends 48 = .ok (.iastore, 1) := by decide +kernel
theorem dX4_sends_49 : decode cX4_sends 49 = .ok (.aload_n 0, 1) := by decide +kernel
theorem dX4_sends_50 : decode cX4_sends 50 = .ok (.getfield 44, 3) := by decide +kernel
theorem dX4_sends_53 : decode cX4_sends 53 = .ok (.iload 6, 2) := by decide +kernel
theorem dX4_sends_55 : decode cX4_sends 55 = .ok (.dup2, 1) := by decide +kernel
theorem dX4_sends_56 : decode cX4_sends 56 = .ok (.iaload, 1) := by decide +kernel
theorem dX4_sends_57 : decode cX4_sends 57 = .ok (.iconst 1, 1) := by decide +kernel
theorem dX4_sends_58 : decode cX4_sends 58 = .ok (.iadd, 1) := by decide +kernel
theorem dX4_sends_59 : decode cX4_sends 59 = .ok (.iastore, 1) := by decide +kernel
theorem dX4_sends_60 : decode cX4_sends 60 = .ok (.return_, 1) := by decide +kernel
theorem dX4_counted_0 : decode cX4_counted 0 = .ok (.iconst 0, 1) := by decide +kernel
theorem dX4_counted_1 : decode cX4_counted 1 = .ok (.istore_n 3, 1) := by decide +kernel
theorem dX4_counted_2 : decode cX4_counted 2 = .ok (.iconst 0, 1) := by decide +kernel
theorem dX4_counted_3 : decode cX4_counted 3 = .ok (.istore 4, 2) := by decide +kernel
theorem dX4_counted_5 : decode cX4_counted 5 = .ok (.iload 4, 2) := by decide +kernel
theorem dX4_counted_7 : decode cX4_counted 7 = .ok (.aload_n 0, 1) := by decide +kernel
theorem dX4_counted_8 : decode cX4_counted 8 = .ok (.getfield 44, 3) := by decide +kernel
theorem dX4_counted_11 : decode cX4_counted 11 = .ok (.iload_n 1, 1) := by decide +kernel
theorem dX4_counted_12 : decode cX4_counted 12 = .ok (.iaload, 1) := by decide +kernel
theorem dX4_counted_13 : decode cX4_counted 13 = .ok (.if_icmp .ge 34, 3) := by decide +kernel
theorem dX4_counted_16 : decode cX4_counted 16 = .ok (.iload_n 3, 1) := by decide +kernel
theorem dX4_counted_17 : decode cX4_counted 17 = .ok (.aload_n 0, 1) := by decide +kernel
theorem dX4_counted_18 : decode cX4_counted 18 = .ok (.getfield 48, 3) := by decide +kernel
theorem dX4_counted_21 : decode cX4_counted 21 = .ok (.sipush 640, 3) := by decide +kernel
theorem dX4_counted_24 : decode cX4_counted 24 = .ok (.iload_n 1, 1) := by decide +kernel
theorem dX4_counted_25 : decode cX4_counted 25 = .ok (.imul, 1) := by decide +kernel
theorem dX4_counted_26 : decode cX4_counted 26 = .ok (.iload 4, 2) := by decide +kernel
theorem dX4_counted_28 : decode cX4_counted 28 = .ok (.iadd, 1) := by decide +kernel
theorem dX4_counted_29 : decode cX4_counted 29 = .ok (.iaload, 1) := by decide +kernel
theorem dX4_counted_30 : decode cX4_counted 30 = .ok (.iload_n 2, 1) := by decide +kernel
theorem dX4_counted_31 : decode cX4_counted 31 = .ok (.if_icmp .ne 7, 3) := by decide +kernel
theorem dX4_counted_34 : decode cX4_counted 34 = .ok (.iconst 1, 1) := by decide +kernel
theorem dX4_counted_35 : decode cX4_counted 35 = .ok (.goto 4, 3) := by decide +kernel
theorem dX4_counted_38 : decode cX4_counted 38 = .ok (.iconst 0, 1) := by decide +kernel
theorem dX4_counted_39 : decode cX4_counted 39 = .ok (.iadd, 1) := by decide +kernel
theorem dX4_counted_40 : decode cX4_counted 40 = .ok (.istore_n 3, 1) := by decide +kernel
theorem dX4_counted_41 : decode cX4_counted 41 = .ok (.iinc 4 1, 3) := by decide +kernel
theorem dX4_counted_44 : decode cX4_counted 44 = .ok (.goto (-39), 3) := by decide +kernel
theorem dX4_counted_47 : decode cX4_counted 47 = .ok (.iload_n 3, 1) := by decide +kernel
theorem dX4_counted_48 : decode cX4_counted 48 = .ok (.ireturn, 1) := by decide +kernel
theorem dX4_waitsFor_0 : decode cX4_waitsFor 0 = .ok (.iconst 0, 1) := by decide +kernel
theorem dX4_waitsFor_1 : decode cX4_waitsFor 1 = .ok (.istore_n 2, 1) := by decide +kernel
theorem dX4_waitsFor_2 : decode cX4_waitsFor 2 = .ok (.iconst 0, 1) := by decide +kernel
theorem dX4_waitsFor_3 : decode cX4_waitsFor 3 = .ok (.istore_n 3, 1) := by decide +kernel
theorem dX4_waitsFor_4 : decode cX4_waitsFor 4 = .ok (.iload_n 3, 1) := by decide +kernel
theorem dX4_waitsFor_5 : decode cX4_waitsFor 5 = .ok (.aload_n 0, 1) := by decide +kernel
theorem dX4_waitsFor_6 : decode cX4_waitsFor 6 = .ok (.getfield 60, 3) := by decide +kernel
theorem dX4_waitsFor_9 : decode cX4_waitsFor 9 = .ok (.if_icmp .ge 30, 3) := by decide +kernel
theorem dX4_waitsFor_12 : decode cX4_waitsFor 12 = .ok (.iload_n 2, 1) := by decide +kernel
theorem dX4_waitsFor_13 : decode cX4_waitsFor 13 = .ok (.aload_n 0, 1) := by decide +kernel
theorem dX4_waitsFor_14 : decode cX4_waitsFor 14 = .ok (.getfield 35, 3) := by decide +kernel
theorem dX4_waitsFor_17 : decode cX4_waitsFor 17 = .ok (.iload_n 1, 1) := by decide +kernel
theorem dX4_waitsFor_18 : decode cX4_waitsFor 18 = .ok (.iload_n 3, 1) := by decide +kernel
theorem dX4_waitsFor_19 : decode cX4_waitsFor 19 = .ok (.invokestatic 68, 3) := by decide +kernel
theorem dX4_waitsFor_22 : decode cX4_waitsFor 22 = .ok (.baload, 1) := by decide +kernel
theorem dX4_waitsFor_23 : decode cX4_waitsFor 23 = .ok (.ifCond .eq 7, 3) := by decide +kernel
theorem dX4_waitsFor_26 : decode cX4_waitsFor 26 = .ok (.iconst 1, 1) := by decide +kernel
theorem dX4_waitsFor_27 : decode cX4_waitsFor 27 = .ok (.goto 4, 3) := by decide +kernel
theorem dX4_waitsFor_30 : decode cX4_waitsFor 30 = .ok (.iconst 0, 1) := by decide +kernel
theorem dX4_waitsFor_31 : decode cX4_waitsFor 31 = .ok (.iadd, 1) := by decide +kernel
theorem dX4_waitsFor_32 : decode cX4_waitsFor 32 = .ok (.istore_n 2, 1) := by decide +kernel
theorem dX4_waitsFor_33 : decode cX4_waitsFor 33 = .ok (.iinc 3 1, 3) := by decide +kernel
theorem dX4_waitsFor_36 : decode cX4_waitsFor 36 = .ok (.goto (-32), 3) := by decide +kernel
theorem dX4_waitsFor_39 : decode cX4_waitsFor 39 = .ok (.iload_n 2, 1) := by decide +kernel
theorem dX4_waitsFor_40 : decode cX4_waitsFor 40 = .ok (.ireturn, 1) := by decide +kernel
theorem dX4_isBlocked_0 : decode cX4_isBlocked 0 = .ok (.aload_n 0, 1) := by decide +kernel
theorem dX4_isBlocked_1 : decode cX4_isBlocked 1 = .ok (.iload_n 1, 1) := by decide +kernel
theorem dX4_isBlocked_2 : decode cX4_isBlocked 2 = .ok (.invokevirtual 72, 3) := by decide +kernel
theorem dX4_isBlocked_5 : decode cX4_isBlocked 5 = .ok (.ifCond .le 7, 3) := by decide +kernel
theorem dX4_isBlocked_8 : decode cX4_isBlocked 8 = .ok (.iconst 1, 1) := by decide +kernel
theorem dX4_isBlocked_9 : decode cX4_isBlocked 9 = .ok (.goto 4, 3) := by decide +kernel
theorem dX4_isBlocked_12 : decode cX4_isBlocked 12 = .ok (.iconst 0, 1) := by decide +kernel
theorem dX4_isBlocked_13 : decode cX4_isBlocked 13 = .ok (.ireturn, 1) := by decide +kernel
theorem dX4_isFree_0 : decode cX4_isFree 0 = .ok (.aload_n 0, 1) := by decide +kernel
theorem dX4_isFree_1 : decode cX4_isFree 1 = .ok (.iload_n 1, 1) := by decide +kernel
theorem dX4_isFree_2 : decode cX4_isFree 2 = .ok (.invokevirtual 64, 3) := by decide +kernel
theorem dX4_isFree_5 : decode cX4_isFree 5 = .ok (.ifCond .eq 24, 3) := by decide +kernel
theorem dX4_isFree_8 : decode cX4_isFree 8 = .ok (.aload_n 0, 1) := by decide +kernel
theorem dX4_isFree_9 : decode cX4_isFree 9 = .ok (.getfield 9, 3) := by decide +kernel
theorem dX4_isFree_12 : decode cX4_isFree 12 = .ok (.iload_n 1, 1) := by decide +kernel
theorem dX4_isFree_13 : decode cX4_isFree 13 = .ok (.baload, 1) := by decide +kernel
theorem dX4_isFree_14 : decode cX4_isFree 14 = .ok (.ifCond .eq 15, 3) := by decide +kernel
theorem dX4_isFree_17 : decode cX4_isFree 17 = .ok (.aload_n 0, 1) := by decide +kernel
theorem dX4_isFree_18 : decode cX4_isFree 18 = .ok (.iload_n 1, 1) := by decide +kernel
theorem dX4_isFree_19 : decode cX4_isFree 19 = .ok (.invokevirtual 76, 3) := by decide +kernel
theorem dX4_isFree_22 : decode cX4_isFree 22 = .ok (.ifCond .ne 7, 3) := by decide +kernel
theorem dX4_isFree_25 : decode cX4_isFree 25 = .ok (.iconst 1, 1) := by decide +kernel
theorem dX4_isFree_26 : decode cX4_isFree 26 = .ok (.goto 4, 3) := by decide +kernel
theorem dX4_isFree_29 : decode cX4_isFree 29 = .ok (.iconst 0, 1) := by decide +kernel
theorem dX4_isFree_30 : decode cX4_isFree 30 = .ok (.ireturn, 1) := by decide +kernel
theorem dX4_isInTree_0 : decode cX4_isInTree 0 = .ok (.iload_n 1, 1) := by decide +kernel
theorem dX4_isInTree_1 : decode cX4_isInTree 1 = .ok (.ifCond .ne 25, 3) := by decide +kernel
theorem dX4_isInTree_4 : decode cX4_isInTree 4 = .ok (.aload_n 0, 1) := by decide +kernel
theorem dX4_isInTree_5 : decode cX4_isInTree 5 = .ok (.getfield 79, 3) := by decide +kernel
theorem dX4_isInTree_8 : decode cX4_isInTree 8 = .ok (.ifCond .eq 14, 3) := by decide +kernel
theorem dX4_isInTree_11 : decode cX4_isInTree 11 = .ok (.aload_n 0, 1) := by decide +kernel
theorem dX4_isInTree_12 : decode cX4_isInTree 12 = .ok (.getfield 83, 3) := by decide +kernel
theorem dX4_isInTree_15 : decode cX4_isInTree 15 = .ok (.ifCond .ne 7, 3) := by decide +kernel
theorem dX4_isInTree_18 : decode cX4_isInTree 18 = .ok (.iconst 1, 1) := by decide +kernel
theorem dX4_isInTree_19 : decode cX4_isInTree 19 = .ok (.goto 22, 3) := by decide +kernel
theorem dX4_isInTree_22 : decode cX4_isInTree 22 = .ok (.iconst 0, 1) := by decide +kernel
theorem dX4_isInTree_23 : decode cX4_isInTree 23 = .ok (.goto 18, 3) := by decide +kernel
theorem dX4_isInTree_26 : decode cX4_isInTree 26 = .ok (.aload_n 0, 1) := by decide +kernel
theorem dX4_isInTree_27 : decode cX4_isInTree 27 = .ok (.getfield 13, 3) := by decide +kernel
theorem dX4_isInTree_30 : decode cX4_isInTree 30 = .ok (.iload_n 1, 1) := by decide +kernel
theorem dX4_isInTree_31 : decode cX4_isInTree 31 = .ok (.iaload, 1) := by decide +kernel
theorem dX4_isInTree_32 : decode cX4_isInTree 32 = .ok (.iconst (-1), 1) := by decide +kernel
theorem dX4_isInTree_33 : decode cX4_isInTree 33 = .ok (.if_icmp .eq 7, 3) := by decide +kernel
theorem dX4_isInTree_36 : decode cX4_isInTree 36 = .ok (.iconst 1, 1) := by decide +kernel
theorem dX4_isInTree_37 : decode cX4_isInTree 37 = .ok (.goto 4, 3) := by decide +kernel
theorem dX4_isInTree_40 : decode cX4_isInTree 40 = .ok (.iconst 0, 1) := by decide +kernel
theorem dX4_isInTree_41 : decode cX4_isInTree 41 = .ok (.ireturn, 1) := by decide +kernel
theorem dX4_quiet_0 : decode cX4_quiet 0 = .ok (.iconst 0, 1) := by decide +kernel
theorem dX4_quiet_1 : decode cX4_quiet 1 = .ok (.istore_n 1, 1) := by decide +kernel
theorem dX4_quiet_2 : decode cX4_quiet 2 = .ok (.iload_n 1, 1) := by decide +kernel
theorem dX4_quiet_3 : decode cX4_quiet 3 = .ok (.aload_n 0, 1) := by decide +kernel
theorem dX4_quiet_4 : decode cX4_quiet 4 = .ok (.getfield 60, 3) := by decide +kernel
theorem dX4_quiet_7 : decode cX4_quiet 7 = .ok (.if_icmp .ge 51, 3) := by decide +kernel
theorem dX4_quiet_10 : decode cX4_quiet 10 = .ok (.aload_n 0, 1) := by decide +kernel
theorem dX4_quiet_11 : decode cX4_quiet 11 = .ok (.getfield 9, 3) := by decide +kernel
theorem dX4_quiet_14 : decode cX4_quiet 14 = .ok (.iload_n 1, 1) := by decide +kernel
theorem dX4_quiet_15 : decode cX4_quiet 15 = .ok (.baload, 1) := by decide +kernel
theorem dX4_quiet_16 : decode cX4_quiet 16 = .ok (.ifCond .eq 5, 3) := by decide +kernel
theorem dX4_quiet_19 : decode cX4_quiet 19 = .ok (.iconst 0, 1) := by decide +kernel
theorem dX4_quiet_20 : decode cX4_quiet 20 = .ok (.ireturn, 1) := by decide +kernel
theorem dX4_quiet_21 : decode cX4_quiet 21 = .ok (.iconst 0, 1) := by decide +kernel
theorem dX4_quiet_22 : decode cX4_quiet 22 = .ok (.istore_n 2, 1) := by decide +kernel
theorem dX4_quiet_23 : decode cX4_quiet 23 = .ok (.iload_n 2, 1) := by decide +kernel
theorem dX4_quiet_24 : decode cX4_quiet 24 = .ok (.aload_n 0, 1) := by decide +kernel
theorem dX4_quiet_25 : decode cX4_quiet 25 = .ok (.getfield 60, 3) := by decide +kernel
theorem dX4_quiet_28 : decode cX4_quiet 28 = .ok (.if_icmp .ge 24, 3) := by decide +kernel
theorem dX4_quiet_31 : decode cX4_quiet 31 = .ok (.aload_n 0, 1) := by decide +kernel
theorem dX4_quiet_32 : decode cX4_quiet 32 = .ok (.iload_n 1, 1) := by decide +kernel
theorem dX4_quiet_33 : decode cX4_quiet 33 = .ok (.iload_n 2, 1) := by decide +kernel
theorem dX4_quiet_34 : decode cX4_quiet 34 = .ok (.invokestatic 68, 3) := by decide +kernel
theorem dX4_quiet_37 : decode cX4_quiet 37 = .ok (.iconst 1, 1) := by decide +kernel
theorem dX4_quiet_38 : decode cX4_quiet 38 = .ok (.invokevirtual 86, 3) := by decide +kernel
theorem dX4_quiet_41 : decode cX4_quiet 41 = .ok (.ifCond .le 5, 3) := by decide +kernel
theorem dX4_quiet_44 : decode cX4_quiet 44 = .ok (.iconst 0, 1) := by decide +kernel
theorem dX4_quiet_45 : decode cX4_quiet 45 = .ok (.ireturn, 1) := by decide +kernel
theorem dX4_quiet_46 : decode cX4_quiet 46 = .ok (.iinc 2 1, 3) := by decide +kernel
theorem dX4_quiet_49 : decode cX4_quiet 49 = .ok (.goto (-26), 3) := by decide +kernel
theorem dX4_quiet_52 : decode cX4_quiet 52 = .ok (.iinc 1 1, 3) := by decide +kernel
theorem dX4_quiet_55 : decode cX4_quiet 55 = .ok (.goto (-53), 3) := by decide +kernel
theorem dX4_quiet_58 : decode cX4_quiet 58 = .ok (.iconst 1, 1) := by decide +kernel
theorem dX4_quiet_59 : decode cX4_quiet 59 = .ok (.ireturn, 1) := by decide +kernel
theorem dX4_settles_0 : decode cX4_settles 0 = .ok (.iconst 0, 1) := by decide +kernel
theorem dX4_settles_1 : decode cX4_settles 1 = .ok (.istore_n 1, 1) := by decide +kernel
theorem dX4_settles_2 : decode cX4_settles 2 = .ok (.iconst 0, 1) := by decide +kernel
theorem dX4_settles_3 : decode cX4_settles 3 = .ok (.istore_n 2, 1) := by decide +kernel
theorem dX4_settles_4 : decode cX4_settles 4 = .ok (.iload_n 2, 1) := by decide +kernel
theorem dX4_settles_5 : decode cX4_settles 5 = .ok (.aload_n 0, 1) := by decide +kernel
theorem dX4_settles_6 : decode cX4_settles 6 = .ok (.getfield 60, 3) := by decide +kernel
theorem dX4_settles_9 : decode cX4_settles 9 = .ok (.if_icmp .ge 73, 3) := by decide +kernel
theorem dX4_settles_12 : decode cX4_settles 12 = .ok (.aload_n 0, 1) := by decide +kernel
theorem dX4_settles_13 : decode cX4_settles 13 = .ok (.iload_n 2, 1) := by decide +kernel
theorem dX4_settles_14 : decode cX4_settles 14 = .ok (.invokevirtual 89, 3) := by decide +kernel
theorem dX4_settles_17 : decode cX4_settles 17 = .ok (.ifCond .eq 59, 3) := by decide +kernel
theorem dX4_settles_20 : decode cX4_settles 20 = .ok (.aload_n 0, 1) := by decide +kernel
theorem dX4_settles_21 : decode cX4_settles 21 = .ok (.getfield 9, 3) := by decide +kernel
theorem dX4_settles_24 : decode cX4_settles 24 = .ok (.iload_n 2, 1) := by decide +kernel
theorem dX4_settles_25 : decode cX4_settles 25 = .ok (.baload, 1) := by decide +kernel
theorem dX4_settles_26 : decode cX4_settles 26 = .ok (.ifCond .ne 50, 3) := by decide +kernel
theorem dX4_settles_29 : decode cX4_settles 29 = .ok (.aload_n 0, 1) := by decide +kernel
theorem dX4_settles_30 : decode cX4_settles 30 = .ok (.getfield 17, 3) := by decide +kernel
theorem dX4_settles_33 : decode cX4_settles 33 = .ok (.iload_n 2, 1) := by decide +kernel
theorem dX4_settles_34 : decode cX4_settles 34 = .ok (.iaload, 1) := by decide +kernel
theorem dX4_settles_35 : decode cX4_settles 35 = .ok (.ifCond .le 6, 3) := by decide +kernel
theorem dX4_settles_38 : decode cX4_settles 38 = .ok (.goto 38, 3) := by decide +kernel
theorem dX4_settles_41 : decode cX4_settles 41 = .ok (.iload_n 2, 1) := by decide +kernel
theorem dX4_settles_42 : decode cX4_settles 42 = .ok (.ifCond .ne 13, 3) := by decide +kernel
theorem dX4_settles_45 : decode cX4_settles 45 = .ok (.aload_n 0, 1) := by decide +kernel
theorem dX4_settles_46 : decode cX4_settles 46 = .ok (.iconst 1, 1) := by decide +kernel
theorem dX4_settles_47 : decode cX4_settles 47 = .ok (.putfield 83, 3) := by decide +kernel
theorem dX4_settles_50 : decode cX4_settles 50 = .ok (.iconst 1, 1) := by decide +kernel
theorem dX4_settles_51 : decode cX4_settles 51 = .ok (.istore_n 1, 1) := by decide +kernel
theorem dX4_settles_52 : decode cX4_settles 52 = .ok (.goto 24, 3) := by decide +kernel
theorem dX4_settles_55 : decode cX4_settles 55 = .ok (.aload_n 0, 1) := by decide +kernel
theorem dX4_settles_56 : decode cX4_settles 56 = .ok (.iload_n 2, 1) := by decide +kernel
theorem dX4_settles_57 : decode cX4_settles 57 = .ok (.aload_n 0, 1) := by decide +kernel
theorem dX4_settles_58 : decode cX4_settles 58 = .ok (.getfield 13, 3) := by decide +kernel
theorem dX4_settles_61 : decode cX4_settles 61 = .ok (.iload_n 2, 1) := by decide +kernel
theorem dX4_settles_62 : decode cX4_settles 62 = .ok (.iaload, 1) := by decide +kernel
theorem dX4_settles_63 : decode cX4_settles 63 = .ok (.iconst 2, 1) := by decide +kernel
theorem dX4_settles_64 : decode cX4_settles 64 = .ok (.iconst (-1), 1) := by decide +kernel
theorem dX4_settles_65 : decode cX4_settles 65 = .ok (.iconst (-1), 1) := by decide +kernel
theorem dX4_settles_66 : decode cX4_settles 66 = .ok (.invokevirtual 92, 3) := by decide +kernel
theorem dX4_settles_69 : decode cX4_settles 69 = .ok (.aload_n 0, 1) := by decide +kernel
theorem dX4_settles_70 : decode cX4_settles 70 = .ok (.getfield 13, 3) := by decide +kernel
theorem dX4_settles_73 : decode cX4_settles 73 = .ok (.iload_n 2, 1) := by decide +kernel
theorem dX4_settles_74 : decode cX4_settles 74 = .ok (.iconst (-1), 1) := by decide +kernel
theorem dX4_settles_75 : decode cX4_settles 75 = .ok (.iastore, 1) := by decide +kernel
theorem dX4_settles_76 : decode cX4_settles 76 = .ok (.iinc 2 1, 3) := by decide +kernel
theorem dX4_settles_79 : decode cX4_settles 79 = .ok (.goto (-75), 3) := by decide +kernel
theorem dX4_settles_82 : decode cX4_settles 82 = .ok (.iload_n 1, 1) := by decide +kernel
theorem dX4_settles_83 : decode cX4_settles 83 = .ok (.ifCond .eq 20, 3) := by decide +kernel
theorem dX4_settles_86 : decode cX4_settles 86 = .ok (.aload_n 0, 1) := by decide +kernel
theorem dX4_settles_87 : decode cX4_settles 87 = .ok (.invokevirtual 96, 3) := by decide +kernel
theorem dX4_settles_90 : decode cX4_settles 90 = .ok (.ifCond .ne 13, 3) := by decide +kernel
theorem dX4_settles_93 : decode cX4_settles 93 = .ok (.aload_n 0, 1) := by decide +kernel
theorem dX4_settles_94 : decode cX4_settles 94 = .ok (.dup, 1) := by decide +kernel
theorem dX4_settles_95 : decode cX4_settles 95 = .ok (.getfield 100, 3) := by decide +kernel
theorem dX4_settles_98 : decode cX4_settles 98 = .ok (.iconst 1, 1) := by decide +kernel
theorem dX4_settles_99 : decode cX4_settles 99 = .ok (.iadd, 1) := by decide +kernel
theorem dX4_settles_100 : decode cX4_settles 100 = .ok (.putfield 100, 3) := by decide +kernel
theorem dX4_settles_103 : decode cX4_settles 103 = .ok (.return_, 1) := by decide +kernel
theorem dX4_start_0 : decode cX4_start 0 = .ok (.aload_n 0, 1) := by decide +kernel
theorem dX4_start_1 : decode cX4_start 1 = .ok (.getfield 79, 3) := by decide +kernel
theorem dX4_start_4 : decode cX4_start 4 = .ok (.ifCond .eq 5, 3) := by decide +kernel
theorem dX4_start_7 : decode cX4_start 7 = .ok (.iconst 0, 1) := by decide +kernel
theorem dX4_start_8 : decode cX4_start 8 = .ok (.ireturn, 1) := by decide +kernel
theorem dX4_start_9 : decode cX4_start 9 = .ok (.aload_n 0, 1) := by decide +kernel
theorem dX4_start_10 : decode cX4_start 10 = .ok (.iconst 1, 1) := by decide +kernel
theorem dX4_start_11 : decode cX4_start 11 = .ok (.putfield 79, 3) := by decide +kernel
theorem dX4_start_14 : decode cX4_start 14 = .ok (.aload_n 0, 1) := by decide +kernel
theorem dX4_start_15 : decode cX4_start 15 = .ok (.getfield 9, 3) := by decide +kernel
theorem dX4_start_18 : decode cX4_start 18 = .ok (.iconst 0, 1) := by decide +kernel
theorem dX4_start_19 : decode cX4_start 19 = .ok (.iconst 1, 1) := by decide +kernel
theorem dX4_start_20 : decode cX4_start 20 = .ok (.bastore, 1) := by decide +kernel
theorem dX4_start_21 : decode cX4_start 21 = .ok (.iconst 1, 1) := by decide +kernel
theorem dX4_start_22 : decode cX4_start 22 = .ok (.ireturn, 1) := by decide +kernel
theorem dX4_send_0 : decode cX4_send 0 = .ok (.aload_n 0, 1) := by decide +kernel
theorem dX4_send_1 : decode cX4_send 1 = .ok (.iload_n 1, 1) := by decide +kernel
theorem dX4_send_2 : decode cX4_send 2 = .ok (.iload_n 2, 1) := by decide +kernel
theorem dX4_send_3 : decode cX4_send 3 = .ok (.invokevirtual 103, 3) := by decide +kernel
theorem dX4_send_6 : decode cX4_send 6 = .ok (.ifCond .eq 37, 3) := by decide +kernel
theorem dX4_send_9 : decode cX4_send 9 = .ok (.aload_n 0, 1) := by decide +kernel
theorem dX4_send_10 : decode cX4_send 10 = .ok (.iload_n 1, 1) := by decide +kernel
theorem dX4_send_11 : decode cX4_send 11 = .ok (.invokevirtual 107, 3) := by decide +kernel
theorem dX4_send_14 : decode cX4_send 14 = .ok (.ifCond .eq 29, 3) := by decide +kernel
theorem dX4_send_17 : decode cX4_send 17 = .ok (.aload_n 0, 1) := by decide +kernel
theorem dX4_send_18 : decode cX4_send 18 = .ok (.iload_n 1, 1) := by decide +kernel
theorem dX4_send_19 : decode cX4_send 19 = .ok (.iload_n 2, 1) := by decide +kernel
theorem dX4_send_20 : decode cX4_send 20 = .ok (.invokestatic 68, 3) := by decide +kernel
theorem dX4_send_23 : decode cX4_send 23 = .ok (.iconst 1, 1) := by decide +kernel
theorem dX4_send_24 : decode cX4_send 24 = .ok (.invokevirtual 86, 3) := by decide +kernel
theorem dX4_send_27 : decode cX4_send 27 = .ok (.bipush 20, 2) := by decide +kernel
theorem dX4_send_29 : decode cX4_send 29 = .ok (.if_icmp .eq 14, 3) := by decide +kernel
theorem dX4_send_32 : decode cX4_send 32 = .ok (.aload_n 0, 1) := by decide +kernel
theorem dX4_send_33 : decode cX4_send 33 = .ok (.getfield 17, 3) := by decide +kernel
theorem dX4_send_36 : decode cX4_send 36 = .ok (.iload_n 1, 1) := by decide +kernel
theorem dX4_send_37 : decode cX4_send 37 = .ok (.iaload, 1) := by decide +kernel
theorem dX4_send_38 : decode cX4_send 38 = .ok (.bipush 100, 2) := by decide +kernel
theorem dX4_send_40 : decode cX4_send 40 = .ok (.if_icmp .ne 5, 3) := by decide +kernel
theorem dX4_send_43 : decode cX4_send 43 = .ok (.iconst 0, 1) := by decide +kernel
theorem dX4_send_44 : decode cX4_send 44 = .ok (.ireturn, 1) := by decide +kernel
theorem dX4_send_45 : decode cX4_send 45 = .ok (.aload_n 0, 1) := by decide +kernel
theorem dX4_send_46 : decode cX4_send 46 = .ok (.iload_n 1, 1) := by decide +kernel
theorem dX4_send_47 : decode cX4_send 47 = .ok (.iload_n 2, 1) := by decide +kernel
theorem dX4_send_48 : decode cX4_send 48 = .ok (.iconst 1, 1) := by decide +kernel
theorem dX4_send_49 : decode cX4_send 49 = .ok (.iconst (-1), 1) := by decide +kernel
theorem dX4_send_50 : decode cX4_send 50 = .ok (.iconst (-1), 1) := by decide +kernel
theorem dX4_send_51 : decode cX4_send 51 = .ok (.invokevirtual 92, 3) := by decide +kernel
theorem dX4_send_54 : decode cX4_send 54 = .ok (.aload_n 0, 1) := by decide +kernel
theorem dX4_send_55 : decode cX4_send 55 = .ok (.getfield 17, 3) := by decide +kernel
theorem dX4_send_58 : decode cX4_send 58 = .ok (.iload_n 1, 1) := by decide +kernel
theorem dX4_send_59 : decode cX4_send 59 = .ok (.dup2, 1) := by decide +kernel
theorem dX4_send_60 : decode cX4_send 60 = .ok (.iaload, 1) := by decide +kernel
theorem dX4_send_61 : decode cX4_send 61 = .ok (.iconst 1, 1) := by decide +kernel
theorem dX4_send_62 : decode cX4_send 62 = .ok (.iadd, 1) := by decide +kernel
theorem dX4_send_63 : decode cX4_send 63 = .ok (.iastore, 1) := by decide +kernel
theorem dX4_send_64 : decode cX4_send 64 = .ok (.aload_n 0, 1) := by decide +kernel
theorem dX4_send_65 : decode cX4_send 65 = .ok (.getfield 20, 3) := by decide +kernel
theorem dX4_send_68 : decode cX4_send 68 = .ok (.iload_n 1, 1) := by decide +kernel
theorem dX4_send_69 : decode cX4_send 69 = .ok (.dup2, 1) := by decide +kernel
theorem dX4_send_70 : decode cX4_send 70 = .ok (.iaload, 1) := by decide +kernel
theorem dX4_send_71 : decode cX4_send 71 = .ok (.iconst 1, 1) := by decide +kernel
theorem dX4_send_72 : decode cX4_send 72 = .ok (.iadd, 1) := by decide +kernel
theorem dX4_send_73 : decode cX4_send 73 = .ok (.iastore, 1) := by decide +kernel
theorem dX4_send_74 : decode cX4_send 74 = .ok (.iconst 1, 1) := by decide +kernel
theorem dX4_send_75 : decode cX4_send 75 = .ok (.ireturn, 1) := by decide +kernel
theorem dX4_rest_0 : decode cX4_rest 0 = .ok (.aload_n 0, 1) := by decide +kernel
theorem dX4_rest_1 : decode cX4_rest 1 = .ok (.iload_n 1, 1) := by decide +kernel
theorem dX4_rest_2 : decode cX4_rest 2 = .ok (.invokevirtual 107, 3) := by decide +kernel
theorem dX4_rest_5 : decode cX4_rest 5 = .ok (.ifCond .ne 5, 3) := by decide +kernel
theorem dX4_rest_8 : decode cX4_rest 8 = .ok (.iconst 0, 1) := by decide +kernel
theorem dX4_rest_9 : decode cX4_rest 9 = .ok (.ireturn, 1) := by decide +kernel
theorem dX4_rest_10 : decode cX4_rest 10 = .ok (.aload_n 0, 1) := by decide +kernel
theorem dX4_rest_11 : decode cX4_rest 11 = .ok (.getfield 9, 3) := by decide +kernel
theorem dX4_rest_14 : decode cX4_rest 14 = .ok (.iload_n 1, 1) := by decide +kernel
theorem dX4_rest_15 : decode cX4_rest 15 = .ok (.iconst 0, 1) := by decide +kernel
theorem dX4_rest_16 : decode cX4_rest 16 = .ok (.bastore, 1) := by decide +kernel
theorem dX4_rest_17 : decode cX4_rest 17 = .ok (.aload_n 0, 1) := by decide +kernel
theorem dX4_rest_18 : decode cX4_rest 18 = .ok (.invokevirtual 110, 3) := by decide +kernel
theorem dX4_rest_21 : decode cX4_rest 21 = .ok (.iconst 1, 1) := by decide +kernel
theorem dX4_rest_22 : decode cX4_rest 22 = .ok (.ireturn, 1) := by decide +kernel
theorem dX4_ask_0 : decode cX4_ask 0 = .ok (.aload_n 0, 1) := by decide +kernel
theorem dX4_ask_1 : decode cX4_ask 1 = .ok (.iload_n 1, 1) := by decide +kernel
theorem dX4_ask_2 : decode cX4_ask 2 = .ok (.invokevirtual 107, 3) := by decide +kernel
theorem dX4_ask_5 : decode cX4_ask 5 = .ok (.ifCond .ne 5, 3) := by decide +kernel
theorem dX4_ask_8 : decode cX4_ask 8 = .ok (.iconst (-1), 1) := by decide +kernel
theorem dX4_ask_9 : decode cX4_ask 9 = .ok (.ireturn, 1) := by decide +kernel
theorem dX4_ask_10 : decode cX4_ask 10 = .ok (.iconst 0, 1) := by decide +kernel
theorem dX4_ask_11 : decode cX4_ask 11 = .ok (.istore_n 3, 1) := by decide +kernel
theorem dX4_ask_12 : decode cX4_ask 12 = .ok (.iconst 0, 1) := by decide +kernel
theorem dX4_ask_13 : decode cX4_ask 13 = .ok (.istore 4, 2) := by decide +kernel
theorem dX4_ask_15 : decode cX4_ask 15 = .ok (.iload 4, 2) := by decide +kernel
theorem dX4_ask_17 : decode cX4_ask 17 = .ok (.aload_n 0, 1) := by decide +kernel
theorem dX4_ask_18 : decode cX4_ask 18 = .ok (.getfield 60, 3) := by decide +kernel
theorem dX4_ask_21 : decode cX4_ask 21 = .ok (.if_icmp .ge 52, 3) := by decide +kernel
theorem dX4_ask_24 : decode cX4_ask 24 = .ok (.iload 4, 2) := by decide +kernel
theorem dX4_ask_26 : decode cX4_ask 26 = .ok (.iload_n 1, 1) := by decide +kernel
theorem dX4_ask_27 : decode cX4_ask 27 = .ok (.if_icmp .eq 40, 3) := by decide +kernel
theorem dX4_ask_30 : decode cX4_ask 30 = .ok (.iload_n 2, 1) := by decide +kernel
theorem dX4_ask_31 : decode cX4_ask 31 = .ok (.iload 4, 2) := by decide +kernel
theorem dX4_ask_33 : decode cX4_ask 33 = .ok (.ishr, 1) := by decide +kernel
theorem dX4_ask_34 : decode cX4_ask 34 = .ok (.iconst 1, 1) := by decide +kernel
theorem dX4_ask_35 : decode cX4_ask 35 = .ok (.iand, 1) := by decide +kernel
theorem dX4_ask_36 : decode cX4_ask 36 = .ok (.ifCond .ne 6, 3) := by decide +kernel
theorem dX4_ask_39 : decode cX4_ask 39 = .ok (.goto 28, 3) := by decide +kernel
theorem dX4_ask_42 : decode cX4_ask 42 = .ok (.aload_n 0, 1) := by decide +kernel
theorem dX4_ask_43 : decode cX4_ask 43 = .ok (.iload_n 1, 1) := by decide +kernel
theorem dX4_ask_44 : decode cX4_ask 44 = .ok (.iload 4, 2) := by decide +kernel
theorem dX4_ask_46 : decode cX4_ask 46 = .ok (.iconst 4, 1) := by decide +kernel
theorem dX4_ask_47 : decode cX4_ask 47 = .ok (.iconst (-1), 1) := by decide +kernel
theorem dX4_ask_48 : decode cX4_ask 48 = .ok (.iconst (-1), 1) := by decide +kernel
theorem dX4_ask_49 : decode cX4_ask 49 = .ok (.invokevirtual 92, 3) := by decide +kernel
theorem dX4_ask_52 : decode cX4_ask 52 = .ok (.aload_n 0, 1) := by decide +kernel
theorem dX4_ask_53 : decode cX4_ask 53 = .ok (.getfield 35, 3) := by decide +kernel
theorem dX4_ask_56 : decode cX4_ask 56 = .ok (.iload_n 1, 1) := by decide +kernel
theorem dX4_ask_57 : decode cX4_ask 57 = .ok (.iload 4, 2) := by decide +kernel
theorem dX4_ask_59 : decode cX4_ask 59 = .ok (.invokestatic 68, 3) := by decide +kernel
theorem dX4_ask_62 : decode cX4_ask 62 = .ok (.iconst 1, 1) := by decide +kernel
theorem dX4_ask_63 : decode cX4_ask 63 = .ok (.bastore, 1) := by decide +kernel
theorem dX4_ask_64 : decode cX4_ask 64 = .ok (.iinc 3 1, 3) := by decide +kernel
theorem dX4_ask_67 : decode cX4_ask 67 = .ok (.iinc 4 1, 3) := by decide +kernel
theorem dX4_ask_70 : decode cX4_ask 70 = .ok (.goto (-55), 3) := by decide +kernel
theorem dX4_ask_73 : decode cX4_ask 73 = .ok (.iload_n 3, 1) := by decide +kernel
theorem dX4_ask_74 : decode cX4_ask 74 = .ok (.ifCond .ne 7, 3) := by decide +kernel
theorem dX4_ask_77 : decode cX4_ask 77 = .ok (.iconst (-1), 1) := by decide +kernel
theorem dX4_ask_78 : decode cX4_ask 78 = .ok (.goto 4, 3) := by decide +kernel
theorem dX4_ask_81 : decode cX4_ask 81 = .ok (.iload_n 3, 1) := by decide +kernel
theorem dX4_ask_82 : decode cX4_ask 82 = .ok (.ireturn, 1) := by decide +kernel
theorem dX4_answer_0 : decode cX4_answer 0 = .ok (.aload_n 0, 1) := by decide +kernel
theorem dX4_answer_1 : decode cX4_answer 1 = .ok (.iload_n 1, 1) := by decide +kernel
theorem dX4_answer_2 : decode cX4_answer 2 = .ok (.iload_n 2, 1) := by decide +kernel
theorem dX4_answer_3 : decode cX4_answer 3 = .ok (.invokevirtual 103, 3) := by decide +kernel
theorem dX4_answer_6 : decode cX4_answer 6 = .ok (.ifCond .eq 24, 3) := by decide +kernel
theorem dX4_answer_9 : decode cX4_answer 9 = .ok (.aload_n 0, 1) := by decide +kernel
theorem dX4_answer_10 : decode cX4_answer 10 = .ok (.iload_n 1, 1) := by decide +kernel
theorem dX4_answer_11 : decode cX4_answer 11 = .ok (.invokevirtual 76, 3) := by decide +kernel
theorem dX4_answer_14 : decode cX4_answer 14 = .ok (.ifCond .ne 16, 3) := by decide +kernel
theorem dX4_answer_17 : decode cX4_answer 17 = .ok (.aload_n 0, 1) := by decide +kernel
theorem dX4_answer_18 : decode cX4_answer 18 = .ok (.getfield 38, 3) := by decide +kernel
theorem dX4_answer_21 : decode cX4_answer 21 = .ok (.iload_n 1, 1) := by decide +kernel
theorem dX4_answer_22 : decode cX4_answer 22 = .ok (.iload_n 2, 1) := by decide +kernel
theorem dX4_answer_23 : decode cX4_answer 23 = .ok (.invokestatic 68, 3) := by decide +kernel
theorem dX4_answer_26 : decode cX4_answer 26 = .ok (.baload, 1) := by decide +kernel
theorem dX4_answer_27 : decode cX4_answer 27 = .ok (.ifCond .ne 5, 3) := by decide +kernel
theorem dX4_answer_30 : decode cX4_answer 30 = .ok (.iconst 0, 1) := by decide +kernel
theorem dX4_answer_31 : decode cX4_answer 31 = .ok (.ireturn, 1) := by decide +kernel
theorem dX4_answer_32 : decode cX4_answer 32 = .ok (.aload_n 0, 1) := by decide +kernel
theorem dX4_answer_33 : decode cX4_answer 33 = .ok (.getfield 38, 3) := by decide +kernel
theorem dX4_answer_36 : decode cX4_answer 36 = .ok (.iload_n 1, 1) := by decide +kernel
theorem dX4_answer_37 : decode cX4_answer 37 = .ok (.iload_n 2, 1) := by decide +kernel
theorem dX4_answer_38 : decode cX4_answer 38 = .ok (.invokestatic 68, 3) := by decide +kernel
theorem dX4_answer_41 : decode cX4_answer 41 = .ok (.iconst 0, 1) := by decide +kernel
theorem dX4_answer_42 : decode cX4_answer 42 = .ok (.bastore, 1) := by decide +kernel
theorem dX4_answer_43 : decode cX4_answer 43 = .ok (.aload_n 0, 1) := by decide +kernel
theorem dX4_answer_44 : decode cX4_answer 44 = .ok (.iload_n 1, 1) := by decide +kernel
theorem dX4_answer_45 : decode cX4_answer 45 = .ok (.iload_n 2, 1) := by decide +kernel
theorem dX4_answer_46 : decode cX4_answer 46 = .ok (.iconst 5, 1) := by decide +kernel
theorem dX4_answer_47 : decode cX4_answer 47 = .ok (.iconst (-1), 1) := by decide +kernel
theorem dX4_answer_48 : decode cX4_answer 48 = .ok (.iconst (-1), 1) := by decide +kernel
theorem dX4_answer_49 : decode cX4_answer 49 = .ok (.invokevirtual 92, 3) := by decide +kernel
theorem dX4_answer_52 : decode cX4_answer 52 = .ok (.iconst 1, 1) := by decide +kernel
theorem dX4_answer_53 : decode cX4_answer 53 = .ok (.ireturn, 1) := by decide +kernel
theorem dX4_probes_0 : decode cX4_probes 0 = .ok (.iconst 0, 1) := by decide +kernel
theorem dX4_probes_1 : decode cX4_probes 1 = .ok (.istore 4, 2) := by decide +kernel
theorem dX4_probes_3 : decode cX4_probes 3 = .ok (.iload 4, 2) := by decide +kernel
theorem dX4_probes_5 : decode cX4_probes 5 = .ok (.aload_n 0, 1) := by decide +kernel
theorem dX4_probes_6 : decode cX4_probes 6 = .ok (.getfield 60, 3) := by decide +kernel
theorem dX4_probes_9 : decode cX4_probes 9 = .ok (.if_icmp .ge 34, 3) := by decide +kernel
theorem dX4_probes_12 : decode cX4_probes 12 = .ok (.aload_n 0, 1) := by decide +kernel
theorem dX4_probes_13 : decode cX4_probes 13 = .ok (.getfield 35, 3) := by decide +kernel
theorem dX4_probes_16 : decode cX4_probes 16 = .ok (.iload_n 1, 1) := by decide +kernel
theorem dX4_probes_17 : decode cX4_probes 17 = .ok (.iload 4, 2) := by decide +kernel
theorem dX4_probes_19 : decode cX4_probes 19 = .ok (.invokestatic 68, 3) := by decide +kernel
theorem dX4_probes_22 : decode cX4_probes 22 = .ok (.baload, 1) := by decide +kernel
theorem dX4_probes_23 : decode cX4_probes 23 = .ok (.ifCond .eq 14, 3) := by decide +kernel
theorem dX4_probes_26 : decode cX4_probes 26 = .ok (.aload_n 0, 1) := by decide +kernel
theorem dX4_probes_27 : decode cX4_probes 27 = .ok (.iload_n 1, 1) := by decide +kernel
theorem dX4_probes_28 : decode cX4_probes 28 = .ok (.iload 4, 2) := by decide +kernel
theorem dX4_probes_30 : decode cX4_probes 30 = .ok (.bipush 6, 2) := by decide +kernel
theorem dX4_probes_32 : decode cX4_probes 32 = .ok (.iload_n 2, 1) := by decide +kernel
theorem dX4_probes_33 : decode cX4_probes 33 = .ok (.iload_n 3, 1) := by decide +kernel
theorem dX4_probes_34 : decode cX4_probes 34 = .ok (.invokevirtual 92, 3) := by decide +kernel
theorem dX4_probes_37 : decode cX4_probes 37 = .ok (.iinc 4 1, 3) := by decide +kernel
theorem dX4_probes_40 : decode cX4_probes 40 = .ok (.goto (-37), 3) := by decide +kernel
theorem dX4_probes_43 : decode cX4_probes 43 = .ok (.return_, 1) := by decide +kernel
theorem dX4_probe_0 : decode cX4_probe 0 = .ok (.aload_n 0, 1) := by decide +kernel
theorem dX4_probe_1 : decode cX4_probe 1 = .ok (.iload_n 1, 1) := by decide +kernel
theorem dX4_probe_2 : decode cX4_probe 2 = .ok (.invokevirtual 64, 3) := by decide +kernel
theorem dX4_probe_5 : decode cX4_probe 5 = .ok (.ifCond .eq 22, 3) := by decide +kernel
theorem dX4_probe_8 : decode cX4_probe 8 = .ok (.aload_n 0, 1) := by decide +kernel
theorem dX4_probe_9 : decode cX4_probe 9 = .ok (.iload_n 1, 1) := by decide +kernel
theorem dX4_probe_10 : decode cX4_probe 10 = .ok (.invokevirtual 76, 3) := by decide +kernel
theorem dX4_probe_13 : decode cX4_probe 13 = .ok (.ifCond .eq 14, 3) := by decide +kernel
theorem dX4_probe_16 : decode cX4_probe 16 = .ok (.aload_n 0, 1) := by decide +kernel
theorem dX4_probe_17 : decode cX4_probe 17 = .ok (.getfield 32, 3) := by decide +kernel
theorem dX4_probe_20 : decode cX4_probe 20 = .ok (.iload_n 1, 1) := by decide +kernel
theorem dX4_probe_21 : decode cX4_probe 21 = .ok (.iaload, 1) := by decide +kernel
theorem dX4_probe_22 : decode cX4_probe 22 = .ok (.bipush 50, 2) := by decide +kernel
theorem dX4_probe_24 : decode cX4_probe 24 = .ok (.if_icmp .ne 5, 3) := by decide +kernel
theorem dX4_probe_27 : decode cX4_probe 27 = .ok (.iconst (-1), 1) := by decide +kernel
theorem dX4_probe_28 : decode cX4_probe 28 = .ok (.ireturn, 1) := by decide +kernel
theorem dX4_probe_29 : decode cX4_probe 29 = .ok (.aload_n 0, 1) := by decide +kernel
theorem dX4_probe_30 : decode cX4_probe 30 = .ok (.getfield 32, 3) := by decide +kernel
theorem dX4_probe_33 : decode cX4_probe 33 = .ok (.iload_n 1, 1) := by decide +kernel
theorem dX4_probe_34 : decode cX4_probe 34 = .ok (.dup2, 1) := by decide +kernel
theorem dX4_probe_35 : decode cX4_probe 35 = .ok (.iaload, 1) := by decide +kernel
theorem dX4_probe_36 : decode cX4_probe 36 = .ok (.iconst 1, 1) := by decide +kernel
theorem dX4_probe_37 : decode cX4_probe 37 = .ok (.iadd, 1) := by decide +kernel
theorem dX4_probe_38 : decode cX4_probe 38 = .ok (.iastore, 1) := by decide +kernel
theorem dX4_probe_39 : decode cX4_probe 39 = .ok (.aload_n 0, 1) := by decide +kernel
theorem dX4_probe_40 : decode cX4_probe 40 = .ok (.iload_n 1, 1) := by decide +kernel
theorem dX4_probe_41 : decode cX4_probe 41 = .ok (.iload_n 1, 1) := by decide +kernel
theorem dX4_probe_42 : decode cX4_probe 42 = .ok (.aload_n 0, 1) := by decide +kernel
theorem dX4_probe_43 : decode cX4_probe 43 = .ok (.getfield 32, 3) := by decide +kernel
theorem dX4_probe_46 : decode cX4_probe 46 = .ok (.iload_n 1, 1) := by decide +kernel
theorem dX4_probe_47 : decode cX4_probe 47 = .ok (.iaload, 1) := by decide +kernel
theorem dX4_probe_48 : decode cX4_probe 48 = .ok (.invokevirtual 113, 3) := by decide +kernel
theorem dX4_probe_51 : decode cX4_probe 51 = .ok (.aload_n 0, 1) := by decide +kernel
theorem dX4_probe_52 : decode cX4_probe 52 = .ok (.getfield 32, 3) := by decide +kernel
theorem dX4_probe_55 : decode cX4_probe 55 = .ok (.iload_n 1, 1) := by decide +kernel
theorem dX4_probe_56 : decode cX4_probe 56 = .ok (.iaload, 1) := by decide +kernel
theorem dX4_probe_57 : decode cX4_probe 57 = .ok (.ireturn, 1) := by decide +kernel
theorem dX4_pass_0 : decode cX4_pass 0 = .ok (.aload_n 0, 1) := by decide +kernel
theorem dX4_pass_1 : decode cX4_pass 1 = .ok (.iload_n 1, 1) := by decide +kernel
theorem dX4_pass_2 : decode cX4_pass 2 = .ok (.invokevirtual 64, 3) := by decide +kernel
theorem dX4_pass_5 : decode cX4_pass 5 = .ok (.ifCond .eq 35, 3) := by decide +kernel
theorem dX4_pass_8 : decode cX4_pass 8 = .ok (.aload_n 0, 1) := by decide +kernel
theorem dX4_pass_9 : decode cX4_pass 9 = .ok (.getfield 26, 3) := by decide +kernel
theorem dX4_pass_12 : decode cX4_pass 12 = .ok (.iload_n 1, 1) := by decide +kernel
theorem dX4_pass_13 : decode cX4_pass 13 = .ok (.baload, 1) := by decide +kernel
theorem dX4_pass_14 : decode cX4_pass 14 = .ok (.ifCond .eq 26, 3) := by decide +kernel
theorem dX4_pass_17 : decode cX4_pass 17 = .ok (.aload_n 0, 1) := by decide +kernel
theorem dX4_pass_18 : decode cX4_pass 18 = .ok (.getfield 9, 3) := by decide +kernel
theorem dX4_pass_21 : decode cX4_pass 21 = .ok (.iload_n 1, 1) := by decide +kernel
theorem dX4_pass_22 : decode cX4_pass 22 = .ok (.baload, 1) := by decide +kernel
theorem dX4_pass_23 : decode cX4_pass 23 = .ok (.ifCond .ne 17, 3) := by decide +kernel
theorem dX4_pass_26 : decode cX4_pass 26 = .ok (.aload_n 0, 1) := by decide +kernel
theorem dX4_pass_27 : decode cX4_pass 27 = .ok (.getfield 79, 3) := by decide +kernel
theorem dX4_pass_30 : decode cX4_pass 30 = .ok (.ifCond .eq 10, 3) := by decide +kernel
theorem dX4_pass_33 : decode cX4_pass 33 = .ok (.aload_n 0, 1) := by decide +kernel
theorem dX4_pass_34 : decode cX4_pass 34 = .ok (.getfield 117, 3) := by decide +kernel
theorem dX4_pass_37 : decode cX4_pass 37 = .ok (.ifCond .eq 5, 3) := by decide +kernel
theorem dX4_pass_40 : decode cX4_pass 40 = .ok (.iconst (-1), 1) := by decide +kernel
theorem dX4_pass_41 : decode cX4_pass 41 = .ok (.ireturn, 1) := by decide +kernel
theorem dX4_pass_42 : decode cX4_pass 42 = .ok (.iload_n 1, 1) := by decide +kernel
theorem dX4_pass_43 : decode cX4_pass 43 = .ok (.ifCond .le 70, 3) := by decide +kernel
theorem dX4_pass_46 : decode cX4_pass 46 = .ok (.aload_n 0, 1) := by decide +kernel
theorem dX4_pass_47 : decode cX4_pass 47 = .ok (.dup, 1) := by decide +kernel
theorem dX4_pass_48 : decode cX4_pass 48 = .ok (.getfield 120, 3) := by decide +kernel
theorem dX4_pass_51 : decode cX4_pass 51 = .ok (.aload_n 0, 1) := by decide +kernel
theorem dX4_pass_52 : decode cX4_pass 52 = .ok (.getfield 20, 3) := by decide +kernel
theorem dX4_pass_55 : decode cX4_pass 55 = .ok (.iload_n 1, 1) := by decide +kernel
theorem dX4_pass_56 : decode cX4_pass 56 = .ok (.iaload, 1) := by decide +kernel
theorem dX4_pass_57 : decode cX4_pass 57 = .ok (.iadd, 1) := by decide +kernel
theorem dX4_pass_58 : decode cX4_pass 58 = .ok (.putfield 120, 3) := by decide +kernel
theorem dX4_pass_61 : decode cX4_pass 61 = .ok (.aload_n 0, 1) := by decide +kernel
theorem dX4_pass_62 : decode cX4_pass 62 = .ok (.aload_n 0, 1) := by decide +kernel
theorem dX4_pass_63 : decode cX4_pass 63 = .ok (.getfield 123, 3) := by decide +kernel
theorem dX4_pass_66 : decode cX4_pass 66 = .ok (.ifCond .ne 12, 3) := by decide +kernel
theorem dX4_pass_69 : decode cX4_pass 69 = .ok (.aload_n 0, 1) := by decide +kernel
theorem dX4_pass_70 : decode cX4_pass 70 = .ok (.getfield 23, 3) := by decide +kernel
theorem dX4_pass_73 : decode cX4_pass 73 = .ok (.iload_n 1, 1) := by decide +kernel
theorem dX4_pass_74 : decode cX4_pass 74 = .ok (.baload, 1) := by decide +kernel
theorem dX4_pass_75 : decode cX4_pass 75 = .ok (.ifCond .eq 7, 3) := by decide +kernel
theorem dX4_pass_78 : decode cX4_pass 78 = .ok (.iconst 1, 1) := by decide +kernel
theorem dX4_pass_79 : decode cX4_pass 79 = .ok (.goto 4, 3) := by decide +kernel
theorem dX4_pass_82 : decode cX4_pass 82 = .ok (.iconst 0, 1) := by decide +kernel
theorem dX4_pass_83 : decode cX4_pass 83 = .ok (.putfield 123, 3) := by decide +kernel
theorem dX4_pass_86 : decode cX4_pass 86 = .ok (.aload_n 0, 1) := by decide +kernel
theorem dX4_pass_87 : decode cX4_pass 87 = .ok (.getfield 23, 3) := by decide +kernel
theorem dX4_pass_90 : decode cX4_pass 90 = .ok (.iload_n 1, 1) := by decide +kernel
theorem dX4_pass_91 : decode cX4_pass 91 = .ok (.iconst 0, 1) := by decide +kernel
theorem dX4_pass_92 : decode cX4_pass 92 = .ok (.bastore, 1) := by decide +kernel
theorem dX4_pass_93 : decode cX4_pass 93 = .ok (.aload_n 0, 1) := by decide +kernel
theorem dX4_pass_94 : decode cX4_pass 94 = .ok (.getfield 26, 3) := by decide +kernel
theorem dX4_pass_97 : decode cX4_pass 97 = .ok (.iload_n 1, 1) := by decide +kernel
theorem dX4_pass_98 : decode cX4_pass 98 = .ok (.iconst 0, 1) := by decide +kernel
theorem dX4_pass_99 : decode cX4_pass 99 = .ok (.bastore, 1) := by decide +kernel
theorem dX4_pass_100 : decode cX4_pass 100 = .ok (.aload_n 0, 1) := by decide +kernel
theorem dX4_pass_101 : decode cX4_pass 101 = .ok (.iload_n 1, 1) := by decide +kernel
theorem dX4_pass_102 : decode cX4_pass 102 = .ok (.iload_n 1, 1) := by decide +kernel
theorem dX4_pass_103 : decode cX4_pass 103 = .ok (.iconst 1, 1) := by decide +kernel
theorem dX4_pass_104 : decode cX4_pass 104 = .ok (.isub, 1) := by decide +kernel
theorem dX4_pass_105 : decode cX4_pass 105 = .ok (.iconst 3, 1) := by decide +kernel
theorem dX4_pass_106 : decode cX4_pass 106 = .ok (.iconst (-1), 1) := by decide +kernel
theorem dX4_pass_107 : decode cX4_pass 107 = .ok (.iconst (-1), 1) := by decide +kernel
theorem dX4_pass_108 : decode cX4_pass 108 = .ok (.invokevirtual 92, 3) := by decide +kernel
theorem dX4_pass_111 : decode cX4_pass 111 = .ok (.iconst 1, 1) := by decide +kernel
theorem dX4_pass_112 : decode cX4_pass 112 = .ok (.ireturn, 1) := by decide +kernel
theorem dX4_pass_113 : decode cX4_pass 113 = .ok (.aload_n 0, 1) := by decide +kernel
theorem dX4_pass_114 : decode cX4_pass 114 = .ok (.getfield 126, 3) := by decide +kernel
theorem dX4_pass_117 : decode cX4_pass 117 = .ok (.ifCond .le 57, 3) := by decide +kernel
theorem dX4_pass_120 : decode cX4_pass 120 = .ok (.aload_n 0, 1) := by decide +kernel
theorem dX4_pass_121 : decode cX4_pass 121 = .ok (.getfield 123, 3) := by decide +kernel
theorem dX4_pass_124 : decode cX4_pass 124 = .ok (.ifCond .ne 50, 3) := by decide +kernel
theorem dX4_pass_127 : decode cX4_pass 127 = .ok (.aload_n 0, 1) := by decide +kernel
theorem dX4_pass_128 : decode cX4_pass 128 = .ok (.getfield 23, 3) := by decide +kernel
theorem dX4_pass_131 : decode cX4_pass 131 = .ok (.iconst 0, 1) := by decide +kernel
theorem dX4_pass_132 : decode cX4_pass 132 = .ok (.baload, 1) := by decide +kernel
theorem dX4_pass_133 : decode cX4_pass 133 = .ok (.ifCond .ne 41, 3) := by decide +kernel
theorem dX4_pass_136 : decode cX4_pass 136 = .ok (.aload_n 0, 1) := by decide +kernel
theorem dX4_pass_137 : decode cX4_pass 137 = .ok (.getfield 120, 3) := by decide +kernel
theorem dX4_pass_140 : decode cX4_pass 140 = .ok (.aload_n 0, 1) := by decide +kernel
theorem dX4_pass_141 : decode cX4_pass 141 = .ok (.getfield 20, 3) := by decide +kernel
theorem dX4_pass_144 : decode cX4_pass 144 = .ok (.iconst 0, 1) := by decide +kernel
theorem dX4_pass_145 : decode cX4_pass 145 = .ok (.iaload, 1) := by decide +kernel
theorem dX4_pass_146 : decode cX4_pass 146 = .ok (.iadd, 1) := by decide +kernel
theorem dX4_pass_147 : decode cX4_pass 147 = .ok (.ifCond .ne 27, 3) := by decide +kernel
theorem dX4_pass_150 : decode cX4_pass 150 = .ok (.aload_n 0, 1) := by decide +kernel
theorem dX4_pass_151 : decode cX4_pass 151 = .ok (.iconst 1, 1) := by decide +kernel
theorem dX4_pass_152 : decode cX4_pass 152 = .ok (.putfield 117, 3) := by decide +kernel
theorem dX4_pass_155 : decode cX4_pass 155 = .ok (.aload_n 0, 1) := by decide +kernel
theorem dX4_pass_156 : decode cX4_pass 156 = .ok (.invokevirtual 96, 3) := by decide +kernel
theorem dX4_pass_159 : decode cX4_pass 159 = .ok (.ifCond .ne 13, 3) := by decide +kernel
theorem dX4_pass_162 : decode cX4_pass 162 = .ok (.aload_n 0, 1) := by decide +kernel
theorem dX4_pass_163 : decode cX4_pass 163 = .ok (.dup, 1) := by decide +kernel
theorem dX4_pass_164 : decode cX4_pass 164 = .ok (.getfield 100, 3) := by decide +kernel
theorem dX4_pass_167 : decode cX4_pass 167 = .ok (.iconst 1, 1) := by decide +kernel
theorem dX4_pass_168 : decode cX4_pass 168 = .ok (.iadd, 1) := by decide +kernel
theorem dX4_pass_169 : decode cX4_pass 169 = .ok (.putfield 100, 3) := by decide +kernel
theorem dX4_pass_172 : decode cX4_pass 172 = .ok (.iconst 2, 1) := by decide +kernel
theorem dX4_pass_173 : decode cX4_pass 173 = .ok (.ireturn, 1) := by decide +kernel
theorem dX4_pass_174 : decode cX4_pass 174 = .ok (.aload_n 0, 1) := by decide +kernel
theorem dX4_pass_175 : decode cX4_pass 175 = .ok (.dup, 1) := by decide +kernel
theorem dX4_pass_176 : decode cX4_pass 176 = .ok (.getfield 126, 3) := by decide +kernel
theorem dX4_pass_179 : decode cX4_pass 179 = .ok (.iconst 1, 1) := by decide +kernel
theorem dX4_pass_180 : decode cX4_pass 180 = .ok (.iadd, 1) := by decide +kernel
theorem dX4_pass_181 : decode cX4_pass 181 = .ok (.putfield 126, 3) := by decide +kernel
theorem dX4_pass_184 : decode cX4_pass 184 = .ok (.aload_n 0, 1) := by decide +kernel
theorem dX4_pass_185 : decode cX4_pass 185 = .ok (.getfield 23, 3) := by decide +kernel
theorem dX4_pass_188 : decode cX4_pass 188 = .ok (.iconst 0, 1) := by decide +kernel
theorem dX4_pass_189 : decode cX4_pass 189 = .ok (.iconst 0, 1) := by decide +kernel
theorem dX4_pass_190 : decode cX4_pass 190 = .ok (.bastore, 1) := by decide +kernel
theorem dX4_pass_191 : decode cX4_pass 191 = .ok (.aload_n 0, 1) := by decide +kernel
theorem dX4_pass_192 : decode cX4_pass 192 = .ok (.iconst 0, 1) := by decide +kernel
theorem dX4_pass_193 : decode cX4_pass 193 = .ok (.putfield 123, 3) := by decide +kernel
theorem dX4_pass_196 : decode cX4_pass 196 = .ok (.aload_n 0, 1) := by decide +kernel
theorem dX4_pass_197 : decode cX4_pass 197 = .ok (.iconst 0, 1) := by decide +kernel
theorem dX4_pass_198 : decode cX4_pass 198 = .ok (.putfield 120, 3) := by decide +kernel
theorem dX4_pass_201 : decode cX4_pass 201 = .ok (.aload_n 0, 1) := by decide +kernel
theorem dX4_pass_202 : decode cX4_pass 202 = .ok (.getfield 26, 3) := by decide +kernel
theorem dX4_pass_205 : decode cX4_pass 205 = .ok (.iconst 0, 1) := by decide +kernel
theorem dX4_pass_206 : decode cX4_pass 206 = .ok (.iconst 0, 1) := by decide +kernel
theorem dX4_pass_207 : decode cX4_pass 207 = .ok (.bastore, 1) := by decide +kernel
theorem dX4_pass_208 : decode cX4_pass 208 = .ok (.aload_n 0, 1) := by decide +kernel
theorem dX4_pass_209 : decode cX4_pass 209 = .ok (.iconst 0, 1) := by decide +kernel
theorem dX4_pass_210 : decode cX4_pass 210 = .ok (.aload_n 0, 1) := by decide +kernel
theorem dX4_pass_211 : decode cX4_pass 211 = .ok (.getfield 60, 3) := by decide +kernel
theorem dX4_pass_214 : decode cX4_pass 214 = .ok (.iconst 1, 1) := by decide +kernel
theorem dX4_pass_215 : decode cX4_pass 215 = .ok (.isub, 1) := by decide +kernel
theorem dX4_pass_216 : decode cX4_pass 216 = .ok (.iconst 3, 1) := by decide +kernel
theorem dX4_pass_217 : decode cX4_pass 217 = .ok (.iconst (-1), 1) := by decide +kernel
theorem dX4_pass_218 : decode cX4_pass 218 = .ok (.iconst (-1), 1) := by decide +kernel
theorem dX4_pass_219 : decode cX4_pass 219 = .ok (.invokevirtual 92, 3) := by decide +kernel
theorem dX4_pass_222 : decode cX4_pass 222 = .ok (.iconst 1, 1) := by decide +kernel
theorem dX4_pass_223 : decode cX4_pass 223 = .ok (.ireturn, 1) := by decide +kernel
theorem dX4_hangs_0 : decode cX4_hangs 0 = .ok (.aload_n 0, 1) := by decide +kernel
theorem dX4_hangs_1 : decode cX4_hangs 1 = .ok (.getfield 35, 3) := by decide +kernel
theorem dX4_hangs_4 : decode cX4_hangs 4 = .ok (.iload_n 1, 1) := by decide +kernel
theorem dX4_hangs_5 : decode cX4_hangs 5 = .ok (.iload_n 2, 1) := by decide +kernel
theorem dX4_hangs_6 : decode cX4_hangs 6 = .ok (.invokestatic 68, 3) := by decide +kernel
theorem dX4_hangs_9 : decode cX4_hangs 9 = .ok (.baload, 1) := by decide +kernel
theorem dX4_hangs_10 : decode cX4_hangs 10 = .ok (.ifCond .eq 20, 3) := by decide +kernel
theorem dX4_hangs_13 : decode cX4_hangs 13 = .ok (.aload_n 0, 1) := by decide +kernel
theorem dX4_hangs_14 : decode cX4_hangs 14 = .ok (.iload_n 2, 1) := by decide +kernel
theorem dX4_hangs_15 : decode cX4_hangs 15 = .ok (.iload_n 1, 1) := by decide +kernel
theorem dX4_hangs_16 : decode cX4_hangs 16 = .ok (.invokestatic 68, 3) := by decide +kernel
theorem dX4_hangs_19 : decode cX4_hangs 19 = .ok (.iconst 5, 1) := by decide +kernel
theorem dX4_hangs_20 : decode cX4_hangs 20 = .ok (.invokevirtual 86, 3) := by decide +kernel
theorem dX4_hangs_23 : decode cX4_hangs 23 = .ok (.ifCond .ne 7, 3) := by decide +kernel
theorem dX4_hangs_26 : decode cX4_hangs 26 = .ok (.iconst 1, 1) := by decide +kernel
theorem dX4_hangs_27 : decode cX4_hangs 27 = .ok (.goto 4, 3) := by decide +kernel
theorem dX4_hangs_30 : decode cX4_hangs 30 = .ok (.iconst 0, 1) := by decide +kernel
theorem dX4_hangs_31 : decode cX4_hangs 31 = .ok (.ireturn, 1) := by decide +kernel
theorem dX4_isInRing_0 : decode cX4_isInRing 0 = .ok (.iconst 0, 1) := by decide +kernel
theorem dX4_isInRing_1 : decode cX4_isInRing 1 = .ok (.istore_n 2, 1) := by decide +kernel
theorem dX4_isInRing_2 : decode cX4_isInRing 2 = .ok (.iload_n 2, 1) := by decide +kernel
theorem dX4_isInRing_3 : decode cX4_isInRing 3 = .ok (.aload_n 0, 1) := by decide +kernel
theorem dX4_isInRing_4 : decode cX4_isInRing 4 = .ok (.getfield 60, 3) := by decide +kernel
theorem dX4_isInRing_7 : decode cX4_isInRing 7 = .ok (.if_icmp .ge 21, 3) := by decide +kernel
theorem dX4_isInRing_10 : decode cX4_isInRing 10 = .ok (.aload_n 0, 1) := by decide +kernel
theorem dX4_isInRing_11 : decode cX4_isInRing 11 = .ok (.getfield 57, 3) := by decide +kernel
theorem dX4_isInRing_14 : decode cX4_isInRing 14 = .ok (.iload_n 2, 1) := by decide +kernel
theorem dX4_isInRing_15 : decode cX4_isInRing 15 = .ok (.aload_n 0, 1) := by decide +kernel
theorem dX4_isInRing_16 : decode cX4_isInRing 16 = .ok (.iload_n 1, 1) := by decide +kernel
theorem dX4_isInRing_17 : decode cX4_isInRing 17 = .ok (.iload_n 2, 1) := by decide +kernel
theorem dX4_isInRing_18 : decode cX4_isInRing 18 = .ok (.invokevirtual 129, 3) := by decide +kernel
theorem dX4_isInRing_21 : decode cX4_isInRing 21 = .ok (.bastore, 1) := by decide +kernel
theorem dX4_isInRing_22 : decode cX4_isInRing 22 = .ok (.iinc 2 1, 3) := by decide +kernel
theorem dX4_isInRing_25 : decode cX4_isInRing 25 = .ok (.goto (-23), 3) := by decide +kernel
theorem dX4_isInRing_28 : decode cX4_isInRing 28 = .ok (.iconst 1, 1) := by decide +kernel
theorem dX4_isInRing_29 : decode cX4_isInRing 29 = .ok (.istore_n 2, 1) := by decide +kernel
theorem dX4_isInRing_30 : decode cX4_isInRing 30 = .ok (.iload_n 2, 1) := by decide +kernel
theorem dX4_isInRing_31 : decode cX4_isInRing 31 = .ok (.ifCond .eq 84, 3) := by decide +kernel
theorem dX4_isInRing_34 : decode cX4_isInRing 34 = .ok (.iconst 0, 1) := by decide +kernel
theorem dX4_isInRing_35 : decode cX4_isInRing 35 = .ok (.istore_n 2, 1) := by decide +kernel
theorem dX4_isInRing_36 : decode cX4_isInRing 36 = .ok (.iconst 0, 1) := by decide +kernel
theorem dX4_isInRing_37 : decode cX4_isInRing 37 = .ok (.istore_n 3, 1) := by decide +kernel
theorem dX4_isInRing_38 : decode cX4_isInRing 38 = .ok (.iload_n 3, 1) := by decide +kernel
theorem dX4_isInRing_39 : decode cX4_isInRing 39 = .ok (.aload_n 0, 1) := by decide +kernel
theorem dX4_isInRing_40 : decode cX4_isInRing 40 = .ok (.getfield 60, 3) := by decide +kernel
theorem dX4_isInRing_43 : decode cX4_isInRing 43 = .ok (.if_icmp .ge 69, 3) := by decide +kernel
theorem dX4_isInRing_46 : decode cX4_isInRing 46 = .ok (.iconst 0, 1) := by decide +kernel
theorem dX4_isInRing_47 : decode cX4_isInRing 47 = .ok (.istore 4, 2) := by decide +kernel
theorem dX4_isInRing_49 : decode cX4_isInRing 49 = .ok (.iload 4, 2) := by decide +kernel
theorem dX4_isInRing_51 : decode cX4_isInRing 51 = .ok (.aload_n 0, 1) := by decide +kernel
theorem dX4_isInRing_52 : decode cX4_isInRing 52 = .ok (.getfield 60, 3) := by decide +kernel
theorem dX4_isInRing_55 : decode cX4_isInRing 55 = .ok (.if_icmp .ge 51, 3) := by decide +kernel
theorem dX4_isInRing_58 : decode cX4_isInRing 58 = .ok (.aload_n 0, 1) := by decide +kernel
theorem dX4_isInRing_59 : decode cX4_isInRing 59 = .ok (.getfield 57, 3) := by decide +kernel
theorem dX4_isInRing_62 : decode cX4_isInRing 62 = .ok (.iload_n 3, 1) := by decide +kernel
theorem dX4_isInRing_63 : decode cX4_isInRing 63 = .ok (.baload, 1) := by decide +kernel
theorem dX4_isInRing_64 : decode cX4_isInRing 64 = .ok (.ifCond .eq 42, 3) := by decide +kernel
theorem dX4_isInRing_67 : decode cX4_isInRing 67 = .ok (.aload_n 0, 1) := by decide +kernel
theorem dX4_isInRing_68 : decode cX4_isInRing 68 = .ok (.getfield 57, 3) := by decide +kernel
theorem dX4_isInRing_71 : decode cX4_isInRing 71 = .ok (.iload 4, 2) := by decide +kernel
theorem dX4_isInRing_73 : decode cX4_isInRing 73 = .ok (.baload, 1) := by decide +kernel
theorem dX4_isInRing_74 : decode cX4_isInRing 74 = .ok (.ifCond .ne 26, 3) := by decide +kernel
theorem dX4_isInRing_77 : decode cX4_isInRing 77 = .ok (.aload_n 0, 1) := by decide +kernel
theorem dX4_isInRing_78 : decode cX4_isInRing 78 = .ok (.iload_n 3, 1) := by decide +kernel
theorem dX4_isInRing_79 : decode cX4_isInRing 79 = .ok (.iload 4, 2) := by decide +kernel
theorem dX4_isInRing_81 : decode cX4_isInRing 81 = .ok (.invokevirtual 129, 3) := by decide +kernel
theorem dX4_isInRing_84 : decode cX4_isInRing 84 = .ok (.ifCond .ne 6, 3) := by decide +kernel
theorem dX4_isInRing_87 : decode cX4_isInRing 87 = .ok (.goto 13, 3) := by decide +kernel
theorem dX4_isInRing_90 : decode cX4_isInRing 90 = .ok (.aload_n 0, 1) := by decide +kernel
theorem dX4_isInRing_91 : decode cX4_isInRing 91 = .ok (.getfield 57, 3) := by decide +kernel
theorem dX4_isInRing_94 : decode cX4_isInRing 94 = .ok (.iload 4, 2) := by decide +kernel
theorem dX4_isInRing_96 : decode cX4_isInRing 96 = .ok (.iconst 1, 1) := by decide +kernel
theorem dX4_isInRing_97 : decode cX4_isInRing 97 = .ok (.bastore, 1) := by decide +kernel
theorem dX4_isInRing_98 : decode cX4_isInRing 98 = .ok (.iconst 1, 1) := by decide +kernel
theorem dX4_isInRing_99 : decode cX4_isInRing 99 = .ok (.istore_n 2, 1) := by decide +kernel
theorem dX4_isInRing_100 : decode cX4_isInRing 100 = .ok (.iinc 4 1, 3) := by decide +kernel
theorem dX4_isInRing_103 : decode cX4_isInRing 103 = .ok (.goto (-54), 3) := by decide +kernel
theorem dX4_isInRing_106 : decode cX4_isInRing 106 = .ok (.iinc 3 1, 3) := by decide +kernel
theorem dX4_isInRing_109 : decode cX4_isInRing 109 = .ok (.goto (-71), 3) := by decide +kernel
theorem dX4_isInRing_112 : decode cX4_isInRing 112 = .ok (.goto (-82), 3) := by decide +kernel
theorem dX4_isInRing_115 : decode cX4_isInRing 115 = .ok (.aload_n 0, 1) := by decide +kernel
theorem dX4_isInRing_116 : decode cX4_isInRing 116 = .ok (.getfield 57, 3) := by decide +kernel
theorem dX4_isInRing_119 : decode cX4_isInRing 119 = .ok (.iload_n 1, 1) := by decide +kernel
theorem dX4_isInRing_120 : decode cX4_isInRing 120 = .ok (.baload, 1) := by decide +kernel
theorem dX4_isInRing_121 : decode cX4_isInRing 121 = .ok (.ireturn, 1) := by decide +kernel
theorem dX4_work_0 : decode cX4_work 0 = .ok (.aload_n 0, 1) := by decide +kernel
theorem dX4_work_1 : decode cX4_work 1 = .ok (.getfield 9, 3) := by decide +kernel
theorem dX4_work_4 : decode cX4_work 4 = .ok (.iload_n 2, 1) := by decide +kernel
theorem dX4_work_5 : decode cX4_work 5 = .ok (.iconst 1, 1) := by decide +kernel
theorem dX4_work_6 : decode cX4_work 6 = .ok (.bastore, 1) := by decide +kernel
theorem dX4_work_7 : decode cX4_work 7 = .ok (.aload_n 0, 1) := by decide +kernel
theorem dX4_work_8 : decode cX4_work 8 = .ok (.getfield 23, 3) := by decide +kernel
theorem dX4_work_11 : decode cX4_work 11 = .ok (.iload_n 2, 1) := by decide +kernel
theorem dX4_work_12 : decode cX4_work 12 = .ok (.iconst 1, 1) := by decide +kernel
theorem dX4_work_13 : decode cX4_work 13 = .ok (.bastore, 1) := by decide +kernel
theorem dX4_work_14 : decode cX4_work 14 = .ok (.aload_n 0, 1) := by decide +kernel
theorem dX4_work_15 : decode cX4_work 15 = .ok (.getfield 20, 3) := by decide +kernel
theorem dX4_work_18 : decode cX4_work 18 = .ok (.iload_n 2, 1) := by decide +kernel
theorem dX4_work_19 : decode cX4_work 19 = .ok (.dup2, 1) := by decide +kernel
theorem dX4_work_20 : decode cX4_work 20 = .ok (.iaload, 1) := by decide +kernel
theorem dX4_work_21 : decode cX4_work 21 = .ok (.iconst 1, 1) := by decide +kernel
theorem dX4_work_22 : decode cX4_work 22 = .ok (.isub, 1) := by decide +kernel
theorem dX4_work_23 : decode cX4_work 23 = .ok (.iastore, 1) := by decide +kernel
theorem dX4_work_24 : decode cX4_work 24 = .ok (.aload_n 0, 1) := by decide +kernel
theorem dX4_work_25 : decode cX4_work 25 = .ok (.iload_n 2, 1) := by decide +kernel
theorem dX4_work_26 : decode cX4_work 26 = .ok (.invokevirtual 89, 3) := by decide +kernel
theorem dX4_work_29 : decode cX4_work 29 = .ok (.ifCond .eq 15, 3) := by decide +kernel
theorem dX4_work_32 : decode cX4_work 32 = .ok (.aload_n 0, 1) := by decide +kernel
theorem dX4_work_33 : decode cX4_work 33 = .ok (.iload_n 2, 1) := by decide +kernel
theorem dX4_work_34 : decode cX4_work 34 = .ok (.iload_n 1, 1) := by decide +kernel
theorem dX4_work_35 : decode cX4_work 35 = .ok (.iconst 2, 1) := by decide +kernel
theorem dX4_work_36 : decode cX4_work 36 = .ok (.iconst (-1), 1) := by decide +kernel
theorem dX4_work_37 : decode cX4_work 37 = .ok (.iconst (-1), 1) := by decide +kernel
theorem dX4_work_38 : decode cX4_work 38 = .ok (.invokevirtual 92, 3) := by decide +kernel
theorem dX4_work_41 : decode cX4_work 41 = .ok (.goto 10, 3) := by decide +kernel
theorem dX4_work_44 : decode cX4_work 44 = .ok (.aload_n 0, 1) := by decide +kernel
theorem dX4_work_45 : decode cX4_work 45 = .ok (.getfield 13, 3) := by decide +kernel
theorem dX4_work_48 : decode cX4_work 48 = .ok (.iload_n 2, 1) := by decide +kernel
theorem dX4_work_49 : decode cX4_work 49 = .ok (.iload_n 1, 1) := by decide +kernel
theorem dX4_work_50 : decode cX4_work 50 = .ok (.iastore, 1) := by decide +kernel
theorem dX4_work_51 : decode cX4_work 51 = .ok (.return_, 1) := by decide +kernel
theorem dX4_probed_0 : decode cX4_probed 0 = .ok (.aload_n 0, 1) := by decide +kernel
theorem dX4_probed_1 : decode cX4_probed 1 = .ok (.iload_n 2, 1) := by decide +kernel
theorem dX4_probed_2 : decode cX4_probed 2 = .ok (.invokevirtual 76, 3) := by decide +kernel
theorem dX4_probed_5 : decode cX4_probed 5 = .ok (.ifCond .eq 16, 3) := by decide +kernel
theorem dX4_probed_8 : decode cX4_probed 8 = .ok (.aload_n 0, 1) := by decide +kernel
theorem dX4_probed_9 : decode cX4_probed 9 = .ok (.getfield 38, 3) := by decide +kernel
theorem dX4_probed_12 : decode cX4_probed 12 = .ok (.iload_n 2, 1) := by decide +kernel
theorem dX4_probed_13 : decode cX4_probed 13 = .ok (.iload_n 1, 1) := by decide +kernel
theorem dX4_probed_14 : decode cX4_probed 14 = .ok (.invokestatic 68, 3) := by decide +kernel
theorem dX4_probed_17 : decode cX4_probed 17 = .ok (.baload, 1) := by decide +kernel
theorem dX4_probed_18 : decode cX4_probed 18 = .ok (.ifCond .ne 4, 3) := by decide +kernel
theorem dX4_probed_21 : decode cX4_probed 21 = .ok (.return_, 1) := by decide +kernel
theorem dX4_probed_22 : decode cX4_probed 22 = .ok (.iload_n 2, 1) := by decide +kernel
theorem dX4_probed_23 : decode cX4_probed 23 = .ok (.iload_n 3, 1) := by decide +kernel
theorem dX4_probed_24 : decode cX4_probed 24 = .ok (.if_icmp .ne 44, 3) := by decide +kernel
theorem dX4_probed_27 : decode cX4_probed 27 = .ok (.aload_n 0, 1) := by decide +kernel
theorem dX4_probed_28 : decode cX4_probed 28 = .ok (.getfield 29, 3) := by decide +kernel
theorem dX4_probed_31 : decode cX4_probed 31 = .ok (.iload_n 3, 1) := by decide +kernel
theorem dX4_probed_32 : decode cX4_probed 32 = .ok (.dup2, 1) := by decide +kernel
theorem dX4_probed_33 : decode cX4_probed 33 = .ok (.iaload, 1) := by decide +kernel
theorem dX4_probed_34 : decode cX4_probed 34 = .ok (.iconst 1, 1) := by decide +kernel
theorem dX4_probed_35 : decode cX4_probed 35 = .ok (.iadd, 1) := by decide +kernel
theorem dX4_probed_36 : decode cX4_probed 36 = .ok (.iastore, 1) := by decide +kernel
theorem dX4_probed_37 : decode cX4_probed 37 = .ok (.aload_n 0, 1) := by decide +kernel
theorem dX4_probed_38 : decode cX4_probed 38 = .ok (.dup, 1) := by decide +kernel
theorem dX4_probed_39 : decode cX4_probed 39 = .ok (.getfield 132, 3) := by decide +kernel
theorem dX4_probed_42 : decode cX4_probed 42 = .ok (.iconst 1, 1) := by decide +kernel
theorem dX4_probed_43 : decode cX4_probed 43 = .ok (.iadd, 1) := by decide +kernel
theorem dX4_probed_44 : decode cX4_probed 44 = .ok (.putfield 132, 3) := by decide +kernel
theorem dX4_probed_47 : decode cX4_probed 47 = .ok (.aload_n 0, 1) := by decide +kernel
theorem dX4_probed_48 : decode cX4_probed 48 = .ok (.iload_n 3, 1) := by decide +kernel
theorem dX4_probed_49 : decode cX4_probed 49 = .ok (.invokevirtual 135, 3) := by decide +kernel
theorem dX4_probed_52 : decode cX4_probed 52 = .ok (.ifCond .ne 51, 3) := by decide +kernel
theorem dX4_probed_55 : decode cX4_probed 55 = .ok (.aload_n 0, 1) := by decide +kernel
theorem dX4_probed_56 : decode cX4_probed 56 = .ok (.dup, 1) := by decide +kernel
theorem dX4_probed_57 : decode cX4_probed 57 = .ok (.getfield 138, 3) := by decide +kernel
theorem dX4_probed_60 : decode cX4_probed 60 = .ok (.iconst 1, 1) := by decide +kernel
theorem dX4_probed_61 : decode cX4_probed 61 = .ok (.iadd, 1) := by decide +kernel
theorem dX4_probed_62 : decode cX4_probed 62 = .ok (.putfield 138, 3) := by decide +kernel
theorem dX4_probed_65 : decode cX4_probed 65 = .ok (.goto 38, 3) := by decide +kernel
theorem dX4_probed_68 : decode cX4_probed 68 = .ok (.iload 4, 2) := by decide +kernel
theorem dX4_probed_70 : decode cX4_probed 70 = .ok (.aload_n 0, 1) := by decide +kernel
theorem dX4_probed_71 : decode cX4_probed 71 = .ok (.getfield 41, 3) := by decide +kernel
theorem dX4_probed_74 : decode cX4_probed 74 = .ok (.iload_n 2, 1) := by decide +kernel
theorem dX4_probed_75 : decode cX4_probed 75 = .ok (.iload_n 3, 1) := by decide +kernel
theorem dX4_probed_76 : decode cX4_probed 76 = .ok (.invokestatic 68, 3) := by decide +kernel
theorem dX4_probed_79 : decode cX4_probed 79 = .ok (.iaload, 1) := by decide +kernel
theorem dX4_probed_80 : decode cX4_probed 80 = .ok (.if_icmp .le 23, 3) := by decide +kernel
theorem dX4_probed_83 : decode cX4_probed 83 = .ok (.aload_n 0, 1) := by decide +kernel
theorem dX4_probed_84 : decode cX4_probed 84 = .ok (.getfield 41, 3) := by decide +kernel
theorem dX4_probed_87 : decode cX4_probed 87 = .ok (.iload_n 2, 1) := by decide +kernel
theorem dX4_probed_88 : decode cX4_probed 88 = .ok (.iload_n 3, 1) := by decide +kernel
theorem dX4_probed_89 : decode cX4_probed 89 = .ok (.invokestatic 68, 3) := by decide +kernel
theorem dX4_probed_92 : decode cX4_probed 92 = .ok (.iload 4, 2) := by decide +kernel
theorem dX4_probed_94 : decode cX4_probed 94 = .ok (.iastore, 1) := by decide +kernel
theorem dX4_probed_95 : decode cX4_probed 95 = .ok (.aload_n 0, 1) := by decide +kernel
theorem dX4_probed_96 : decode cX4_probed 96 = .ok (.iload_n 2, 1) := by decide +kernel
theorem dX4_probed_97 : decode cX4_probed 97 = .ok (.iload_n 3, 1) := by decide +kernel
theorem dX4_probed_98 : decode cX4_probed 98 = .ok (.iload 4, 2) := by decide +kernel
theorem dX4_probed_100 : decode cX4_probed 100 = .ok (.invokevirtual 113, 3) := by decide +kernel
theorem dX4_probed_103 : decode cX4_probed 103 = .ok (.return_, 1) := by decide +kernel
theorem dX4_receive_0 : decode cX4_receive 0 = .ok (.aload_n 0, 1) := by decide +kernel
theorem dX4_receive_1 : decode cX4_receive 1 = .ok (.iload_n 1, 1) := by decide +kernel
theorem dX4_receive_2 : decode cX4_receive 2 = .ok (.iload_n 2, 1) := by decide +kernel
theorem dX4_receive_3 : decode cX4_receive 3 = .ok (.invokevirtual 103, 3) := by decide +kernel
theorem dX4_receive_6 : decode cX4_receive 6 = .ok (.ifCond .eq 16, 3) := by decide +kernel
theorem dX4_receive_9 : decode cX4_receive 9 = .ok (.aload_n 0, 1) := by decide +kernel
theorem dX4_receive_10 : decode cX4_receive 10 = .ok (.getfield 44, 3) := by decide +kernel
theorem dX4_receive_13 : decode cX4_receive 13 = .ok (.iload_n 1, 1) := by decide +kernel
theorem dX4_receive_14 : decode cX4_receive 14 = .ok (.iload_n 2, 1) := by decide +kernel
theorem dX4_receive_15 : decode cX4_receive 15 = .ok (.invokestatic 68, 3) := by decide +kernel
theorem dX4_receive_18 : decode cX4_receive 18 = .ok (.iaload, 1) := by decide +kernel
theorem dX4_receive_19 : decode cX4_receive 19 = .ok (.ifCond .ne 5, 3) := by decide +kernel
theorem dX4_receive_22 : decode cX4_receive 22 = .ok (.iconst (-1), 1) := by decide +kernel
theorem dX4_receive_23 : decode cX4_receive 23 = .ok (.ireturn, 1) := by decide +kernel
theorem dX4_receive_24 : decode cX4_receive 24 = .ok (.iload_n 1, 1) := by decide +kernel
theorem dX4_receive_25 : decode cX4_receive 25 = .ok (.iload_n 2, 1) := by decide +kernel
theorem dX4_receive_26 : decode cX4_receive 26 = .ok (.invokestatic 68, 3) := by decide +kernel
theorem dX4_receive_29 : decode cX4_receive 29 = .ok (.istore_n 3, 1) := by decide +kernel
theorem dX4_receive_30 : decode cX4_receive 30 = .ok (.sipush 640, 3) := by decide +kernel
theorem dX4_receive_33 : decode cX4_receive 33 = .ok (.iload_n 3, 1) := by decide +kernel
theorem dX4_receive_34 : decode cX4_receive 34 = .ok (.imul, 1) := by decide +kernel
theorem dX4_receive_35 : decode cX4_receive 35 = .ok (.istore 4, 2) := by decide +kernel
theorem dX4_receive_37 : decode cX4_receive 37 = .ok (.aload_n 0, 1) := by decide +kernel
theorem dX4_receive_38 : decode cX4_receive 38 = .ok (.getfield 48, 3) := by decide +kernel
theorem dX4_receive_41 : decode cX4_receive 41 = .ok (.iload 4, 2) := by decide +kernel
theorem dX4_receive_43 : decode cX4_receive 43 = .ok (.iaload, 1) := by decide +kernel
theorem dX4_receive_44 : decode cX4_receive 44 = .ok (.istore 5, 2) := by decide +kernel
theorem dX4_receive_46 : decode cX4_receive 46 = .ok (.aload_n 0, 1) := by decide +kernel
theorem dX4_receive_47 : decode cX4_receive 47 = .ok (.getfield 51, 3) := by decide +kernel
theorem dX4_receive_50 : decode cX4_receive 50 = .ok (.iload 4, 2) := by decide +kernel
theorem dX4_receive_52 : decode cX4_receive 52 = .ok (.iaload, 1) := by decide +kernel
theorem dX4_receive_53 : decode cX4_receive 53 = .ok (.istore 6, 2) := by decide +kernel
theorem dX4_receive_55 : decode cX4_receive 55 = .ok (.aload_n 0, 1) := by decide +kernel
theorem dX4_receive_56 : decode cX4_receive 56 = .ok (.getfield 54, 3) := by decide +kernel
theorem dX4_receive_59 : decode cX4_receive 59 = .ok (.iload 4, 2) := by decide +kernel
theorem dX4_receive_61 : decode cX4_receive 61 = .ok (.iaload, 1) := by decide +kernel
theorem dX4_receive_62 : decode cX4_receive 62 = .ok (.istore 7, 2) := by decide +kernel
theorem dX4_receive_64 : decode cX4_receive 64 = .ok (.aload_n 0, 1) := by decide +kernel
theorem dX4_receive_65 : decode cX4_receive 65 = .ok (.getfield 44, 3) := by decide +kernel
theorem dX4_receive_68 : decode cX4_receive 68 = .ok (.iload_n 3, 1) := by decide +kernel
theorem dX4_receive_69 : decode cX4_receive 69 = .ok (.dup2, 1) := by decide +kernel
theorem dX4_receive_70 : decode cX4_receive 70 = .ok (.iaload, 1) := by decide +kernel
theorem dX4_receive_71 : decode cX4_receive 71 = .ok (.iconst 1, 1) := by decide +kernel
theorem dX4_receive_72 : decode cX4_receive 72 = .ok (.isub, 1) := by decide +kernel
theorem dX4_receive_73 : decode cX4_receive 73 = .ok (.iastore, 1) := by decide +kernel
theorem dX4_receive_74 : decode cX4_receive 74 = .ok (.iload 4, 2) := by decide +kernel
theorem dX4_receive_76 : decode cX4_receive 76 = .ok (.istore 8, 2) := by decide +kernel
theorem dX4_receive_78 : decode cX4_receive 78 = .ok (.iload 8, 2) := by decide +kernel
theorem dX4_receive_80 : decode cX4_receive 80 = .ok (.iload 4, 2) := by decide +kernel
theorem dX4_receive_82 : decode cX4_receive 82 = .ok (.aload_n 0, 1) := by decide +kernel
theorem dX4_receive_83 : decode cX4_receive 83 = .ok (.getfield 44, 3) := by decide +kernel
theorem dX4_receive_86 : decode cX4_receive 86 = .ok (.iload_n 3, 1) := by decide +kernel
theorem dX4_receive_87 : decode cX4_receive 87 = .ok (.iaload, 1) := by decide +kernel
theorem dX4_receive_88 : decode cX4_receive 88 = .ok (.iadd, 1) := by decide +kernel
theorem dX4_receive_89 : decode cX4_receive 89 = .ok (.if_icmp .ge 57, 3) := by decide +kernel
theorem dX4_receive_92 : decode cX4_receive 92 = .ok (.aload_n 0, 1) := by decide +kernel
theorem dX4_receive_93 : decode cX4_receive 93 = .ok (.getfield 48, 3) := by decide +kernel
theorem dX4_receive_96 : decode cX4_receive 96 = .ok (.iload 8, 2) := by decide +kernel
theorem dX4_receive_98 : decode cX4_receive 98 = .ok (.aload_n 0, 1) := by decide +kernel
theorem dX4_receive_99 : decode cX4_receive 99 = .ok (.getfield 48, 3) := by decide +kernel
theorem dX4_receive_102 : decode cX4_receive 102 = .ok (.iload 8, 2) := by decide +kernel
theorem dX4_receive_104 : decode cX4_receive 104 = .ok (.iconst 1, 1) := by decide +kernel
theorem dX4_receive_105 : decode cX4_receive 105 = .ok (.iadd, 1) := by decide +kernel
theorem dX4_receive_106 : decode cX4_receive 106 = .ok (.iaload, 1) := by decide +kernel
theorem dX4_receive_107 : decode cX4_receive 107 = .ok (.iastore, 1) := by decide +kernel
theorem dX4_receive_108 : decode cX4_receive 108 = .ok (.aload_n 0, 1) := by decide +kernel
theorem dX4_receive_109 : decode cX4_receive 109 = .ok (.getfield 51, 3) := by decide +kernel
theorem dX4_receive_112 : decode cX4_receive 112 = .ok (.iload 8, 2) := by decide +kernel
theorem dX4_receive_114 : decode cX4_receive 114 = .ok (.aload_n 0, 1) := by decide +kernel
theorem dX4_receive_115 : decode cX4_receive 115 = .ok (.getfield 51, 3) := by decide +kernel
theorem dX4_receive_118 : decode cX4_receive 118 = .ok (.iload 8, 2) := by decide +kernel
theorem dX4_receive_120 : decode cX4_receive 120 = .ok (.iconst 1, 1) := by decide +kernel
theorem dX4_receive_121 : decode cX4_receive 121 = .ok (.iadd, 1) := by decide +kernel
theorem dX4_receive_122 : decode cX4_receive 122 = .ok (.iaload, 1) := by decide +kernel
theorem dX4_receive_123 : decode cX4_receive 123 = .ok (.iastore, 1) := by decide +kernel
theorem dX4_receive_124 : decode cX4_receive 124 = .ok (.aload_n 0, 1) := by decide +kernel
theorem dX4_receive_125 : decode cX4_receive 125 = .ok (.getfield 54, 3) := by decide +kernel
theorem dX4_receive_128 : decode cX4_receive 128 = .ok (.iload 8, 2) := by decide +kernel
theorem dX4_receive_130 : decode cX4_receive 130 = .ok (.aload_n 0, 1) := by decide +kernel
theorem dX4_receive_131 : decode cX4_receive 131 = .ok (.getfield 54, 3) := by decide +kernel
theorem dX4_receive_134 : decode cX4_receive 134 = .ok (.iload 8, 2) := by decide +kernel
theorem dX4_receive_136 : decode cX4_receive 136 = .ok (.iconst 1, 1) := by decide +kernel
theorem dX4_receive_137 : decode cX4_receive 137 = .ok (.iadd, 1) := by decide +kernel
theorem dX4_receive_138 : decode cX4_receive 138 = .ok (.iaload, 1) := by decide +kernel
theorem dX4_receive_139 : decode cX4_receive 139 = .ok (.iastore, 1) := by decide +kernel
theorem dX4_receive_140 : decode cX4_receive 140 = .ok (.iinc 8 1, 3) := by decide +kernel
theorem dX4_receive_143 : decode cX4_receive 143 = .ok (.goto (-65), 3) := by decide +kernel
theorem dX4_receive_146 : decode cX4_receive 146 = .ok (.aload_n 0, 1) := by decide +kernel
theorem dX4_receive_147 : decode cX4_receive 147 = .ok (.dup, 1) := by decide +kernel
theorem dX4_receive_148 : decode cX4_receive 148 = .ok (.getfield 141, 3) := by decide +kernel
theorem dX4_receive_151 : decode cX4_receive 151 = .ok (.iconst 1, 1) := by decide +kernel
theorem dX4_receive_152 : decode cX4_receive 152 = .ok (.iadd, 1) := by decide +kernel
theorem dX4_receive_153 : decode cX4_receive 153 = .ok (.putfield 141, 3) := by decide +kernel
theorem dX4_receive_156 : decode cX4_receive 156 = .ok (.iload 5, 2) := by decide +kernel
theorem dX4_receive_158 : decode cX4_receive 158 = .ok (.tableswitch 94 1 5 #[34, 43, 56, 66, 80], 34) := by decide +kernel
theorem dX4_receive_192 : decode cX4_receive 192 = .ok (.aload_n 0, 1) := by decide +kernel
theorem dX4_receive_193 : decode cX4_receive 193 = .ok (.iload_n 1, 1) := by decide +kernel
theorem dX4_receive_194 : decode cX4_receive 194 = .ok (.iload_n 2, 1) := by decide +kernel
theorem dX4_receive_195 : decode cX4_receive 195 = .ok (.invokevirtual 144, 3) := by decide +kernel
theorem dX4_receive_198 : decode cX4_receive 198 = .ok (.goto 64, 3) := by decide +kernel
theorem dX4_receive_201 : decode cX4_receive 201 = .ok (.aload_n 0, 1) := by decide +kernel
theorem dX4_receive_202 : decode cX4_receive 202 = .ok (.getfield 17, 3) := by decide +kernel
theorem dX4_receive_205 : decode cX4_receive 205 = .ok (.iload_n 2, 1) := by decide +kernel
theorem dX4_receive_206 : decode cX4_receive 206 = .ok (.dup2, 1) := by decide +kernel
theorem dX4_receive_207 : decode cX4_receive 207 = .ok (.iaload, 1) := by decide +kernel
theorem dX4_receive_208 : decode cX4_receive 208 = .ok (.iconst 1, 1) := by decide +kernel
theorem dX4_receive_209 : decode cX4_receive 209 = .ok (.isub, 1) := by decide +kernel
theorem dX4_receive_210 : decode cX4_receive 210 = .ok (.iastore, 1) := by decide +kernel
theorem dX4_receive_211 : decode cX4_receive 211 = .ok (.goto 51, 3) := by decide +kernel
theorem dX4_receive_214 : decode cX4_receive 214 = .ok (.aload_n 0, 1) := by decide +kernel
theorem dX4_receive_215 : decode cX4_receive 215 = .ok (.getfield 26, 3) := by decide +kernel
theorem dX4_receive_218 : decode cX4_receive 218 = .ok (.iload_n 2, 1) := by decide +kernel
theorem dX4_receive_219 : decode cX4_receive 219 = .ok (.iconst 1, 1) := by decide +kernel
theorem dX4_receive_220 : decode cX4_receive 220 = .ok (.bastore, 1) := by decide +kernel
theorem dX4_receive_221 : decode cX4_receive 221 = .ok (.goto 41, 3) := by decide +kernel
theorem dX4_receive_224 : decode cX4_receive 224 = .ok (.aload_n 0, 1) := by decide +kernel
theorem dX4_receive_225 : decode cX4_receive 225 = .ok (.getfield 38, 3) := by decide +kernel
theorem dX4_receive_228 : decode cX4_receive 228 = .ok (.iload_n 2, 1) := by decide +kernel
theorem dX4_receive_229 : decode cX4_receive 229 = .ok (.iload_n 1, 1) := by decide +kernel
theorem dX4_receive_230 : decode cX4_receive 230 = .ok (.invokestatic 68, 3) := by decide +kernel
theorem dX4_receive_233 : decode cX4_receive 233 = .ok (.iconst 1, 1) := by decide +kernel
theorem dX4_receive_234 : decode cX4_receive 234 = .ok (.bastore, 1) := by decide +kernel
theorem dX4_receive_235 : decode cX4_receive 235 = .ok (.goto 27, 3) := by decide +kernel
theorem dX4_receive_238 : decode cX4_receive 238 = .ok (.aload_n 0, 1) := by decide +kernel
theorem dX4_receive_239 : decode cX4_receive 239 = .ok (.getfield 35, 3) := by decide +kernel
theorem dX4_receive_242 : decode cX4_receive 242 = .ok (.iload_n 2, 1) := by decide +kernel
theorem dX4_receive_243 : decode cX4_receive 243 = .ok (.iload_n 1, 1) := by decide +kernel
theorem dX4_receive_244 : decode cX4_receive 244 = .ok (.invokestatic 68, 3) := by decide +kernel
theorem dX4_receive_247 : decode cX4_receive 247 = .ok (.iconst 0, 1) := by decide +kernel
theorem dX4_receive_248 : decode cX4_receive 248 = .ok (.bastore, 1) := by decide +kernel
theorem dX4_receive_249 : decode cX4_receive 249 = .ok (.goto 13, 3) := by decide +kernel
theorem dX4_receive_252 : decode cX4_receive 252 = .ok (.aload_n 0, 1) := by decide +kernel
theorem dX4_receive_253 : decode cX4_receive 253 = .ok (.iload_n 1, 1) := by decide +kernel
theorem dX4_receive_254 : decode cX4_receive 254 = .ok (.iload_n 2, 1) := by decide +kernel
theorem dX4_receive_255 : decode cX4_receive 255 = .ok (.iload 6, 2) := by decide +kernel
theorem dX4_receive_257 : decode cX4_receive 257 = .ok (.iload 7, 2) := by decide +kernel
theorem dX4_receive_259 : decode cX4_receive 259 = .ok (.invokevirtual 148, 3) := by decide +kernel
theorem dX4_receive_262 : decode cX4_receive 262 = .ok (.aload_n 0, 1) := by decide +kernel
theorem dX4_receive_263 : decode cX4_receive 263 = .ok (.invokevirtual 110, 3) := by decide +kernel
theorem dX4_receive_266 : decode cX4_receive 266 = .ok (.iload 5, 2) := by decide +kernel
theorem dX4_receive_268 : decode cX4_receive 268 = .ok (.ireturn, 1) := by decide +kernel
theorem dX4_run_0 : decode cX4_run 0 = .ok (.iload_n 1, 1) := by decide +kernel
theorem dX4_run_1 : decode cX4_run 1 = .ok (.ifCond .lt 10, 3) := by decide +kernel
theorem dX4_run_4 : decode cX4_run 4 = .ok (.iload_n 1, 1) := by decide +kernel
theorem dX4_run_5 : decode cX4_run 5 = .ok (.sipush 2000, 3) := by decide +kernel
theorem dX4_run_8 : decode cX4_run 8 = .ok (.if_icmp .le 5, 3) := by decide +kernel
theorem dX4_run_11 : decode cX4_run 11 = .ok (.iconst (-1), 1) := by decide +kernel
theorem dX4_run_12 : decode cX4_run 12 = .ok (.ireturn, 1) := by decide +kernel
theorem dX4_run_13 : decode cX4_run 13 = .ok (.iload_n 2, 1) := by decide +kernel
theorem dX4_run_14 : decode cX4_run 14 = .ok (.istore_n 3, 1) := by decide +kernel
theorem dX4_run_15 : decode cX4_run 15 = .ok (.iconst 0, 1) := by decide +kernel
theorem dX4_run_16 : decode cX4_run 16 = .ok (.istore 4, 2) := by decide +kernel
theorem dX4_run_18 : decode cX4_run 18 = .ok (.iconst 0, 1) := by decide +kernel
theorem dX4_run_19 : decode cX4_run 19 = .ok (.istore 5, 2) := by decide +kernel
theorem dX4_run_21 : decode cX4_run 21 = .ok (.iload 5, 2) := by decide +kernel
theorem dX4_run_23 : decode cX4_run 23 = .ok (.iload_n 1, 1) := by decide +kernel
theorem dX4_run_24 : decode cX4_run 24 = .ok (.if_icmp .ge 94, 3) := by decide +kernel
theorem dX4_run_27 : decode cX4_run 27 = .ok (.iload_n 3, 1) := by decide +kernel
theorem dX4_run_28 : decode cX4_run 28 = .ok (.ldc 152, 2) := by decide +kernel
theorem dX4_run_30 : decode cX4_run 30 = .ok (.imul, 1) := by decide +kernel
theorem dX4_run_31 : decode cX4_run 31 = .ok (.sipush 12345, 3) := by decide +kernel
theorem dX4_run_34 : decode cX4_run 34 = .ok (.iadd, 1) := by decide +kernel
theorem dX4_run_35 : decode cX4_run 35 = .ok (.istore_n 3, 1) := by decide +kernel
theorem dX4_run_36 : decode cX4_run 36 = .ok (.iload_n 3, 1) := by decide +kernel
theorem dX4_run_37 : decode cX4_run 37 = .ok (.bipush 16, 2) := by decide +kernel
theorem dX4_run_39 : decode cX4_run 39 = .ok (.iushr, 1) := by decide +kernel
theorem dX4_run_40 : decode cX4_run 40 = .ok (.aload_n 0, 1) := by decide +kernel
theorem dX4_run_41 : decode cX4_run 41 = .ok (.getfield 60, 3) := by decide +kernel
theorem dX4_run_44 : decode cX4_run 44 = .ok (.aload_n 0, 1) := by decide +kernel
theorem dX4_run_45 : decode cX4_run 45 = .ok (.getfield 60, 3) := by decide +kernel
theorem dX4_run_48 : decode cX4_run 48 = .ok (.imul, 1) := by decide +kernel
theorem dX4_run_49 : decode cX4_run 49 = .ok (.irem, 1) := by decide +kernel
theorem dX4_run_50 : decode cX4_run 50 = .ok (.istore 6, 2) := by decide +kernel
theorem dX4_run_52 : decode cX4_run 52 = .ok (.iload 6, 2) := by decide +kernel
theorem dX4_run_54 : decode cX4_run 54 = .ok (.aload_n 0, 1) := by decide +kernel
theorem dX4_run_55 : decode cX4_run 55 = .ok (.getfield 60, 3) := by decide +kernel
theorem dX4_run_58 : decode cX4_run 58 = .ok (.idiv, 1) := by decide +kernel
theorem dX4_run_59 : decode cX4_run 59 = .ok (.istore 7, 2) := by decide +kernel
theorem dX4_run_61 : decode cX4_run 61 = .ok (.iload 6, 2) := by decide +kernel
theorem dX4_run_63 : decode cX4_run 63 = .ok (.aload_n 0, 1) := by decide +kernel
theorem dX4_run_64 : decode cX4_run 64 = .ok (.getfield 60, 3) := by decide +kernel
theorem dX4_run_67 : decode cX4_run 67 = .ok (.irem, 1) := by decide +kernel
theorem dX4_run_68 : decode cX4_run 68 = .ok (.istore 8, 2) := by decide +kernel
theorem dX4_run_70 : decode cX4_run 70 = .ok (.iload 7, 2) := by decide +kernel
theorem dX4_run_72 : decode cX4_run 72 = .ok (.iload 8, 2) := by decide +kernel
theorem dX4_run_74 : decode cX4_run 74 = .ok (.if_icmp .ne 12, 3) := by decide +kernel
theorem dX4_run_77 : decode cX4_run 77 = .ok (.aload_n 0, 1) := by decide +kernel
theorem dX4_run_78 : decode cX4_run 78 = .ok (.iload 7, 2) := by decide +kernel
theorem dX4_run_80 : decode cX4_run 80 = .ok (.invokevirtual 153, 3) := by decide +kernel
theorem dX4_run_83 : decode cX4_run 83 = .ok (.goto 11, 3) := by decide +kernel
theorem dX4_run_86 : decode cX4_run 86 = .ok (.aload_n 0, 1) := by decide +kernel
theorem dX4_run_87 : decode cX4_run 87 = .ok (.iload 7, 2) := by decide +kernel
theorem dX4_run_89 : decode cX4_run 89 = .ok (.iload 8, 2) := by decide +kernel
theorem dX4_run_91 : decode cX4_run 91 = .ok (.invokevirtual 156, 3) := by decide +kernel
theorem dX4_run_94 : decode cX4_run 94 = .ok (.istore 9, 2) := by decide +kernel
theorem dX4_run_96 : decode cX4_run 96 = .ok (.iload 4, 2) := by decide +kernel
theorem dX4_run_98 : decode cX4_run 98 = .ok (.iload 9, 2) := by decide +kernel
theorem dX4_run_100 : decode cX4_run 100 = .ok (.iconst (-1), 1) := by decide +kernel
theorem dX4_run_101 : decode cX4_run 101 = .ok (.if_icmp .ne 7, 3) := by decide +kernel
theorem dX4_run_104 : decode cX4_run 104 = .ok (.iconst 0, 1) := by decide +kernel
theorem dX4_run_105 : decode cX4_run 105 = .ok (.goto 4, 3) := by decide +kernel
theorem dX4_run_108 : decode cX4_run 108 = .ok (.iconst 1, 1) := by decide +kernel
theorem dX4_run_109 : decode cX4_run 109 = .ok (.iadd, 1) := by decide +kernel
theorem dX4_run_110 : decode cX4_run 110 = .ok (.istore 4, 2) := by decide +kernel
theorem dX4_run_112 : decode cX4_run 112 = .ok (.iinc 5 1, 3) := by decide +kernel
theorem dX4_run_115 : decode cX4_run 115 = .ok (.goto (-94), 3) := by decide +kernel
theorem dX4_run_118 : decode cX4_run 118 = .ok (.iload 4, 2) := by decide +kernel
theorem dX4_run_120 : decode cX4_run 120 = .ok (.ireturn, 1) := by decide +kernel
theorem dX4_pendingAt_0 : decode cX4_pendingAt 0 = .ok (.iconst 0, 1) := by decide +kernel
theorem dX4_pendingAt_1 : decode cX4_pendingAt 1 = .ok (.istore_n 2, 1) := by decide +kernel
theorem dX4_pendingAt_2 : decode cX4_pendingAt 2 = .ok (.iconst 0, 1) := by decide +kernel
theorem dX4_pendingAt_3 : decode cX4_pendingAt 3 = .ok (.istore_n 3, 1) := by decide +kernel
theorem dX4_pendingAt_4 : decode cX4_pendingAt 4 = .ok (.iload_n 3, 1) := by decide +kernel
theorem dX4_pendingAt_5 : decode cX4_pendingAt 5 = .ok (.aload_n 0, 1) := by decide +kernel
theorem dX4_pendingAt_6 : decode cX4_pendingAt 6 = .ok (.getfield 60, 3) := by decide +kernel
theorem dX4_pendingAt_9 : decode cX4_pendingAt 9 = .ok (.if_icmp .ge 30, 3) := by decide +kernel
theorem dX4_pendingAt_12 : decode cX4_pendingAt 12 = .ok (.iload_n 2, 1) := by decide +kernel
theorem dX4_pendingAt_13 : decode cX4_pendingAt 13 = .ok (.aload_n 0, 1) := by decide +kernel
theorem dX4_pendingAt_14 : decode cX4_pendingAt 14 = .ok (.getfield 38, 3) := by decide +kernel
theorem dX4_pendingAt_17 : decode cX4_pendingAt 17 = .ok (.iload_n 1, 1) := by decide +kernel
theorem dX4_pendingAt_18 : decode cX4_pendingAt 18 = .ok (.iload_n 3, 1) := by decide +kernel
theorem dX4_pendingAt_19 : decode cX4_pendingAt 19 = .ok (.invokestatic 68, 3) := by decide +kernel
theorem dX4_pendingAt_22 : decode cX4_pendingAt 22 = .ok (.baload, 1) := by decide +kernel
theorem dX4_pendingAt_23 : decode cX4_pendingAt 23 = .ok (.ifCond .eq 7, 3) := by decide +kernel
theorem dX4_pendingAt_26 : decode cX4_pendingAt 26 = .ok (.iconst 1, 1) := by decide +kernel
theorem dX4_pendingAt_27 : decode cX4_pendingAt 27 = .ok (.goto 4, 3) := by decide +kernel
theorem dX4_pendingAt_30 : decode cX4_pendingAt 30 = .ok (.iconst 0, 1) := by decide +kernel
theorem dX4_pendingAt_31 : decode cX4_pendingAt 31 = .ok (.iadd, 1) := by decide +kernel
theorem dX4_pendingAt_32 : decode cX4_pendingAt 32 = .ok (.istore_n 2, 1) := by decide +kernel
theorem dX4_pendingAt_33 : decode cX4_pendingAt 33 = .ok (.iinc 3 1, 3) := by decide +kernel
theorem dX4_pendingAt_36 : decode cX4_pendingAt 36 = .ok (.goto (-32), 3) := by decide +kernel
theorem dX4_pendingAt_39 : decode cX4_pendingAt 39 = .ok (.iload_n 2, 1) := by decide +kernel
theorem dX4_pendingAt_40 : decode cX4_pendingAt 40 = .ok (.ireturn, 1) := by decide +kernel
theorem dX4_toInt_0 : decode cX4_toInt 0 = .ok (.iload_n 0, 1) := by decide +kernel
theorem dX4_toInt_1 : decode cX4_toInt 1 = .ok (.ifCond .eq 7, 3) := by decide +kernel
theorem dX4_toInt_4 : decode cX4_toInt 4 = .ok (.iconst 1, 1) := by decide +kernel
theorem dX4_toInt_5 : decode cX4_toInt 5 = .ok (.goto 4, 3) := by decide +kernel
theorem dX4_toInt_8 : decode cX4_toInt 8 = .ok (.iconst 0, 1) := by decide +kernel
theorem dX4_toInt_9 : decode cX4_toInt 9 = .ok (.ireturn, 1) := by decide +kernel
theorem dX4_told_0 : decode cX4_told 0 = .ok (.aload_n 0, 1) := by decide +kernel
theorem dX4_told_1 : decode cX4_told 1 = .ok (.iload_n 1, 1) := by decide +kernel
theorem dX4_told_2 : decode cX4_told 2 = .ok (.invokevirtual 64, 3) := by decide +kernel
theorem dX4_told_5 : decode cX4_told 5 = .ok (.ifCond .ne 5, 3) := by decide +kernel
theorem dX4_told_8 : decode cX4_told 8 = .ok (.iconst (-1), 1) := by decide +kernel
theorem dX4_told_9 : decode cX4_told 9 = .ok (.ireturn, 1) := by decide +kernel
theorem dX4_told_10 : decode cX4_told 10 = .ok (.iload_n 2, 1) := by decide +kernel
theorem dX4_told_11 : decode cX4_told 11 = .ok (.tableswitch 156 0 11 #[61, 71, 80, 89, 96, 103, 110, 120, 130, 136, 142, 149], 61) := by decide +kernel
theorem dX4_told_72 : decode cX4_told 72 = .ok (.aload_n 0, 1) := by decide +kernel
theorem dX4_told_73 : decode cX4_told 73 = .ok (.getfield 9, 3) := by decide +kernel
theorem dX4_told_76 : decode cX4_told 76 = .ok (.iload_n 1, 1) := by decide +kernel
theorem dX4_told_77 : decode cX4_told 77 = .ok (.baload, 1) := by decide +kernel
theorem dX4_told_78 : decode cX4_told 78 = .ok (.invokestatic 159, 3) := by decide +kernel
theorem dX4_told_81 : decode cX4_told 81 = .ok (.ireturn, 1) := by decide +kernel
theorem dX4_told_82 : decode cX4_told 82 = .ok (.aload_n 0, 1) := by decide +kernel
theorem dX4_told_83 : decode cX4_told 83 = .ok (.iload_n 1, 1) := by decide +kernel
theorem dX4_told_84 : decode cX4_told 84 = .ok (.invokevirtual 76, 3) := by decide +kernel
theorem dX4_told_87 : decode cX4_told 87 = .ok (.invokestatic 159, 3) := by decide +kernel
theorem dX4_told_90 : decode cX4_told 90 = .ok (.ireturn, 1) := by decide +kernel
theorem dX4_told_91 : decode cX4_told 91 = .ok (.aload_n 0, 1) := by decide +kernel
theorem dX4_told_92 : decode cX4_told 92 = .ok (.iload_n 1, 1) := by decide +kernel
theorem dX4_told_93 : decode cX4_told 93 = .ok (.invokevirtual 89, 3) := by decide +kernel
theorem dX4_told_96 : decode cX4_told 96 = .ok (.invokestatic 159, 3) := by decide +kernel
theorem dX4_told_99 : decode cX4_told 99 = .ok (.ireturn, 1) := by decide +kernel
theorem dX4_told_100 : decode cX4_told 100 = .ok (.aload_n 0, 1) := by decide +kernel
theorem dX4_told_101 : decode cX4_told 101 = .ok (.getfield 13, 3) := by decide +kernel
theorem dX4_told_104 : decode cX4_told 104 = .ok (.iload_n 1, 1) := by decide +kernel
theorem dX4_told_105 : decode cX4_told 105 = .ok (.iaload, 1) := by decide +kernel
theorem dX4_told_106 : decode cX4_told 106 = .ok (.ireturn, 1) := by decide +kernel
theorem dX4_told_107 : decode cX4_told 107 = .ok (.aload_n 0, 1) := by decide +kernel
theorem dX4_told_108 : decode cX4_told 108 = .ok (.getfield 17, 3) := by decide +kernel
theorem dX4_told_111 : decode cX4_told 111 = .ok (.iload_n 1, 1) := by decide +kernel
theorem dX4_told_112 : decode cX4_told 112 = .ok (.iaload, 1) := by decide +kernel
theorem dX4_told_113 : decode cX4_told 113 = .ok (.ireturn, 1) := by decide +kernel
theorem dX4_told_114 : decode cX4_told 114 = .ok (.aload_n 0, 1) := by decide +kernel
theorem dX4_told_115 : decode cX4_told 115 = .ok (.getfield 20, 3) := by decide +kernel
theorem dX4_told_118 : decode cX4_told 118 = .ok (.iload_n 1, 1) := by decide +kernel
theorem dX4_told_119 : decode cX4_told 119 = .ok (.iaload, 1) := by decide +kernel
theorem dX4_told_120 : decode cX4_told 120 = .ok (.ireturn, 1) := by decide +kernel
theorem dX4_told_121 : decode cX4_told 121 = .ok (.aload_n 0, 1) := by decide +kernel
theorem dX4_told_122 : decode cX4_told 122 = .ok (.getfield 23, 3) := by decide +kernel
theorem dX4_told_125 : decode cX4_told 125 = .ok (.iload_n 1, 1) := by decide +kernel
theorem dX4_told_126 : decode cX4_told 126 = .ok (.baload, 1) := by decide +kernel
theorem dX4_told_127 : decode cX4_told 127 = .ok (.invokestatic 159, 3) := by decide +kernel
theorem dX4_told_130 : decode cX4_told 130 = .ok (.ireturn, 1) := by decide +kernel
theorem dX4_told_131 : decode cX4_told 131 = .ok (.aload_n 0, 1) := by decide +kernel
theorem dX4_told_132 : decode cX4_told 132 = .ok (.getfield 26, 3) := by decide +kernel
theorem dX4_told_135 : decode cX4_told 135 = .ok (.iload_n 1, 1) := by decide +kernel
theorem dX4_told_136 : decode cX4_told 136 = .ok (.baload, 1) := by decide +kernel
theorem dX4_told_137 : decode cX4_told 137 = .ok (.invokestatic 159, 3) := by decide +kernel
theorem dX4_told_140 : decode cX4_told 140 = .ok (.ireturn, 1) := by decide +kernel
theorem dX4_told_141 : decode cX4_told 141 = .ok (.aload_n 0, 1) := by decide +kernel
theorem dX4_told_142 : decode cX4_told 142 = .ok (.iload_n 1, 1) := by decide +kernel
theorem dX4_told_143 : decode cX4_told 143 = .ok (.invokevirtual 72, 3) := by decide +kernel
theorem dX4_told_146 : decode cX4_told 146 = .ok (.ireturn, 1) := by decide +kernel
theorem dX4_told_147 : decode cX4_told 147 = .ok (.aload_n 0, 1) := by decide +kernel
theorem dX4_told_148 : decode cX4_told 148 = .ok (.iload_n 1, 1) := by decide +kernel
theorem dX4_told_149 : decode cX4_told 149 = .ok (.invokevirtual 163, 3) := by decide +kernel
theorem dX4_told_152 : decode cX4_told 152 = .ok (.ireturn, 1) := by decide +kernel
theorem dX4_told_153 : decode cX4_told 153 = .ok (.aload_n 0, 1) := by decide +kernel
theorem dX4_told_154 : decode cX4_told 154 = .ok (.getfield 29, 3) := by decide +kernel
theorem dX4_told_157 : decode cX4_told 157 = .ok (.iload_n 1, 1) := by decide +kernel
theorem dX4_told_158 : decode cX4_told 158 = .ok (.iaload, 1) := by decide +kernel
theorem dX4_told_159 : decode cX4_told 159 = .ok (.ireturn, 1) := by decide +kernel
theorem dX4_told_160 : decode cX4_told 160 = .ok (.aload_n 0, 1) := by decide +kernel
theorem dX4_told_161 : decode cX4_told 161 = .ok (.getfield 32, 3) := by decide +kernel
theorem dX4_told_164 : decode cX4_told 164 = .ok (.iload_n 1, 1) := by decide +kernel
theorem dX4_told_165 : decode cX4_told 165 = .ok (.iaload, 1) := by decide +kernel
theorem dX4_told_166 : decode cX4_told 166 = .ok (.ireturn, 1) := by decide +kernel
theorem dX4_told_167 : decode cX4_told 167 = .ok (.iconst (-1), 1) := by decide +kernel
theorem dX4_told_168 : decode cX4_told 168 = .ok (.ireturn, 1) := by decide +kernel
theorem dX4_waits_0 : decode cX4_waits 0 = .ok (.aload_n 0, 1) := by decide +kernel
theorem dX4_waits_1 : decode cX4_waits 1 = .ok (.iload_n 1, 1) := by decide +kernel
theorem dX4_waits_2 : decode cX4_waits 2 = .ok (.invokevirtual 64, 3) := by decide +kernel
theorem dX4_waits_5 : decode cX4_waits 5 = .ok (.ifCond .eq 28, 3) := by decide +kernel
theorem dX4_waits_8 : decode cX4_waits 8 = .ok (.aload_n 0, 1) := by decide +kernel
theorem dX4_waits_9 : decode cX4_waits 9 = .ok (.iload_n 2, 1) := by decide +kernel
theorem dX4_waits_10 : decode cX4_waits 10 = .ok (.invokevirtual 64, 3) := by decide +kernel
theorem dX4_waits_13 : decode cX4_waits 13 = .ok (.ifCond .eq 20, 3) := by decide +kernel
theorem dX4_waits_16 : decode cX4_waits 16 = .ok (.aload_n 0, 1) := by decide +kernel
theorem dX4_waits_17 : decode cX4_waits 17 = .ok (.getfield 35, 3) := by decide +kernel
theorem dX4_waits_20 : decode cX4_waits 20 = .ok (.iload_n 1, 1) := by decide +kernel
theorem dX4_waits_21 : decode cX4_waits 21 = .ok (.iload_n 2, 1) := by decide +kernel
theorem dX4_waits_22 : decode cX4_waits 22 = .ok (.invokestatic 68, 3) := by decide +kernel
theorem dX4_waits_25 : decode cX4_waits 25 = .ok (.baload, 1) := by decide +kernel
theorem dX4_waits_26 : decode cX4_waits 26 = .ok (.ifCond .eq 7, 3) := by decide +kernel
theorem dX4_waits_29 : decode cX4_waits 29 = .ok (.iconst 1, 1) := by decide +kernel
theorem dX4_waits_30 : decode cX4_waits 30 = .ok (.goto 4, 3) := by decide +kernel
theorem dX4_waits_33 : decode cX4_waits 33 = .ok (.iconst 0, 1) := by decide +kernel
theorem dX4_waits_34 : decode cX4_waits 34 = .ok (.ireturn, 1) := by decide +kernel
theorem dX4_message_0 : decode cX4_message 0 = .ok (.aload_n 0, 1) := by decide +kernel
theorem dX4_message_1 : decode cX4_message 1 = .ok (.iload_n 1, 1) := by decide +kernel
theorem dX4_message_2 : decode cX4_message 2 = .ok (.iload_n 2, 1) := by decide +kernel
theorem dX4_message_3 : decode cX4_message 3 = .ok (.invokevirtual 103, 3) := by decide +kernel
theorem dX4_message_6 : decode cX4_message 6 = .ok (.ifCond .eq 21, 3) := by decide +kernel
theorem dX4_message_9 : decode cX4_message 9 = .ok (.iload_n 3, 1) := by decide +kernel
theorem dX4_message_10 : decode cX4_message 10 = .ok (.ifCond .lt 17, 3) := by decide +kernel
theorem dX4_message_13 : decode cX4_message 13 = .ok (.iload_n 3, 1) := by decide +kernel
theorem dX4_message_14 : decode cX4_message 14 = .ok (.aload_n 0, 1) := by decide +kernel
theorem dX4_message_15 : decode cX4_message 15 = .ok (.getfield 44, 3) := by decide +kernel
theorem dX4_message_18 : decode cX4_message 18 = .ok (.iload_n 1, 1) := by decide +kernel
theorem dX4_message_19 : decode cX4_message 19 = .ok (.iload_n 2, 1) := by decide +kernel
theorem dX4_message_20 : decode cX4_message 20 = .ok (.invokestatic 68, 3) := by decide +kernel
theorem dX4_message_23 : decode cX4_message 23 = .ok (.iaload, 1) := by decide +kernel
theorem dX4_message_24 : decode cX4_message 24 = .ok (.if_icmp .lt 5, 3) := by decide +kernel
theorem dX4_message_27 : decode cX4_message 27 = .ok (.iconst (-1), 1) := by decide +kernel
theorem dX4_message_28 : decode cX4_message 28 = .ok (.ireturn, 1) := by decide +kernel
theorem dX4_message_29 : decode cX4_message 29 = .ok (.sipush 640, 3) := by decide +kernel
theorem dX4_message_32 : decode cX4_message 32 = .ok (.iload_n 1, 1) := by decide +kernel
theorem dX4_message_33 : decode cX4_message 33 = .ok (.iload_n 2, 1) := by decide +kernel
theorem dX4_message_34 : decode cX4_message 34 = .ok (.invokestatic 68, 3) := by decide +kernel
theorem dX4_message_37 : decode cX4_message 37 = .ok (.imul, 1) := by decide +kernel
theorem dX4_message_38 : decode cX4_message 38 = .ok (.iload_n 3, 1) := by decide +kernel
theorem dX4_message_39 : decode cX4_message 39 = .ok (.iadd, 1) := by decide +kernel
theorem dX4_message_40 : decode cX4_message 40 = .ok (.istore 5, 2) := by decide +kernel
theorem dX4_message_42 : decode cX4_message 42 = .ok (.iload 4, 2) := by decide +kernel
theorem dX4_message_44 : decode cX4_message 44 = .ok (.ifCond .ne 13, 3) := by decide +kernel
theorem dX4_message_47 : decode cX4_message 47 = .ok (.aload_n 0, 1) := by decide +kernel
theorem dX4_message_48 : decode cX4_message 48 = .ok (.getfield 48, 3) := by decide +kernel
theorem dX4_message_51 : decode cX4_message 51 = .ok (.iload 5, 2) := by decide +kernel
theorem dX4_message_53 : decode cX4_message 53 = .ok (.iaload, 1) := by decide +kernel
theorem dX4_message_54 : decode cX4_message 54 = .ok (.goto 36, 3) := by decide +kernel
theorem dX4_message_57 : decode cX4_message 57 = .ok (.iload 4, 2) := by decide +kernel
theorem dX4_message_59 : decode cX4_message 59 = .ok (.iconst 1, 1) := by decide +kernel
theorem dX4_message_60 : decode cX4_message 60 = .ok (.if_icmp .ne 13, 3) := by decide +kernel
theorem dX4_message_63 : decode cX4_message 63 = .ok (.aload_n 0, 1) := by decide +kernel
theorem dX4_message_64 : decode cX4_message 64 = .ok (.getfield 51, 3) := by decide +kernel
theorem dX4_message_67 : decode cX4_message 67 = .ok (.iload 5, 2) := by decide +kernel
theorem dX4_message_69 : decode cX4_message 69 = .ok (.iaload, 1) := by decide +kernel
theorem dX4_message_70 : decode cX4_message 70 = .ok (.goto 20, 3) := by decide +kernel
theorem dX4_message_73 : decode cX4_message 73 = .ok (.iload 4, 2) := by decide +kernel
theorem dX4_message_75 : decode cX4_message 75 = .ok (.iconst 2, 1) := by decide +kernel
theorem dX4_message_76 : decode cX4_message 76 = .ok (.if_icmp .ne 13, 3) := by decide +kernel
theorem dX4_message_79 : decode cX4_message 79 = .ok (.aload_n 0, 1) := by decide +kernel
theorem dX4_message_80 : decode cX4_message 80 = .ok (.getfield 54, 3) := by decide +kernel
theorem dX4_message_83 : decode cX4_message 83 = .ok (.iload 5, 2) := by decide +kernel
theorem dX4_message_85 : decode cX4_message 85 = .ok (.iaload, 1) := by decide +kernel
theorem dX4_message_86 : decode cX4_message 86 = .ok (.goto 4, 3) := by decide +kernel
theorem dX4_message_89 : decode cX4_message 89 = .ok (.iconst (-1), 1) := by decide +kernel
theorem dX4_message_90 : decode cX4_message 90 = .ok (.ireturn, 1) := by decide +kernel
theorem dX4_wrong_0 : decode cX4_wrong 0 = .ok (.aload_n 0, 1) := by decide +kernel
theorem dX4_wrong_1 : decode cX4_wrong 1 = .ok (.getfield 100, 3) := by decide +kernel
theorem dX4_wrong_4 : decode cX4_wrong 4 = .ok (.ireturn, 1) := by decide +kernel
theorem dX4_falsely_0 : decode cX4_falsely 0 = .ok (.aload_n 0, 1) := by decide +kernel
theorem dX4_falsely_1 : decode cX4_falsely 1 = .ok (.getfield 138, 3) := by decide +kernel
theorem dX4_falsely_4 : decode cX4_falsely 4 = .ok (.ireturn, 1) := by decide +kernel
theorem dX4_count_0 : decode cX4_count 0 = .ok (.iconst 0, 1) := by decide +kernel
theorem dX4_count_1 : decode cX4_count 1 = .ok (.istore_n 2, 1) := by decide +kernel
theorem dX4_count_2 : decode cX4_count 2 = .ok (.iload_n 1, 1) := by decide +kernel
theorem dX4_count_3 : decode cX4_count 3 = .ok (.tableswitch 152 0 9 #[53, 58, 66, 74, 79, 84, 92, 117, 142, 147], 53) := by decide +kernel
theorem dX4_count_56 : decode cX4_count 56 = .ok (.aload_n 0, 1) := by decide +kernel
theorem dX4_count_57 : decode cX4_count 57 = .ok (.getfield 60, 3) := by decide +kernel
theorem dX4_count_60 : decode cX4_count 60 = .ok (.ireturn, 1) := by decide +kernel
theorem dX4_count_61 : decode cX4_count 61 = .ok (.aload_n 0, 1) := by decide +kernel
theorem dX4_count_62 : decode cX4_count 62 = .ok (.getfield 83, 3) := by decide +kernel
theorem dX4_count_65 : decode cX4_count 65 = .ok (.invokestatic 159, 3) := by decide +kernel
theorem dX4_count_68 : decode cX4_count 68 = .ok (.ireturn, 1) := by decide +kernel
theorem dX4_count_69 : decode cX4_count 69 = .ok (.aload_n 0, 1) := by decide +kernel
theorem dX4_count_70 : decode cX4_count 70 = .ok (.getfield 117, 3) := by decide +kernel
theorem dX4_count_73 : decode cX4_count 73 = .ok (.invokestatic 159, 3) := by decide +kernel
theorem dX4_count_76 : decode cX4_count 76 = .ok (.ireturn, 1) := by decide +kernel
theorem dX4_count_77 : decode cX4_count 77 = .ok (.aload_n 0, 1) := by decide +kernel
theorem dX4_count_78 : decode cX4_count 78 = .ok (.getfield 126, 3) := by decide +kernel
theorem dX4_count_81 : decode cX4_count 81 = .ok (.ireturn, 1) := by decide +kernel
theorem dX4_count_82 : decode cX4_count 82 = .ok (.aload_n 0, 1) := by decide +kernel
theorem dX4_count_83 : decode cX4_count 83 = .ok (.getfield 120, 3) := by decide +kernel
theorem dX4_count_86 : decode cX4_count 86 = .ok (.ireturn, 1) := by decide +kernel
theorem dX4_count_87 : decode cX4_count 87 = .ok (.aload_n 0, 1) := by decide +kernel
theorem dX4_count_88 : decode cX4_count 88 = .ok (.getfield 123, 3) := by decide +kernel
theorem dX4_count_91 : decode cX4_count 91 = .ok (.invokestatic 159, 3) := by decide +kernel
theorem dX4_count_94 : decode cX4_count 94 = .ok (.ireturn, 1) := by decide +kernel
theorem dX4_count_95 : decode cX4_count 95 = .ok (.iconst 0, 1) := by decide +kernel
theorem dX4_count_96 : decode cX4_count 96 = .ok (.istore_n 3, 1) := by decide +kernel
theorem dX4_count_97 : decode cX4_count 97 = .ok (.iload_n 3, 1) := by decide +kernel
theorem dX4_count_98 : decode cX4_count 98 = .ok (.bipush 100, 2) := by decide +kernel
theorem dX4_count_100 : decode cX4_count 100 = .ok (.if_icmp .ge 18, 3) := by decide +kernel
theorem dX4_count_103 : decode cX4_count 103 = .ok (.iload_n 2, 1) := by decide +kernel
theorem dX4_count_104 : decode cX4_count 104 = .ok (.aload_n 0, 1) := by decide +kernel
theorem dX4_count_105 : decode cX4_count 105 = .ok (.getfield 44, 3) := by decide +kernel
theorem dX4_count_108 : decode cX4_count 108 = .ok (.iload_n 3, 1) := by decide +kernel
theorem dX4_count_109 : decode cX4_count 109 = .ok (.iaload, 1) := by decide +kernel
theorem dX4_count_110 : decode cX4_count 110 = .ok (.iadd, 1) := by decide +kernel
theorem dX4_count_111 : decode cX4_count 111 = .ok (.istore_n 2, 1) := by decide +kernel
theorem dX4_count_112 : decode cX4_count 112 = .ok (.iinc 3 1, 3) := by decide +kernel
theorem dX4_count_115 : decode cX4_count 115 = .ok (.goto (-18), 3) := by decide +kernel
theorem dX4_count_118 : decode cX4_count 118 = .ok (.iload_n 2, 1) := by decide +kernel
theorem dX4_count_119 : decode cX4_count 119 = .ok (.ireturn, 1) := by decide +kernel
theorem dX4_count_120 : decode cX4_count 120 = .ok (.iconst 0, 1) := by decide +kernel
theorem dX4_count_121 : decode cX4_count 121 = .ok (.istore_n 3, 1) := by decide +kernel
theorem dX4_count_122 : decode cX4_count 122 = .ok (.iload_n 3, 1) := by decide +kernel
theorem dX4_count_123 : decode cX4_count 123 = .ok (.bipush 100, 2) := by decide +kernel
theorem dX4_count_125 : decode cX4_count 125 = .ok (.if_icmp .ge 18, 3) := by decide +kernel
theorem dX4_count_128 : decode cX4_count 128 = .ok (.iload_n 2, 1) := by decide +kernel
theorem dX4_count_129 : decode cX4_count 129 = .ok (.aload_n 0, 1) := by decide +kernel
theorem dX4_count_130 : decode cX4_count 130 = .ok (.iload_n 3, 1) := by decide +kernel
theorem dX4_count_131 : decode cX4_count 131 = .ok (.iconst 1, 1) := by decide +kernel
theorem dX4_count_132 : decode cX4_count 132 = .ok (.invokevirtual 86, 3) := by decide +kernel
theorem dX4_count_135 : decode cX4_count 135 = .ok (.iadd, 1) := by decide +kernel
theorem dX4_count_136 : decode cX4_count 136 = .ok (.istore_n 2, 1) := by decide +kernel
theorem dX4_count_137 : decode cX4_count 137 = .ok (.iinc 3 1, 3) := by decide +kernel
theorem dX4_count_140 : decode cX4_count 140 = .ok (.goto (-18), 3) := by decide +kernel
theorem dX4_count_143 : decode cX4_count 143 = .ok (.iload_n 2, 1) := by decide +kernel
theorem dX4_count_144 : decode cX4_count 144 = .ok (.ireturn, 1) := by decide +kernel
theorem dX4_count_145 : decode cX4_count 145 = .ok (.aload_n 0, 1) := by decide +kernel
theorem dX4_count_146 : decode cX4_count 146 = .ok (.getfield 141, 3) := by decide +kernel
theorem dX4_count_149 : decode cX4_count 149 = .ok (.ireturn, 1) := by decide +kernel
theorem dX4_count_150 : decode cX4_count 150 = .ok (.aload_n 0, 1) := by decide +kernel
theorem dX4_count_151 : decode cX4_count 151 = .ok (.getfield 132, 3) := by decide +kernel
theorem dX4_count_154 : decode cX4_count 154 = .ok (.ireturn, 1) := by decide +kernel
theorem dX4_count_155 : decode cX4_count 155 = .ok (.iconst (-1), 1) := by decide +kernel
theorem dX4_count_156 : decode cX4_count 156 = .ok (.ireturn, 1) := by decide +kernel
end
section
/-! ===== FRAME: a world whose cells have names (zI), its numbers (zSt), its shape (zSh), its addresses (zAd) ===== -/
abbrev zI : Type := Nat × Nat
abbrev zAd : Type := zI → Nat
abbrev zSt : Type := Nat → Nat → Nat → Int32
abbrev zSh : Type := zI → (Nat × List (Option zI)) ⊕ (ClassId × Nat × Option (Nat → Option zI))
def z3 (S : zSt) (a b k : Nat) (v : Int32) : zSt := fun a' b' k' => if a' = a ∧ b' = b ∧ k' = k then v else S a' b' k'
def zfl (ad : zAd) (g : Nat → Int32) : Nat → List (Option zI) → List Value
  | _, [] => []
  | k, none :: ds => Value.int (g k) :: zfl ad g (k + 1) ds
  | k, some j :: ds => (if j.1 = 99 then Value.null else Value.ref (ad j)) :: zfl ad g (k + 1) ds
def zpic (sh : zSh) (ad : zAd) (S : zSt) (i : zI) : va_E := match sh i with
  | .inl x => .inr (x.1, zfl ad (S i.1 i.2) 0 x.2)
  | .inr (cA, n, none) => .inl (cA, n, .inl (S i.1 i.2))
  | .inr (cA, n, some f) => .inl (cA, n, .inr (.inr (.inr (.inr (fun k => (f k).map ad)))))
def zws (IL : List zI) (sh : zSh) (ad : zAd) (S : zSt) : va_W := IL.map (fun i => (ad i, zpic sh ad S i))
theorem zfl_get {ad : zAd} {g : Nat → Int32} : ∀ {ds : List (Option zI)} {j k : Nat}, ds[k]? = some none → (zfl ad g j ds)[k]? = some (.int (g (j + k)))
  | [], j, k, h => by simp at h
  | none :: ds, j, 0, _ => by simp [zfl]
  | some i :: ds, j, 0, h => by simp at h
  | none :: ds, j, k + 1, h => by
    have h2 : ds[k]? = some none := by simpa using h
    have := zfl_get (ad := ad) (g := g) (j := j + 1) h2
    simp only [zfl, List.getElem?_cons_succ, this]
    congr 3; omega
  | some i :: ds, j, k + 1, h => by
    have h2 : ds[k]? = some none := by simpa using h
    have := zfl_get (ad := ad) (g := g) (j := j + 1) h2
    simp only [zfl, List.getElem?_cons_succ, this]
    congr 3; omega
theorem zfl_getR {ad : zAd} {g : Nat → Int32} {i : zI} (h99 : i.1 ≠ 99) : ∀ {ds : List (Option zI)} {j k : Nat}, ds[k]? = some (some i) → (zfl ad g j ds)[k]? = some (.ref (ad i))
  | [], j, k, h => by simp at h
  | none :: ds, j, 0, h => by simp at h
  | some i' :: ds, j, 0, h => by simp at h; subst h; simp [zfl, h99]
  | none :: ds, j, k + 1, h => by
    have h2 : ds[k]? = some (some i) := by simpa using h
    simpa [zfl] using zfl_getR (ad := ad) (g := g) h99 (j := j + 1) h2
  | some i' :: ds, j, k + 1, h => by
    have h2 : ds[k]? = some (some i) := by simpa using h
    simpa [zfl] using zfl_getR (ad := ad) (g := g) h99 (j := j + 1) h2
theorem zfl_cong {ad : zAd} {g g' : Nat → Int32} : ∀ {ds : List (Option zI)} {j : Nat}, (∀ k, j ≤ k → g k = g' k) → zfl ad g j ds = zfl ad g' j ds
  | [], j, _ => rfl
  | none :: ds, j, h => by
    simp only [zfl]
    rw [h j (Nat.le_refl _), zfl_cong (ds := ds) (fun k hk => h k (by omega))]
  | some i :: ds, j, h => by
    simp only [zfl]
    rw [zfl_cong (ds := ds) (fun k hk => h k (by omega))]
theorem zfl_set {ad : zAd} {g : Nat → Int32} {v : Int32} : ∀ {ds : List (Option zI)} {j k : Nat}, ds[k]? = some none → (zfl ad g j ds).set k (.int v) = zfl ad (fun x => if x = j + k then v else g x) j ds
  | [], j, k, h => by simp at h
  | none :: ds, j, 0, _ => by
    simp only [zfl, List.set_cons_zero, Nat.add_zero, if_true]
    rw [zfl_cong (ds := ds)]
    intro k hk
    rw [if_neg (by omega)]
  | some i :: ds, j, 0, h => by simp at h
  | none :: ds, j, k + 1, h => by
    have h2 : ds[k]? = some none := by simpa using h
    simp only [zfl, List.set_cons_succ]
    rw [zfl_set (j := j + 1) h2, if_neg (by omega)]
    congr 2
    funext x
    rw [show j + 1 + k = j + (k + 1) by omega]
  | some i :: ds, j, k + 1, h => by
    have h2 : ds[k]? = some none := by simpa using h
    simp only [zfl, List.set_cons_succ]
    rw [zfl_set (j := j + 1) h2]
    congr 2
    funext x
    rw [show j + 1 + k = j + (k + 1) by omega]
theorem zfl_len {ad : zAd} {g : Nat → Int32} : ∀ {ds : List (Option zI)} {j : Nat}, (zfl ad g j ds).length = ds.length
  | [], j => rfl
  | none :: ds, j => by simp [zfl, zfl_len (ds := ds)]
  | some i :: ds, j => by simp [zfl, zfl_len (ds := ds)]
theorem zpic_obj {sh : zSh} {ad : zAd} {S : zSt} {i : zI} {ci : Nat} {ds : List (Option zI)} (h : sh i = .inl (ci, ds)) : zpic sh ad S i = .inr (ci, zfl ad (S i.1 i.2) 0 ds) := by
  simp only [zpic, h]
theorem zpic_arr {sh : zSh} {ad : zAd} {S : zSt} {i : zI} {cA : ClassId} {n : Nat} (h : sh i = .inr (cA, n, none)) : zpic sh ad S i = .inl (cA, n, .inl (S i.1 i.2)) := by
  simp only [zpic, h]
theorem zpic_ref {sh : zSh} {ad : zAd} {S : zSt} {i : zI} {cA : ClassId} {n : Nat} {f : Nat → Option zI} (h : sh i = .inr (cA, n, some f)) : zpic sh ad S i = .inl (cA, n, .inr (.inr (.inr (.inr (fun k => (f k).map ad))))) := by
  simp only [zpic, h]
theorem zpic_ne {sh : zSh} {ad : zAd} {S : zSt} {i : zI} {k : Nat} {v : Int32} {j : zI} (h : j ≠ i) : zpic sh ad (z3 S i.1 i.2 k v) j = zpic sh ad S j := by
  have hg : (z3 S i.1 i.2 k v) j.1 j.2 = S j.1 j.2 := by
    funext x
    simp only [z3]
    rw [if_neg]
    rintro ⟨h1, h2, -⟩
    exact h (Prod.ext h1 h2)
  simp only [zpic, hg]
theorem z3_row (S : zSt) (a b k : Nat) (v : Int32) : (z3 S a b k v) a b = fun x => if x = k then v else S a b x := by
  funext x
  simp [z3]
theorem zws_at {IL : List zI} {sh : zSh} {ad : zAd} {S : zSt} {i : zI} (h : i ∈ IL) : ∃ k : Nat, IL[k]? = some i ∧ (zws IL sh ad S)[k]? = some (ad i, zpic sh ad S i) := by
  obtain ⟨k, hk⟩ := List.getElem?_of_mem h
  exact ⟨k, hk, by simp [zws, hk]⟩
theorem zws_set {A : Nat → Prop} {IL : List zI} {sh sh' : zSh} {ad : zAd} {S S' : zSt} {i : zI} {k : Nat} {e : va_E} (hD : va_D A (zws IL sh ad S)) (hk : IL[k]? = some i) (he : zpic sh' ad S' i = e) (ho : ∀ j, j ≠ i → zpic sh' ad S' j = zpic sh ad S j) : (zws IL sh ad S).set k (ad i, e) = zws IL sh' ad S' := by
  have hk' : (zws IL sh ad S)[k]? = some (ad i, zpic sh ad S i) := by simp [zws, hk]
  have hl := (List.getElem?_eq_some_iff.mp hk').1
  apply List.ext_getElem?
  intro x
  by_cases hx : x = k
  · subst hx
    rw [List.getElem?_set_self hl]
    simp [zws, hk, he]
  · rw [List.getElem?_set_ne (Ne.symm hx)]
    simp only [zws, List.getElem?_map]
    cases hj : IL[x]? with
    | none => rfl
    | some j =>
      simp only [Option.map_some]
      have hne : j ≠ i := by
        intro h
        subst h
        exact hx (hD.1 x k (ad j, zpic sh ad S j) (ad j, zpic sh ad S j) (by simp [zws, hj]) hk' rfl)
      rw [ho j hne]
/-! the locals: a place holds a value of one word, or nothing is known of it -/
def zlv (lv : List (Option Value)) : List (Nat × Value) := (List.range lv.length).filterMap (fun i => (lv.getD i none).map (fun v => (i, v)))
theorem zlv_mem {lv : List (Option Value)} {q : Nat × Value} : q ∈ zlv lv ↔ lv[q.1]? = some (some q.2) := by
  obtain ⟨i, v⟩ := q
  simp only [zlv, List.mem_filterMap, List.mem_range, Option.map_eq_some_iff, Prod.mk.injEq]
  constructor
  · rintro ⟨j, hj, w, hw, rfl, rfl⟩
    rw [List.getD_eq_getElem?_getD] at hw
    rw [List.getElem?_eq_getElem hj] at hw ⊢
    simpa using hw
  · intro h
    have hl := (List.getElem?_eq_some_iff.mp h).1
    exact ⟨i, hl, v, by rw [List.getD_eq_getElem?_getD, h]; rfl, rfl, rfl⟩
def zl (ls : Array Slot) (nL : Nat) (lv : List (Option Value)) : Prop := lv_has ls nL (zlv lv) ∧ ∀ q ∈ zlv lv, q.2.category = 1
theorem zl_at {ls : Array Slot} {nL : Nat} {lv : List (Option Value)} (h : zl ls nL lv) {i : Nat} {v : Value} (hv : lv[i]? = some (some v)) : ls[i]? = some (.val v) := h.1.2.2 (i, v) (zlv_mem.mpr hv)
theorem zl_sub {ls : Array Slot} {nL : Nat} {lv lv' : List (Option Value)} (h : zl ls nL lv) (hs : ∀ (i : Nat) (v : Value), lv'[i]? = some (some v) → lv[i]? = some (some v)) : zl ls nL lv' :=
  ⟨⟨h.1.1, h.1.2.1, fun q hq => h.1.2.2 q (zlv_mem.mpr (hs q.1 q.2 (zlv_mem.mp hq)))⟩, fun q hq => h.2 q (zlv_mem.mpr (hs q.1 q.2 (zlv_mem.mp hq)))⟩
theorem zl_set {ls ls' : Array Slot} {nL : Nat} {lv : List (Option Value)} {i : Nat} {v : Value} (h : zl ls nL lv) (hc : v.category = 1) (h' : lv_has ls' nL ((i, v) :: (zlv lv).filter (fun q => !(q.1 == i) && !(q.1 + 1 == i && q.2.category == 2)))) : zl ls' nL (lv.set i (some v)) := by
  have key : ∀ q ∈ zlv (lv.set i (some v)), q = (i, v) ∨ (q.1 ≠ i ∧ q ∈ zlv lv) := by
    intro q hq
    have h1 := zlv_mem.mp hq
    by_cases hi : q.1 = i
    · rw [hi] at h1
      have hl := (List.getElem?_eq_some_iff.mp h1).1
      rw [List.length_set] at hl
      rw [List.getElem?_set_self hl] at h1
      left
      have : q.2 = v := by simpa using h1.symm
      exact Prod.ext hi this
    · rw [List.getElem?_set_ne (Ne.symm hi)] at h1
      exact Or.inr ⟨hi, zlv_mem.mpr h1⟩
  refine ⟨⟨h'.1, h'.2.1, fun q hq => ?_⟩, fun q hq => ?_⟩
  · rcases key q hq with rfl | ⟨h1, h2⟩
    · exact h'.2.2 _ List.mem_cons_self
    · refine h'.2.2 q (List.mem_cons_of_mem _ (List.mem_filter.mpr ⟨h2, ?_⟩))
      simp [h1, h.2 q h2]
  · rcases key q hq with rfl | ⟨-, h2⟩
    · exact hc
    · exact h.2 q h2
end
section
/-! ===== THE JUDGEMENT Z ===== -/
def zNest : Cond → Bool
  | .fieldLinkNest .. => true
  | .methodLinkNest .. => true
  | .arrayOver (.object _) => true
  | _ => false
def zgw : List Cond := lw_tbl.filter goodWord
def znw : List Cond := lw_tbl.filter zNest
theorem zg {w : Cond} (i : Nat) (h : lw_tbl[i]? = some w) (hg : goodWord w = true) : w ∈ zgw := List.mem_filter.mpr ⟨List.mem_of_getElem? h, hg⟩
theorem zn {w : Cond} (i : Nat) (h : lw_tbl[i]? = some w) (hg : zNest w = true) : w ∈ znw := List.mem_filter.mpr ⟨List.mem_of_getElem? h, hg⟩
theorem zGood {Y : Cond} {y : MethodName} {b : ByteArray} {n : Nat} {r : Option FieldType} (h : Cond.code y b n r ∈ zgw) : GoodIn zgw (Cond.code y b n r :: zgw) := by
  intro w hw
  have hm : w ∈ zgw := by
    rcases List.mem_cons.mp hw with rfl | h1
    · exact h
    · exact h1
  exact ⟨hm, good_of_word (List.mem_filter.mp hm).2⟩
/-- the classes of arrays: int, boolean, Worker, Row -/
abbrev zKs : Type := ClassId × ClassId × ClassId × ClassId
abbrev ztys (K : zKs) : List (ClassId × FieldType) := [(K.1, .int), (K.2.1, .boolean), (K.2.2.1, .object RX2), (K.2.2.2, .object RX0)]
def zK (D : va_G) (K : zKs) (U : State) : Prop := va_K D vwCl (ztys K) U ∧ ∀ w ∈ znw, va_Nw w U
theorem zK.moved {D : va_G} {K : zKs} {s U : State} (hW : s.WarmedH U.vm) (h : zK D K s) : zK D K U := by
  refine ⟨va_K.moved hW.alike h.1, fun w hw => ?_⟩
  have hz := (List.mem_filter.mp hw).2
  have h1 := h.2 w hw
  cases w with
  | fieldLinkNest a b c d e f => exact va_Nw.warmF hW h1
  | methodLinkNest a b c d => exact va_Nw.warmM hW h1
  | arrayOver t =>
    cases t with
    | object C => exact (va_AO.moved hW.alike (va_AO.of h1))
    | _ => simp [zNest] at hz
  | _ => simp [zNest] at hz
theorem zK.blind {D : va_G} {K : zKs} {U : State} {g : JFrame} {mk : MethodId} {a : Array Value} (h : zK D K U) : zK D K (U.calling g mk a) := by
  refine ⟨va_K.moved (u := U) (U := U.calling g mk a) (Vm.Alike.refl U.vm) h.1, fun w hw => ?_⟩
  have hz := (List.mem_filter.mp hw).2
  have h1 := h.2 w hw
  cases w with
  | fieldLinkNest a b c d e f => exact va_Nw.same (u := U) rfl rfl h1
  | methodLinkNest a b c d => exact va_Nw.same (u := U) rfl rfl h1
  | arrayOver t =>
    cases t with
    | object C => exact (va_AO.moved (u := U) (U := U.calling g mk a) (Vm.Alike.refl U.vm) (va_AO.of h1))
    | _ => simp [zNest] at hz
  | _ => simp [zNest] at hz
section ZZ
variable {p : Program} {l : Launch} {e : Env} {R : Room} {s : State} {m : MethodId} {args : Array Value} {below : List Frame} {meth : Method} {c : Code} {Q : State → Prop} {cells slots : Nat}
variable {own : String} {cc : ByteArray} {nL : Nat} {ret : Option FieldType} {D : va_G} {K : zKs} {A : Nat → Prop} {IL : List zI} {sh : zSh} {ad : zAd} {S : zSt} {pc : Nat} {lv : List (Option Value)} {st : List Value}
def zX (p : Program) (s : State) (m : MethodId) (args : Array Value) (meth : Method) (c : Code) (own : String) (cc : ByteArray) (nL : Nat) (ret : Option FieldType) (D : va_G) (K : zKs) (A : Nat → Prop) : Prop :=
  CallFix p m c cc nL s args zgw own ∧ zK D K s ∧ (∀ q : Nat, s.heap.size ≤ q → A q) ∧ meth.sig.returnType = ret ∧ meth.locks = false
def Z (p : Program) (l : Launch) (e : Env) (R : Room) (s : State) (m : MethodId) (args : Array Value) (below : List Frame) (meth : Method) (c : Code) (D : va_G) (A : Nat → Prop) (nL : Nat) (Q : State → Prop) (IL : List zI) (cells slots : Nat) (sh : zSh) (ad : zAd) (S : zSt) (pc : Nat) (lv : List (Option Value)) (st : List Value) : Prop :=
  ∀ (H : Heap) (locs : List Loc) (ls : Array Slot), va_P D vwCl (zws IL sh ad S) H → va_D A (zws IL sh ad S) → va_S A s.heap H locs → zl ls nL lv → W p l e R s m args below meth c H locs cells slots Q (F0 m pc ls st)
theorem Zr_iconst (C : zX p s m args meth c own cc nL ret D K A) {n : Int} (v : Int32) (hd : decode cc pc = .ok (.iconst n, 1)) (hv : Int32.ofInt n = v) (k : Z p l e R s m args below meth c D A nL Q IL cells slots sh ad S (pc + 1) (lv) (.int v :: st)) : Z p l e R s m args below meth c D A nL Q IL cells slots sh ad S (pc) (lv) (st) := fun H locs ls hP hD hS hl => lv_iconst C.1.1 C.1.2.1 hd hv (k H locs ls hP hD hS hl)
theorem Zr_bipush (C : zX p s m args meth c own cc nL ret D K A) {n : Int} (v : Int32) (hd : decode cc pc = .ok (.bipush n, 2)) (hv : (Int8.ofInt n).toInt32 = v) (k : Z p l e R s m args below meth c D A nL Q IL cells slots sh ad S (pc + 2) (lv) (.int v :: st)) : Z p l e R s m args below meth c D A nL Q IL cells slots sh ad S (pc) (lv) (st) := fun H locs ls hP hD hS hl => lv_bipush C.1.1 C.1.2.1 hd hv (k H locs ls hP hD hS hl)
theorem Zr_sipush (C : zX p s m args meth c own cc nL ret D K A) {n : Int} (v : Int32) (hd : decode cc pc = .ok (.sipush n, 3)) (hv : (Int16.ofInt n).toInt32 = v) (k : Z p l e R s m args below meth c D A nL Q IL cells slots sh ad S (pc + 3) (lv) (.int v :: st)) : Z p l e R s m args below meth c D A nL Q IL cells slots sh ad S (pc) (lv) (st) := fun H locs ls hP hD hS hl => lv_sipush C.1.1 C.1.2.1 hd hv (k H locs ls hP hD hS hl)
theorem Zr_null (C : zX p s m args meth c own cc nL ret D K A) (hd : decode cc pc = .ok (.aconst_null, 1)) (k : Z p l e R s m args below meth c D A nL Q IL cells slots sh ad S (pc + 1) (lv) (.null :: st)) : Z p l e R s m args below meth c D A nL Q IL cells slots sh ad S (pc) (lv) (st) := fun H locs ls hP hD hS hl => lv_null C.1.1 C.1.2.1 hd (k H locs ls hP hD hS hl)
theorem Zr_iload_n (C : zX p s m args meth c own cc nL ret D K A) {j : Fin 4} {x : Int32} (hd : decode cc pc = .ok (.iload_n j, 1)) (hx : lv[(j : Nat)]? = some (some (.int x))) (k : Z p l e R s m args below meth c D A nL Q IL cells slots sh ad S (pc + 1) (lv) (.int x :: st)) : Z p l e R s m args below meth c D A nL Q IL cells slots sh ad S (pc) (lv) (st) := fun H locs ls hP hD hS hl => lv_iload_n C.1.1 C.1.2.1 hd rfl (zl_at hl hx) (k H locs ls hP hD hS hl)
theorem Zr_iload (C : zX p s m args meth c own cc nL ret D K A) {j : Nat} {x : Int32} (hd : decode cc pc = .ok (.iload j, 2)) (hx : lv[j]? = some (some (.int x))) (k : Z p l e R s m args below meth c D A nL Q IL cells slots sh ad S (pc + 2) (lv) (.int x :: st)) : Z p l e R s m args below meth c D A nL Q IL cells slots sh ad S (pc) (lv) (st) := fun H locs ls hP hD hS hl => lv_iload C.1.1 C.1.2.1 hd (zl_at hl hx) (k H locs ls hP hD hS hl)
theorem Zr_aload_n (C : zX p s m args meth c own cc nL ret D K A) {j : Fin 4} {x : Nat} (hd : decode cc pc = .ok (.aload_n j, 1)) (hx : lv[(j : Nat)]? = some (some (.ref x))) (k : Z p l e R s m args below meth c D A nL Q IL cells slots sh ad S (pc + 1) (lv) (.ref x :: st)) : Z p l e R s m args below meth c D A nL Q IL cells slots sh ad S (pc) (lv) (st) := fun H locs ls hP hD hS hl => lv_aload_n C.1.1 C.1.2.1 hd rfl (zl_at hl hx) (k H locs ls hP hD hS hl)
theorem Zr_aload (C : zX p s m args meth c own cc nL ret D K A) {j : Nat} {x : Nat} (hd : decode cc pc = .ok (.aload j, 2)) (hx : lv[j]? = some (some (.ref x))) (k : Z p l e R s m args below meth c D A nL Q IL cells slots sh ad S (pc + 2) (lv) (.ref x :: st)) : Z p l e R s m args below meth c D A nL Q IL cells slots sh ad S (pc) (lv) (st) := fun H locs ls hP hD hS hl => lv_aload C.1.1 C.1.2.1 hd (zl_at hl hx) (k H locs ls hP hD hS hl)
theorem Zr_aload_nN (C : zX p s m args meth c own cc nL ret D K A) {j : Fin 4} (hd : decode cc pc = .ok (.aload_n j, 1)) (hx : lv[(j : Nat)]? = some (some .null)) (k : Z p l e R s m args below meth c D A nL Q IL cells slots sh ad S (pc + 1) (lv) (.null :: st)) : Z p l e R s m args below meth c D A nL Q IL cells slots sh ad S (pc) (lv) (st) := fun H locs ls hP hD hS hl => lv_aload_nN C.1.1 C.1.2.1 hd rfl (zl_at hl hx) (k H locs ls hP hD hS hl)
theorem Zr_aloadN (C : zX p s m args meth c own cc nL ret D K A) {j : Nat} (hd : decode cc pc = .ok (.aload j, 2)) (hx : lv[j]? = some (some .null)) (k : Z p l e R s m args below meth c D A nL Q IL cells slots sh ad S (pc + 2) (lv) (.null :: st)) : Z p l e R s m args below meth c D A nL Q IL cells slots sh ad S (pc) (lv) (st) := fun H locs ls hP hD hS hl => lv_aloadN C.1.1 C.1.2.1 hd (zl_at hl hx) (k H locs ls hP hD hS hl)
theorem Zr_istore_n (C : zX p s m args meth c own cc nL ret D K A) {j : Fin 4} {x : Int32} (hd : decode cc pc = .ok (.istore_n j, 1)) (hj : (j : Nat) < nL) (k : Z p l e R s m args below meth c D A nL Q IL cells slots sh ad S (pc + 1) (lv.set (j : Nat) (some (.int x))) (st)) : Z p l e R s m args below meth c D A nL Q IL cells slots sh ad S (pc) (lv) (.int x :: st) := fun H locs ls hP hD hS hl => lv_istore_n C.1.1 C.1.2.1 hd rfl hl.1 hj rfl (fun ls' h' => k H locs ls' hP hD hS (zl_set hl rfl h'))
theorem Zr_istore (C : zX p s m args meth c own cc nL ret D K A) {j : Nat} {x : Int32} (hd : decode cc pc = .ok (.istore j, 2)) (hj : j < nL) (k : Z p l e R s m args below meth c D A nL Q IL cells slots sh ad S (pc + 2) (lv.set j (some (.int x))) (st)) : Z p l e R s m args below meth c D A nL Q IL cells slots sh ad S (pc) (lv) (.int x :: st) := fun H locs ls hP hD hS hl => lv_istore C.1.1 C.1.2.1 hd hl.1 hj rfl (fun ls' h' => k H locs ls' hP hD hS (zl_set hl rfl h'))
theorem Zr_astore_n (C : zX p s m args meth c own cc nL ret D K A) {j : Fin 4} {x : Nat} (hd : decode cc pc = .ok (.astore_n j, 1)) (hj : (j : Nat) < nL) (k : Z p l e R s m args below meth c D A nL Q IL cells slots sh ad S (pc + 1) (lv.set (j : Nat) (some (.ref x))) (st)) : Z p l e R s m args below meth c D A nL Q IL cells slots sh ad S (pc) (lv) (.ref x :: st) := fun H locs ls hP hD hS hl => lv_astore_n C.1.1 C.1.2.1 hd rfl hl.1 hj rfl (fun ls' h' => k H locs ls' hP hD hS (zl_set hl rfl h'))
theorem Zr_astore (C : zX p s m args meth c own cc nL ret D K A) {j : Nat} {x : Nat} (hd : decode cc pc = .ok (.astore j, 2)) (hj : j < nL) (k : Z p l e R s m args below meth c D A nL Q IL cells slots sh ad S (pc + 2) (lv.set j (some (.ref x))) (st)) : Z p l e R s m args below meth c D A nL Q IL cells slots sh ad S (pc) (lv) (.ref x :: st) := fun H locs ls hP hD hS hl => lv_astore C.1.1 C.1.2.1 hd hl.1 hj rfl (fun ls' h' => k H locs ls' hP hD hS (zl_set hl rfl h'))
theorem Zr_astore_nN (C : zX p s m args meth c own cc nL ret D K A) {j : Fin 4} (hd : decode cc pc = .ok (.astore_n j, 1)) (hj : (j : Nat) < nL) (k : Z p l e R s m args below meth c D A nL Q IL cells slots sh ad S (pc + 1) (lv.set (j : Nat) (some .null)) (st)) : Z p l e R s m args below meth c D A nL Q IL cells slots sh ad S (pc) (lv) (.null :: st) := fun H locs ls hP hD hS hl => lv_astore_nN C.1.1 C.1.2.1 hd rfl hl.1 hj rfl (fun ls' h' => k H locs ls' hP hD hS (zl_set hl rfl h'))
theorem Zr_astoreN (C : zX p s m args meth c own cc nL ret D K A) {j : Nat} (hd : decode cc pc = .ok (.astore j, 2)) (hj : j < nL) (k : Z p l e R s m args below meth c D A nL Q IL cells slots sh ad S (pc + 2) (lv.set j (some .null)) (st)) : Z p l e R s m args below meth c D A nL Q IL cells slots sh ad S (pc) (lv) (.null :: st) := fun H locs ls hP hD hS hl => lv_astoreN C.1.1 C.1.2.1 hd hl.1 hj rfl (fun ls' h' => k H locs ls' hP hD hS (zl_set hl rfl h'))
theorem Zr_iinc (C : zX p s m args meth c own cc nL ret D K A) {j : Nat} {n : Int} {x : Int32} (v : Int32) (hd : decode cc pc = .ok (.iinc j n, 3)) (hj : j < nL) (hx : lv[j]? = some (some (.int x))) (hv : Int32.ofInt n = v) (k : Z p l e R s m args below meth c D A nL Q IL cells slots sh ad S (pc + 3) (lv.set j (some (.int (x + v)))) (st)) : Z p l e R s m args below meth c D A nL Q IL cells slots sh ad S (pc) (lv) (st) := by
  intro H locs ls hP hD hS hl
  obtain ⟨q, hq⟩ := List.getElem?_of_mem (zlv_mem.mpr hx : (j, Value.int x) ∈ zlv lv)
  exact lv_iinc C.1.1 C.1.2.1 hd hl.1 hq (by rw [hv]) hj rfl (fun ls' h' => k H locs ls' hP hD hS (zl_set hl rfl h'))
theorem Zr_iincE (C : zX p s m args meth c own cc nL ret D K A) {j : Nat} {n : Int} {x : Int32} (v y : Int32) (hd : decode cc pc = .ok (.iinc j n, 3)) (hj : j < nL) (hx : lv[j]? = some (some (.int x))) (hv : Int32.ofInt n = v) (hy : x + v = y) (k : Z p l e R s m args below meth c D A nL Q IL cells slots sh ad S (pc + 3) (lv.set j (some (.int y))) (st)) : Z p l e R s m args below meth c D A nL Q IL cells slots sh ad S (pc) (lv) (st) := by
  subst hy
  exact Zr_iinc C v hd hj hx hv k
theorem Zr_iadd (C : zX p s m args meth c own cc nL ret D K A) {x y : Int32} (hd : decode cc pc = .ok (.iadd, 1)) (k : Z p l e R s m args below meth c D A nL Q IL cells slots sh ad S (pc + 1) (lv) (.int (x + y) :: st)) : Z p l e R s m args below meth c D A nL Q IL cells slots sh ad S (pc) (lv) (.int y :: .int x :: st) := fun H locs ls hP hD hS hl => lv_iadd C.1.1 C.1.2.1 hd (k H locs ls hP hD hS hl)
theorem Zr_isub (C : zX p s m args meth c own cc nL ret D K A) {x y : Int32} (hd : decode cc pc = .ok (.isub, 1)) (k : Z p l e R s m args below meth c D A nL Q IL cells slots sh ad S (pc + 1) (lv) (.int (x - y) :: st)) : Z p l e R s m args below meth c D A nL Q IL cells slots sh ad S (pc) (lv) (.int y :: .int x :: st) := fun H locs ls hP hD hS hl => lv_isub C.1.1 C.1.2.1 hd (k H locs ls hP hD hS hl)
theorem Zr_imul (C : zX p s m args meth c own cc nL ret D K A) {x y : Int32} (hd : decode cc pc = .ok (.imul, 1)) (k : Z p l e R s m args below meth c D A nL Q IL cells slots sh ad S (pc + 1) (lv) (.int (x * y) :: st)) : Z p l e R s m args below meth c D A nL Q IL cells slots sh ad S (pc) (lv) (.int y :: .int x :: st) := fun H locs ls hP hD hS hl => lv_imul C.1.1 C.1.2.1 hd (k H locs ls hP hD hS hl)
theorem Zr_iand (C : zX p s m args meth c own cc nL ret D K A) {x y : Int32} (hd : decode cc pc = .ok (.iand, 1)) (k : Z p l e R s m args below meth c D A nL Q IL cells slots sh ad S (pc + 1) (lv) (.int (x &&& y) :: st)) : Z p l e R s m args below meth c D A nL Q IL cells slots sh ad S (pc) (lv) (.int y :: .int x :: st) := fun H locs ls hP hD hS hl => lv_iand C.1.1 C.1.2.1 hd (k H locs ls hP hD hS hl)
theorem Zr_ior (C : zX p s m args meth c own cc nL ret D K A) {x y : Int32} (hd : decode cc pc = .ok (.ior, 1)) (k : Z p l e R s m args below meth c D A nL Q IL cells slots sh ad S (pc + 1) (lv) (.int (x ||| y) :: st)) : Z p l e R s m args below meth c D A nL Q IL cells slots sh ad S (pc) (lv) (.int y :: .int x :: st) := fun H locs ls hP hD hS hl => lv_ior C.1.1 C.1.2.1 hd (k H locs ls hP hD hS hl)
theorem Zr_ixor (C : zX p s m args meth c own cc nL ret D K A) {x y : Int32} (hd : decode cc pc = .ok (.ixor, 1)) (k : Z p l e R s m args below meth c D A nL Q IL cells slots sh ad S (pc + 1) (lv) (.int (x ^^^ y) :: st)) : Z p l e R s m args below meth c D A nL Q IL cells slots sh ad S (pc) (lv) (.int y :: .int x :: st) := fun H locs ls hP hD hS hl => lv_ixor C.1.1 C.1.2.1 hd (k H locs ls hP hD hS hl)
theorem Zr_ishl (C : zX p s m args meth c own cc nL ret D K A) {x y : Int32} (hd : decode cc pc = .ok (.ishl, 1)) (k : Z p l e R s m args below meth c D A nL Q IL cells slots sh ad S (pc + 1) (lv) (.int (x <<< (y &&& 31)) :: st)) : Z p l e R s m args below meth c D A nL Q IL cells slots sh ad S (pc) (lv) (.int y :: .int x :: st) := fun H locs ls hP hD hS hl => lv_ishl C.1.1 C.1.2.1 hd (k H locs ls hP hD hS hl)
theorem Zr_ishr (C : zX p s m args meth c own cc nL ret D K A) {x y : Int32} (hd : decode cc pc = .ok (.ishr, 1)) (k : Z p l e R s m args below meth c D A nL Q IL cells slots sh ad S (pc + 1) (lv) (.int (x >>> (y &&& 31)) :: st)) : Z p l e R s m args below meth c D A nL Q IL cells slots sh ad S (pc) (lv) (.int y :: .int x :: st) := fun H locs ls hP hD hS hl => lv_ishr C.1.1 C.1.2.1 hd (k H locs ls hP hD hS hl)
theorem Zr_idiv (C : zX p s m args meth c own cc nL ret D K A) {x y : Int32} (hd : decode cc pc = .ok (.idiv, 1)) (hne : ¬ y = 0) (k : Z p l e R s m args below meth c D A nL Q IL cells slots sh ad S (pc + 1) (lv) (.int (x / y) :: st)) : Z p l e R s m args below meth c D A nL Q IL cells slots sh ad S (pc) (lv) (.int y :: .int x :: st) := fun H locs ls hP hD hS hl => lv_idiv C.1.1 C.1.2.1 hd hne (k H locs ls hP hD hS hl)
theorem Zr_irem (C : zX p s m args meth c own cc nL ret D K A) {x y : Int32} (hd : decode cc pc = .ok (.irem, 1)) (hne : ¬ y = 0) (k : Z p l e R s m args below meth c D A nL Q IL cells slots sh ad S (pc + 1) (lv) (.int (x - x / y * y) :: st)) : Z p l e R s m args below meth c D A nL Q IL cells slots sh ad S (pc) (lv) (.int y :: .int x :: st) := fun H locs ls hP hD hS hl => lv_irem C.1.1 C.1.2.1 hd hne (k H locs ls hP hD hS hl)
theorem Zr_iushr (C : zX p s m args meth c own cc nL ret D K A) {x y : Int32} (hd : decode cc pc = .ok (.iushr, 1)) (k : Z p l e R s m args below meth c D A nL Q IL cells slots sh ad S (pc + 1) (lv) (.int (x.toUInt32 >>> (y.toUInt32 &&& Int32.toUInt32 31)).toInt32 :: st)) : Z p l e R s m args below meth c D A nL Q IL cells slots sh ad S (pc) (lv) (.int y :: .int x :: st) := fun H locs ls hP hD hS hl => lv_iushr C.1.1 C.1.2.1 hd rfl (k H locs ls hP hD hS hl)
theorem Zr_dup (C : zX p s m args meth c own cc nL ret D K A) {v : Value} (hd : decode cc pc = .ok (.dup, 1)) (hv : v.category = 1) (k : Z p l e R s m args below meth c D A nL Q IL cells slots sh ad S (pc + 1) (lv) (v :: v :: st)) : Z p l e R s m args below meth c D A nL Q IL cells slots sh ad S (pc) (lv) (v :: st) := fun H locs ls hP hD hS hl => lv_dup C.1.1 C.1.2.1 hd hv (k H locs ls hP hD hS hl)
theorem Zr_dup2 (C : zX p s m args meth c own cc nL ret D K A) {u v : Value} (hd : decode cc pc = .ok (.dup2, 1)) (hu : u.category = 1) (hv : v.category = 1) (k : Z p l e R s m args below meth c D A nL Q IL cells slots sh ad S (pc + 1) (lv) (u :: v :: u :: v :: st)) : Z p l e R s m args below meth c D A nL Q IL cells slots sh ad S (pc) (lv) (u :: v :: st) := fun H locs ls hP hD hS hl => lv_dup2_11 C.1.1 C.1.2.1 hd hu hv (k H locs ls hP hD hS hl)
theorem Zr_ldc (C : zX p s m args meth c own cc nL ret D K A) {j : Nat} {v : Int32} (hw : Cond.constant own j v ∈ zgw) (hd : decode cc pc = .ok (.ldc j, 2)) (k : Z p l e R s m args below meth c D A nL Q IL cells slots sh ad S (pc + 2) (lv) (.int v :: st)) : Z p l e R s m args below meth c D A nL Q IL cells slots sh ad S (pc) (lv) (st) := fun H locs ls hP hD hS hl => lv_ldc C.1.1 C.1.2.1 C.1.2.2.2.1 (C.1.2.2.2.2 _ hw) hd (k H locs ls hP hD hS hl)
theorem Zr_ldcw (C : zX p s m args meth c own cc nL ret D K A) {j : Nat} {v : Int32} (hw : Cond.constant own j v ∈ zgw) (hd : decode cc pc = .ok (.ldc_w j, 3)) (k : Z p l e R s m args below meth c D A nL Q IL cells slots sh ad S (pc + 3) (lv) (.int v :: st)) : Z p l e R s m args below meth c D A nL Q IL cells slots sh ad S (pc) (lv) (st) := fun H locs ls hP hD hS hl => lv_ldcw C.1.1 C.1.2.1 C.1.2.2.2.1 (C.1.2.2.2.2 _ hw) hd (k H locs ls hP hD hS hl)
theorem Zr_if_eq (C : zX p s m args meth c own cc nL ret D K A) {x : Int32} {off : Int} (tgt : Nat) (hd : decode cc pc = .ok (.ifCond .eq off, 3)) (ht : (pc : Int) + off = (tgt : Int)) (kt : x = 0 → Z p l e R s m args below meth c D A nL Q IL cells slots sh ad S (tgt) (lv) (st)) (kf : ¬ x = 0 → Z p l e R s m args below meth c D A nL Q IL cells slots sh ad S (pc + 3) (lv) (st)) : Z p l e R s m args below meth c D A nL Q IL cells slots sh ad S (pc) (lv) (.int x :: st) := fun H locs ls hP hD hS hl => lv_if_eq C.1.1 C.1.2.1 hd ht (fun h => kt h H locs ls hP hD hS hl) (fun h => kf h H locs ls hP hD hS hl)
theorem Zr_if_ne (C : zX p s m args meth c own cc nL ret D K A) {x : Int32} {off : Int} (tgt : Nat) (hd : decode cc pc = .ok (.ifCond .ne off, 3)) (ht : (pc : Int) + off = (tgt : Int)) (kt : ¬ x = 0 → Z p l e R s m args below meth c D A nL Q IL cells slots sh ad S (tgt) (lv) (st)) (kf : x = 0 → Z p l e R s m args below meth c D A nL Q IL cells slots sh ad S (pc + 3) (lv) (st)) : Z p l e R s m args below meth c D A nL Q IL cells slots sh ad S (pc) (lv) (.int x :: st) := fun H locs ls hP hD hS hl => lv_if_ne C.1.1 C.1.2.1 hd ht (fun h => kt h H locs ls hP hD hS hl) (fun h => kf h H locs ls hP hD hS hl)
theorem Zr_if_lt (C : zX p s m args meth c own cc nL ret D K A) {x : Int32} {off : Int} (tgt : Nat) (hd : decode cc pc = .ok (.ifCond .lt off, 3)) (ht : (pc : Int) + off = (tgt : Int)) (kt : x < 0 → Z p l e R s m args below meth c D A nL Q IL cells slots sh ad S (tgt) (lv) (st)) (kf : ¬ x < 0 → Z p l e R s m args below meth c D A nL Q IL cells slots sh ad S (pc + 3) (lv) (st)) : Z p l e R s m args below meth c D A nL Q IL cells slots sh ad S (pc) (lv) (.int x :: st) := fun H locs ls hP hD hS hl => lv_if_lt C.1.1 C.1.2.1 hd ht (fun h => kt h H locs ls hP hD hS hl) (fun h => kf h H locs ls hP hD hS hl)
theorem Zr_if_ge (C : zX p s m args meth c own cc nL ret D K A) {x : Int32} {off : Int} (tgt : Nat) (hd : decode cc pc = .ok (.ifCond .ge off, 3)) (ht : (pc : Int) + off = (tgt : Int)) (kt : 0 ≤ x → Z p l e R s m args below meth c D A nL Q IL cells slots sh ad S (tgt) (lv) (st)) (kf : ¬ 0 ≤ x → Z p l e R s m args below meth c D A nL Q IL cells slots sh ad S (pc + 3) (lv) (st)) : Z p l e R s m args below meth c D A nL Q IL cells slots sh ad S (pc) (lv) (.int x :: st) := fun H locs ls hP hD hS hl => lv_if_ge C.1.1 C.1.2.1 hd ht (fun h => kt h H locs ls hP hD hS hl) (fun h => kf h H locs ls hP hD hS hl)
theorem Zr_if_gt (C : zX p s m args meth c own cc nL ret D K A) {x : Int32} {off : Int} (tgt : Nat) (hd : decode cc pc = .ok (.ifCond .gt off, 3)) (ht : (pc : Int) + off = (tgt : Int)) (kt : 0 < x → Z p l e R s m args below meth c D A nL Q IL cells slots sh ad S (tgt) (lv) (st)) (kf : ¬ 0 < x → Z p l e R s m args below meth c D A nL Q IL cells slots sh ad S (pc + 3) (lv) (st)) : Z p l e R s m args below meth c D A nL Q IL cells slots sh ad S (pc) (lv) (.int x :: st) := fun H locs ls hP hD hS hl => lv_if_gt C.1.1 C.1.2.1 hd ht (fun h => kt h H locs ls hP hD hS hl) (fun h => kf h H locs ls hP hD hS hl)
theorem Zr_if_le (C : zX p s m args meth c own cc nL ret D K A) {x : Int32} {off : Int} (tgt : Nat) (hd : decode cc pc = .ok (.ifCond .le off, 3)) (ht : (pc : Int) + off = (tgt : Int)) (kt : x ≤ 0 → Z p l e R s m args below meth c D A nL Q IL cells slots sh ad S (tgt) (lv) (st)) (kf : ¬ x ≤ 0 → Z p l e R s m args below meth c D A nL Q IL cells slots sh ad S (pc + 3) (lv) (st)) : Z p l e R s m args below meth c D A nL Q IL cells slots sh ad S (pc) (lv) (.int x :: st) := fun H locs ls hP hD hS hl => lv_if_le C.1.1 C.1.2.1 hd ht (fun h => kt h H locs ls hP hD hS hl) (fun h => kf h H locs ls hP hD hS hl)
theorem Zr_icmp_eq (C : zX p s m args meth c own cc nL ret D K A) {x y : Int32} {off : Int} (tgt : Nat) (hd : decode cc pc = .ok (.if_icmp .eq off, 3)) (ht : (pc : Int) + off = (tgt : Int)) (kt : x = y → Z p l e R s m args below meth c D A nL Q IL cells slots sh ad S (tgt) (lv) (st)) (kf : ¬ x = y → Z p l e R s m args below meth c D A nL Q IL cells slots sh ad S (pc + 3) (lv) (st)) : Z p l e R s m args below meth c D A nL Q IL cells slots sh ad S (pc) (lv) (.int y :: .int x :: st) := fun H locs ls hP hD hS hl => lv_icmp_eq C.1.1 C.1.2.1 hd ht (fun h => kt h H locs ls hP hD hS hl) (fun h => kf h H locs ls hP hD hS hl)
theorem Zr_icmp_ne (C : zX p s m args meth c own cc nL ret D K A) {x y : Int32} {off : Int} (tgt : Nat) (hd : decode cc pc = .ok (.if_icmp .ne off, 3)) (ht : (pc : Int) + off = (tgt : Int)) (kt : ¬ x = y → Z p l e R s m args below meth c D A nL Q IL cells slots sh ad S (tgt) (lv) (st)) (kf : x = y → Z p l e R s m args below meth c D A nL Q IL cells slots sh ad S (pc + 3) (lv) (st)) : Z p l e R s m args below meth c D A nL Q IL cells slots sh ad S (pc) (lv) (.int y :: .int x :: st) := fun H locs ls hP hD hS hl => lv_icmp_ne C.1.1 C.1.2.1 hd ht (fun h => kt h H locs ls hP hD hS hl) (fun h => kf h H locs ls hP hD hS hl)
theorem Zr_icmp_lt (C : zX p s m args meth c own cc nL ret D K A) {x y : Int32} {off : Int} (tgt : Nat) (hd : decode cc pc = .ok (.if_icmp .lt off, 3)) (ht : (pc : Int) + off = (tgt : Int)) (kt : x < y → Z p l e R s m args below meth c D A nL Q IL cells slots sh ad S (tgt) (lv) (st)) (kf : ¬ x < y → Z p l e R s m args below meth c D A nL Q IL cells slots sh ad S (pc + 3) (lv) (st)) : Z p l e R s m args below meth c D A nL Q IL cells slots sh ad S (pc) (lv) (.int y :: .int x :: st) := fun H locs ls hP hD hS hl => lv_icmp_lt C.1.1 C.1.2.1 hd ht (fun h => kt h H locs ls hP hD hS hl) (fun h => kf h H locs ls hP hD hS hl)
theorem Zr_icmp_ge (C : zX p s m args meth c own cc nL ret D K A) {x y : Int32} {off : Int} (tgt : Nat) (hd : decode cc pc = .ok (.if_icmp .ge off, 3)) (ht : (pc : Int) + off = (tgt : Int)) (kt : y ≤ x → Z p l e R s m args below meth c D A nL Q IL cells slots sh ad S (tgt) (lv) (st)) (kf : ¬ y ≤ x → Z p l e R s m args below meth c D A nL Q IL cells slots sh ad S (pc + 3) (lv) (st)) : Z p l e R s m args below meth c D A nL Q IL cells slots sh ad S (pc) (lv) (.int y :: .int x :: st) := fun H locs ls hP hD hS hl => lv_icmp_ge C.1.1 C.1.2.1 hd ht (fun h => kt h H locs ls hP hD hS hl) (fun h => kf h H locs ls hP hD hS hl)
theorem Zr_icmp_gt (C : zX p s m args meth c own cc nL ret D K A) {x y : Int32} {off : Int} (tgt : Nat) (hd : decode cc pc = .ok (.if_icmp .gt off, 3)) (ht : (pc : Int) + off = (tgt : Int)) (kt : y < x → Z p l e R s m args below meth c D A nL Q IL cells slots sh ad S (tgt) (lv) (st)) (kf : ¬ y < x → Z p l e R s m args below meth c D A nL Q IL cells slots sh ad S (pc + 3) (lv) (st)) : Z p l e R s m args below meth c D A nL Q IL cells slots sh ad S (pc) (lv) (.int y :: .int x :: st) := fun H locs ls hP hD hS hl => lv_icmp_gt C.1.1 C.1.2.1 hd ht (fun h => kt h H locs ls hP hD hS hl) (fun h => kf h H locs ls hP hD hS hl)
theorem Zr_icmp_le (C : zX p s m args meth c own cc nL ret D K A) {x y : Int32} {off : Int} (tgt : Nat) (hd : decode cc pc = .ok (.if_icmp .le off, 3)) (ht : (pc : Int) + off = (tgt : Int)) (kt : x ≤ y → Z p l e R s m args below meth c D A nL Q IL cells slots sh ad S (tgt) (lv) (st)) (kf : ¬ x ≤ y → Z p l e R s m args below meth c D A nL Q IL cells slots sh ad S (pc + 3) (lv) (st)) : Z p l e R s m args below meth c D A nL Q IL cells slots sh ad S (pc) (lv) (.int y :: .int x :: st) := fun H locs ls hP hD hS hl => lv_icmp_le C.1.1 C.1.2.1 hd ht (fun h => kt h H locs ls hP hD hS hl) (fun h => kf h H locs ls hP hD hS hl)
theorem Zr_goto (C : zX p s m args meth c own cc nL ret D K A) {off : Int} (tgt : Nat) (hd : decode cc pc = .ok (.goto off, 3)) (ht : (pc : Int) + off = (tgt : Int)) (k : Z p l e R s m args below meth c D A nL Q IL cells slots sh ad S (tgt) (lv) (st)) : Z p l e R s m args below meth c D A nL Q IL cells slots sh ad S (pc) (lv) (st) := fun H locs ls hP hD hS hl => lv_goto C.1.1 C.1.2.1 hd ht (k H locs ls hP hD hS hl)
theorem Zr_ifnull (C : zX p s m args meth c own cc nL ret D K A) {x : Nat} {off : Int} (hd : decode cc pc = .ok (.ifnull off, 3)) (k : Z p l e R s m args below meth c D A nL Q IL cells slots sh ad S (pc + 3) (lv) (st)) : Z p l e R s m args below meth c D A nL Q IL cells slots sh ad S (pc) (lv) (.ref x :: st) := fun H locs ls hP hD hS hl => lv_ifnull C.1.1 C.1.2.1 hd (k H locs ls hP hD hS hl)
theorem Zr_ifnullN (C : zX p s m args meth c own cc nL ret D K A) {off : Int} (tgt : Nat) (hd : decode cc pc = .ok (.ifnull off, 3)) (ht : (pc : Int) + off = (tgt : Int)) (k : Z p l e R s m args below meth c D A nL Q IL cells slots sh ad S (tgt) (lv) (st)) : Z p l e R s m args below meth c D A nL Q IL cells slots sh ad S (pc) (lv) (.null :: st) := fun H locs ls hP hD hS hl => lv_ifnullN C.1.1 C.1.2.1 hd ht (k H locs ls hP hD hS hl)
theorem Zr_ifnonnull (C : zX p s m args meth c own cc nL ret D K A) {x : Nat} {off : Int} (tgt : Nat) (hd : decode cc pc = .ok (.ifnonnull off, 3)) (ht : (pc : Int) + off = (tgt : Int)) (k : Z p l e R s m args below meth c D A nL Q IL cells slots sh ad S (tgt) (lv) (st)) : Z p l e R s m args below meth c D A nL Q IL cells slots sh ad S (pc) (lv) (.ref x :: st) := fun H locs ls hP hD hS hl => lv_ifnonnull C.1.1 C.1.2.1 hd ht (k H locs ls hP hD hS hl)
theorem Zr_ifnonnullN (C : zX p s m args meth c own cc nL ret D K A) {off : Int} (hd : decode cc pc = .ok (.ifnonnull off, 3)) (k : Z p l e R s m args below meth c D A nL Q IL cells slots sh ad S (pc + 3) (lv) (st)) : Z p l e R s m args below meth c D A nL Q IL cells slots sh ad S (pc) (lv) (.null :: st) := fun H locs ls hP hD hS hl => lv_ifnonnullN C.1.1 C.1.2.1 hd (k H locs ls hP hD hS hl)
theorem Zr_tableIn (C : zX p s m args meth c own cc nL ret D K A) {dflt lo hi : Int} {offs : Array Int} {len : Nat} {x : Int32} {off : Int} (tgt : Nat) (hd : decode cc pc = .ok (.tableswitch dflt lo hi offs, len)) (h1 : ¬ x.toInt < lo) (h2 : ¬ hi < x.toInt) (ho : offs[(x.toInt - lo).toNat]? = some off) (ht : (pc : Int) + off = (tgt : Int)) (k : Z p l e R s m args below meth c D A nL Q IL cells slots sh ad S (tgt) (lv) (st)) : Z p l e R s m args below meth c D A nL Q IL cells slots sh ad S (pc) (lv) (.int x :: st) := fun H locs ls hP hD hS hl => lv_tableIn C.1.1 C.1.2.1 hd h1 h2 ho ht (k H locs ls hP hD hS hl)
theorem Zr_tableOut (C : zX p s m args meth c own cc nL ret D K A) {dflt lo hi : Int} {offs : Array Int} {len : Nat} {x : Int32} (tgt : Nat) (hd : decode cc pc = .ok (.tableswitch dflt lo hi offs, len)) (h : x.toInt < lo ∨ hi < x.toInt) (ht : (pc : Int) + dflt = (tgt : Int)) (k : Z p l e R s m args below meth c D A nL Q IL cells slots sh ad S (tgt) (lv) (st)) : Z p l e R s m args below meth c D A nL Q IL cells slots sh ad S (pc) (lv) (.int x :: st) := fun H locs ls hP hD hS hl => lv_tableOut C.1.1 C.1.2.1 hd h ht (k H locs ls hP hD hS hl)
theorem Zr_cs {cells' slots' : Nat} (h1 : cells = cells') (h2 : slots = slots') (k : Z p l e R s m args below meth c D A nL Q IL cells' slots' sh ad S (pc) (lv) (st)) : Z p l e R s m args below meth c D A nL Q IL cells slots sh ad S (pc) (lv) (st) := by subst h1; subst h2; exact k
theorem Zr_widen {cells' slots' : Nat} (h1 : cells ≤ cells') (h2 : slots ≤ slots') (k : Z p l e R s m args below meth c D A nL Q IL cells' slots' sh ad S (pc) (lv) (st)) : Z p l e R s m args below meth c D A nL Q IL cells slots sh ad S (pc) (lv) (st) := fun H locs ls hP hD hS hl => W.widen h1 h2 (k H locs ls hP hD hS hl)
theorem Zr_lv {lv' : List (Option Value)} (hs : ∀ (i : Nat) (v : Value), lv'[i]? = some (some v) → lv[i]? = some (some v)) (k : Z p l e R s m args below meth c D A nL Q IL cells slots sh ad S (pc) (lv') (st)) : Z p l e R s m args below meth c D A nL Q IL cells slots sh ad S (pc) (lv) (st) := fun H locs ls hP hD hS hl => k H locs ls hP hD hS (zl_sub hl hs)
theorem Zr_forget (j : Nat) (k : Z p l e R s m args below meth c D A nL Q IL cells slots sh ad S (pc) (lv.set j none) (st)) : Z p l e R s m args below meth c D A nL Q IL cells slots sh ad S (pc) (lv) (st) := by
  refine Zr_lv (fun i v h => ?_) k
  by_cases hi : j = i
  · subst hi
    rw [List.getElem?_set] at h
    simp at h
  · rwa [List.getElem?_set_ne hi] at h
theorem Zr_S {S' : zSt} (h : S = S') (k : Z p l e R s m args below meth c D A nL Q IL cells slots sh ad S' (pc) (lv) (st)) : Z p l e R s m args below meth c D A nL Q IL cells slots sh ad S (pc) (lv) (st) := by subst h; exact k
theorem Zr_st {st' : List Value} (h : st = st') (k : Z p l e R s m args below meth c D A nL Q IL cells slots sh ad S (pc) (lv) (st')) : Z p l e R s m args below meth c D A nL Q IL cells slots sh ad S (pc) (lv) (st) := by subst h; exact k
theorem Zr_topi {x y : Int32} (h : x = y) (k : Z p l e R s m args below meth c D A nL Q IL cells slots sh ad S (pc) (lv) (.int y :: st)) : Z p l e R s m args below meth c D A nL Q IL cells slots sh ad S (pc) (lv) (.int x :: st) := by subst h; exact k
theorem Zr_iald (C : zX p s m args meth c own cc nL ret D K A) {a b n x0 : Nat} {i : Int32} (hm : (a, b) ∈ IL) (hx0 : x0 = ad (a, b)) (hs : sh (a, b) = .inr (K.1, n, none)) (hi : vp_in i n) (hd : decode cc pc = .ok (.iaload, 1)) (k : Z p l e R s m args below meth c D A nL Q IL cells slots sh ad S (pc + 1) (lv) (.int (S a b i.toNatClampNeg) :: st)) : Z p l e R s m args below meth c D A nL Q IL cells slots sh ad S (pc) (lv) (.int i :: .ref x0 :: st) := by
  subst hx0
  intro H locs ls hP hD hS hl
  obtain ⟨q, -, hq⟩ := zws_at (sh := sh) (ad := ad) (S := S) hm
  rw [zpic_arr hs] at hq
  exact va_iald C.1.1 C.1.2.1 C.2.1.1 hP q 0 hq rfl hi hd (k H locs ls hP hD hS hl)
theorem Zr_zald (C : zX p s m args meth c own cc nL ret D K A) {a b n x0 : Nat} {i : Int32} (hm : (a, b) ∈ IL) (hx0 : x0 = ad (a, b)) (hs : sh (a, b) = .inr (K.2.1, n, none)) (hi : vp_in i n) (hd : decode cc pc = .ok (.baload, 1)) (k : Z p l e R s m args below meth c D A nL Q IL cells slots sh ad S (pc + 1) (lv) (.int (S a b i.toNatClampNeg) :: st)) : Z p l e R s m args below meth c D A nL Q IL cells slots sh ad S (pc) (lv) (.int i :: .ref x0 :: st) := by
  subst hx0
  intro H locs ls hP hD hS hl
  obtain ⟨q, -, hq⟩ := zws_at (sh := sh) (ad := ad) (S := S) hm
  rw [zpic_arr hs] at hq
  exact va_zald C.1.1 C.1.2.1 C.2.1.1 hP q 1 hq rfl hi hd (k H locs ls hP hD hS hl)
theorem zpic_st {a b n i : Nat} {cA : ClassId} {v : Int32} (hs : sh (a, b) = .inr (cA, n, none)) : zpic sh ad (z3 S a b i v) (a, b) = .inl (cA, n, .inl (upd (S a b) i v)) := by
  rw [zpic_arr hs]
  congr 4
  funext x
  simp [z3, upd]
theorem Zr_iast (C : zX p s m args meth c own cc nL ret D K A) {a b n x0 : Nat} {i x : Int32} (hm : (a, b) ∈ IL) (hx0 : x0 = ad (a, b)) (hs : sh (a, b) = .inr (K.1, n, none)) (hi : vp_in i n) (hd : decode cc pc = .ok (.iastore, 1)) (k : Z p l e R s m args below meth c D A nL Q IL cells slots sh ad (z3 S a b i.toNatClampNeg x) (pc + 1) (lv) (st)) : Z p l e R s m args below meth c D A nL Q IL cells slots sh ad S (pc) (lv) (.int x :: .int i :: .ref x0 :: st) := by
  subst hx0
  intro H locs ls hP hD hS hl
  obtain ⟨q, hk, hq⟩ := zws_at (sh := sh) (ad := ad) (S := S) hm
  rw [zpic_arr hs] at hq
  refine va_iast C.1.1 C.1.2.1 C.2.1.1 hP hD hS q 0 hq rfl hi hd (fun H1 locs1 hP1 hD1 hS1 => ?_)
  rw [zws_set hD hk (zpic_st hs) (fun j hj => zpic_ne (i := (a, b)) hj)] at hP1 hD1
  exact k H1 locs1 ls hP1 hD1 hS1 hl
theorem Zr_zast (C : zX p s m args meth c own cc nL ret D K A) {a b n x0 : Nat} {i x : Int32} (hm : (a, b) ∈ IL) (hx0 : x0 = ad (a, b)) (hs : sh (a, b) = .inr (K.2.1, n, none)) (hi : vp_in i n) (hx : x = 0 ∨ x = 1) (hd : decode cc pc = .ok (.bastore, 1)) (k : Z p l e R s m args below meth c D A nL Q IL cells slots sh ad (z3 S a b i.toNatClampNeg x) (pc + 1) (lv) (st)) : Z p l e R s m args below meth c D A nL Q IL cells slots sh ad S (pc) (lv) (.int x :: .int i :: .ref x0 :: st) := by
  subst hx0
  intro H locs ls hP hD hS hl
  obtain ⟨q, hk, hq⟩ := zws_at (sh := sh) (ad := ad) (S := S) hm
  rw [zpic_arr hs] at hq
  refine va_zast C.1.1 C.1.2.1 C.2.1.1 hP hD hS q 1 hq rfl hi hd (fun H1 locs1 hP1 hD1 hS1 => ?_)
  have hx2 : vp_nar .boolean x = x := by rcases hx with rfl | rfl <;> decide +kernel
  rw [hx2] at hP1 hD1
  rw [zws_set hD hk (zpic_st hs) (fun j hj => zpic_ne (i := (a, b)) hj)] at hP1 hD1
  exact k H1 locs1 ls hP1 hD1 hS1 hl
theorem Zr_alen (C : zX p s m args meth c own cc nL ret D K A) {a b n x0 : Nat} {cA : ClassId} {f : Option (Nat → Option zI)} {ty : FieldType} (t0 : Nat) (hm : (a, b) ∈ IL) (hx0 : x0 = ad (a, b)) (hs : sh (a, b) = .inr (cA, n, f)) (ht : (ztys K)[t0]? = some (cA, ty)) (hd : decode cc pc = .ok (.arraylength, 1)) (k : Z p l e R s m args below meth c D A nL Q IL cells slots sh ad S (pc + 1) (lv) (.int (nI n) :: st)) : Z p l e R s m args below meth c D A nL Q IL cells slots sh ad S (pc) (lv) (.ref x0 :: st) := by
  subst hx0
  intro H locs ls hP hD hS hl
  obtain ⟨q, -, hq⟩ := zws_at (sh := sh) (ad := ad) (S := S) hm
  cases f with
  | none =>
    rw [zpic_arr hs] at hq
    exact va_alen C.1.1 C.1.2.1 C.2.1.1 hP q t0 hq ht rfl hd (k H locs ls hP hD hS hl)
  | some f =>
    rw [zpic_ref hs] at hq
    exact va_alen C.1.1 C.1.2.1 C.2.1.1 hP q t0 hq ht rfl hd (k H locs ls hP hD hS hl)
theorem Zr_aald (C : zX p s m args meth c own cc nL ret D K A) {a b n x0 : Nat} {cA : ClassId} {Cn : String} {f : Nat → Option zI} {i : Int32} (t0 : Nat) (hm : (a, b) ∈ IL) (hx0 : x0 = ad (a, b)) (hs : sh (a, b) = .inr (cA, n, some f)) (ht : (ztys K)[t0]? = some (cA, .object Cn)) (hi : vp_in i n) (hd : decode cc pc = .ok (.aaload, 1)) (k : Z p l e R s m args below meth c D A nL Q IL cells slots sh ad S (pc + 1) (lv) (va_rf ((f i.toNatClampNeg).map ad) :: st)) : Z p l e R s m args below meth c D A nL Q IL cells slots sh ad S (pc) (lv) (.int i :: .ref x0 :: st) := by
  subst hx0
  intro H locs ls hP hD hS hl
  obtain ⟨q, -, hq⟩ := zws_at (sh := sh) (ad := ad) (S := S) hm
  rw [zpic_ref hs] at hq
  exact va_aldq C.1.1 C.1.2.1 C.2.1.1 hP q t0 hq ht hi hd (k H locs ls hP hD hS hl)
theorem Zr_ialdN (C : zX p s m args meth c own cc nL ret D K A) {a b n x0 i : Nat} {v : Int32} (hm : (a, b) ∈ IL) (hx0 : x0 = ad (a, b)) (hs : sh (a, b) = .inr (K.1, n, none)) (hi : i < n) (hn : n < 2 ^ 31) (hv : S a b i = v) (hd : decode cc pc = .ok (.iaload, 1)) (k : Z p l e R s m args below meth c D A nL Q IL cells slots sh ad S (pc + 1) (lv) (.int v :: st)) : Z p l e R s m args below meth c D A nL Q IL cells slots sh ad S (pc) (lv) (.int (nI i) :: .ref x0 :: st) := by
  refine Zr_iald C hm hx0 hs (vp_in_nI hi hn) hd ?_
  rw [nI_clamp (Nat.lt_trans hi hn), hv]
  exact k
theorem Zr_zaldN (C : zX p s m args meth c own cc nL ret D K A) {a b n x0 i : Nat} {v : Int32} (hm : (a, b) ∈ IL) (hx0 : x0 = ad (a, b)) (hs : sh (a, b) = .inr (K.2.1, n, none)) (hi : i < n) (hn : n < 2 ^ 31) (hv : S a b i = v) (hd : decode cc pc = .ok (.baload, 1)) (k : Z p l e R s m args below meth c D A nL Q IL cells slots sh ad S (pc + 1) (lv) (.int v :: st)) : Z p l e R s m args below meth c D A nL Q IL cells slots sh ad S (pc) (lv) (.int (nI i) :: .ref x0 :: st) := by
  refine Zr_zald C hm hx0 hs (vp_in_nI hi hn) hd ?_
  rw [nI_clamp (Nat.lt_trans hi hn), hv]
  exact k
theorem Zr_iastN (C : zX p s m args meth c own cc nL ret D K A) {a b n x0 i : Nat} {x : Int32} {Rel : zSt → Prop} (hm : (a, b) ∈ IL) (hx0 : x0 = ad (a, b)) (hs : sh (a, b) = .inr (K.1, n, none)) (hi : i < n) (hn : n < 2 ^ 31) (hr : Rel (z3 S a b i x)) (hd : decode cc pc = .ok (.iastore, 1)) (k : ∀ S' : zSt, Rel S' → Z p l e R s m args below meth c D A nL Q IL cells slots sh ad S' (pc + 1) (lv) (st)) : Z p l e R s m args below meth c D A nL Q IL cells slots sh ad S (pc) (lv) (.int x :: .int (nI i) :: .ref x0 :: st) := by
  refine Zr_iast C hm hx0 hs (vp_in_nI hi hn) hd ?_
  rw [nI_clamp (Nat.lt_trans hi hn)]
  exact k _ hr
theorem Zr_zastN (C : zX p s m args meth c own cc nL ret D K A) {a b n x0 i : Nat} {x : Int32} {Rel : zSt → Prop} (hm : (a, b) ∈ IL) (hx0 : x0 = ad (a, b)) (hs : sh (a, b) = .inr (K.2.1, n, none)) (hi : i < n) (hn : n < 2 ^ 31) (hx : x = 0 ∨ x = 1) (hr : Rel (z3 S a b i x)) (hd : decode cc pc = .ok (.bastore, 1)) (k : ∀ S' : zSt, Rel S' → Z p l e R s m args below meth c D A nL Q IL cells slots sh ad S' (pc + 1) (lv) (st)) : Z p l e R s m args below meth c D A nL Q IL cells slots sh ad S (pc) (lv) (.int x :: .int (nI i) :: .ref x0 :: st) := by
  refine Zr_zast C hm hx0 hs (vp_in_nI hi hn) hx hd ?_
  rw [nI_clamp (Nat.lt_trans hi hn)]
  exact k _ hr
/-- a field that the class own reaches by the entry idx of its pool: field f of class ci -/
def zGet (own : String) (idx ci f : Nat) : Prop := ∀ {p : Program} {l : Launch} {e : Env} {R : Room} {s : State} {m : MethodId} {args : Array Value} {below : List Frame} {meth : Method} {c : Code} {Q : State → Prop} {cells slots : Nat} {cc : ByteArray} {nL : Nat} {ret : Option FieldType} {D : va_G} {K : zKs} {A : Nat → Prop} {H : Heap} {locs : List Loc} {pc : Nat} {ls : Array Slot} {rest : List Value} {ws : va_W} {q0 a : Nat} {fs : List Value} {v : Value}, zX p s m args meth c own cc nL ret D K A → va_P D vwCl ws H → ws[q0]? = some (a, .inr (ci, fs)) → fs[f]? = some v → decode cc pc = .ok (.getfield idx, 3) → W p l e R s m args below meth c H locs cells slots Q (F0 m (pc + 3) ls (v :: rest)) → W p l e R s m args below meth c H locs cells slots Q (F0 m pc ls (.ref a :: rest))
theorem zGet.of {own : String} {idx ci f : Nat} {Cn ref : String} {T : u_T} {N : Nat} (hc : vwCl[ci]? = some (Cn, T, N)) (hk : f < N) (hin : ∀ w ∈ u_ws Cn T N, w ∈ zgw) (hw : Cond.fieldLink own idx ref (T f).2.1 (T f).2.2.1 ∈ zgw) (hr : (T f).1 = ref) : zGet own idx ci f := by
  intro p l e R s m args below meth c Q cells slots cc nL ret D K A H locs pc ls rest ws q0 a fs v C hP he hv hd k
  exact va_get (Ts := zgw) C.1.1 C.1.2.1 C.1.2.2.2.2 hin C.1.2.2.2.1 C.2.1.1 hP q0 he hc f hk (C.1.2.2.2.2 _ hw) (fun x hx => by rw [← hr]; exact hx) hv hd k
theorem zGet.ofN {own : String} {idx ci f : Nat} {Cn ref host : String} {T : u_T} {N : Nat} (hc : vwCl[ci]? = some (Cn, T, N)) (hk : f < N) (hin : ∀ w ∈ u_ws Cn T N, w ∈ zgw) (hw : Cond.fieldLinkNest own idx ref (T f).2.1 (T f).2.2.1 host ∈ znw) (hr : (T f).1 = ref) : zGet own idx ci f := by
  intro p l e R s m args below meth c Q cells slots cc nL ret D K A H locs pc ls rest ws q0 a fs v C hP he hv hd k
  exact va_getN (Ts := zgw) C.1.1 C.1.2.1 C.1.2.2.2.2 hin C.1.2.2.2.1 C.2.1.1 hP q0 he hc f hk (va_Nw.use rfl (C.2.1.2 _ hw)) (fun x hx => by rw [← hr]; exact hx) hv hd k
def zPut (own : String) (idx ci f : Nat) (ty : FieldType) : Prop := ∀ {p : Program} {l : Launch} {e : Env} {R : Room} {s : State} {m : MethodId} {args : Array Value} {below : List Frame} {meth : Method} {c : Code} {Q : State → Prop} {cells slots : Nat} {cc : ByteArray} {nL : Nat} {ret : Option FieldType} {D : va_G} {K : zKs} {A : Nat → Prop} {H : Heap} {locs : List Loc} {pc : Nat} {ls : Array Slot} {rest : List Value} {ws : va_W} {q0 a : Nat} {fs : List Value} {v : Value}, zX p s m args meth c own cc nL ret D K A → va_P D vwCl ws H → va_D A ws → va_S A s.heap H locs → ws[q0]? = some (a, .inr (ci, fs)) → narrow ty v = v → fits ty v = true → f < fs.length → decode cc pc = .ok (.putfield idx, 3) → (∀ (H1 : Heap) (locs1 : List Loc), va_P D vwCl (ws.set q0 (a, .inr (ci, fs.set f v))) H1 → va_D A (ws.set q0 (a, .inr (ci, fs.set f v))) → va_S A s.heap H1 locs1 → W p l e R s m args below meth c H1 locs1 cells slots Q (F0 m (pc + 3) ls rest)) → W p l e R s m args below meth c H locs cells slots Q (F0 m pc ls (v :: .ref a :: rest))
theorem zPut.of {own : String} {idx ci f : Nat} {Cn ref : String} {T : u_T} {N : Nat} {ty : FieldType} {tys : Nat → FieldType} (hc : vwCl[ci]? = some (Cn, T, N)) (hk : f < N) (hin : ∀ w ∈ u_ws Cn T N, w ∈ zgw) (hty : ∀ k, k < N → parseFieldDescriptor (T k).2.2.1 = some (tys k)) (hnm : ∀ a, a < N → ∀ b, b < N → a ≠ b → (T a).2.1 ≠ (T b).2.1) (hw : Cond.fieldLink own idx ref (T f).2.1 (T f).2.2.1 ∈ zgw) (hr : (T f).1 = ref) (hfin : (T f).2.2.2 = false) (ht : tys f = ty) : zPut own idx ci f ty := by
  intro p l e R s m args below meth c Q cells slots cc nL ret D K A H locs pc ls rest ws q0 a fs v C hP hD hS he hn hfit hl hd k
  exact va_put (Ts := zgw) C.1.1 C.1.2.1 C.1.2.2.2.2 hin tys hty hnm C.1.2.2.2.1 C.2.1.1 hP hD hS q0 he hc f hk (C.1.2.2.2.2 _ hw) (fun x hx => by rw [← hr]; exact hx) hfin (by rw [hty f hk, ht]) hn hfit hl hd k
theorem zPut.ofN {own : String} {idx ci f : Nat} {Cn ref host : String} {T : u_T} {N : Nat} {ty : FieldType} {tys : Nat → FieldType} (hc : vwCl[ci]? = some (Cn, T, N)) (hk : f < N) (hin : ∀ w ∈ u_ws Cn T N, w ∈ zgw) (hty : ∀ k, k < N → parseFieldDescriptor (T k).2.2.1 = some (tys k)) (hnm : ∀ a, a < N → ∀ b, b < N → a ≠ b → (T a).2.1 ≠ (T b).2.1) (hw : Cond.fieldLinkNest own idx ref (T f).2.1 (T f).2.2.1 host ∈ znw) (hr : (T f).1 = ref) (hfin : (T f).2.2.2 = false) (ht : tys f = ty) : zPut own idx ci f ty := by
  intro p l e R s m args below meth c Q cells slots cc nL ret D K A H locs pc ls rest ws q0 a fs v C hP hD hS he hn hfit hl hd k
  exact va_putN (Ts := zgw) C.1.1 C.1.2.1 C.1.2.2.2.2 hin tys hty hnm C.1.2.2.2.1 C.2.1.1 hP hD hS q0 he hc f hk (va_Nw.use rfl (C.2.1.2 _ hw)) (fun x hx => by rw [← hr]; exact hx) hfin (by rw [hty f hk, ht]) hn hfit hl hd k
theorem Zr_get (C : zX p s m args meth c own cc nL ret D K A) {idx ci f a b x0 : Nat} {ds : List (Option zI)} (g : zGet own idx ci f) (hm : (a, b) ∈ IL) (hx0 : x0 = ad (a, b)) (hs : sh (a, b) = .inl (ci, ds)) (hf : ds[f]? = some none) (hd : decode cc pc = .ok (.getfield idx, 3)) (k : Z p l e R s m args below meth c D A nL Q IL cells slots sh ad S (pc + 3) (lv) (.int (S a b f) :: st)) : Z p l e R s m args below meth c D A nL Q IL cells slots sh ad S (pc) (lv) (.ref x0 :: st) := by
  subst hx0
  intro H locs ls hP hD hS hl
  obtain ⟨q, -, hq⟩ := zws_at (sh := sh) (ad := ad) (S := S) hm
  rw [zpic_obj hs] at hq
  have h1 := zfl_get (ad := ad) (g := S a b) (j := 0) hf
  rw [Nat.zero_add] at h1
  exact g C hP hq h1 hd (k H locs ls hP hD hS hl)
theorem Zr_getR (C : zX p s m args meth c own cc nL ret D K A) {idx ci f a b x0 : Nat} {j : zI} {ds : List (Option zI)} (g : zGet own idx ci f) (hm : (a, b) ∈ IL) (hx0 : x0 = ad (a, b)) (hs : sh (a, b) = .inl (ci, ds)) (hf : ds[f]? = some (some j)) (h99 : j.1 ≠ 99) (hd : decode cc pc = .ok (.getfield idx, 3)) (k : Z p l e R s m args below meth c D A nL Q IL cells slots sh ad S (pc + 3) (lv) (.ref (ad j) :: st)) : Z p l e R s m args below meth c D A nL Q IL cells slots sh ad S (pc) (lv) (.ref x0 :: st) := by
  subst hx0
  intro H locs ls hP hD hS hl
  obtain ⟨q, -, hq⟩ := zws_at (sh := sh) (ad := ad) (S := S) hm
  rw [zpic_obj hs] at hq
  exact g C hP hq (zfl_getR (ad := ad) (g := S a b) h99 (j := 0) hf) hd (k H locs ls hP hD hS hl)
theorem zpic_put {a b f ci : Nat} {ds : List (Option zI)} {v : Int32} (hs : sh (a, b) = .inl (ci, ds)) (hf : ds[f]? = some none) : zpic sh ad (z3 S a b f v) (a, b) = .inr (ci, (zfl ad (S a b) 0 ds).set f (.int v)) := by
  rw [zpic_obj hs, zfl_set hf, Nat.zero_add]
  show Sum.inr (ci, zfl ad (z3 S a b f v a b) 0 ds) = _
  rw [z3_row]
theorem Zr_put (C : zX p s m args meth c own cc nL ret D K A) {idx ci f a b x0 : Nat} {ty : FieldType} {x : Int32} {ds : List (Option zI)} (g : zPut own idx ci f ty) (hm : (a, b) ∈ IL) (hx0 : x0 = ad (a, b)) (hs : sh (a, b) = .inl (ci, ds)) (hf : ds[f]? = some none) (hn : narrow ty (.int x) = .int x ∧ fits ty (.int x) = true) (hd : decode cc pc = .ok (.putfield idx, 3)) (k : Z p l e R s m args below meth c D A nL Q IL cells slots sh ad (z3 S a b f x) (pc + 3) (lv) (st)) : Z p l e R s m args below meth c D A nL Q IL cells slots sh ad S (pc) (lv) (.int x :: .ref x0 :: st) := by
  subst hx0
  intro H locs ls hP hD hS hl
  obtain ⟨q, hk, hq⟩ := zws_at (sh := sh) (ad := ad) (S := S) hm
  rw [zpic_obj hs] at hq
  refine g C hP hD hS hq hn.1 hn.2 (by rw [zfl_len]; exact (List.getElem?_eq_some_iff.mp hf).1) hd (fun H1 locs1 hP1 hD1 hS1 => ?_)
  rw [zws_set hD hk (zpic_put hs hf) (fun j hj => zpic_ne (i := (a, b)) hj)] at hP1 hD1
  exact k H1 locs1 ls hP1 hD1 hS1 hl
theorem Zr_getE (C : zX p s m args meth c own cc nL ret D K A) {idx ci f a b x0 : Nat} {v : Int32} {ds : List (Option zI)} (g : zGet own idx ci f) (hm : (a, b) ∈ IL) (hx0 : x0 = ad (a, b)) (hs : sh (a, b) = .inl (ci, ds)) (hf : ds[f]? = some none) (hv : S a b f = v) (hd : decode cc pc = .ok (.getfield idx, 3)) (k : Z p l e R s m args below meth c D A nL Q IL cells slots sh ad S (pc + 3) (lv) (.int v :: st)) : Z p l e R s m args below meth c D A nL Q IL cells slots sh ad S (pc) (lv) (.ref x0 :: st) := by
  refine Zr_get C g hm hx0 hs hf hd ?_
  rw [hv]
  exact k
theorem Zr_putE (C : zX p s m args meth c own cc nL ret D K A) {idx ci f a b x0 : Nat} {ty : FieldType} {x : Int32} {ds : List (Option zI)} {Rel : zSt → Prop} (g : zPut own idx ci f ty) (hm : (a, b) ∈ IL) (hx0 : x0 = ad (a, b)) (hs : sh (a, b) = .inl (ci, ds)) (hf : ds[f]? = some none) (hn : narrow ty (.int x) = .int x ∧ fits ty (.int x) = true) (hr : Rel (z3 S a b f x)) (hd : decode cc pc = .ok (.putfield idx, 3)) (k : ∀ S' : zSt, Rel S' → Z p l e R s m args below meth c D A nL Q IL cells slots sh ad S' (pc + 3) (lv) (st)) : Z p l e R s m args below meth c D A nL Q IL cells slots sh ad S (pc) (lv) (.int x :: .ref x0 :: st) := Zr_put C g hm hx0 hs hf hn hd (k _ hr)
theorem znI (x : Int32) : narrow .int (.int x) = .int x ∧ fits .int (.int x) = true := ⟨rfl, rfl⟩
theorem znZ {x : Int32} (h : x = 0 ∨ x = 1) : narrow .boolean (.int x) = .int x ∧ fits .boolean (.int x) = true := by
  rcases h with rfl | rfl <;> exact ⟨by decide +kernel, by decide +kernel⟩
/-- an answer that is told, the same shape and addresses, numbers that a relation tells -/
def zR (V : Option Value) (SH : zSh) (AD : zAd) (Rel : zSt → Prop) : Option Value → zSh → zAd → zSt → Prop := fun v sh ad S => v = V ∧ sh = SH ∧ ad = AD ∧ Rel S
def zPre (IL : List zI) (sh : zSh) (ad : zAd) (S : zSt) (sz : Nat) (D : va_G) (K : zKs) (av : List Value) : Array Value → State → Prop := va_Pc av (fun U => U.heap.size = sz ∧ va_P D vwCl (zws IL sh ad S) U.heap ∧ zK D K U ∧ va_D (fun _ => True) (zws IL sh ad S))
def zQ (post : Option Value → zSh → zAd → zSt → Prop) (IL : List zI) (D : va_G) (A : Nat → Prop) : Array Value → State → Outcome → State → Prop := fun _ st oc t => (∃ (v : Option Value) (sh : zSh) (ad : zAd) (S : zSt), oc = .returned v ∧ post v sh ad S ∧ va_P D vwCl (zws IL sh ad S) t.heap ∧ va_D A (zws IL sh ad S)) ∧ va_F A st t
def zFr (IL : List zI) (sh : zSh) (ad : zAd) (S : zSt) (sz : Nat) : Nat → Prop := va_A (zws IL sh ad S) sz
def zMet (l : Launch) (y : MethodName) (b : ByteArray) (nL : Nat) (ret : Option FieldType) (rm : Room) (D : va_G) (K : zKs) (IL : List zI) (sh : zSh) (ad : zAd) (S : zSt) (av : List Value) (post : Option Value → zSh → zAd → zSt → Prop) : Prop :=
  ∀ sz : Nat, Met l y (Cond.code y b nL ret :: zgw) rm (zPre IL sh ad S sz D K av) (zQ post IL D (zFr IL sh ad S sz)) rm.cells rm.slots (zFr IL sh ad S sz)
/-- an answer and a world that are told outright -/
def zEq (V : Option Value) (SH : zSh) (AD : zAd) (SS : zSt) : Option Value → zSh → zAd → zSt → Prop := fun v sh ad S => v = V ∧ sh = SH ∧ ad = AD ∧ S = SS
theorem zEnter {y : MethodName} {rm : Room} {av : List Value} {post : Option Value → zSh → zAd → zSt → Prop} {lv0 : List (Option Value)} (hy : plainName y.cls = true) (hown : y.cls = own) (hav : ∀ v ∈ av, v.category = 1) (hn : av.length ≤ nL) (hlv : lv0 = av.map some ++ List.replicate (nL - av.length) none)
    (h : ∀ (p : Program) (e : Env) (s : State) (m : MethodId) (below : List Frame) (meth : Method) (c : Code) (A : Nat → Prop), zX p s m av.toArray meth c own cc nL ret D K A → (ret = none ∨ meth.name = y.name) → meth.name = y.name → Z p l e rm s m av.toArray below meth c D A nL (MQ below (zQ post IL D A) av.toArray s rm.cells rm.slots A) IL 0 0 sh ad S 0 lv0 []) : zMet l y cc nL ret rm D K IL sh ad S av post := by
  intro sz
  refine Met.ofW (cc := cc) (maxL := nL) (ret := ret) hy rfl ?_
  intro p e s m args below meth c s₁ B hml hv
  obtain ⟨rfl, hsz, hP, hK, hD0⟩ := hv
  have hts : ∀ w ∈ (Cond.code y cc nL ret :: zgw), w.before av.toArray s = true := atoms_spec (ws := Cond.code y cc nL ret :: zgw) B.pre
  have hownC : s.vm.findClass own = some m.cls := by rw [← hown]; exact findClass_of_methodNamed B.named
  subst hsz
  have hD := hD0.self (sz := s.heap.size)
  have hA : ∀ q : Nat, s.heap.size ≤ q → zFr IL sh ad S s.heap.size q := fun q h => Or.inr h
  have hnm : meth.name = y.name := (name_of_methodNamed B.named B.method).1
  have C : zX p s m av.toArray meth c own cc nL ret D K (zFr IL sh ad S s.heap.size) := ⟨⟨B.exec, B.bytes, hml, hownC, fun w hw => hts w (List.mem_cons_of_mem _ hw)⟩, hK, hA, B.returns, B.notSynchronized⟩
  have hk := h p e s m below meth c _ C (Or.inr hnm) hnm
  rw [lg_entry_eq]
  have hslen : (lg_sl av).length = av.length ∧ (lv_args 0 av) = zlv lv0 → True := fun _ => trivial
  refine hk s.heap [] _ hP hD va_S.rf ?_
  have hlg : ∀ (vs : List Value), (∀ v ∈ vs, v.category = 1) → lg_sl vs = vs.map Slot.val := by
    intro vs
    induction vs with
    | nil => intro _; rfl
    | cons v vs ih =>
      intro hvs
      have h1 := hvs v List.mem_cons_self
      have h2 := ih (fun x hx => hvs x (List.mem_cons_of_mem _ hx))
      simp only [lg_sl, List.flatMap_cons, List.map_cons] at h2 ⊢
      rw [h2]
      simp [h1]
  rw [hlg av hav, hlv]
  have hmem : ∀ q ∈ zlv (av.map some ++ List.replicate (nL - av.length) none), av[q.1]? = some q.2 := by
    intro q hq
    have h1 := zlv_mem.mp hq
    by_cases hl : q.1 < av.length
    · rw [List.getElem?_append_left (by simpa using hl)] at h1
      simpa using h1
    · rw [List.getElem?_append_right (by simpa using Nat.le_of_not_lt hl)] at h1
      rw [List.getElem?_replicate] at h1
      split at h1 <;> simp at h1
  refine ⟨⟨by simp; omega, ⟨fun i v hi hc => ?_, fun i hi => ?_⟩, fun q hq => ?_⟩, fun q hq => hav _ (List.mem_of_getElem? (hmem q hq))⟩
  · exfalso
    rw [List.getElem?_toArray] at hi
    have hm := List.mem_of_getElem? hi
    rcases List.mem_append.mp hm with hm | hm
    · obtain ⟨w, hw, he⟩ := List.mem_map.mp hm
      cases he
      rw [hav _ hw] at hc
      exact absurd hc (by decide)
    · have := (List.mem_replicate.mp hm).2
      cases this
  · exfalso
    rw [List.getElem?_toArray] at hi
    have hm := List.mem_of_getElem? hi
    rcases List.mem_append.mp hm with hm | hm
    · obtain ⟨w, hw, he⟩ := List.mem_map.mp hm
      cases he
    · have := (List.mem_replicate.mp hm).2
      cases this
  · have h1 := hmem q hq
    have hl := (List.getElem?_eq_some_iff.mp h1).1
    rw [List.getElem?_toArray, List.getElem?_append_left (by simpa using hl)]
    simp [h1]
theorem Zr_iret {post : Option Value → zSh → zAd → zSt → Prop} {mc ms : Nat} {v : Int32} (C : zX p s m args meth c own cc nL (some .int) D K A) (hd : decode cc pc = .ok (.ireturn, 1)) (h1 : cells ≤ mc) (h2 : slots ≤ ms) (hp : post (some (.int v)) sh ad S) : Z p l e R s m args below meth c D A nL (MQ below (zQ post IL D A) args s mc ms A) IL cells slots sh ad S (pc) lv ([.int v]) := by
  intro H locs ls hP hD hS hl
  refine W.widen h1 h2 ?_
  exact W.iret (hlocks := C.2.2.2.2) C.1.1 C.1.2.1 C.2.2.2.1 (fun t ht hW => ⟨⟨_, sh, ad, S, rfl, hp, by rw [ht]; exact hP, hD⟩, hS.F ht⟩) hS.2.2 hd
theorem Zr_zret {post : Option Value → zSh → zAd → zSt → Prop} {mc ms : Nat} {v : Int32} (C : zX p s m args meth c own cc nL (some .boolean) D K A) (hd : decode cc pc = .ok (.ireturn, 1)) (h1 : cells ≤ mc) (h2 : slots ≤ ms) (hv : v = 0 ∨ v = 1) (hp : post (some (.int v)) sh ad S) : Z p l e R s m args below meth c D A nL (MQ below (zQ post IL D A) args s mc ms A) IL cells slots sh ad S (pc) lv ([.int v]) := by
  intro H locs ls hP hD hS hl
  refine W.widen h1 h2 ?_
  exact W.zret (hlocks := C.2.2.2.2) C.1.1 C.1.2.1 C.2.2.2.1 (znZ hv).1 (fun t ht hW => ⟨⟨_, sh, ad, S, rfl, hp, by rw [ht]; exact hP, hD⟩, hS.F ht⟩) hS.2.2 hd
theorem Zr_vret {post : Option Value → zSh → zAd → zSt → Prop} {mc ms : Nat} (C : zX p s m args meth c own cc nL none D K A) (hd : decode cc pc = .ok (.return_, 1)) (h1 : cells ≤ mc) (h2 : slots ≤ ms) (hp : post none sh ad S) : Z p l e R s m args below meth c D A nL (MQ below (zQ post IL D A) args s mc ms A) IL cells slots sh ad S (pc) lv ([]) := by
  intro H locs ls hP hD hS hl
  refine W.widen h1 h2 ?_
  exact W.vret (hlocks := C.2.2.2.2) C.1.1 C.1.2.1 C.2.2.2.1 (fun t ht hW => ⟨⟨_, sh, ad, S, rfl, hp, by rw [ht]; exact hP, hD⟩, hS.F ht⟩) hS.2.2 hd
theorem Zr_aret {post : Option Value → zSh → zAd → zSt → Prop} {mc ms : Nat} {v : Value} {rt : FieldType} (C : zX p s m args meth c own cc nL (some rt) D K A) (hrt : (∃ n, rt = .object n) ∨ ∃ t, rt = .array t) (hv : v = .null ∨ ∃ a, v = .ref a) (hd : decode cc pc = .ok (.areturn, 1)) (h1 : cells ≤ mc) (h2 : slots ≤ ms) (hp : post (some v) sh ad S) : Z p l e R s m args below meth c D A nL (MQ below (zQ post IL D A) args s mc ms A) IL cells slots sh ad S (pc) lv ([v]) := by
  intro H locs ls hP hD hS hl
  refine W.widen h1 h2 ?_
  exact W.aret (hlocks := C.2.2.2.2) C.1.1 C.1.2.1 C.2.2.2.1 hrt hv (fun t ht hW => ⟨⟨_, sh, ad, S, rfl, hp, by rw [ht]; exact hP, hD⟩, hS.F ht⟩) hS.2.2 hd
theorem zPre.blind {sz : Nat} {av : List Value} : FrameBlind (zPre IL sh ad S sz D K av) := fun a U g mk q => ⟨q.1, q.2.1, q.2.2.1, q.2.2.2.1.blind, q.2.2.2.2⟩
theorem zPre.ok {av : List Value} {H : Heap} (hK : zK D K s) (hP : va_P D vwCl (zws IL sh ad S) H) (hD : va_D A (zws IL sh ad S)) : ∀ U : State, U.heap = H → s.WarmedH U.vm → zPre IL sh ad S H.size D K av av.toArray U := fun U hU hW => ⟨rfl, by rw [hU], by rw [hU]; exact hP, hK.moved hW, hD.weaken (fun _ _ _ _ => trivial)⟩
theorem zFr.le {H : Heap} {locs : List Loc} (C : zX p s m args meth c own cc nL ret D K A) (hD : va_D A (zws IL sh ad S)) (hS : va_S A s.heap H locs) : ∀ q, zFr IL sh ad S H.size q → A q := by
  intro q h
  rcases h with ⟨k, e, h⟩ | h
  · exact hD.2 k (q, e) h
  · exact C.2.2.1 q (Nat.le_trans hS.1 h)
theorem zAfter {post : Option Value → zSh → zAd → zSt → Prop} {H : Heap} {locs : List Loc} {ls : Array Slot} {rest st0 : List Value} {a : Array Value} {mc ms : Nat} (C : zX p s m args meth c own cc nL ret D K A) (hD : va_D A (zws IL sh ad S)) (hS : va_S A s.heap H locs) (hl : zl ls nL lv)
    (hr : va_Run p l e R s m args below meth c H locs cells slots mc ms (F0 m pc ls st0) rest (zQ post IL D (zFr IL sh ad S H.size) a) (zFr IL sh ad S H.size))
    (kk : ∀ (v : Option Value) (sh' : zSh) (ad' : zAd) (S' : zSt), post v sh' ad' S' → Z p l e R s m args below meth c D A nL Q IL (cells + mc) (slots + ms) sh' ad' S' (pc + 3) lv (v.toList ++ rest)) : W p l e R s m args below meth c H locs cells slots Q (F0 m pc ls st0) := by
  intro T hT X
  obtain ⟨v, st₀, t, T', L, h0, X', hL, e1, e2, ⟨⟨v', sh', ad', S', hv, hp, hP', hD'⟩, hz, hk⟩, st⟩ := hr T hT X
  cases hv
  rw [h0] at hz hk
  have hF := zFr.le C hD hS
  obtain ⟨t2, a1, b1⟩ := kk v sh' ad' S' hp T'.heap (locs ++ L) ls (by rw [e1]; exact hP') (hD'.weaken (fun _ _ _ h => hF _ h))
    ⟨Nat.le_trans hS.1 (by rw [e1]; exact hz), fun q h1 h2 => by rw [e1, hk q (Nat.lt_of_lt_of_le h1 hS.1) (fun z => h2 (hF q z))]; exact hS.2.1 q h1 h2, fun q hq => by
      rcases List.mem_append.mp hq with h | h
      · exact hS.2.2 q h
      · exact hF _ (hL q h)⟩ hl T' rfl X'
  exact ⟨t2, st t2 a1, b1⟩
/-- the words of a call: invokevirtual, invokestatic, by a link or by the nest's -/
def zCV (own : String) (idx : Nat) (Cn : String) (y : MethodName) (b : ByteArray) (nL : Nat) (ret : Option FieldType) (n : Nat) : Prop := ∀ {p : Program} {l : Launch} {e : Env} {R : Room} {s : State} {m : MethodId} {args : Array Value} {below : List Frame} {meth : Method} {c : Code} {cells slots : Nat} {cc : ByteArray} {nL0 : Nat} {ret0 : Option FieldType} {D : va_G} {K : zKs} {A : Nat → Prop} {H : Heap} {locs : List Loc} {pc : Nat} {ls : Array Slot} {rest st : List Value} {rm : Room} {Pc : Array Value → State → Prop} {Qc : Array Value → State → Outcome → State → Prop} {free : Addr → Prop} {h : Nat} {As : List Value}, zX p s m args meth c own cc nL0 ret0 D K A → Met l y (Cond.code y b nL ret :: zgw) rm Pc Qc rm.cells rm.slots free → rm.frames + 1 ≤ R.frames → 8 + (nL + 11) + rm.locals ≤ R.locals → PreV s H Cn h Pc As → As.length = n → ls.size = nL0 → st = As.reverse ++ .ref h :: rest → (rest.map fun v => v.category).sum ≤ 8 → decode cc pc = .ok (.invokevirtual idx, 3) → cells + rm.cells ≤ R.cells ∧ slots + rm.slots ≤ R.slots → va_Run p l e R s m args below meth c H locs cells slots rm.cells rm.slots (F0 m pc ls st) rest (Qc (Value.ref h :: As).toArray) free
def zCS (own : String) (idx : Nat) (y : MethodName) (b : ByteArray) (nL : Nat) (ret : Option FieldType) (n : Nat) : Prop := ∀ {p : Program} {l : Launch} {e : Env} {R : Room} {s : State} {m : MethodId} {args : Array Value} {below : List Frame} {meth : Method} {c : Code} {cells slots : Nat} {cc : ByteArray} {nL0 : Nat} {ret0 : Option FieldType} {D : va_G} {K : zKs} {A : Nat → Prop} {H : Heap} {locs : List Loc} {pc : Nat} {ls : Array Slot} {rest st : List Value} {rm : Room} {Pc : Array Value → State → Prop} {Qc : Array Value → State → Outcome → State → Prop} {free : Addr → Prop} {As : List Value}, zX p s m args meth c own cc nL0 ret0 D K A → Met l y (Cond.code y b nL ret :: zgw) rm Pc Qc rm.cells rm.slots free → rm.frames + 1 ≤ R.frames → 8 + (nL + 11) + rm.locals ≤ R.locals → PreS s H Pc As → As.length = n → ls.size = nL0 → st = As.reverse ++ rest → (rest.map fun v => v.category).sum ≤ 8 → decode cc pc = .ok (.invokestatic idx, 3) → cells + rm.cells ≤ R.cells ∧ slots + rm.slots ≤ R.slots → va_Run p l e R s m args below meth c H locs cells slots rm.cells rm.slots (F0 m pc ls st) rest (Qc As.toArray) free
theorem zCV.of {idx n nL : Nat} {Cn : String} {y : MethodName} {b : ByteArray} {ret : Option FieldType} (hcode : Cond.code y b nL ret ∈ zgw) (h1 : Cond.methodLink own idx y ∈ zgw) (h2 : Cond.instanceMethod y ∈ zgw) (h3 : Cond.selects Cn y y ∈ zgw) (h4 : Cond.initialized Cn ∈ zgw) (hd : y.cls = Cn ∧ y.cls ≠ "java/lang/invoke/MethodHandle" ∧ y.cls ≠ "java/lang/invoke/VarHandle" ∧ (parseMethodDescriptor y.desc).map (fun d => d.parameters.length) = some n) : zCV own idx Cn y b nL ret n := by
  intro p l e R s m args below meth c cells slots cc nL0 ret0 D K A H locs pc ls rest st rm Pc Qc free h As C hM hf hlo hp hn hsz hst hcat hdg hroom
  have hG : GoodIn zgw (wsV own idx Cn y (Cond.code y b nL ret :: zgw)) := by
    intro w hw
    have hm : w ∈ zgw := by
      unfold wsV at hw
      simp only [List.cons_append, List.nil_append, List.mem_cons] at hw
      rcases hw with rfl | rfl | rfl | rfl | rfl | hw
      · exact h1
      · exact h2
      · exact h3
      · exact h4
      · exact hcode
      · exact hw
    exact ⟨hm, good_of_word (List.mem_filter.mp hm).2⟩
  exact va_runV C.1 hM (cwV n C.1.2.2.2.2 hG rfl rfl rfl hd ⟨hf, hlo⟩) hp rfl hn hsz hst (lv_room hcat) hdg hroom
theorem zCS.of {idx n nL : Nat} {y : MethodName} {b : ByteArray} {ret : Option FieldType} (hcode : Cond.code y b nL ret ∈ zgw) (h1 : Cond.methodLink own idx y ∈ zgw) (h2 : Cond.static y ∈ zgw) (h3 : Cond.initialized y.cls ∈ zgw) (hd : y.cls ≠ "java/lang/invoke/MethodHandle" ∧ y.cls ≠ "java/lang/invoke/VarHandle" ∧ (parseMethodDescriptor y.desc).map (fun d => d.parameters.length) = some n) : zCS own idx y b nL ret n := by
  intro p l e R s m args below meth c cells slots cc nL0 ret0 D K A H locs pc ls rest st rm Pc Qc free As C hM hf hlo hp hn hsz hst hcat hdg hroom
  have hG : GoodIn zgw (Cond.code y b nL ret :: zgw) := zGood (Y := Cond.tt) hcode
  exact va_runS C.1 hM ⟨callB_of n C.1.2.2.2.2 hG rfl rfl rfl (C.1.2.2.2.2 _ h3) (C.1.2.2.2.2 _ h1) hd ⟨hf, hlo⟩, C.1.2.2.2.2 _ h2⟩ hp rfl hn hsz hst (lv_room hcat) hdg hroom
theorem zCS.ofN {idx n nL : Nat} {y : MethodName} {host : String} {b : ByteArray} {ret : Option FieldType} (hcode : Cond.code y b nL ret ∈ zgw) (h1 : Cond.methodLinkNest own idx y host ∈ znw) (h2 : Cond.static y ∈ zgw) (h3 : Cond.initialized y.cls ∈ zgw) (hd : y.cls ≠ "java/lang/invoke/MethodHandle" ∧ y.cls ≠ "java/lang/invoke/VarHandle" ∧ (parseMethodDescriptor y.desc).map (fun d => d.parameters.length) = some n) : zCS own idx y b nL ret n := by
  intro p l e R s m args below meth c cells slots cc nL0 ret0 D K A H locs pc ls rest st rm Pc Qc free As C hM hf hlo hp hn hsz hst hcat hdg hroom
  have hG : GoodIn zgw (Cond.code y b nL ret :: zgw) := zGood (Y := Cond.tt) hcode
  exact va_runSN C.1 hM ⟨va_cnB n C.1.2.2.2.2 hG rfl rfl rfl (C.2.1.2 _ h1) (C.1.2.2.2.2 _ h3) hd ⟨hf, hlo⟩, C.1.2.2.2.2 _ h2, trivial⟩ hp rfl hn hsz hst (lv_room hcat) hdg hroom
theorem Zr_invV (C : zX p s m args meth c own cc nL ret D K A) {y : MethodName} {b : ByteArray} {nLc n idx ci a1 b1 : Nat} {Cn : String} {T : u_T} {N : Nat} {retc : Option FieldType} {rm : Room} {ds : List (Option zI)} {st0 : List Value} {post : Option Value → zSh → zAd → zSt → Prop} (As : List Value) (cw : zCV own idx Cn y b nLc retc n) (hM : zMet l y b nLc retc rm D K IL sh ad S (.ref (ad (a1, b1)) :: As) post) (hm : (a1, b1) ∈ IL) (hs : sh (a1, b1) = .inl (ci, ds)) (hc : vwCl[ci]? = some (Cn, T, N)) (hst : st0 = As.reverse ++ .ref (ad (a1, b1)) :: st) (hfr : rm.frames + 1 ≤ R.frames) (hlo : 8 + (nLc + 11) + rm.locals ≤ R.locals) (hn : As.length = n) (hcat : (st.map fun v => v.category).sum ≤ 8) (hd : decode cc pc = .ok (.invokevirtual idx, 3)) (hroom : cells + rm.cells ≤ R.cells ∧ slots + rm.slots ≤ R.slots) (kk : ∀ (v : Option Value) (sh' : zSh) (ad' : zAd) (S' : zSt), post v sh' ad' S' → Z p l e R s m args below meth c D A nL Q IL (cells + rm.cells) (slots + rm.slots) sh' ad' S' (pc + 3) lv (v.toList ++ st)) : Z p l e R s m args below meth c D A nL Q IL cells slots sh ad S (pc) (lv) (st0) := by
  intro H locs ls hP hD hS hl
  obtain ⟨q, -, hq⟩ := zws_at (sh := sh) (ad := ad) (S := S) hm
  rw [zpic_obj hs] at hq
  exact zAfter C hD hS hl (cw C (hM H.size) hfr hlo ⟨zPre.blind, va_recv C.2.1.1 hP hc hq, zPre.ok C.2.1 hP hD⟩ hn hl.1.1 hst hcat hd hroom) kk
theorem Zr_invS (C : zX p s m args meth c own cc nL ret D K A) {y : MethodName} {b : ByteArray} {nLc n idx : Nat} {retc : Option FieldType} {rm : Room} {st0 : List Value} {post : Option Value → zSh → zAd → zSt → Prop} (As : List Value) (cw : zCS own idx y b nLc retc n) (hM : zMet l y b nLc retc rm D K IL sh ad S As post) (hst : st0 = As.reverse ++ st) (hfr : rm.frames + 1 ≤ R.frames) (hlo : 8 + (nLc + 11) + rm.locals ≤ R.locals) (hn : As.length = n) (hcat : (st.map fun v => v.category).sum ≤ 8) (hd : decode cc pc = .ok (.invokestatic idx, 3)) (hroom : cells + rm.cells ≤ R.cells ∧ slots + rm.slots ≤ R.slots) (kk : ∀ (v : Option Value) (sh' : zSh) (ad' : zAd) (S' : zSt), post v sh' ad' S' → Z p l e R s m args below meth c D A nL Q IL (cells + rm.cells) (slots + rm.slots) sh' ad' S' (pc + 3) lv (v.toList ++ st)) : Z p l e R s m args below meth c D A nL Q IL cells slots sh ad S (pc) (lv) (st0) := by
  intro H locs ls hP hD hS hl
  exact zAfter C hD hS hl (cw C (hM H.size) hfr hlo ⟨zPre.blind, zPre.ok C.2.1 hP hD⟩ hn hl.1.1 hst hcat hd hroom) kk
theorem Zr_callV (C : zX p s m args meth c own cc nL ret D K A) {y : MethodName} {b : ByteArray} {nLc n idx ci a1 b1 fr lo : Nat} {Cn : String} {T : u_T} {N : Nat} {retc : Option FieldType} {ds : List (Option zI)} {st0 As : List Value} {v : Value} {SH : zSh} {AD : zAd} {SS : zSt} (cw : zCV own idx Cn y b nLc retc n) (hM : zMet l y b nLc retc { frames := fr, cells := 0, slots := 0, locals := lo } D K IL sh ad S (.ref (ad (a1, b1)) :: As) (zEq (some v) SH AD SS)) (hm : (a1, b1) ∈ IL) (hs : sh (a1, b1) = .inl (ci, ds)) (hc : vwCl[ci]? = some (Cn, T, N)) (hst : st0 = As.reverse ++ .ref (ad (a1, b1)) :: st) (hfr : fr + 1 ≤ R.frames) (hlo : 8 + (nLc + 11) + lo ≤ R.locals) (hn : As.length = n) (hcat : (st.map fun v => v.category).sum ≤ 8) (hd : decode cc pc = .ok (.invokevirtual idx, 3)) (hroom : cells ≤ R.cells ∧ slots ≤ R.slots) (kk : Z p l e R s m args below meth c D A nL Q IL cells slots SH AD SS (pc + 3) lv (v :: st)) : Z p l e R s m args below meth c D A nL Q IL cells slots sh ad S (pc) (lv) (st0) := by
  refine Zr_invV C As cw hM hm hs hc hst hfr hlo hn hcat hd hroom (fun v sh' ad' S' hp => ?_)
  obtain ⟨rfl, rfl, rfl, rfl⟩ := hp
  exact kk
theorem Zr_callS (C : zX p s m args meth c own cc nL ret D K A) {y : MethodName} {b : ByteArray} {nLc n idx fr lo : Nat} {retc : Option FieldType} {st0 As : List Value} {v : Value} {SH : zSh} {AD : zAd} {SS : zSt} (cw : zCS own idx y b nLc retc n) (hM : zMet l y b nLc retc { frames := fr, cells := 0, slots := 0, locals := lo } D K IL sh ad S As (zEq (some v) SH AD SS)) (hst : st0 = As.reverse ++ st) (hfr : fr + 1 ≤ R.frames) (hlo : 8 + (nLc + 11) + lo ≤ R.locals) (hn : As.length = n) (hcat : (st.map fun v => v.category).sum ≤ 8) (hd : decode cc pc = .ok (.invokestatic idx, 3)) (hroom : cells ≤ R.cells ∧ slots ≤ R.slots) (kk : Z p l e R s m args below meth c D A nL Q IL cells slots SH AD SS (pc + 3) lv (v :: st)) : Z p l e R s m args below meth c D A nL Q IL cells slots sh ad S (pc) (lv) (st0) := by
  refine Zr_invS C As cw hM hst hfr hlo hn hcat hd hroom (fun v sh' ad' S' hp => ?_)
  obtain ⟨rfl, rfl, rfl, rfl⟩ := hp
  exact kk
theorem Zr_callVv (C : zX p s m args meth c own cc nL ret D K A) {y : MethodName} {b : ByteArray} {nLc n idx ci a1 b1 fr lo : Nat} {Cn : String} {T : u_T} {N : Nat} {retc : Option FieldType} {ds : List (Option zI)} {st0 As : List Value} {SH : zSh} {AD : zAd} {SS : zSt} (cw : zCV own idx Cn y b nLc retc n) (hM : zMet l y b nLc retc { frames := fr, cells := 0, slots := 0, locals := lo } D K IL sh ad S (.ref (ad (a1, b1)) :: As) (zEq (none) SH AD SS)) (hm : (a1, b1) ∈ IL) (hs : sh (a1, b1) = .inl (ci, ds)) (hc : vwCl[ci]? = some (Cn, T, N)) (hst : st0 = As.reverse ++ .ref (ad (a1, b1)) :: st) (hfr : fr + 1 ≤ R.frames) (hlo : 8 + (nLc + 11) + lo ≤ R.locals) (hn : As.length = n) (hcat : (st.map fun v => v.category).sum ≤ 8) (hd : decode cc pc = .ok (.invokevirtual idx, 3)) (hroom : cells ≤ R.cells ∧ slots ≤ R.slots) (kk : Z p l e R s m args below meth c D A nL Q IL cells slots SH AD SS (pc + 3) lv (st)) : Z p l e R s m args below meth c D A nL Q IL cells slots sh ad S (pc) (lv) (st0) := by
  refine Zr_invV C As cw hM hm hs hc hst hfr hlo hn hcat hd hroom (fun v sh' ad' S' hp => ?_)
  obtain ⟨rfl, rfl, rfl, rfl⟩ := hp
  exact kk
theorem Zr_callSv (C : zX p s m args meth c own cc nL ret D K A) {y : MethodName} {b : ByteArray} {nLc n idx fr lo : Nat} {retc : Option FieldType} {st0 As : List Value} {SH : zSh} {AD : zAd} {SS : zSt} (cw : zCS own idx y b nLc retc n) (hM : zMet l y b nLc retc { frames := fr, cells := 0, slots := 0, locals := lo } D K IL sh ad S As (zEq (none) SH AD SS)) (hst : st0 = As.reverse ++ st) (hfr : fr + 1 ≤ R.frames) (hlo : 8 + (nLc + 11) + lo ≤ R.locals) (hn : As.length = n) (hcat : (st.map fun v => v.category).sum ≤ 8) (hd : decode cc pc = .ok (.invokestatic idx, 3)) (hroom : cells ≤ R.cells ∧ slots ≤ R.slots) (kk : Z p l e R s m args below meth c D A nL Q IL cells slots SH AD SS (pc + 3) lv (st)) : Z p l e R s m args below meth c D A nL Q IL cells slots sh ad S (pc) (lv) (st0) := by
  refine Zr_invS C As cw hM hst hfr hlo hn hcat hd hroom (fun v sh' ad' S' hp => ?_)
  obtain ⟨rfl, rfl, rfl, rfl⟩ := hp
  exact kk
theorem Zr_callVR (C : zX p s m args meth c own cc nL ret D K A) {y : MethodName} {b : ByteArray} {nLc n idx ci a1 b1 fr lo : Nat} {Cn : String} {T : u_T} {N : Nat} {retc : Option FieldType} {ds : List (Option zI)} {st0 As : List Value} {v : Value} {Rel : zSt → Prop} (cw : zCV own idx Cn y b nLc retc n) (hM : zMet l y b nLc retc { frames := fr, cells := 0, slots := 0, locals := lo } D K IL sh ad S (.ref (ad (a1, b1)) :: As) (zR (some v) sh ad Rel)) (hm : (a1, b1) ∈ IL) (hs : sh (a1, b1) = .inl (ci, ds)) (hc : vwCl[ci]? = some (Cn, T, N)) (hst : st0 = As.reverse ++ .ref (ad (a1, b1)) :: st) (hfr : fr + 1 ≤ R.frames) (hlo : 8 + (nLc + 11) + lo ≤ R.locals) (hn : As.length = n) (hcat : (st.map fun v => v.category).sum ≤ 8) (hd : decode cc pc = .ok (.invokevirtual idx, 3)) (hroom : cells ≤ R.cells ∧ slots ≤ R.slots) (kk : ∀ S' : zSt, Rel S' → Z p l e R s m args below meth c D A nL Q IL cells slots sh ad S' (pc + 3) lv (v :: st)) : Z p l e R s m args below meth c D A nL Q IL cells slots sh ad S (pc) (lv) (st0) := by
  refine Zr_invV C As cw hM hm hs hc hst hfr hlo hn hcat hd hroom (fun v sh' ad' S' hp => ?_)
  obtain ⟨rfl, rfl, rfl, hp⟩ := hp
  exact kk S' hp
theorem Zr_callVRv (C : zX p s m args meth c own cc nL ret D K A) {y : MethodName} {b : ByteArray} {nLc n idx ci a1 b1 fr lo : Nat} {Cn : String} {T : u_T} {N : Nat} {retc : Option FieldType} {ds : List (Option zI)} {st0 As : List Value} {Rel : zSt → Prop} (cw : zCV own idx Cn y b nLc retc n) (hM : zMet l y b nLc retc { frames := fr, cells := 0, slots := 0, locals := lo } D K IL sh ad S (.ref (ad (a1, b1)) :: As) (zR (none) sh ad Rel)) (hm : (a1, b1) ∈ IL) (hs : sh (a1, b1) = .inl (ci, ds)) (hc : vwCl[ci]? = some (Cn, T, N)) (hst : st0 = As.reverse ++ .ref (ad (a1, b1)) :: st) (hfr : fr + 1 ≤ R.frames) (hlo : 8 + (nLc + 11) + lo ≤ R.locals) (hn : As.length = n) (hcat : (st.map fun v => v.category).sum ≤ 8) (hd : decode cc pc = .ok (.invokevirtual idx, 3)) (hroom : cells ≤ R.cells ∧ slots ≤ R.slots) (kk : ∀ S' : zSt, Rel S' → Z p l e R s m args below meth c D A nL Q IL cells slots sh ad S' (pc + 3) lv (st)) : Z p l e R s m args below meth c D A nL Q IL cells slots sh ad S (pc) (lv) (st0) := by
  refine Zr_invV C As cw hM hm hs hc hst hfr hlo hn hcat hd hroom (fun v sh' ad' S' hp => ?_)
  obtain ⟨rfl, rfl, rfl, hp⟩ := hp
  exact kk S' hp
end ZZ
end
section
set_option maxRecDepth 20000 in
theorem inG0 : ∀ w ∈ wsX00, w ∈ zgw := by decide +kernel
set_option maxRecDepth 20000 in
theorem inG1 : ∀ w ∈ wsX10, w ∈ zgw := by decide +kernel
set_option maxRecDepth 20000 in
theorem inG2 : ∀ w ∈ wsX20, w ∈ zgw := by decide +kernel
set_option maxRecDepth 20000 in
theorem inG3 : ∀ w ∈ wsX30, w ∈ zgw := by decide +kernel
set_option maxRecDepth 20000 in
theorem inG4 : ∀ w ∈ wsX40, w ∈ zgw := by decide +kernel
set_option maxRecDepth 20000 in
theorem cd_X3_init : Cond.code yX3_init cX3_init 3 none ∈ zgw := (zg 44 rfl rfl)
set_option maxRecDepth 20000 in
theorem cd_J9_min_7cf53 : Cond.code yJ9_min_7cf53 cJ9_min_7cf53 2 (some .int) ∈ zgw := (zg 50 rfl rfl)
set_option maxRecDepth 20000 in
theorem cd_J9_max_7cf53 : Cond.code yJ9_max_7cf53 cJ9_max_7cf53 2 (some .int) ∈ zgw := (zg 53 rfl rfl)
set_option maxRecDepth 20000 in
theorem cd_X3_newWorkers : Cond.code yX3_newWorkers cX3_newWorkers 3 (some (.array (.object "QuietWatch$Worker"))) ∈ zgw := (zg 56 rfl rfl)
set_option maxRecDepth 20000 in
theorem cd_X2_init : Cond.code yX2_init cX2_init 2 none ∈ zgw := (zg 62 rfl rfl)
set_option maxRecDepth 20000 in
theorem cd_X3_newRows : Cond.code yX3_newRows cX3_newRows 4 (some (.array (.object "QuietWatch$Row"))) ∈ zgw := (zg 107 rfl rfl)
set_option maxRecDepth 20000 in
theorem cd_X0_init : Cond.code yX0_init cX0_init 1 none ∈ zgw := (zg 113 rfl rfl)
set_option maxRecDepth 20000 in
theorem cd_X1_init : Cond.code yX1_init cX1_init 1 none ∈ zgw := (zg 134 rfl rfl)
set_option maxRecDepth 20000 in
theorem cd_X3_start : Cond.code yX3_start cX3_start 1 (some .boolean) ∈ zgw := (zg 190 rfl rfl)
set_option maxRecDepth 20000 in
theorem cd_X3_send : Cond.code yX3_send cX3_send 5 (some .boolean) ∈ zgw := (zg 194 rfl rfl)
set_option maxRecDepth 20000 in
theorem cd_X3_workerAt : Cond.code yX3_workerAt cX3_workerAt 2 (some (.object "QuietWatch$Worker")) ∈ zgw := (zg 198 rfl rfl)
set_option maxRecDepth 20000 in
theorem cd_X3_isProcess : Cond.code yX3_isProcess cX3_isProcess 2 (some .boolean) ∈ zgw := (zg 202 rfl rfl)
set_option maxRecDepth 20000 in
theorem cd_X3_rowBetween : Cond.code yX3_rowBetween cX3_rowBetween 3 (some (.object "QuietWatch$Row")) ∈ zgw := (zg 206 rfl rfl)
set_option maxRecDepth 20000 in
theorem cd_X2_isFree : Cond.code yX2_isFree cX2_isFree 1 (some .boolean) ∈ zgw := (zg 210 rfl rfl)
set_option maxRecDepth 20000 in
theorem cd_X2_isBlocked : Cond.code yX2_isBlocked cX2_isBlocked 1 (some .boolean) ∈ zgw := (zg 214 rfl rfl)
set_option maxRecDepth 20000 in
theorem cd_X0_append : Cond.code yX0_append cX0_append 2 none ∈ zgw := (zg 218 rfl rfl)
set_option maxRecDepth 20000 in
theorem cd_X0_grow : Cond.code yX0_grow cX0_grow 3 none ∈ zgw := (zg 222 rfl rfl)
set_option maxRecDepth 20000 in
theorem cd_X0_placeOf : Cond.code yX0_placeOf cX0_placeOf 3 (some .int) ∈ zgw := (zg 226 rfl rfl)
set_option maxRecDepth 20000 in
theorem cd_X3_kindOf : Cond.code yX3_kindOf cX3_kindOf 1 (some .int) ∈ zgw := (zg 229 rfl rfl)
set_option maxRecDepth 20000 in
theorem cd_X3_oneIf : Cond.code yX3_oneIf cX3_oneIf 1 (some .int) ∈ zgw := (zg 232 rfl rfl)
set_option maxRecDepth 20000 in
theorem cd_X3_rest : Cond.code yX3_rest cX3_rest 3 (some .boolean) ∈ zgw := (zg 236 rfl rfl)
set_option maxRecDepth 20000 in
theorem cd_X3_leaveTreeIfDone : Cond.code yX3_leaveTreeIfDone cX3_leaveTreeIfDone 3 none ∈ zgw := (zg 240 rfl rfl)
set_option maxRecDepth 20000 in
theorem cd_X3_isInTree : Cond.code yX3_isInTree cX3_isInTree 3 (some .boolean) ∈ zgw := (zg 244 rfl rfl)
set_option maxRecDepth 20000 in
theorem cd_X3_judgeEnd : Cond.code yX3_judgeEnd cX3_judgeEnd 1 none ∈ zgw := (zg 248 rfl rfl)
set_option maxRecDepth 20000 in
theorem cd_X3_quiet : Cond.code yX3_quiet cX3_quiet 2 (some .boolean) ∈ zgw := (zg 252 rfl rfl)
set_option maxRecDepth 20000 in
theorem cd_X3_worksUnderWay : Cond.code yX3_worksUnderWay cX3_worksUnderWay 6 (some .int) ∈ zgw := (zg 256 rfl rfl)
set_option maxRecDepth 20000 in
theorem cd_X3_put : Cond.code yX3_put cX3_put 5 none ∈ zgw := (zg 260 rfl rfl)
set_option maxRecDepth 20000 in
theorem cd_X3_ask : Cond.code yX3_ask cX3_ask 5 (some .int) ∈ zgw := (zg 264 rfl rfl)
set_option maxRecDepth 20000 in
theorem cd_X3_allOf : Cond.code yX3_allOf cX3_allOf 1 (some .int) ∈ zgw := (zg 267 rfl rfl)
set_option maxRecDepth 20000 in
theorem cd_X3_bitOf : Cond.code yX3_bitOf cX3_bitOf 1 (some .int) ∈ zgw := (zg 270 rfl rfl)
set_option maxRecDepth 20000 in
theorem cd_X3_putToEach : Cond.code yX3_putToEach cX3_putToEach 6 none ∈ zgw := (zg 274 rfl rfl)
set_option maxRecDepth 20000 in
theorem cd_X3_holds : Cond.code yX3_holds cX3_holds 2 (some .boolean) ∈ zgw := (zg 277 rfl rfl)
set_option maxRecDepth 20000 in
theorem cd_J6_bitCount_0f7a4 : Cond.code yJ6_bitCount_0f7a4 cJ6_bitCount_0f7a4 1 (some .int) ∈ zgw := (zg 280 rfl rfl)
set_option maxRecDepth 20000 in
theorem cd_X3_answer : Cond.code yX3_answer cX3_answer 5 (some .boolean) ∈ zgw := (zg 287 rfl rfl)
set_option maxRecDepth 20000 in
theorem cd_X3_probe : Cond.code yX3_probe cX3_probe 3 (some .int) ∈ zgw := (zg 292 rfl rfl)
set_option maxRecDepth 20000 in
theorem cd_X3_probeOf : Cond.code yX3_probeOf cX3_probeOf 2 (some .int) ∈ zgw := (zg 295 rfl rfl)
set_option maxRecDepth 20000 in
theorem cd_X3_pass : Cond.code yX3_pass cX3_pass 3 (some .int) ∈ zgw := (zg 299 rfl rfl)
set_option maxRecDepth 20000 in
theorem cd_X1_collect : Cond.code yX1_collect cX1_collect 2 none ∈ zgw := (zg 303 rfl rfl)
set_option maxRecDepth 20000 in
theorem cd_X3_giveToken : Cond.code yX3_giveToken cX3_giveToken 3 none ∈ zgw := (zg 307 rfl rfl)
set_option maxRecDepth 20000 in
theorem cd_X1_showsEndTo : Cond.code yX1_showsEndTo cX1_showsEndTo 2 (some .boolean) ∈ zgw := (zg 311 rfl rfl)
set_option maxRecDepth 20000 in
theorem cd_X1_beginRound : Cond.code yX1_beginRound cX1_beginRound 1 none ∈ zgw := (zg 315 rfl rfl)
set_option maxRecDepth 20000 in
theorem cd_X3_receive : Cond.code yX3_receive cX3_receive 6 (some .int) ∈ zgw := (zg 319 rfl rfl)
set_option maxRecDepth 20000 in
theorem cd_X0_takeFirst : Cond.code yX0_takeFirst cX0_takeFirst 2 (some .int) ∈ zgw := (zg 323 rfl rfl)
set_option maxRecDepth 20000 in
theorem cd_X3_takeWork : Cond.code yX3_takeWork cX3_takeWork 4 none ∈ zgw := (zg 328 rfl rfl)
set_option maxRecDepth 20000 in
theorem cd_X3_takeProbe : Cond.code yX3_takeProbe cX3_takeProbe 6 none ∈ zgw := (zg 332 rfl rfl)
set_option maxRecDepth 20000 in
theorem cd_X3_beginnerOf : Cond.code yX3_beginnerOf cX3_beginnerOf 1 (some .int) ∈ zgw := (zg 335 rfl rfl)
set_option maxRecDepth 20000 in
theorem cd_X3_tellDead : Cond.code yX3_tellDead cX3_tellDead 3 none ∈ zgw := (zg 339 rfl rfl)
set_option maxRecDepth 20000 in
theorem cd_X3_isInRing : Cond.code yX3_isInRing cX3_isInRing 5 (some .boolean) ∈ zgw := (zg 343 rfl rfl)
set_option maxRecDepth 20000 in
theorem cd_X2_hangsOn : Cond.code yX2_hangsOn cX2_hangsOn 1 (some .int) ∈ zgw := (zg 347 rfl rfl)
set_option maxRecDepth 20000 in
theorem cd_X3_numberOf : Cond.code yX3_numberOf cX3_numberOf 1 (some .int) ∈ zgw := (zg 350 rfl rfl)
set_option maxRecDepth 20000 in
theorem cd_X2_noteIfNewer : Cond.code yX2_noteIfNewer cX2_noteIfNewer 3 (some .boolean) ∈ zgw := (zg 354 rfl rfl)
set_option maxRecDepth 20000 in
theorem cd_X3_run : Cond.code yX3_run cX3_run 10 (some .int) ∈ zgw := (zg 358 rfl rfl)
set_option maxRecDepth 20000 in
theorem cd_X3_told : Cond.code yX3_told cX3_told 4 (some .int) ∈ zgw := (zg 365 rfl rfl)
set_option maxRecDepth 20000 in
theorem cd_X3_waits : Cond.code yX3_waits cX3_waits 4 (some .boolean) ∈ zgw := (zg 370 rfl rfl)
set_option maxRecDepth 20000 in
theorem cd_X3_message : Cond.code yX3_message cX3_message 7 (some .int) ∈ zgw := (zg 374 rfl rfl)
set_option maxRecDepth 20000 in
theorem cd_X0_at : Cond.code yX0_at cX0_at 2 (some .int) ∈ zgw := (zg 378 rfl rfl)
set_option maxRecDepth 20000 in
theorem cd_X3_wrong : Cond.code yX3_wrong cX3_wrong 1 (some .int) ∈ zgw := (zg 383 rfl rfl)
set_option maxRecDepth 20000 in
theorem cd_X3_falsely : Cond.code yX3_falsely cX3_falsely 1 (some .int) ∈ zgw := (zg 387 rfl rfl)
set_option maxRecDepth 20000 in
theorem cd_X3_count : Cond.code yX3_count cX3_count 2 (some .int) ∈ zgw := (zg 391 rfl rfl)
set_option maxRecDepth 20000 in
theorem cd_X3_messagesUnderWay : Cond.code yX3_messagesUnderWay cX3_messagesUnderWay 6 (some .int) ∈ zgw := (zg 395 rfl rfl)
set_option maxRecDepth 20000 in
theorem cd_L_cell : Cond.code yL_cell cL_cell 2 (some .int) ∈ zgw := (zg 398 rfl rfl)
set_option maxRecDepth 20000 in
theorem cd_X4_init : Cond.code yX4_init cX4_init 3 none ∈ zgw := (zg 403 rfl rfl)
set_option maxRecDepth 20000 in
theorem cd_X4_quiet : Cond.code yX4_quiet cX4_quiet 3 (some .boolean) ∈ zgw := (zg 492 rfl rfl)
set_option maxRecDepth 20000 in
theorem cd_X4_row : Cond.code yX4_row cX4_row 2 (some .int) ∈ zgw := (zg 495 rfl rfl)
set_option maxRecDepth 20000 in
theorem cd_X4_counted : Cond.code yX4_counted cX4_counted 5 (some .int) ∈ zgw := (zg 499 rfl rfl)
set_option maxRecDepth 20000 in
theorem cd_X4_start : Cond.code yX4_start cX4_start 1 (some .boolean) ∈ zgw := (zg 503 rfl rfl)
set_option maxRecDepth 20000 in
theorem cd_X4_send : Cond.code yX4_send cX4_send 3 (some .boolean) ∈ zgw := (zg 507 rfl rfl)
set_option maxRecDepth 20000 in
theorem cd_X4_isRow : Cond.code yX4_isRow cX4_isRow 3 (some .boolean) ∈ zgw := (zg 511 rfl rfl)
set_option maxRecDepth 20000 in
theorem cd_X4_isOne : Cond.code yX4_isOne cX4_isOne 2 (some .boolean) ∈ zgw := (zg 515 rfl rfl)
set_option maxRecDepth 20000 in
theorem cd_X4_isFree : Cond.code yX4_isFree cX4_isFree 2 (some .boolean) ∈ zgw := (zg 519 rfl rfl)
set_option maxRecDepth 20000 in
theorem cd_X4_isBlocked : Cond.code yX4_isBlocked cX4_isBlocked 2 (some .boolean) ∈ zgw := (zg 523 rfl rfl)
set_option maxRecDepth 20000 in
theorem cd_X4_waitsFor : Cond.code yX4_waitsFor cX4_waitsFor 4 (some .int) ∈ zgw := (zg 527 rfl rfl)
set_option maxRecDepth 20000 in
theorem cd_X4_sends : Cond.code yX4_sends cX4_sends 8 none ∈ zgw := (zg 531 rfl rfl)
set_option maxRecDepth 20000 in
theorem cd_X4_rest : Cond.code yX4_rest cX4_rest 2 (some .boolean) ∈ zgw := (zg 535 rfl rfl)
set_option maxRecDepth 20000 in
theorem cd_X4_settles : Cond.code yX4_settles cX4_settles 3 none ∈ zgw := (zg 539 rfl rfl)
set_option maxRecDepth 20000 in
theorem cd_X4_isInTree : Cond.code yX4_isInTree cX4_isInTree 2 (some .boolean) ∈ zgw := (zg 543 rfl rfl)
set_option maxRecDepth 20000 in
theorem cd_X4_ask : Cond.code yX4_ask cX4_ask 5 (some .int) ∈ zgw := (zg 548 rfl rfl)
set_option maxRecDepth 20000 in
theorem cd_X4_answer : Cond.code yX4_answer cX4_answer 3 (some .boolean) ∈ zgw := (zg 552 rfl rfl)
set_option maxRecDepth 20000 in
theorem cd_X4_probe : Cond.code yX4_probe cX4_probe 2 (some .int) ∈ zgw := (zg 556 rfl rfl)
set_option maxRecDepth 20000 in
theorem cd_X4_probes : Cond.code yX4_probes cX4_probes 5 none ∈ zgw := (zg 560 rfl rfl)
set_option maxRecDepth 20000 in
theorem cd_X4_pass : Cond.code yX4_pass cX4_pass 2 (some .int) ∈ zgw := (zg 564 rfl rfl)
set_option maxRecDepth 20000 in
theorem cd_X4_receive : Cond.code yX4_receive cX4_receive 9 (some .int) ∈ zgw := (zg 568 rfl rfl)
set_option maxRecDepth 20000 in
theorem cd_X4_work : Cond.code yX4_work cX4_work 3 none ∈ zgw := (zg 572 rfl rfl)
set_option maxRecDepth 20000 in
theorem cd_X4_probed : Cond.code yX4_probed cX4_probed 5 none ∈ zgw := (zg 576 rfl rfl)
set_option maxRecDepth 20000 in
theorem cd_X4_isInRing : Cond.code yX4_isInRing cX4_isInRing 5 (some .boolean) ∈ zgw := (zg 580 rfl rfl)
set_option maxRecDepth 20000 in
theorem cd_X4_hangs : Cond.code yX4_hangs cX4_hangs 3 (some .boolean) ∈ zgw := (zg 584 rfl rfl)
set_option maxRecDepth 20000 in
theorem cd_X4_run : Cond.code yX4_run cX4_run 10 (some .int) ∈ zgw := (zg 588 rfl rfl)
set_option maxRecDepth 20000 in
theorem cd_X4_told : Cond.code yX4_told cX4_told 3 (some .int) ∈ zgw := (zg 595 rfl rfl)
set_option maxRecDepth 20000 in
theorem cd_X4_toInt : Cond.code yX4_toInt cX4_toInt 1 (some .int) ∈ zgw := (zg 598 rfl rfl)
set_option maxRecDepth 20000 in
theorem cd_X4_pendingAt : Cond.code yX4_pendingAt cX4_pendingAt 4 (some .int) ∈ zgw := (zg 602 rfl rfl)
set_option maxRecDepth 20000 in
theorem cd_X4_waits : Cond.code yX4_waits cX4_waits 3 (some .boolean) ∈ zgw := (zg 606 rfl rfl)
set_option maxRecDepth 20000 in
theorem cd_X4_message : Cond.code yX4_message cX4_message 6 (some .int) ∈ zgw := (zg 610 rfl rfl)
set_option maxRecDepth 20000 in
theorem cd_X4_wrong : Cond.code yX4_wrong cX4_wrong 1 (some .int) ∈ zgw := (zg 614 rfl rfl)
set_option maxRecDepth 20000 in
theorem cd_X4_falsely : Cond.code yX4_falsely cX4_falsely 1 (some .int) ∈ zgw := (zg 618 rfl rfl)
set_option maxRecDepth 20000 in
theorem cd_X4_count : Cond.code yX4_count cX4_count 4 (some .int) ∈ zgw := (zg 622 rfl rfl)
set_option maxRecDepth 20000 in
theorem cw_X3_9 : zCS RX3 9 yJ9_min_7cf53 cJ9_min_7cf53 2 (some .int) 2 := zCS.of cd_J9_min_7cf53 (zg 48 rfl rfl) (zg 49 rfl rfl) (zg 34 rfl rfl) (by decide +kernel)
set_option maxRecDepth 20000 in
theorem cw_X3_15 : zCS RX3 15 yJ9_max_7cf53 cJ9_max_7cf53 2 (some .int) 2 := zCS.of cd_J9_max_7cf53 (zg 51 rfl rfl) (zg 52 rfl rfl) (zg 34 rfl rfl) (by decide +kernel)
set_option maxRecDepth 20000 in
theorem cw_X3_22 : zCS RX3 22 yX3_newWorkers cX3_newWorkers 3 (some (.array (.object "QuietWatch$Worker"))) 1 := zCS.of cd_X3_newWorkers (zg 54 rfl rfl) (zg 55 rfl rfl) (zg 33 rfl rfl) (by decide +kernel)
set_option maxRecDepth 20000 in
theorem gf_X2_15 : zGet RX2 15 2 0 := zGet.of (ref := "QuietWatch$Worker") (T := TX2) (N := 11) rfl (by decide) inG2 (zg 64 rfl rfl) rfl
set_option maxRecDepth 20000 in
theorem gf_X3_49 : zGet RX3 49 2 1 := zGet.ofN (ref := "QuietWatch$Worker") (host := "QuietWatch") (T := TX2) (N := 11) rfl (by decide) inG2 (zn 65 rfl rfl) rfl
set_option maxRecDepth 20000 in
theorem pf_X3_49 : zPut RX3 49 2 1 .boolean := zPut.ofN (f := 1) (ref := "QuietWatch$Worker") (host := "QuietWatch") (T := TX2) (N := 11) (tys := tyX2) rfl (by decide) inG2 tyX2_ok nmX2 (zn 65 rfl rfl) rfl rfl rfl
set_option maxRecDepth 20000 in
theorem gf_X2_22 : zGet RX2 22 2 1 := zGet.of (ref := "QuietWatch$Worker") (T := TX2) (N := 11) rfl (by decide) inG2 (zg 66 rfl rfl) rfl
set_option maxRecDepth 20000 in
theorem pf_X2_22 : zPut RX2 22 2 1 .boolean := zPut.of (f := 1) (ref := "QuietWatch$Worker") (T := TX2) (N := 11) (tys := tyX2) rfl (by decide) inG2 tyX2_ok nmX2 (zg 66 rfl rfl) rfl rfl rfl
set_option maxRecDepth 20000 in
theorem gf_X1_22 : zGet RX1 22 2 2 := zGet.ofN (ref := "QuietWatch$Worker") (host := "QuietWatch") (T := TX2) (N := 11) rfl (by decide) inG2 (zn 67 rfl rfl) rfl
set_option maxRecDepth 20000 in
theorem pf_X1_22 : zPut RX1 22 2 2 .boolean := zPut.ofN (f := 2) (ref := "QuietWatch$Worker") (host := "QuietWatch") (T := TX2) (N := 11) (tys := tyX2) rfl (by decide) inG2 tyX2_ok nmX2 (zn 67 rfl rfl) rfl rfl rfl
set_option maxRecDepth 20000 in
theorem gf_X3_150 : zGet RX3 150 2 2 := zGet.ofN (ref := "QuietWatch$Worker") (host := "QuietWatch") (T := TX2) (N := 11) rfl (by decide) inG2 (zn 68 rfl rfl) rfl
set_option maxRecDepth 20000 in
theorem pf_X3_150 : zPut RX3 150 2 2 .boolean := zPut.ofN (f := 2) (ref := "QuietWatch$Worker") (host := "QuietWatch") (T := TX2) (N := 11) (tys := tyX2) rfl (by decide) inG2 tyX2_ok nmX2 (zn 68 rfl rfl) rfl rfl rfl
set_option maxRecDepth 20000 in
theorem gf_X2_9 : zGet RX2 9 2 3 := zGet.of (ref := "QuietWatch$Worker") (T := TX2) (N := 11) rfl (by decide) inG2 (zg 69 rfl rfl) rfl
set_option maxRecDepth 20000 in
theorem pf_X2_9 : zPut RX2 9 2 3 .int := zPut.of (f := 3) (ref := "QuietWatch$Worker") (T := TX2) (N := 11) (tys := tyX2) rfl (by decide) inG2 tyX2_ok nmX2 (zg 69 rfl rfl) rfl rfl rfl
set_option maxRecDepth 20000 in
theorem gf_X3_189 : zGet RX3 189 2 3 := zGet.ofN (ref := "QuietWatch$Worker") (host := "QuietWatch") (T := TX2) (N := 11) rfl (by decide) inG2 (zn 70 rfl rfl) rfl
set_option maxRecDepth 20000 in
theorem pf_X3_189 : zPut RX3 189 2 3 .int := zPut.ofN (f := 3) (ref := "QuietWatch$Worker") (host := "QuietWatch") (T := TX2) (N := 11) (tys := tyX2) rfl (by decide) inG2 tyX2_ok nmX2 (zn 70 rfl rfl) rfl rfl rfl
set_option maxRecDepth 20000 in
theorem gf_X3_71 : zGet RX3 71 2 4 := zGet.ofN (ref := "QuietWatch$Worker") (host := "QuietWatch") (T := TX2) (N := 11) rfl (by decide) inG2 (zn 71 rfl rfl) rfl
set_option maxRecDepth 20000 in
theorem pf_X3_71 : zPut RX3 71 2 4 .int := zPut.ofN (f := 4) (ref := "QuietWatch$Worker") (host := "QuietWatch") (T := TX2) (N := 11) (tys := tyX2) rfl (by decide) inG2 tyX2_ok nmX2 (zn 71 rfl rfl) rfl rfl rfl
set_option maxRecDepth 20000 in
theorem gf_X1_28 : zGet RX1 28 2 5 := zGet.ofN (ref := "QuietWatch$Worker") (host := "QuietWatch") (T := TX2) (N := 11) rfl (by decide) inG2 (zn 72 rfl rfl) rfl
set_option maxRecDepth 20000 in
theorem pf_X1_28 : zPut RX1 28 2 5 .int := zPut.ofN (f := 5) (ref := "QuietWatch$Worker") (host := "QuietWatch") (T := TX2) (N := 11) (tys := tyX2) rfl (by decide) inG2 tyX2_ok nmX2 (zn 72 rfl rfl) rfl rfl rfl
set_option maxRecDepth 20000 in
theorem gf_X3_78 : zGet RX3 78 2 5 := zGet.ofN (ref := "QuietWatch$Worker") (host := "QuietWatch") (T := TX2) (N := 11) rfl (by decide) inG2 (zn 73 rfl rfl) rfl
set_option maxRecDepth 20000 in
theorem pf_X3_78 : zPut RX3 78 2 5 .int := zPut.ofN (f := 5) (ref := "QuietWatch$Worker") (host := "QuietWatch") (T := TX2) (N := 11) (tys := tyX2) rfl (by decide) inG2 tyX2_ok nmX2 (zn 73 rfl rfl) rfl rfl rfl
set_option maxRecDepth 20000 in
theorem gf_X2_19 : zGet RX2 19 2 6 := zGet.of (ref := "QuietWatch$Worker") (T := TX2) (N := 11) rfl (by decide) inG2 (zg 74 rfl rfl) rfl
set_option maxRecDepth 20000 in
theorem pf_X2_19 : zPut RX2 19 2 6 .int := zPut.of (f := 6) (ref := "QuietWatch$Worker") (T := TX2) (N := 11) (tys := tyX2) rfl (by decide) inG2 tyX2_ok nmX2 (zg 74 rfl rfl) rfl rfl rfl
set_option maxRecDepth 20000 in
theorem gf_X3_92 : zGet RX3 92 2 6 := zGet.ofN (ref := "QuietWatch$Worker") (host := "QuietWatch") (T := TX2) (N := 11) rfl (by decide) inG2 (zn 75 rfl rfl) rfl
set_option maxRecDepth 20000 in
theorem pf_X3_92 : zPut RX3 92 2 6 .int := zPut.ofN (f := 6) (ref := "QuietWatch$Worker") (host := "QuietWatch") (T := TX2) (N := 11) (tys := tyX2) rfl (by decide) inG2 tyX2_ok nmX2 (zn 75 rfl rfl) rfl rfl rfl
set_option maxRecDepth 20000 in
theorem gf_X2_30 : zGet RX2 30 2 7 := zGet.of (ref := "QuietWatch$Worker") (T := TX2) (N := 11) rfl (by decide) inG2 (zg 76 rfl rfl) rfl
set_option maxRecDepth 20000 in
theorem pf_X2_30 : zPut RX2 30 2 7 .int := zPut.of (f := 7) (ref := "QuietWatch$Worker") (T := TX2) (N := 11) (tys := tyX2) rfl (by decide) inG2 tyX2_ok nmX2 (zg 76 rfl rfl) rfl rfl rfl
set_option maxRecDepth 20000 in
theorem gf_X3_114 : zGet RX3 114 2 7 := zGet.ofN (ref := "QuietWatch$Worker") (host := "QuietWatch") (T := TX2) (N := 11) rfl (by decide) inG2 (zn 77 rfl rfl) rfl
set_option maxRecDepth 20000 in
theorem pf_X3_114 : zPut RX3 114 2 7 .int := zPut.ofN (f := 7) (ref := "QuietWatch$Worker") (host := "QuietWatch") (T := TX2) (N := 11) (tys := tyX2) rfl (by decide) inG2 tyX2_ok nmX2 (zn 77 rfl rfl) rfl rfl rfl
set_option maxRecDepth 20000 in
theorem gf_X3_107 : zGet RX3 107 2 8 := zGet.ofN (ref := "QuietWatch$Worker") (host := "QuietWatch") (T := TX2) (N := 11) rfl (by decide) inG2 (zn 78 rfl rfl) rfl
set_option maxRecDepth 20000 in
theorem pf_X3_107 : zPut RX3 107 2 8 .int := zPut.ofN (f := 8) (ref := "QuietWatch$Worker") (host := "QuietWatch") (T := TX2) (N := 11) (tys := tyX2) rfl (by decide) inG2 tyX2_ok nmX2 (zn 78 rfl rfl) rfl rfl rfl
set_option maxRecDepth 20000 in
theorem gf_X3_192 : zGet RX3 192 2 9 := zGet.ofN (ref := "QuietWatch$Worker") (host := "QuietWatch") (T := TX2) (N := 11) rfl (by decide) inG2 (zn 79 rfl rfl) rfl
set_option maxRecDepth 20000 in
theorem pf_X3_192 : zPut RX3 192 2 9 .int := zPut.ofN (f := 9) (ref := "QuietWatch$Worker") (host := "QuietWatch") (T := TX2) (N := 11) (tys := tyX2) rfl (by decide) inG2 tyX2_ok nmX2 (zn 79 rfl rfl) rfl rfl rfl
set_option maxRecDepth 20000 in
theorem gf_X3_120 : zGet RX3 120 2 10 := zGet.ofN (ref := "QuietWatch$Worker") (host := "QuietWatch") (T := TX2) (N := 11) rfl (by decide) inG2 (zn 80 rfl rfl) rfl
set_option maxRecDepth 20000 in
theorem pf_X3_120 : zPut RX3 120 2 10 .int := zPut.ofN (f := 10) (ref := "QuietWatch$Worker") (host := "QuietWatch") (T := TX2) (N := 11) (tys := tyX2) rfl (by decide) inG2 tyX2_ok nmX2 (zn 80 rfl rfl) rfl rfl rfl
set_option maxRecDepth 20000 in
theorem cw_X3_30 : zCS RX3 30 yX3_newRows cX3_newRows 4 (some (.array (.object "QuietWatch$Row"))) 1 := zCS.of cd_X3_newRows (zg 105 rfl rfl) (zg 106 rfl rfl) (zg 33 rfl rfl) (by decide +kernel)
set_option maxRecDepth 20000 in
theorem gf_X0_11 : zGet RX0 11 0 0 := zGet.of (ref := "QuietWatch$Row") (T := TX0) (N := 4) rfl (by decide) inG0 (zg 115 rfl rfl) rfl
set_option maxRecDepth 20000 in
theorem gf_X0_36 : zGet RX0 36 0 1 := zGet.of (ref := "QuietWatch$Row") (T := TX0) (N := 4) rfl (by decide) inG0 (zg 116 rfl rfl) rfl
set_option maxRecDepth 20000 in
theorem pf_X0_36 : zPut RX0 36 0 1 .int := zPut.of (f := 1) (ref := "QuietWatch$Row") (T := TX0) (N := 4) (tys := tyX0) rfl (by decide) inG0 tyX0_ok nmX0 (zg 116 rfl rfl) rfl rfl rfl
set_option maxRecDepth 20000 in
theorem gf_X0_19 : zGet RX0 19 0 2 := zGet.of (ref := "QuietWatch$Row") (T := TX0) (N := 4) rfl (by decide) inG0 (zg 117 rfl rfl) rfl
set_option maxRecDepth 20000 in
theorem pf_X0_19 : zPut RX0 19 0 2 .int := zPut.of (f := 2) (ref := "QuietWatch$Row") (T := TX0) (N := 4) (tys := tyX0) rfl (by decide) inG0 tyX0_ok nmX0 (zg 117 rfl rfl) rfl rfl rfl
set_option maxRecDepth 20000 in
theorem gf_X3_153 : zGet RX3 153 0 2 := zGet.ofN (ref := "QuietWatch$Row") (host := "QuietWatch") (T := TX0) (N := 4) rfl (by decide) inG0 (zn 118 rfl rfl) rfl
set_option maxRecDepth 20000 in
theorem pf_X3_153 : zPut RX3 153 0 2 .int := zPut.ofN (f := 2) (ref := "QuietWatch$Row") (host := "QuietWatch") (T := TX0) (N := 4) (tys := tyX0) rfl (by decide) inG0 tyX0_ok nmX0 (zn 118 rfl rfl) rfl rfl rfl
set_option maxRecDepth 20000 in
theorem gf_X3_66 : zGet RX3 66 0 3 := zGet.ofN (ref := "QuietWatch$Row") (host := "QuietWatch") (T := TX0) (N := 4) rfl (by decide) inG0 (zn 119 rfl rfl) rfl
set_option maxRecDepth 20000 in
theorem pf_X3_66 : zPut RX3 66 0 3 .int := zPut.ofN (f := 3) (ref := "QuietWatch$Row") (host := "QuietWatch") (T := TX0) (N := 4) (tys := tyX0) rfl (by decide) inG0 tyX0_ok nmX0 (zn 119 rfl rfl) rfl rfl rfl
set_option maxRecDepth 20000 in
theorem gf_X0_26 : zGet RX0 26 0 3 := zGet.of (ref := "QuietWatch$Row") (T := TX0) (N := 4) rfl (by decide) inG0 (zg 120 rfl rfl) rfl
set_option maxRecDepth 20000 in
theorem pf_X0_26 : zPut RX0 26 0 3 .int := zPut.of (f := 3) (ref := "QuietWatch$Row") (T := TX0) (N := 4) (tys := tyX0) rfl (by decide) inG0 tyX0_ok nmX0 (zg 120 rfl rfl) rfl rfl rfl
set_option maxRecDepth 20000 in
theorem gf_X1_9 : zGet RX1 9 1 0 := zGet.of (ref := "QuietWatch$Token") (T := TX1) (N := 4) rfl (by decide) inG1 (zg 136 rfl rfl) rfl
set_option maxRecDepth 20000 in
theorem pf_X1_9 : zPut RX1 9 1 0 .int := zPut.of (f := 0) (ref := "QuietWatch$Token") (T := TX1) (N := 4) (tys := tyX1) rfl (by decide) inG1 tyX1_ok nmX1 (zg 136 rfl rfl) rfl rfl rfl
set_option maxRecDepth 20000 in
theorem gf_X3_126 : zGet RX3 126 1 0 := zGet.ofN (ref := "QuietWatch$Token") (host := "QuietWatch") (T := TX1) (N := 4) rfl (by decide) inG1 (zn 137 rfl rfl) rfl
set_option maxRecDepth 20000 in
theorem pf_X3_126 : zPut RX3 126 1 0 .int := zPut.ofN (f := 0) (ref := "QuietWatch$Token") (host := "QuietWatch") (T := TX1) (N := 4) (tys := tyX1) rfl (by decide) inG1 tyX1_ok nmX1 (zn 137 rfl rfl) rfl rfl rfl
set_option maxRecDepth 20000 in
theorem gf_X1_25 : zGet RX1 25 1 1 := zGet.of (ref := "QuietWatch$Token") (T := TX1) (N := 4) rfl (by decide) inG1 (zg 138 rfl rfl) rfl
set_option maxRecDepth 20000 in
theorem pf_X1_25 : zPut RX1 25 1 1 .int := zPut.of (f := 1) (ref := "QuietWatch$Token") (T := TX1) (N := 4) (tys := tyX1) rfl (by decide) inG1 tyX1_ok nmX1 (zg 138 rfl rfl) rfl rfl rfl
set_option maxRecDepth 20000 in
theorem gf_X3_219 : zGet RX3 219 1 1 := zGet.ofN (ref := "QuietWatch$Token") (host := "QuietWatch") (T := TX1) (N := 4) rfl (by decide) inG1 (zn 139 rfl rfl) rfl
set_option maxRecDepth 20000 in
theorem pf_X3_219 : zPut RX3 219 1 1 .int := zPut.ofN (f := 1) (ref := "QuietWatch$Token") (host := "QuietWatch") (T := TX1) (N := 4) (tys := tyX1) rfl (by decide) inG1 tyX1_ok nmX1 (zn 139 rfl rfl) rfl rfl rfl
set_option maxRecDepth 20000 in
theorem gf_X1_18 : zGet RX1 18 1 2 := zGet.of (ref := "QuietWatch$Token") (T := TX1) (N := 4) rfl (by decide) inG1 (zg 140 rfl rfl) rfl
set_option maxRecDepth 20000 in
theorem pf_X1_18 : zPut RX1 18 1 2 .boolean := zPut.of (f := 2) (ref := "QuietWatch$Token") (T := TX1) (N := 4) (tys := tyX1) rfl (by decide) inG1 tyX1_ok nmX1 (zg 140 rfl rfl) rfl rfl rfl
set_option maxRecDepth 20000 in
theorem gf_X3_222 : zGet RX3 222 1 2 := zGet.ofN (ref := "QuietWatch$Token") (host := "QuietWatch") (T := TX1) (N := 4) rfl (by decide) inG1 (zn 141 rfl rfl) rfl
set_option maxRecDepth 20000 in
theorem pf_X3_222 : zPut RX3 222 1 2 .boolean := zPut.ofN (f := 2) (ref := "QuietWatch$Token") (host := "QuietWatch") (T := TX1) (N := 4) (tys := tyX1) rfl (by decide) inG1 tyX1_ok nmX1 (zn 141 rfl rfl) rfl rfl rfl
set_option maxRecDepth 20000 in
theorem gf_X1_15 : zGet RX1 15 1 3 := zGet.of (ref := "QuietWatch$Token") (T := TX1) (N := 4) rfl (by decide) inG1 (zg 142 rfl rfl) rfl
set_option maxRecDepth 20000 in
theorem pf_X1_15 : zPut RX1 15 1 3 .int := zPut.of (f := 3) (ref := "QuietWatch$Token") (T := TX1) (N := 4) (tys := tyX1) rfl (by decide) inG1 tyX1_ok nmX1 (zg 142 rfl rfl) rfl rfl rfl
set_option maxRecDepth 20000 in
theorem gf_X3_216 : zGet RX3 216 1 3 := zGet.ofN (ref := "QuietWatch$Token") (host := "QuietWatch") (T := TX1) (N := 4) rfl (by decide) inG1 (zn 143 rfl rfl) rfl
set_option maxRecDepth 20000 in
theorem pf_X3_216 : zPut RX3 216 1 3 .int := zPut.ofN (f := 3) (ref := "QuietWatch$Token") (host := "QuietWatch") (T := TX1) (N := 4) (tys := tyX1) rfl (by decide) inG1 tyX1_ok nmX1 (zn 143 rfl rfl) rfl rfl rfl
set_option maxRecDepth 20000 in
theorem gf_X3_18 : zGet RX3 18 3 0 := zGet.of (ref := "QuietWatch") (T := TX3) (N := 11) rfl (by decide) inG3 (zg 153 rfl rfl) rfl
set_option maxRecDepth 20000 in
theorem gf_X3_26 : zGet RX3 26 3 1 := zGet.of (ref := "QuietWatch") (T := TX3) (N := 11) rfl (by decide) inG3 (zg 154 rfl rfl) rfl
set_option maxRecDepth 20000 in
theorem gf_X3_34 : zGet RX3 34 3 2 := zGet.of (ref := "QuietWatch") (T := TX3) (N := 11) rfl (by decide) inG3 (zg 155 rfl rfl) rfl
set_option maxRecDepth 20000 in
theorem gf_X3_41 : zGet RX3 41 3 3 := zGet.of (ref := "QuietWatch") (T := TX3) (N := 11) rfl (by decide) inG3 (zg 156 rfl rfl) rfl
set_option maxRecDepth 20000 in
theorem gf_X3_45 : zGet RX3 45 3 4 := zGet.of (ref := "QuietWatch") (T := TX3) (N := 11) rfl (by decide) inG3 (zg 157 rfl rfl) rfl
set_option maxRecDepth 20000 in
theorem pf_X3_45 : zPut RX3 45 3 4 .boolean := zPut.of (f := 4) (ref := "QuietWatch") (T := TX3) (N := 11) (tys := tyX3) rfl (by decide) inG3 tyX3_ok nmX3 (zg 157 rfl rfl) rfl rfl rfl
set_option maxRecDepth 20000 in
theorem gf_X3_213 : zGet RX3 213 3 5 := zGet.of (ref := "QuietWatch") (T := TX3) (N := 11) rfl (by decide) inG3 (zg 158 rfl rfl) rfl
set_option maxRecDepth 20000 in
theorem pf_X3_213 : zPut RX3 213 3 5 .boolean := zPut.of (f := 5) (ref := "QuietWatch") (T := TX3) (N := 11) (tys := tyX3) rfl (by decide) inG3 tyX3_ok nmX3 (zg 158 rfl rfl) rfl rfl rfl
set_option maxRecDepth 20000 in
theorem gf_X3_129 : zGet RX3 129 3 6 := zGet.of (ref := "QuietWatch") (T := TX3) (N := 11) rfl (by decide) inG3 (zg 159 rfl rfl) rfl
set_option maxRecDepth 20000 in
theorem pf_X3_129 : zPut RX3 129 3 6 .boolean := zPut.of (f := 6) (ref := "QuietWatch") (T := TX3) (N := 11) (tys := tyX3) rfl (by decide) inG3 tyX3_ok nmX3 (zg 159 rfl rfl) rfl rfl rfl
set_option maxRecDepth 20000 in
theorem gf_X3_207 : zGet RX3 207 3 7 := zGet.of (ref := "QuietWatch") (T := TX3) (N := 11) rfl (by decide) inG3 (zg 160 rfl rfl) rfl
set_option maxRecDepth 20000 in
theorem pf_X3_207 : zPut RX3 207 3 7 .int := zPut.of (f := 7) (ref := "QuietWatch") (T := TX3) (N := 11) (tys := tyX3) rfl (by decide) inG3 tyX3_ok nmX3 (zg 160 rfl rfl) rfl rfl rfl
set_option maxRecDepth 20000 in
theorem gf_X3_210 : zGet RX3 210 3 8 := zGet.of (ref := "QuietWatch") (T := TX3) (N := 11) rfl (by decide) inG3 (zg 161 rfl rfl) rfl
set_option maxRecDepth 20000 in
theorem pf_X3_210 : zPut RX3 210 3 8 .int := zPut.of (f := 8) (ref := "QuietWatch") (T := TX3) (N := 11) (tys := tyX3) rfl (by decide) inG3 tyX3_ok nmX3 (zg 161 rfl rfl) rfl rfl rfl
set_option maxRecDepth 20000 in
theorem gf_X3_226 : zGet RX3 226 3 9 := zGet.of (ref := "QuietWatch") (T := TX3) (N := 11) rfl (by decide) inG3 (zg 162 rfl rfl) rfl
set_option maxRecDepth 20000 in
theorem pf_X3_226 : zPut RX3 226 3 9 .int := zPut.of (f := 9) (ref := "QuietWatch") (T := TX3) (N := 11) (tys := tyX3) rfl (by decide) inG3 tyX3_ok nmX3 (zg 162 rfl rfl) rfl rfl rfl
set_option maxRecDepth 20000 in
theorem gf_X3_160 : zGet RX3 160 3 10 := zGet.of (ref := "QuietWatch") (T := TX3) (N := 11) rfl (by decide) inG3 (zg 163 rfl rfl) rfl
set_option maxRecDepth 20000 in
theorem pf_X3_160 : zPut RX3 160 3 10 .int := zPut.of (f := 10) (ref := "QuietWatch") (T := TX3) (N := 11) (tys := tyX3) rfl (by decide) inG3 tyX3_ok nmX3 (zg 163 rfl rfl) rfl rfl rfl
set_option maxRecDepth 20000 in
theorem cw_L_21 : zCV RL 21 RX3 yX3_start cX3_start 1 (some .boolean) 0 := zCV.of cd_X3_start (zg 187 rfl rfl) (zg 188 rfl rfl) (zg 189 rfl rfl) (zg 33 rfl rfl) (by decide +kernel)
set_option maxRecDepth 20000 in
theorem cw_L_26 : zCV RL 26 RX3 yX3_send cX3_send 5 (some .boolean) 2 := zCV.of cd_X3_send (zg 191 rfl rfl) (zg 192 rfl rfl) (zg 193 rfl rfl) (zg 33 rfl rfl) (by decide +kernel)
set_option maxRecDepth 20000 in
theorem cw_X3_54 : zCV RX3 54 RX3 yX3_workerAt cX3_workerAt 2 (some (.object "QuietWatch$Worker")) 1 := zCV.of cd_X3_workerAt (zg 195 rfl rfl) (zg 197 rfl rfl) (zg 0 rfl rfl) (zg 33 rfl rfl) (by decide +kernel)
set_option maxRecDepth 20000 in
theorem cw_X3_230 : zCV RX3 230 RX3 yX3_isProcess cX3_isProcess 2 (some .boolean) 1 := zCV.of cd_X3_isProcess (zg 199 rfl rfl) (zg 201 rfl rfl) (zg 1 rfl rfl) (zg 33 rfl rfl) (by decide +kernel)
set_option maxRecDepth 20000 in
theorem cw_X3_58 : zCV RX3 58 RX3 yX3_rowBetween cX3_rowBetween 3 (some (.object "QuietWatch$Row")) 2 := zCV.of cd_X3_rowBetween (zg 203 rfl rfl) (zg 205 rfl rfl) (zg 2 rfl rfl) (zg 33 rfl rfl) (by decide +kernel)
set_option maxRecDepth 20000 in
theorem cw_X3_62 : zCV RX3 62 RX2 yX2_isFree cX2_isFree 1 (some .boolean) 0 := zCV.of cd_X2_isFree (zg 207 rfl rfl) (zg 208 rfl rfl) (zg 209 rfl rfl) (zg 35 rfl rfl) (by decide +kernel)
set_option maxRecDepth 20000 in
theorem cw_X2_26 : zCV RX2 26 RX2 yX2_isBlocked cX2_isBlocked 1 (some .boolean) 0 := zCV.of cd_X2_isBlocked (zg 211 rfl rfl) (zg 212 rfl rfl) (zg 213 rfl rfl) (zg 35 rfl rfl) (by decide +kernel)
set_option maxRecDepth 20000 in
theorem cw_X3_74 : zCV RX3 74 RX0 yX0_append cX0_append 2 none 1 := zCV.of cd_X0_append (zg 215 rfl rfl) (zg 216 rfl rfl) (zg 217 rfl rfl) (zg 36 rfl rfl) (by decide +kernel)
set_option maxRecDepth 20000 in
theorem cw_X0_23 : zCV RX0 23 RX0 yX0_grow cX0_grow 3 none 0 := zCV.of cd_X0_grow (zg 219 rfl rfl) (zg 221 rfl rfl) (zg 3 rfl rfl) (zg 36 rfl rfl) (by decide +kernel)
set_option maxRecDepth 20000 in
theorem cw_X0_15 : zCV RX0 15 RX0 yX0_placeOf cX0_placeOf 3 (some .int) 1 := zCV.of cd_X0_placeOf (zg 223 rfl rfl) (zg 225 rfl rfl) (zg 4 rfl rfl) (zg 36 rfl rfl) (by decide +kernel)
set_option maxRecDepth 20000 in
theorem cw_X0_29 : zCS RX0 29 yX3_kindOf cX3_kindOf 1 (some .int) 1 := zCS.ofN (host := "QuietWatch") cd_X3_kindOf (zn 227 rfl rfl) (zg 228 rfl rfl) (zg 33 rfl rfl) (by decide +kernel)
set_option maxRecDepth 20000 in
theorem cw_X0_32 : zCS RX0 32 yX3_oneIf cX3_oneIf 1 (some .int) 1 := zCS.ofN (host := "QuietWatch") cd_X3_oneIf (zn 230 rfl rfl) (zg 231 rfl rfl) (zg 33 rfl rfl) (by decide +kernel)
set_option maxRecDepth 20000 in
theorem cw_L_31 : zCV RL 31 RX3 yX3_rest cX3_rest 3 (some .boolean) 1 := zCV.of cd_X3_rest (zg 233 rfl rfl) (zg 234 rfl rfl) (zg 235 rfl rfl) (zg 33 rfl rfl) (by decide +kernel)
set_option maxRecDepth 20000 in
theorem cw_X3_81 : zCV RX3 81 RX3 yX3_leaveTreeIfDone cX3_leaveTreeIfDone 3 none 2 := zCV.of cd_X3_leaveTreeIfDone (zg 237 rfl rfl) (zg 239 rfl rfl) (zg 5 rfl rfl) (zg 33 rfl rfl) (by decide +kernel)
set_option maxRecDepth 20000 in
theorem cw_X3_185 : zCV RX3 185 RX3 yX3_isInTree cX3_isInTree 3 (some .boolean) 2 := zCV.of cd_X3_isInTree (zg 241 rfl rfl) (zg 243 rfl rfl) (zg 6 rfl rfl) (zg 33 rfl rfl) (by decide +kernel)
set_option maxRecDepth 20000 in
theorem cw_X3_144 : zCV RX3 144 RX3 yX3_judgeEnd cX3_judgeEnd 1 none 0 := zCV.of cd_X3_judgeEnd (zg 245 rfl rfl) (zg 247 rfl rfl) (zg 7 rfl rfl) (zg 33 rfl rfl) (by decide +kernel)
set_option maxRecDepth 20000 in
theorem cw_X3_234 : zCV RX3 234 RX3 yX3_quiet cX3_quiet 2 (some .boolean) 0 := zCV.of cd_X3_quiet (zg 249 rfl rfl) (zg 250 rfl rfl) (zg 251 rfl rfl) (zg 33 rfl rfl) (by decide +kernel)
set_option maxRecDepth 20000 in
theorem cw_X3_204 : zCV RX3 204 RX3 yX3_worksUnderWay cX3_worksUnderWay 6 (some .int) 0 := zCV.of cd_X3_worksUnderWay (zg 253 rfl rfl) (zg 255 rfl rfl) (zg 8 rfl rfl) (zg 33 rfl rfl) (by decide +kernel)
set_option maxRecDepth 20000 in
theorem cw_X3_117 : zCV RX3 117 RX3 yX3_put cX3_put 5 none 3 := zCV.of cd_X3_put (zg 257 rfl rfl) (zg 259 rfl rfl) (zg 9 rfl rfl) (zg 33 rfl rfl) (by decide +kernel)
set_option maxRecDepth 20000 in
theorem cw_L_36 : zCV RL 36 RX3 yX3_ask cX3_ask 5 (some .int) 2 := zCV.of cd_X3_ask (zg 261 rfl rfl) (zg 262 rfl rfl) (zg 263 rfl rfl) (zg 33 rfl rfl) (by decide +kernel)
set_option maxRecDepth 20000 in
theorem cw_X3_85 : zCS RX3 85 yX3_allOf cX3_allOf 1 (some .int) 1 := zCS.of cd_X3_allOf (zg 265 rfl rfl) (zg 266 rfl rfl) (zg 33 rfl rfl) (by decide +kernel)
set_option maxRecDepth 20000 in
theorem cw_X3_89 : zCS RX3 89 yX3_bitOf cX3_bitOf 1 (some .int) 1 := zCS.of cd_X3_bitOf (zg 268 rfl rfl) (zg 269 rfl rfl) (zg 33 rfl rfl) (by decide +kernel)
set_option maxRecDepth 20000 in
theorem cw_X3_95 : zCV RX3 95 RX3 yX3_putToEach cX3_putToEach 6 none 3 := zCV.of cd_X3_putToEach (zg 271 rfl rfl) (zg 273 rfl rfl) (zg 10 rfl rfl) (zg 33 rfl rfl) (by decide +kernel)
set_option maxRecDepth 20000 in
theorem cw_X3_110 : zCS RX3 110 yX3_holds cX3_holds 2 (some .boolean) 2 := zCS.of cd_X3_holds (zg 275 rfl rfl) (zg 276 rfl rfl) (zg 33 rfl rfl) (by decide +kernel)
set_option maxRecDepth 20000 in
theorem cw_X3_99 : zCS RX3 99 yJ6_bitCount_0f7a4 cJ6_bitCount_0f7a4 1 (some .int) 1 := zCS.of cd_J6_bitCount_0f7a4 (zg 278 rfl rfl) (zg 279 rfl rfl) (zg 39 rfl rfl) (by decide +kernel)
set_option maxRecDepth 20000 in
theorem cw_L_41 : zCV RL 41 RX3 yX3_answer cX3_answer 5 (some .boolean) 2 := zCV.of cd_X3_answer (zg 284 rfl rfl) (zg 285 rfl rfl) (zg 286 rfl rfl) (zg 33 rfl rfl) (by decide +kernel)
set_option maxRecDepth 20000 in
theorem cw_X3_104 : zCV RX3 104 RX2 yX2_isBlocked cX2_isBlocked 1 (some .boolean) 0 := zCV.of cd_X2_isBlocked (zg 288 rfl rfl) (zg 212 rfl rfl) (zg 213 rfl rfl) (zg 35 rfl rfl) (by decide +kernel)
set_option maxRecDepth 20000 in
theorem cw_L_45 : zCV RL 45 RX3 yX3_probe cX3_probe 3 (some .int) 1 := zCV.of cd_X3_probe (zg 289 rfl rfl) (zg 290 rfl rfl) (zg 291 rfl rfl) (zg 33 rfl rfl) (by decide +kernel)
set_option maxRecDepth 20000 in
theorem cw_X3_123 : zCS RX3 123 yX3_probeOf cX3_probeOf 2 (some .int) 2 := zCS.of cd_X3_probeOf (zg 293 rfl rfl) (zg 294 rfl rfl) (zg 33 rfl rfl) (by decide +kernel)
set_option maxRecDepth 20000 in
theorem cw_L_50 : zCV RL 50 RX3 yX3_pass cX3_pass 3 (some .int) 1 := zCV.of cd_X3_pass (zg 296 rfl rfl) (zg 297 rfl rfl) (zg 298 rfl rfl) (zg 33 rfl rfl) (by decide +kernel)
set_option maxRecDepth 20000 in
theorem cw_X3_132 : zCV RX3 132 RX1 yX1_collect cX1_collect 2 none 1 := zCV.of cd_X1_collect (zg 300 rfl rfl) (zg 301 rfl rfl) (zg 302 rfl rfl) (zg 37 rfl rfl) (by decide +kernel)
set_option maxRecDepth 20000 in
theorem cw_X3_136 : zCV RX3 136 RX3 yX3_giveToken cX3_giveToken 3 none 2 := zCV.of cd_X3_giveToken (zg 304 rfl rfl) (zg 306 rfl rfl) (zg 11 rfl rfl) (zg 33 rfl rfl) (by decide +kernel)
set_option maxRecDepth 20000 in
theorem cw_X3_140 : zCV RX3 140 RX1 yX1_showsEndTo cX1_showsEndTo 2 (some .boolean) 1 := zCV.of cd_X1_showsEndTo (zg 308 rfl rfl) (zg 309 rfl rfl) (zg 310 rfl rfl) (zg 37 rfl rfl) (by decide +kernel)
set_option maxRecDepth 20000 in
theorem cw_X3_147 : zCV RX3 147 RX1 yX1_beginRound cX1_beginRound 1 none 0 := zCV.of cd_X1_beginRound (zg 312 rfl rfl) (zg 313 rfl rfl) (zg 314 rfl rfl) (zg 37 rfl rfl) (by decide +kernel)
set_option maxRecDepth 20000 in
theorem cw_L_54 : zCV RL 54 RX3 yX3_receive cX3_receive 6 (some .int) 2 := zCV.of cd_X3_receive (zg 316 rfl rfl) (zg 317 rfl rfl) (zg 318 rfl rfl) (zg 33 rfl rfl) (by decide +kernel)
set_option maxRecDepth 20000 in
theorem cw_X3_156 : zCV RX3 156 RX0 yX0_takeFirst cX0_takeFirst 2 (some .int) 0 := zCV.of cd_X0_takeFirst (zg 320 rfl rfl) (zg 321 rfl rfl) (zg 322 rfl rfl) (zg 36 rfl rfl) (by decide +kernel)
set_option maxRecDepth 20000 in
theorem cw_X3_163 : zCS RX3 163 yX3_kindOf cX3_kindOf 1 (some .int) 1 := zCS.of cd_X3_kindOf (zg 324 rfl rfl) (zg 228 rfl rfl) (zg 33 rfl rfl) (by decide +kernel)
set_option maxRecDepth 20000 in
theorem cw_X3_166 : zCV RX3 166 RX3 yX3_takeWork cX3_takeWork 4 none 3 := zCV.of cd_X3_takeWork (zg 325 rfl rfl) (zg 327 rfl rfl) (zg 12 rfl rfl) (zg 33 rfl rfl) (by decide +kernel)
set_option maxRecDepth 20000 in
theorem cw_X3_170 : zCV RX3 170 RX3 yX3_takeProbe cX3_takeProbe 6 none 4 := zCV.of cd_X3_takeProbe (zg 329 rfl rfl) (zg 331 rfl rfl) (zg 13 rfl rfl) (zg 33 rfl rfl) (by decide +kernel)
set_option maxRecDepth 20000 in
theorem cw_X3_198 : zCS RX3 198 yX3_beginnerOf cX3_beginnerOf 1 (some .int) 1 := zCS.of cd_X3_beginnerOf (zg 333 rfl rfl) (zg 334 rfl rfl) (zg 33 rfl rfl) (by decide +kernel)
set_option maxRecDepth 20000 in
theorem cw_X3_237 : zCV RX3 237 RX3 yX3_tellDead cX3_tellDead 3 none 2 := zCV.of cd_X3_tellDead (zg 336 rfl rfl) (zg 338 rfl rfl) (zg 14 rfl rfl) (zg 33 rfl rfl) (by decide +kernel)
set_option maxRecDepth 20000 in
theorem cw_X3_243 : zCV RX3 243 RX3 yX3_isInRing cX3_isInRing 5 (some .boolean) 1 := zCV.of cd_X3_isInRing (zg 340 rfl rfl) (zg 342 rfl rfl) (zg 15 rfl rfl) (zg 33 rfl rfl) (by decide +kernel)
set_option maxRecDepth 20000 in
theorem cw_X3_246 : zCV RX3 246 RX2 yX2_hangsOn cX2_hangsOn 1 (some .int) 0 := zCV.of cd_X2_hangsOn (zg 344 rfl rfl) (zg 345 rfl rfl) (zg 346 rfl rfl) (zg 35 rfl rfl) (by decide +kernel)
set_option maxRecDepth 20000 in
theorem cw_X3_201 : zCS RX3 201 yX3_numberOf cX3_numberOf 1 (some .int) 1 := zCS.of cd_X3_numberOf (zg 348 rfl rfl) (zg 349 rfl rfl) (zg 33 rfl rfl) (by decide +kernel)
set_option maxRecDepth 20000 in
theorem cw_X3_240 : zCV RX3 240 RX2 yX2_noteIfNewer cX2_noteIfNewer 3 (some .boolean) 2 := zCV.of cd_X2_noteIfNewer (zg 351 rfl rfl) (zg 352 rfl rfl) (zg 353 rfl rfl) (zg 35 rfl rfl) (by decide +kernel)
set_option maxRecDepth 20000 in
theorem cw_L_58 : zCV RL 58 RX3 yX3_run cX3_run 10 (some .int) 2 := zCV.of cd_X3_run (zg 355 rfl rfl) (zg 356 rfl rfl) (zg 357 rfl rfl) (zg 33 rfl rfl) (by decide +kernel)
set_option maxRecDepth 20000 in
theorem cw_X3_175 : zCV RX3 175 RX3 yX3_pass cX3_pass 3 (some .int) 1 := zCV.of cd_X3_pass (zg 360 rfl rfl) (zg 297 rfl rfl) (zg 298 rfl rfl) (zg 33 rfl rfl) (by decide +kernel)
set_option maxRecDepth 20000 in
theorem cw_X3_178 : zCV RX3 178 RX3 yX3_receive cX3_receive 6 (some .int) 2 := zCV.of cd_X3_receive (zg 361 rfl rfl) (zg 317 rfl rfl) (zg 318 rfl rfl) (zg 33 rfl rfl) (by decide +kernel)
set_option maxRecDepth 20000 in
theorem cw_L_62 : zCV RL 62 RX3 yX3_told cX3_told 4 (some .int) 2 := zCV.of cd_X3_told (zg 362 rfl rfl) (zg 363 rfl rfl) (zg 364 rfl rfl) (zg 33 rfl rfl) (by decide +kernel)
set_option maxRecDepth 20000 in
theorem cw_X3_181 : zCS RX3 181 yX3_oneIf cX3_oneIf 1 (some .int) 1 := zCS.of cd_X3_oneIf (zg 366 rfl rfl) (zg 231 rfl rfl) (zg 33 rfl rfl) (by decide +kernel)
set_option maxRecDepth 20000 in
theorem cw_L_66 : zCV RL 66 RX3 yX3_waits cX3_waits 4 (some .boolean) 2 := zCV.of cd_X3_waits (zg 367 rfl rfl) (zg 368 rfl rfl) (zg 369 rfl rfl) (zg 33 rfl rfl) (by decide +kernel)
set_option maxRecDepth 20000 in
theorem cw_L_70 : zCV RL 70 RX3 yX3_message cX3_message 7 (some .int) 4 := zCV.of cd_X3_message (zg 371 rfl rfl) (zg 372 rfl rfl) (zg 373 rfl rfl) (zg 33 rfl rfl) (by decide +kernel)
set_option maxRecDepth 20000 in
theorem cw_X3_195 : zCV RX3 195 RX0 yX0_at cX0_at 2 (some .int) 1 := zCV.of cd_X0_at (zg 375 rfl rfl) (zg 376 rfl rfl) (zg 377 rfl rfl) (zg 36 rfl rfl) (by decide +kernel)
set_option maxRecDepth 20000 in
theorem cw_L_75 : zCV RL 75 RX3 yX3_quiet cX3_quiet 2 (some .boolean) 0 := zCV.of cd_X3_quiet (zg 379 rfl rfl) (zg 250 rfl rfl) (zg 251 rfl rfl) (zg 33 rfl rfl) (by decide +kernel)
set_option maxRecDepth 20000 in
theorem cw_L_79 : zCV RL 79 RX3 yX3_wrong cX3_wrong 1 (some .int) 0 := zCV.of cd_X3_wrong (zg 380 rfl rfl) (zg 381 rfl rfl) (zg 382 rfl rfl) (zg 33 rfl rfl) (by decide +kernel)
set_option maxRecDepth 20000 in
theorem cw_L_84 : zCV RL 84 RX3 yX3_falsely cX3_falsely 1 (some .int) 0 := zCV.of cd_X3_falsely (zg 384 rfl rfl) (zg 385 rfl rfl) (zg 386 rfl rfl) (zg 33 rfl rfl) (by decide +kernel)
set_option maxRecDepth 20000 in
theorem cw_L_88 : zCV RL 88 RX3 yX3_count cX3_count 2 (some .int) 1 := zCV.of cd_X3_count (zg 388 rfl rfl) (zg 389 rfl rfl) (zg 390 rfl rfl) (zg 33 rfl rfl) (by decide +kernel)
set_option maxRecDepth 20000 in
theorem cw_X3_223 : zCV RX3 223 RX3 yX3_messagesUnderWay cX3_messagesUnderWay 6 (some .int) 0 := zCV.of cd_X3_messagesUnderWay (zg 392 rfl rfl) (zg 394 rfl rfl) (zg 16 rfl rfl) (zg 33 rfl rfl) (by decide +kernel)
set_option maxRecDepth 20000 in
theorem cw_L_9 : zCS RL 9 yL_cell cL_cell 2 (some .int) 2 := zCS.of cd_L_cell (zg 396 rfl rfl) (zg 397 rfl rfl) (zg 32 rfl rfl) (by decide +kernel)
set_option maxRecDepth 20000 in
theorem gf_X4_60 : zGet RX4 60 4 0 := zGet.of (ref := "QuietWatchModel") (T := TX4) (N := 27) rfl (by decide) inG4 (zg 406 rfl rfl) rfl
set_option maxRecDepth 20000 in
theorem gf_X4_79 : zGet RX4 79 4 1 := zGet.of (ref := "QuietWatchModel") (T := TX4) (N := 27) rfl (by decide) inG4 (zg 407 rfl rfl) rfl
set_option maxRecDepth 20000 in
theorem pf_X4_79 : zPut RX4 79 4 1 .boolean := zPut.of (f := 1) (ref := "QuietWatchModel") (T := TX4) (N := 27) (tys := tyX4) rfl (by decide) inG4 tyX4_ok nmX4 (zg 407 rfl rfl) rfl rfl rfl
set_option maxRecDepth 20000 in
theorem gf_X4_83 : zGet RX4 83 4 2 := zGet.of (ref := "QuietWatchModel") (T := TX4) (N := 27) rfl (by decide) inG4 (zg 408 rfl rfl) rfl
set_option maxRecDepth 20000 in
theorem pf_X4_83 : zPut RX4 83 4 2 .boolean := zPut.of (f := 2) (ref := "QuietWatchModel") (T := TX4) (N := 27) (tys := tyX4) rfl (by decide) inG4 tyX4_ok nmX4 (zg 408 rfl rfl) rfl rfl rfl
set_option maxRecDepth 20000 in
theorem gf_X4_117 : zGet RX4 117 4 3 := zGet.of (ref := "QuietWatchModel") (T := TX4) (N := 27) rfl (by decide) inG4 (zg 409 rfl rfl) rfl
set_option maxRecDepth 20000 in
theorem pf_X4_117 : zPut RX4 117 4 3 .boolean := zPut.of (f := 3) (ref := "QuietWatchModel") (T := TX4) (N := 27) (tys := tyX4) rfl (by decide) inG4 tyX4_ok nmX4 (zg 409 rfl rfl) rfl rfl rfl
set_option maxRecDepth 20000 in
theorem gf_X4_100 : zGet RX4 100 4 4 := zGet.of (ref := "QuietWatchModel") (T := TX4) (N := 27) rfl (by decide) inG4 (zg 410 rfl rfl) rfl
set_option maxRecDepth 20000 in
theorem pf_X4_100 : zPut RX4 100 4 4 .int := zPut.of (f := 4) (ref := "QuietWatchModel") (T := TX4) (N := 27) (tys := tyX4) rfl (by decide) inG4 tyX4_ok nmX4 (zg 410 rfl rfl) rfl rfl rfl
set_option maxRecDepth 20000 in
theorem gf_X4_138 : zGet RX4 138 4 5 := zGet.of (ref := "QuietWatchModel") (T := TX4) (N := 27) rfl (by decide) inG4 (zg 411 rfl rfl) rfl
set_option maxRecDepth 20000 in
theorem pf_X4_138 : zPut RX4 138 4 5 .int := zPut.of (f := 5) (ref := "QuietWatchModel") (T := TX4) (N := 27) (tys := tyX4) rfl (by decide) inG4 tyX4_ok nmX4 (zg 411 rfl rfl) rfl rfl rfl
set_option maxRecDepth 20000 in
theorem gf_X4_141 : zGet RX4 141 4 6 := zGet.of (ref := "QuietWatchModel") (T := TX4) (N := 27) rfl (by decide) inG4 (zg 412 rfl rfl) rfl
set_option maxRecDepth 20000 in
theorem pf_X4_141 : zPut RX4 141 4 6 .int := zPut.of (f := 6) (ref := "QuietWatchModel") (T := TX4) (N := 27) (tys := tyX4) rfl (by decide) inG4 tyX4_ok nmX4 (zg 412 rfl rfl) rfl rfl rfl
set_option maxRecDepth 20000 in
theorem gf_X4_132 : zGet RX4 132 4 7 := zGet.of (ref := "QuietWatchModel") (T := TX4) (N := 27) rfl (by decide) inG4 (zg 413 rfl rfl) rfl
set_option maxRecDepth 20000 in
theorem pf_X4_132 : zPut RX4 132 4 7 .int := zPut.of (f := 7) (ref := "QuietWatchModel") (T := TX4) (N := 27) (tys := tyX4) rfl (by decide) inG4 tyX4_ok nmX4 (zg 413 rfl rfl) rfl rfl rfl
set_option maxRecDepth 20000 in
theorem gf_X4_9 : zGet RX4 9 4 8 := zGet.of (ref := "QuietWatchModel") (T := TX4) (N := 27) rfl (by decide) inG4 (zg 414 rfl rfl) rfl
set_option maxRecDepth 20000 in
theorem gf_X4_13 : zGet RX4 13 4 9 := zGet.of (ref := "QuietWatchModel") (T := TX4) (N := 27) rfl (by decide) inG4 (zg 415 rfl rfl) rfl
set_option maxRecDepth 20000 in
theorem gf_X4_17 : zGet RX4 17 4 10 := zGet.of (ref := "QuietWatchModel") (T := TX4) (N := 27) rfl (by decide) inG4 (zg 416 rfl rfl) rfl
set_option maxRecDepth 20000 in
theorem gf_X4_20 : zGet RX4 20 4 11 := zGet.of (ref := "QuietWatchModel") (T := TX4) (N := 27) rfl (by decide) inG4 (zg 417 rfl rfl) rfl
set_option maxRecDepth 20000 in
theorem gf_X4_23 : zGet RX4 23 4 12 := zGet.of (ref := "QuietWatchModel") (T := TX4) (N := 27) rfl (by decide) inG4 (zg 418 rfl rfl) rfl
set_option maxRecDepth 20000 in
theorem gf_X4_26 : zGet RX4 26 4 13 := zGet.of (ref := "QuietWatchModel") (T := TX4) (N := 27) rfl (by decide) inG4 (zg 419 rfl rfl) rfl
set_option maxRecDepth 20000 in
theorem gf_X4_29 : zGet RX4 29 4 14 := zGet.of (ref := "QuietWatchModel") (T := TX4) (N := 27) rfl (by decide) inG4 (zg 420 rfl rfl) rfl
set_option maxRecDepth 20000 in
theorem gf_X4_32 : zGet RX4 32 4 15 := zGet.of (ref := "QuietWatchModel") (T := TX4) (N := 27) rfl (by decide) inG4 (zg 421 rfl rfl) rfl
set_option maxRecDepth 20000 in
theorem gf_X4_35 : zGet RX4 35 4 16 := zGet.of (ref := "QuietWatchModel") (T := TX4) (N := 27) rfl (by decide) inG4 (zg 422 rfl rfl) rfl
set_option maxRecDepth 20000 in
theorem gf_X4_38 : zGet RX4 38 4 17 := zGet.of (ref := "QuietWatchModel") (T := TX4) (N := 27) rfl (by decide) inG4 (zg 423 rfl rfl) rfl
set_option maxRecDepth 20000 in
theorem gf_X4_41 : zGet RX4 41 4 18 := zGet.of (ref := "QuietWatchModel") (T := TX4) (N := 27) rfl (by decide) inG4 (zg 424 rfl rfl) rfl
set_option maxRecDepth 20000 in
theorem gf_X4_126 : zGet RX4 126 4 19 := zGet.of (ref := "QuietWatchModel") (T := TX4) (N := 27) rfl (by decide) inG4 (zg 425 rfl rfl) rfl
set_option maxRecDepth 20000 in
theorem pf_X4_126 : zPut RX4 126 4 19 .int := zPut.of (f := 19) (ref := "QuietWatchModel") (T := TX4) (N := 27) (tys := tyX4) rfl (by decide) inG4 tyX4_ok nmX4 (zg 425 rfl rfl) rfl rfl rfl
set_option maxRecDepth 20000 in
theorem gf_X4_120 : zGet RX4 120 4 20 := zGet.of (ref := "QuietWatchModel") (T := TX4) (N := 27) rfl (by decide) inG4 (zg 426 rfl rfl) rfl
set_option maxRecDepth 20000 in
theorem pf_X4_120 : zPut RX4 120 4 20 .int := zPut.of (f := 20) (ref := "QuietWatchModel") (T := TX4) (N := 27) (tys := tyX4) rfl (by decide) inG4 tyX4_ok nmX4 (zg 426 rfl rfl) rfl rfl rfl
set_option maxRecDepth 20000 in
theorem gf_X4_123 : zGet RX4 123 4 21 := zGet.of (ref := "QuietWatchModel") (T := TX4) (N := 27) rfl (by decide) inG4 (zg 427 rfl rfl) rfl
set_option maxRecDepth 20000 in
theorem pf_X4_123 : zPut RX4 123 4 21 .boolean := zPut.of (f := 21) (ref := "QuietWatchModel") (T := TX4) (N := 27) (tys := tyX4) rfl (by decide) inG4 tyX4_ok nmX4 (zg 427 rfl rfl) rfl rfl rfl
set_option maxRecDepth 20000 in
theorem gf_X4_44 : zGet RX4 44 4 22 := zGet.of (ref := "QuietWatchModel") (T := TX4) (N := 27) rfl (by decide) inG4 (zg 428 rfl rfl) rfl
set_option maxRecDepth 20000 in
theorem gf_X4_48 : zGet RX4 48 4 23 := zGet.of (ref := "QuietWatchModel") (T := TX4) (N := 27) rfl (by decide) inG4 (zg 429 rfl rfl) rfl
set_option maxRecDepth 20000 in
theorem gf_X4_51 : zGet RX4 51 4 24 := zGet.of (ref := "QuietWatchModel") (T := TX4) (N := 27) rfl (by decide) inG4 (zg 430 rfl rfl) rfl
set_option maxRecDepth 20000 in
theorem gf_X4_54 : zGet RX4 54 4 25 := zGet.of (ref := "QuietWatchModel") (T := TX4) (N := 27) rfl (by decide) inG4 (zg 431 rfl rfl) rfl
set_option maxRecDepth 20000 in
theorem gf_X4_57 : zGet RX4 57 4 26 := zGet.of (ref := "QuietWatchModel") (T := TX4) (N := 27) rfl (by decide) inG4 (zg 432 rfl rfl) rfl
set_option maxRecDepth 20000 in
theorem cw_L_78 : zCV RL 78 RX4 yX4_quiet cX4_quiet 3 (some .boolean) 0 := zCV.of cd_X4_quiet (zg 489 rfl rfl) (zg 490 rfl rfl) (zg 491 rfl rfl) (zg 38 rfl rfl) (by decide +kernel)
set_option maxRecDepth 20000 in
theorem cw_X4_68 : zCS RX4 68 yX4_row cX4_row 2 (some .int) 2 := zCS.of cd_X4_row (zg 493 rfl rfl) (zg 494 rfl rfl) (zg 38 rfl rfl) (by decide +kernel)
set_option maxRecDepth 20000 in
theorem cw_X4_86 : zCV RX4 86 RX4 yX4_counted cX4_counted 5 (some .int) 2 := zCV.of cd_X4_counted (zg 496 rfl rfl) (zg 498 rfl rfl) (zg 17 rfl rfl) (zg 38 rfl rfl) (by decide +kernel)
set_option maxRecDepth 20000 in
theorem cw_L_25 : zCV RL 25 RX4 yX4_start cX4_start 1 (some .boolean) 0 := zCV.of cd_X4_start (zg 500 rfl rfl) (zg 501 rfl rfl) (zg 502 rfl rfl) (zg 38 rfl rfl) (by decide +kernel)
set_option maxRecDepth 20000 in
theorem cw_L_30 : zCV RL 30 RX4 yX4_send cX4_send 3 (some .boolean) 2 := zCV.of cd_X4_send (zg 504 rfl rfl) (zg 505 rfl rfl) (zg 506 rfl rfl) (zg 38 rfl rfl) (by decide +kernel)
set_option maxRecDepth 20000 in
theorem cw_X4_103 : zCV RX4 103 RX4 yX4_isRow cX4_isRow 3 (some .boolean) 2 := zCV.of cd_X4_isRow (zg 508 rfl rfl) (zg 510 rfl rfl) (zg 18 rfl rfl) (zg 38 rfl rfl) (by decide +kernel)
set_option maxRecDepth 20000 in
theorem cw_X4_64 : zCV RX4 64 RX4 yX4_isOne cX4_isOne 2 (some .boolean) 1 := zCV.of cd_X4_isOne (zg 512 rfl rfl) (zg 514 rfl rfl) (zg 19 rfl rfl) (zg 38 rfl rfl) (by decide +kernel)
set_option maxRecDepth 20000 in
theorem cw_X4_107 : zCV RX4 107 RX4 yX4_isFree cX4_isFree 2 (some .boolean) 1 := zCV.of cd_X4_isFree (zg 516 rfl rfl) (zg 518 rfl rfl) (zg 20 rfl rfl) (zg 38 rfl rfl) (by decide +kernel)
set_option maxRecDepth 20000 in
theorem cw_X4_76 : zCV RX4 76 RX4 yX4_isBlocked cX4_isBlocked 2 (some .boolean) 1 := zCV.of cd_X4_isBlocked (zg 520 rfl rfl) (zg 522 rfl rfl) (zg 21 rfl rfl) (zg 38 rfl rfl) (by decide +kernel)
set_option maxRecDepth 20000 in
theorem cw_X4_72 : zCV RX4 72 RX4 yX4_waitsFor cX4_waitsFor 4 (some .int) 1 := zCV.of cd_X4_waitsFor (zg 524 rfl rfl) (zg 526 rfl rfl) (zg 22 rfl rfl) (zg 38 rfl rfl) (by decide +kernel)
set_option maxRecDepth 20000 in
theorem cw_X4_92 : zCV RX4 92 RX4 yX4_sends cX4_sends 8 none 5 := zCV.of cd_X4_sends (zg 528 rfl rfl) (zg 530 rfl rfl) (zg 23 rfl rfl) (zg 38 rfl rfl) (by decide +kernel)
set_option maxRecDepth 20000 in
theorem cw_L_35 : zCV RL 35 RX4 yX4_rest cX4_rest 2 (some .boolean) 1 := zCV.of cd_X4_rest (zg 532 rfl rfl) (zg 533 rfl rfl) (zg 534 rfl rfl) (zg 38 rfl rfl) (by decide +kernel)
set_option maxRecDepth 20000 in
theorem cw_X4_110 : zCV RX4 110 RX4 yX4_settles cX4_settles 3 none 0 := zCV.of cd_X4_settles (zg 536 rfl rfl) (zg 538 rfl rfl) (zg 24 rfl rfl) (zg 38 rfl rfl) (by decide +kernel)
set_option maxRecDepth 20000 in
theorem cw_X4_89 : zCV RX4 89 RX4 yX4_isInTree cX4_isInTree 2 (some .boolean) 1 := zCV.of cd_X4_isInTree (zg 540 rfl rfl) (zg 542 rfl rfl) (zg 25 rfl rfl) (zg 38 rfl rfl) (by decide +kernel)
set_option maxRecDepth 20000 in
theorem cw_X4_96 : zCV RX4 96 RX4 yX4_quiet cX4_quiet 3 (some .boolean) 0 := zCV.of cd_X4_quiet (zg 544 rfl rfl) (zg 490 rfl rfl) (zg 491 rfl rfl) (zg 38 rfl rfl) (by decide +kernel)
set_option maxRecDepth 20000 in
theorem cw_L_40 : zCV RL 40 RX4 yX4_ask cX4_ask 5 (some .int) 2 := zCV.of cd_X4_ask (zg 545 rfl rfl) (zg 546 rfl rfl) (zg 547 rfl rfl) (zg 38 rfl rfl) (by decide +kernel)
set_option maxRecDepth 20000 in
theorem cw_L_44 : zCV RL 44 RX4 yX4_answer cX4_answer 3 (some .boolean) 2 := zCV.of cd_X4_answer (zg 549 rfl rfl) (zg 550 rfl rfl) (zg 551 rfl rfl) (zg 38 rfl rfl) (by decide +kernel)
set_option maxRecDepth 20000 in
theorem cw_L_49 : zCV RL 49 RX4 yX4_probe cX4_probe 2 (some .int) 1 := zCV.of cd_X4_probe (zg 553 rfl rfl) (zg 554 rfl rfl) (zg 555 rfl rfl) (zg 38 rfl rfl) (by decide +kernel)
set_option maxRecDepth 20000 in
theorem cw_X4_113 : zCV RX4 113 RX4 yX4_probes cX4_probes 5 none 3 := zCV.of cd_X4_probes (zg 557 rfl rfl) (zg 559 rfl rfl) (zg 26 rfl rfl) (zg 38 rfl rfl) (by decide +kernel)
set_option maxRecDepth 20000 in
theorem cw_L_53 : zCV RL 53 RX4 yX4_pass cX4_pass 2 (some .int) 1 := zCV.of cd_X4_pass (zg 561 rfl rfl) (zg 562 rfl rfl) (zg 563 rfl rfl) (zg 38 rfl rfl) (by decide +kernel)
set_option maxRecDepth 20000 in
theorem cw_L_57 : zCV RL 57 RX4 yX4_receive cX4_receive 9 (some .int) 2 := zCV.of cd_X4_receive (zg 565 rfl rfl) (zg 566 rfl rfl) (zg 567 rfl rfl) (zg 38 rfl rfl) (by decide +kernel)
set_option maxRecDepth 20000 in
theorem cw_X4_144 : zCV RX4 144 RX4 yX4_work cX4_work 3 none 2 := zCV.of cd_X4_work (zg 569 rfl rfl) (zg 571 rfl rfl) (zg 27 rfl rfl) (zg 38 rfl rfl) (by decide +kernel)
set_option maxRecDepth 20000 in
theorem cw_X4_148 : zCV RX4 148 RX4 yX4_probed cX4_probed 5 none 4 := zCV.of cd_X4_probed (zg 573 rfl rfl) (zg 575 rfl rfl) (zg 28 rfl rfl) (zg 38 rfl rfl) (by decide +kernel)
set_option maxRecDepth 20000 in
theorem cw_X4_135 : zCV RX4 135 RX4 yX4_isInRing cX4_isInRing 5 (some .boolean) 1 := zCV.of cd_X4_isInRing (zg 577 rfl rfl) (zg 579 rfl rfl) (zg 29 rfl rfl) (zg 38 rfl rfl) (by decide +kernel)
set_option maxRecDepth 20000 in
theorem cw_X4_129 : zCV RX4 129 RX4 yX4_hangs cX4_hangs 3 (some .boolean) 2 := zCV.of cd_X4_hangs (zg 581 rfl rfl) (zg 583 rfl rfl) (zg 30 rfl rfl) (zg 38 rfl rfl) (by decide +kernel)
set_option maxRecDepth 20000 in
theorem cw_L_61 : zCV RL 61 RX4 yX4_run cX4_run 10 (some .int) 2 := zCV.of cd_X4_run (zg 585 rfl rfl) (zg 586 rfl rfl) (zg 587 rfl rfl) (zg 38 rfl rfl) (by decide +kernel)
set_option maxRecDepth 20000 in
theorem cw_X4_153 : zCV RX4 153 RX4 yX4_pass cX4_pass 2 (some .int) 1 := zCV.of cd_X4_pass (zg 590 rfl rfl) (zg 562 rfl rfl) (zg 563 rfl rfl) (zg 38 rfl rfl) (by decide +kernel)
set_option maxRecDepth 20000 in
theorem cw_X4_156 : zCV RX4 156 RX4 yX4_receive cX4_receive 9 (some .int) 2 := zCV.of cd_X4_receive (zg 591 rfl rfl) (zg 566 rfl rfl) (zg 567 rfl rfl) (zg 38 rfl rfl) (by decide +kernel)
set_option maxRecDepth 20000 in
theorem cw_L_65 : zCV RL 65 RX4 yX4_told cX4_told 3 (some .int) 2 := zCV.of cd_X4_told (zg 592 rfl rfl) (zg 593 rfl rfl) (zg 594 rfl rfl) (zg 38 rfl rfl) (by decide +kernel)
set_option maxRecDepth 20000 in
theorem cw_X4_159 : zCS RX4 159 yX4_toInt cX4_toInt 1 (some .int) 1 := zCS.of cd_X4_toInt (zg 596 rfl rfl) (zg 597 rfl rfl) (zg 38 rfl rfl) (by decide +kernel)
set_option maxRecDepth 20000 in
theorem cw_X4_163 : zCV RX4 163 RX4 yX4_pendingAt cX4_pendingAt 4 (some .int) 1 := zCV.of cd_X4_pendingAt (zg 599 rfl rfl) (zg 601 rfl rfl) (zg 31 rfl rfl) (zg 38 rfl rfl) (by decide +kernel)
set_option maxRecDepth 20000 in
theorem cw_L_69 : zCV RL 69 RX4 yX4_waits cX4_waits 3 (some .boolean) 2 := zCV.of cd_X4_waits (zg 603 rfl rfl) (zg 604 rfl rfl) (zg 605 rfl rfl) (zg 38 rfl rfl) (by decide +kernel)
set_option maxRecDepth 20000 in
theorem cw_L_74 : zCV RL 74 RX4 yX4_message cX4_message 6 (some .int) 4 := zCV.of cd_X4_message (zg 607 rfl rfl) (zg 608 rfl rfl) (zg 609 rfl rfl) (zg 38 rfl rfl) (by decide +kernel)
set_option maxRecDepth 20000 in
theorem cw_L_83 : zCV RL 83 RX4 yX4_wrong cX4_wrong 1 (some .int) 0 := zCV.of cd_X4_wrong (zg 611 rfl rfl) (zg 612 rfl rfl) (zg 613 rfl rfl) (zg 38 rfl rfl) (by decide +kernel)
set_option maxRecDepth 20000 in
theorem cw_L_87 : zCV RL 87 RX4 yX4_falsely cX4_falsely 1 (some .int) 0 := zCV.of cd_X4_falsely (zg 615 rfl rfl) (zg 616 rfl rfl) (zg 617 rfl rfl) (zg 38 rfl rfl) (by decide +kernel)
set_option maxRecDepth 20000 in
theorem cw_L_91 : zCV RL 91 RX4 yX4_count cX4_count 4 (some .int) 1 := zCV.of cd_X4_count (zg 619 rfl rfl) (zg 620 rfl rfl) (zg 621 rfl rfl) (zg 38 rfl rfl) (by decide +kernel)
set_option maxRecDepth 20000 in
theorem ct_J6_265 : Cond.constant RJ6 265 (1431655765) ∈ zgw := (zg 281 rfl rfl)
set_option maxRecDepth 20000 in
theorem ct_J6_266 : Cond.constant RJ6 266 (858993459) ∈ zgw := (zg 282 rfl rfl)
set_option maxRecDepth 20000 in
theorem ct_J6_267 : Cond.constant RJ6 267 (252645135) ∈ zgw := (zg 283 rfl rfl)
set_option maxRecDepth 20000 in
theorem ct_X3_174 : Cond.constant RX3 174 (1103515245) ∈ zgw := (zg 359 rfl rfl)
set_option maxRecDepth 20000 in
theorem ct_X4_47 : Cond.constant RX4 47 (64000) ∈ zgw := (zg 405 rfl rfl)
set_option maxRecDepth 20000 in
theorem ct_X4_152 : Cond.constant RX4 152 (1103515245) ∈ zgw := (zg 589 rfl rfl)
end
section
/-! ===== MOVING FROM WORLD TO WORLD ===== -/
theorem zP_iff {D : va_G} {IL : List zI} {sh : zSh} {ad : zAd} {S : zSt} {H : Heap} : va_P D vwCl (zws IL sh ad S) H ↔ ∀ i ∈ IL, va_at D vwCl (ad i, zpic sh ad S i) H := by
  constructor
  · intro h i hi
    obtain ⟨k, -, hk⟩ := zws_at (sh := sh) (ad := ad) (S := S) hi
    exact h k _ hk
  · intro h k q hk
    simp only [zws, List.getElem?_map, Option.map_eq_some_iff] at hk
    obtain ⟨i, hi, rfl⟩ := hk
    exact h i (List.mem_of_getElem? hi)
theorem zD_of {A : Nat → Prop} {IL : List zI} {sh : zSh} {ad : zAd} {S : zSt} (hn : IL.Nodup) (h1 : ∀ i ∈ IL, ∀ j ∈ IL, ad i = ad j → i = j) (h2 : ∀ i ∈ IL, A (ad i)) : va_D A (zws IL sh ad S) := by
  refine ⟨fun x y p q hx hy hpq => ?_, fun k q hk => ?_⟩
  · simp only [zws, List.getElem?_map, Option.map_eq_some_iff] at hx hy
    obtain ⟨i, hi, rfl⟩ := hx
    obtain ⟨j, hj, rfl⟩ := hy
    have hij := h1 i (List.mem_of_getElem? hi) j (List.mem_of_getElem? hj) hpq
    subst hij
    have hxl := (List.getElem?_eq_some_iff.mp hi).1
    exact (List.getElem?_inj hxl hn).mp (hi.trans hj.symm)
  · simp only [zws, List.getElem?_map, Option.map_eq_some_iff] at hk
    obtain ⟨i, hi, rfl⟩ := hk
    exact h2 i (List.mem_of_getElem? hi)
theorem zD_1 {A : Nat → Prop} {IL : List zI} {sh : zSh} {ad : zAd} {S : zSt} (h : va_D A (zws IL sh ad S)) : ∀ i ∈ IL, ∀ j ∈ IL, ad i = ad j → i = j := by
  intro i hi j hj hij
  obtain ⟨x, hx, hx2⟩ := zws_at (sh := sh) (ad := ad) (S := S) hi
  obtain ⟨y, hy, hy2⟩ := zws_at (sh := sh) (ad := ad) (S := S) hj
  have := h.1 x y _ _ hx2 hy2 hij
  subst this
  rw [hx] at hy
  exact Option.some.inj hy
theorem zD_2 {A : Nat → Prop} {IL : List zI} {sh : zSh} {ad : zAd} {S : zSt} (h : va_D A (zws IL sh ad S)) : ∀ i ∈ IL, A (ad i) := by
  intro i hi
  obtain ⟨x, hx, hx2⟩ := zws_at (sh := sh) (ad := ad) (S := S) hi
  exact h.2 x _ hx2
section ZW
variable {p : Program} {l : Launch} {e : Env} {R : Room} {s : State} {m : MethodId} {args : Array Value} {below : List Frame} {meth : Method} {c : Code} {Q : State → Prop} {cells slots : Nat}
variable {own : String} {cc : ByteArray} {nL : Nat} {ret : Option FieldType} {D : va_G} {K : zKs} {A : Nat → Prop} {IL : List zI} {sh : zSh} {ad : zAd} {S : zSt} {pc : Nat} {lv : List (Option Value)} {st : List Value}
/-- other names for (a part of) the cells -/
theorem Zr_re {IL' : List zI} {sh' : zSh} {ad' : zAd} {S' : zSt} (hn : IL'.Nodup) (φ : zI → zI) (h1 : ∀ i ∈ IL', φ i ∈ IL) (h2 : ∀ i ∈ IL', ∀ j ∈ IL', φ i = φ j → i = j) (h3 : ∀ i ∈ IL', ad' i = ad (φ i)) (h4 : ∀ i ∈ IL', zpic sh' ad' S' i = zpic sh ad S (φ i)) (k : Z p l e R s m args below meth c D A nL Q IL' cells slots sh' ad' S' pc lv st) : Z p l e R s m args below meth c D A nL Q IL cells slots sh ad S pc lv st := by
  intro H locs ls hP hD hS hl
  refine k H locs ls (zP_iff.mpr fun i hi => ?_) (zD_of hn (fun i hi j hj hij => ?_) (fun i hi => ?_)) hS hl
  · rw [h3 i hi, h4 i hi]
    exact zP_iff.mp hP _ (h1 i hi)
  · rw [h3 i hi, h3 j hj] at hij
    exact h2 i hi j hj (zD_1 hD _ (h1 i hi) _ (h1 j hj) hij)
  · rw [h3 i hi]
    exact zD_2 hD _ (h1 i hi)
/-- a new array of numbers, under a new name -/
theorem Zr_newa (C : zX p s m args meth c own cc nL ret D K A) {a b N : Nat} {n : Int32} {at' : ArrayType} {ty : FieldType} {cA : ClassId} (t0 : Nat) (hty : newarray.typeOf at' = ty) (hd0 : defaultValue ty = .int 0) (hra : ∀ (U : State) (cB : ClassId), va_RA U cB ty ↔ U.vm.findClass ("[" ++ ty.toString) = some cB) (ht : (ztys K)[t0]? = some (cA, ty)) (hw : Cond.arrayClass (newarray.typeOf at') ∈ zgw) (hnew : (a, b) ∉ IL) (hsh : ∀ i ∈ IL, ∀ q, zpic (fun i => if i = (a, b) then .inr (cA, N, none) else sh i) (fun i => if i = (a, b) then q else ad i) (fun x y => if (x, y) = (a, b) then fun _ => 0 else S x y) i = zpic sh ad S i) (hn0 : ¬ n < 0) (hN : n.toNatClampNeg = N) (hbytes : N * componentBytes ty ≤ 536870912) (hc : cells + 1 ≤ R.cells) (hs : slots + N ≤ R.slots) (hd : decode cc pc = .ok (.newarray at', 2))
    (k : ∀ q, Z p l e R s m args below meth c D A nL Q (IL ++ [(a, b)]) (cells + 1) (slots + N) (fun i => if i = (a, b) then .inr (cA, N, none) else sh i) (fun i => if i = (a, b) then q else ad i) (fun x y => if (x, y) = (a, b) then fun _ => 0 else S x y) (pc + 2) lv (.ref q :: st)) : Z p l e R s m args below meth c D A nL Q IL cells slots sh ad S pc lv (.int n :: st) := by
  intro H locs ls hP hD hS hl
  refine va_newa C.1.1 C.1.2.1 (C.1.2.2.2.2 _ hw) hty C.2.1.1 hP hD hS C.2.2.1 (a0 := (N, .inl (fun _ => 0))) (fun cB => by rw [vp_cell_i, hd0]) hn0 hN hbytes hc hs hd (fun q cB H1 hK1 hP1 hD1 hS1 => ?_)
  have hcB : cB = cA := by
    have h1 := (hK1.2 (ztys K).length (cB, ty) (by simp)).2
    have h2 := (C.2.1.1.2 t0 _ ht).2
    have e1 := (hra _ _).mp h1
    have e2 := (hra _ _).mp h2
    exact Option.some.inj (e1.symm.trans e2)
  subst hcB
  have e : zws IL sh ad S ++ [(q, Sum.inl (cB, N, Sum.inl (fun _ => (0 : Int32))))] = zws (IL ++ [(a, b)]) (fun i => if i = (a, b) then .inr (cB, N, none) else sh i) (fun i => if i = (a, b) then q else ad i) (fun x y => if (x, y) = (a, b) then fun _ => 0 else S x y) := by
    simp only [zws, List.map_append, List.map_cons, List.map_nil]
    congr 1
    · apply List.map_congr_left
      intro i hi
      have hne : i ≠ (a, b) := fun h => hnew (h ▸ hi)
      rw [hsh i hi q, if_neg hne]
    · simp [zpic]
  rw [e] at hP1 hD1
  exact k q H1 locs ls hP1 hD1 hS1 hl
theorem zra_int (U : State) (cB : ClassId) : va_RA U cB .int ↔ U.vm.findClass ("[" ++ (FieldType.int).toString) = some cB := Iff.rfl
theorem zra_bool (U : State) (cB : ClassId) : va_RA U cB .boolean ↔ U.vm.findClass ("[" ++ (FieldType.boolean).toString) = some cB := Iff.rfl
/-- a reference into a field -/
def zPutR (own : String) (idx ci f : Nat) (ini : Bool) : Prop := ∀ {p : Program} {l : Launch} {e : Env} {R : Room} {s : State} {m : MethodId} {args : Array Value} {below : List Frame} {meth : Method} {c : Code} {Q : State → Prop} {cells slots : Nat} {cc : ByteArray} {nL : Nat} {ret : Option FieldType} {D : va_G} {K : zKs} {A : Nat → Prop} {H : Heap} {locs : List Loc} {pc : Nat} {ls : Array Slot} {rest : List Value} {ws : va_W} {q0 a v : Nat} {fs : List Value}, zX p s m args meth c own cc nL ret D K A → (ini = true → meth.name = "<init>") → va_P D vwCl ws H → va_D A ws → va_S A s.heap H locs → ws[q0]? = some (a, .inr (ci, fs)) → f < fs.length → decode cc pc = .ok (.putfield idx, 3) → (∀ (H1 : Heap) (locs1 : List Loc), va_P D vwCl (ws.set q0 (a, .inr (ci, fs.set f (.ref v)))) H1 → va_D A (ws.set q0 (a, .inr (ci, fs.set f (.ref v)))) → va_S A s.heap H1 locs1 → W p l e R s m args below meth c H1 locs1 cells slots Q (F0 m (pc + 3) ls rest)) → W p l e R s m args below meth c H locs cells slots Q (F0 m pc ls (.ref v :: .ref a :: rest))
theorem zPutR.of {own : String} {idx ci f : Nat} {Cn ref : String} {T : u_T} {N : Nat} {ty : FieldType} {tys : Nat → FieldType} (hc : vwCl[ci]? = some (Cn, T, N)) (hk : f < N) (hin : ∀ w ∈ u_ws Cn T N, w ∈ zgw) (hty : ∀ k, k < N → parseFieldDescriptor (T k).2.2.1 = some (tys k)) (hnm : ∀ a, a < N → ∀ b, b < N → a ≠ b → (T a).2.1 ≠ (T b).2.1) (hw : Cond.fieldLink own idx ref (T f).2.1 (T f).2.2.1 ∈ zgw) (hr : (T f).1 = ref) (hfin : (T f).2.2.2 = false) (ht : tys f = ty) (hnr : ∀ v, narrow ty (.ref v) = .ref v ∧ fits ty (.ref v) = true) : zPutR own idx ci f false := by
  intro p l e R s m args below meth c Q cells slots cc nL ret D K A H locs pc ls rest ws q0 a v fs C _ hP hD hS he hl hd k
  exact va_put (Ts := zgw) C.1.1 C.1.2.1 C.1.2.2.2.2 hin tys hty hnm C.1.2.2.2.1 C.2.1.1 hP hD hS q0 he hc f hk (C.1.2.2.2.2 _ hw) (fun x hx => by rw [← hr]; exact hx) hfin (by rw [hty f hk, ht]) (hnr v).1 (hnr v).2 hl hd k
theorem zPutR.ofF {own : String} {idx ci f : Nat} {Cn ref : String} {T : u_T} {N : Nat} {ty : FieldType} {tys : Nat → FieldType} (hc : vwCl[ci]? = some (Cn, T, N)) (hk : f < N) (hin : ∀ w ∈ u_ws Cn T N, w ∈ zgw) (hty : ∀ k, k < N → parseFieldDescriptor (T k).2.2.1 = some (tys k)) (hnm : ∀ a, a < N → ∀ b, b < N → a ≠ b → (T a).2.1 ≠ (T b).2.1) (hw : Cond.fieldLink own idx ref (T f).2.1 (T f).2.2.1 ∈ zgw) (hr : (T f).1 = ref) (hro : ref = own) (hfin : (T f).2.2.2 = true) (ht : tys f = ty) (hnr : ∀ v, narrow ty (.ref v) = .ref v ∧ fits ty (.ref v) = true) : zPutR own idx ci f true := by
  intro p l e R s m args below meth c Q cells slots cc nL ret D K A H locs pc ls rest ws q0 a v fs C hini hP hD hS he hl hd k
  exact va_putF (Ts := zgw) C.1.1 C.1.2.1 C.1.2.2.2.2 hin tys hty hnm C.1.2.2.2.1 C.2.1.1 hP hD hS q0 he hc f hk (C.1.2.2.2.2 _ hw) (fun x hx => by rw [← hr]; exact hx) hfin (hini rfl) (hr.trans hro) (by rw [hty f hk, ht]) (hnr v).1 (hnr v).2 hl hd k
theorem zfl_setR {ad : zAd} {g : Nat → Int32} {i : zI} (h99 : i.1 ≠ 99) : ∀ {ds : List (Option zI)} {j k : Nat}, k < ds.length → (zfl ad g j ds).set k (.ref (ad i)) = zfl ad g j (ds.set k (some i))
  | [], j, k, h => absurd h (Nat.not_lt_zero _)
  | none :: ds, j, 0, _ => by simp [zfl, h99]
  | some i' :: ds, j, 0, _ => by simp [zfl, h99]
  | none :: ds, j, k + 1, h => by
    simp only [zfl, List.set_cons_succ]
    rw [zfl_setR h99 (by simpa using h)]
  | some i' :: ds, j, k + 1, h => by
    simp only [zfl, List.set_cons_succ]
    rw [zfl_setR h99 (by simpa using h)]
theorem Zr_putR (C : zX p s m args meth c own cc nL ret D K A) {idx ci f a b x0 v : Nat} {ini : Bool} {ds : List (Option zI)} (j : zI) (g : zPutR own idx ci f ini) (hini : ini = true → meth.name = "<init>") (hm : (a, b) ∈ IL) (hx0 : x0 = ad (a, b)) (hv : v = ad j) (h99 : j.1 ≠ 99) (hs : sh (a, b) = .inl (ci, ds)) (hf : f < ds.length) (hd : decode cc pc = .ok (.putfield idx, 3)) (k : Z p l e R s m args below meth c D A nL Q IL cells slots (fun i => if i = (a, b) then .inl (ci, ds.set f (some j)) else sh i) ad S (pc + 3) lv st) : Z p l e R s m args below meth c D A nL Q IL cells slots sh ad S pc lv (.ref v :: .ref x0 :: st) := by
  subst hx0
  subst hv
  intro H locs ls hP hD hS hl
  obtain ⟨q, hk, hq⟩ := zws_at (sh := sh) (ad := ad) (S := S) hm
  rw [zpic_obj hs] at hq
  refine g C hini hP hD hS hq (by rw [zfl_len]; exact hf) hd (fun H1 locs1 hP1 hD1 hS1 => ?_)
  rw [zfl_setR h99 hf] at hP1 hD1
  rw [zws_set (sh' := fun i => if i = (a, b) then .inl (ci, ds.set f (some j)) else sh i) (S' := S) hD hk (by simp [zpic]) (fun i hi => by simp [zpic, hi])] at hP1 hD1
  exact k H1 locs1 ls hP1 hD1 hS1 hl
end ZW
end
section
/-! ===== THE TWO WORLDS ===== -/
/-- the class: 0 the object, 1 workers, 2 rows, 3 token, 4 a worker, 5 its latestProbe, 6 a row, 7 its cells; cap: how many cells -/
def cSh (K : zKs) (n : Nat) (cap : Nat → Nat) : zSh := fun i => match i with
  | (0, _) => .inl (3, [none, some (1, 0), some (2, 0), some (3, 0), none, none, none, none, none, none, none])
  | (1, _) => .inr (K.2.2.1, n, some (fun p => some (4, p)))
  | (2, _) => .inr (K.2.2.2, n * n, some (fun r => if r / n = r % n then none else some (6, r)))
  | (3, _) => .inl (1, [none, none, none, none])
  | (4, p) => .inl (2, [some (5, p), none, none, none, none, none, none, none, none, none, none])
  | (5, _) => .inr (K.1, n, none)
  | (6, r) => .inl (0, [some (7, r), none, none, none])
  | (7, r) => .inr (K.1, cap r, none)
  | _ => .inr (K.1, 0, none)
def cRow (n r : Nat) : Prop := r < n * n ∧ r / n ≠ r % n
def cRs (n : Nat) : List Nat := (List.range (n * n)).filter (fun r => decide (r / n ≠ r % n))
def cIL (n : Nat) : List zI := [(0, 0), (1, 0), (2, 0), (3, 0)] ++ (List.range n).map (fun p => (4, p)) ++ (List.range n).map (fun p => (5, p)) ++ (cRs n).map (fun r => (6, r)) ++ (cRs n).map (fun r => (7, r))
theorem cRs_mem {n r : Nat} : r ∈ cRs n ↔ cRow n r := by simp [cRs, cRow]
theorem cm0 {n : Nat} : (0, 0) ∈ cIL n := by simp [cIL]
theorem cm1 {n : Nat} : (1, 0) ∈ cIL n := by simp [cIL]
theorem cm2 {n : Nat} : (2, 0) ∈ cIL n := by simp [cIL]
theorem cm3 {n : Nat} : (3, 0) ∈ cIL n := by simp [cIL]
theorem cm4 {n p : Nat} (h : p < n) : (4, p) ∈ cIL n := by simp [cIL, h]
theorem cm5 {n p : Nat} (h : p < n) : (5, p) ∈ cIL n := by simp [cIL, h]
theorem cm6 {n r : Nat} (h : cRow n r) : (6, r) ∈ cIL n := by simp [cIL, cRs_mem, h]
theorem cm7 {n r : Nat} (h : cRow n r) : (7, r) ∈ cIL n := by simp [cIL, cRs_mem, h]
/-- the reference: 0 the object, 1 its arrays by the number of the field -/
def rSh (K : zKs) : zSh := fun i => match i with
  | (0, _) => .inl (4, [none, none, none, none, none, none, none, none, some (1, 8), some (1, 9), some (1, 10), some (1, 11), some (1, 12), some (1, 13), some (1, 14), some (1, 15), some (1, 16), some (1, 17), some (1, 18), none, none, none, some (1, 22), some (1, 23), some (1, 24), some (1, 25), some (1, 26)])
  | (_, 8) => .inr (K.2.1, 10, none)
  | (_, 9) => .inr (K.1, 10, none)
  | (_, 10) => .inr (K.1, 10, none)
  | (_, 11) => .inr (K.1, 10, none)
  | (_, 12) => .inr (K.2.1, 10, none)
  | (_, 13) => .inr (K.2.1, 10, none)
  | (_, 14) => .inr (K.1, 10, none)
  | (_, 15) => .inr (K.1, 10, none)
  | (_, 16) => .inr (K.2.1, 100, none)
  | (_, 17) => .inr (K.2.1, 100, none)
  | (_, 18) => .inr (K.1, 100, none)
  | (_, 22) => .inr (K.1, 100, none)
  | (_, 23) => .inr (K.1, 64000, none)
  | (_, 24) => .inr (K.1, 64000, none)
  | (_, 25) => .inr (K.1, 64000, none)
  | (_, 26) => .inr (K.2.1, 10, none)
  | _ => .inr (K.1, 0, none)
def rIL : List zI := [(0, 0), (1, 8), (1, 9), (1, 10), (1, 11), (1, 12), (1, 13), (1, 14), (1, 15), (1, 16), (1, 17), (1, 18), (1, 22), (1, 23), (1, 24), (1, 25), (1, 26)]
theorem qm0 : (0, 0) ∈ rIL := by decide
theorem qm_8 : (1, 8) ∈ rIL := by decide
theorem qm_9 : (1, 9) ∈ rIL := by decide
theorem qm_10 : (1, 10) ∈ rIL := by decide
theorem qm_11 : (1, 11) ∈ rIL := by decide
theorem qm_12 : (1, 12) ∈ rIL := by decide
theorem qm_13 : (1, 13) ∈ rIL := by decide
theorem qm_14 : (1, 14) ∈ rIL := by decide
theorem qm_15 : (1, 15) ∈ rIL := by decide
theorem qm_16 : (1, 16) ∈ rIL := by decide
theorem qm_17 : (1, 17) ∈ rIL := by decide
theorem qm_18 : (1, 18) ∈ rIL := by decide
theorem qm_22 : (1, 22) ∈ rIL := by decide
theorem qm_23 : (1, 23) ∈ rIL := by decide
theorem qm_24 : (1, 24) ∈ rIL := by decide
theorem qm_25 : (1, 25) ∈ rIL := by decide
theorem qm_26 : (1, 26) ∈ rIL := by decide
end
section
/-! ===== THE ABSTRACT STATE: numbers (the reference's own order; 1 30: replies on their way), rows of messages (by 10 p + q), room of the rows ===== -/
abbrev aM : Type := Int32 × Int32 × Int32
abbrev aS : Type := zSt × (Nat → List aM) × (Nat → Nat)
def aN (σ : aS) (a b k : Nat) (v : Int32) : aS := (z3 σ.1 a b k v, σ.2)
def aPush (σ : aS) (r : Nat) (m : aM) : aS := (σ.1, (fun x => if x = r then σ.2.1 r ++ [m] else σ.2.1 x), fun x => if x = r then (if (σ.2.1 r).length = σ.2.2 r then 2 * σ.2.2 r else σ.2.2 r) else σ.2.2 x)
def aTail (σ : aS) (r : Nat) : aS := (σ.1, (fun x => if x = r then (σ.2.1 r).tail else σ.2.1 x), σ.2.2)
def aCnt (f : Nat → Bool) : Nat → Nat
  | 0 => 0
  | k + 1 => aCnt f k + (if f k then 1 else 0)
theorem aCnt_le (f : Nat → Bool) : ∀ n, aCnt f n ≤ n
  | 0 => Nat.le_refl _
  | k + 1 => by
    have := aCnt_le f k
    simp only [aCnt]
    split <;> omega
theorem aCnt_cong {f g : Nat → Bool} : ∀ {n : Nat}, (∀ k, k < n → f k = g k) → aCnt f n = aCnt g n
  | 0, _ => rfl
  | n + 1, h => by
    simp only [aCnt]
    rw [aCnt_cong (fun k hk => h k (by omega)), h n (by omega)]
theorem aCnt_zero {f : Nat → Bool} : ∀ {n : Nat}, aCnt f n = 0 ↔ ∀ k, k < n → f k = false
  | 0 => by simp [aCnt]
  | n + 1 => by
    have ih := aCnt_zero (f := f) (n := n)
    simp only [aCnt]
    constructor
    · intro h k hk
      have h1 : aCnt f n = 0 := by omega
      by_cases hkn : k = n
      · subst hkn
        cases hf : f k with
        | false => rfl
        | true => simp [hf] at h
      · exact ih.mp h1 k (by omega)
    · intro h
      rw [ih.mpr (fun k hk => h k (by omega)), h n (by omega)]
      rfl
/-- how many of a row are of a kind -/
def aOf (k : Int32) (l : List aM) : Nat := l.countP (fun m => m.1 == k)
def aWf (σ : aS) (n p : Nat) : Nat := aCnt (fun q => σ.1 1 16 (10 * p + q) != 0) n
def aPd (σ : aS) (n p : Nat) : Nat := aCnt (fun q => σ.1 1 17 (10 * p + q) != 0) n
def aFree (σ : aS) (n p : Nat) : Bool := σ.1 1 8 p != 0 && aWf σ n p == 0
def aTree (σ : aS) (p : Nat) : Bool := if p = 0 then σ.1 0 0 1 != 0 && σ.1 0 0 2 == 0 else σ.1 1 9 p != -1
def aBad (n : Nat) (x : Int32) : Prop := x < 0 ∨ nI n ≤ x
/-- the numbers of the state that are booleans, and how many processes there are -/
def aB (n : Nat) (σ : aS) : Prop := σ.1 0 0 0 = nI n ∧ 2 ≤ n ∧ n ≤ 10 ∧ (∀ k, (k = 1 ∨ k = 2 ∨ k = 3 ∨ k = 21) → (σ.1 0 0 k = 0 ∨ σ.1 0 0 k = 1)) ∧ ∀ k j, (k = 8 ∨ k = 12 ∨ k = 13 ∨ k = 16 ∨ k = 17) → (σ.1 1 k j = 0 ∨ σ.1 1 k j = 1)
/-- what the reference's numbers say -/
def rRel (σ : aS) (S : zSt) : Prop := (∀ a b k, ¬ (a = 1 ∧ 22 ≤ b) → S a b k = σ.1 a b k) ∧ ∀ r, r < 100 → (S 1 22 r = nI (σ.2.1 r).length ∧ (σ.2.1 r).length ≤ 640) ∧ ∀ (k : Nat) (m : aM), (σ.2.1 r)[k]? = some m → S 1 23 (640 * r + k) = m.1 ∧ S 1 24 (640 * r + k) = m.2.1 ∧ S 1 25 (640 * r + k) = m.2.2
theorem rg {σ : aS} {S : zSt} {k : Nat} (h : rRel σ S) : S 0 0 k = σ.1 0 0 k := h.1 0 0 k (by omega)
theorem ra {σ : aS} {S : zSt} {k j : Nat} (h : rRel σ S) (hk : k < 22) : S 1 k j = σ.1 1 k j := h.1 1 k j (by omega)
theorem rmy {σ : aS} {S : zSt} {r : Nat} (h : rRel σ S) (hr : r < 100) : S 1 22 r = nI (σ.2.1 r).length := (h.2 r hr).1.1
theorem rlen {σ : aS} {S : zSt} {r : Nat} (h : rRel σ S) (hr : r < 100) : (σ.2.1 r).length ≤ 640 := (h.2 r hr).1.2
theorem rRg {σ : aS} {S : zSt} {k : Nat} {v : Int32} (h : rRel σ S) : rRel (aN σ 0 0 k v) (z3 S 0 0 k v) := by
  refine ⟨fun a b j hn => ?_, fun r hr => ?_⟩
  · simp only [z3, aN]
    rw [h.1 a b j hn]
  · obtain ⟨h1, h2⟩ := h.2 r hr
    refine ⟨by simpa [z3, aN] using h1, fun k m hk => ?_⟩
    simpa [z3] using h2 k m hk
theorem rRa {σ : aS} {S : zSt} {k j : Nat} {v : Int32} (h : rRel σ S) (hk : k < 22) : rRel (aN σ 1 k j v) (z3 S 1 k j v) := by
  have e22 : ¬ (22 = k) := by omega
  have e23 : ¬ (23 = k) := by omega
  have e24 : ¬ (24 = k) := by omega
  have e25 : ¬ (25 = k) := by omega
  refine ⟨fun a b j hn => ?_, fun r hr => ?_⟩
  · simp only [z3, aN]
    rw [h.1 a b j hn]
  · obtain ⟨h1, h2⟩ := h.2 r hr
    refine ⟨by simpa [z3, e22, aN] using h1, fun k m hk => ?_⟩
    simpa [z3, e23, e24, e25] using h2 k m hk
theorem rRx {σ : aS} {S : zSt} {j : Nat} {v : Int32} (h : rRel σ S) : rRel σ (z3 S 1 26 j v) := by
  refine ⟨fun a b j hn => ?_, fun r hr => ?_⟩
  · simp only [z3]
    rw [h.1 a b j hn, if_neg]
    rintro ⟨rfl, rfl, -⟩
    exact hn (by omega)
  · obtain ⟨h1, h2⟩ := h.2 r hr
    refine ⟨by simpa [z3] using h1, fun k m hk => ?_⟩
    simpa [z3] using h2 k m hk
/-- replies on their way are the class's own note -/
theorem rRy {σ : aS} {S : zSt} {j k : Nat} {v : Int32} (hk : 22 ≤ k) (h : rRel σ S) : rRel (aN σ 1 k j v) S := by
  refine ⟨fun a b i hn => ?_, h.2⟩
  simp only [z3, aN]
  rw [h.1 a b i hn, if_neg]
  rintro ⟨rfl, rfl, -⟩
  exact hn (by omega)
theorem rPush {σ : aS} {S : zSt} {r : Nat} {m : aM} {x : Nat} (h : rRel σ S) (hr : r < 100) (hl : (σ.2.1 r).length < 640) (hx : x = 640 * r + (σ.2.1 r).length) : rRel (aPush σ r m) (z3 (z3 (z3 (z3 S 1 23 x m.1) 1 24 x m.2.1) 1 25 x m.2.2) 1 22 r (nI (σ.2.1 r).length + 1)) := by
  subst hx
  refine ⟨fun a b j hn => ?_, fun q hq => ?_⟩
  · simp only [z3, aPush]
    rw [h.1 a b j hn, if_neg (by omega), if_neg (by omega), if_neg (by omega), if_neg (by omega)]
  · obtain ⟨h1, h2⟩ := h.2 q hq
    by_cases hqr : q = r
    · subst hqr
      refine ⟨⟨by simp [z3, aPush, nI_1], by simp [aPush]; omega⟩, fun k mm hk => ?_⟩
      simp only [aPush, if_true] at hk
      by_cases hkl : k < (σ.2.1 q).length
      · rw [List.getElem?_append_left hkl] at hk
        have hne : ¬ (k = (σ.2.1 q).length) := by omega
        simpa [z3, hne] using h2 k mm hk
      · rw [List.getElem?_append_right (by omega)] at hk
        have hk0 : k - (σ.2.1 q).length = 0 := by
          have := (List.getElem?_eq_some_iff.mp hk).1
          simp at this
          omega
        rw [hk0] at hk
        have hk1 : k = (σ.2.1 q).length := by omega
        simp at hk
        subst hk
        subst hk1
        simp [z3]
    · refine ⟨by simpa [z3, aPush, hqr] using h1, fun k mm hk => ?_⟩
      simp only [aPush, if_neg hqr] at hk
      have hkl := (List.getElem?_eq_some_iff.mp hk).1
      have hb := h1.2
      have hne : ¬ (640 * q + k = 640 * r + (σ.2.1 r).length) := by omega
      simpa [z3, hne] using h2 k mm hk
end
section
/-! ===== WHAT EACH METHOD DOES TO THE ABSTRACT STATE ===== -/
def aQuiet (σ : aS) (n : Nat) : Bool := decide (∀ p, p < n → σ.1 1 8 p = 0 ∧ ∀ q, q < n → aOf 1 (σ.2.1 (10 * p + q)) = 0)
theorem aQuiet_iff {σ : aS} {n : Nat} : aQuiet σ n = true ↔ ∀ p, p < n → σ.1 1 8 p = 0 ∧ ∀ q, q < n → aOf 1 (σ.2.1 (10 * p + q)) = 0 := by simp [aQuiet]
def aQual (σ : aS) (p : Nat) : Bool := aTree σ p && σ.1 1 8 p == 0 && decide (¬ 0 < σ.1 1 10 p)
theorem aQual_iff {σ : aS} {p : Nat} : aQual σ p = true ↔ aTree σ p = true ∧ σ.1 1 8 p = 0 ∧ ¬ 0 < σ.1 1 10 p := by simp [aQual, and_assoc]
def aJudge (n : Nat) (σ : aS) : aS := if aQuiet σ n = true then σ else aN σ 0 0 4 (σ.1 0 0 4 + 1)
def aLeave (n : Nat) (σ : aS) (p : Nat) : aS := if aQual σ p = true then (if p = 0 then aJudge n (aN σ 0 0 2 1) else aN (aPush σ (10 * p + (σ.1 1 9 p).toNatClampNeg) (2, -1, -1)) 1 9 p (-1)) else σ
/-- a message to each of those of p's row that f names -/
def aAll (σ : aS) (p : Nat) (f : Nat → Bool) (n : Nat) (m : aM) : aS :=
  (σ.1, (fun r => if r / 10 = p ∧ r % 10 < n ∧ f (r % 10) = true then σ.2.1 r ++ [m] else σ.2.1 r), fun r => if r / 10 = p ∧ r % 10 < n ∧ f (r % 10) = true then (if (σ.2.1 r).length = σ.2.2 r then 2 * σ.2.2 r else σ.2.2 r) else σ.2.2 r)
theorem aAll_0 (σ : aS) (p : Nat) (f : Nat → Bool) (m : aM) : aAll σ p f 0 m = σ := by
  simp [aAll]
theorem aAll_no {σ : aS} {p : Nat} {f : Nat → Bool} {m : aM} {k : Nat} (h : f k = false) : aAll σ p f (k + 1) m = aAll σ p f k m := by
  have e : ∀ r, (r / 10 = p ∧ r % 10 < k + 1 ∧ f (r % 10) = true) ↔ (r / 10 = p ∧ r % 10 < k ∧ f (r % 10) = true) := by
    intro r
    constructor
    · rintro ⟨h1, h2, h3⟩
      refine ⟨h1, ?_, h3⟩
      by_cases hk : r % 10 = k
      · rw [hk, h] at h3; cases h3
      · omega
    · rintro ⟨h1, h2, h3⟩
      exact ⟨h1, by omega, h3⟩
  simp only [aAll, e]
theorem aAll_yes {σ : aS} {p : Nat} {f : Nat → Bool} {m : aM} {k : Nat} (hk : k < 10) (h : f k = true) : aAll σ p f (k + 1) m = aPush (aAll σ p f k m) (10 * p + k) m := by
  have e : ∀ r, (r / 10 = p ∧ r % 10 < k + 1 ∧ f (r % 10) = true) ↔ (r = 10 * p + k ∨ (r / 10 = p ∧ r % 10 < k ∧ f (r % 10) = true)) := by
    intro r
    constructor
    · rintro ⟨h1, h2, h3⟩
      by_cases hk2 : r % 10 = k
      · left; omega
      · right; exact ⟨h1, by omega, h3⟩
    · rintro (h1 | ⟨h1, h2, h3⟩)
      · subst h1
        have : (10 * p + k) % 10 = k := by omega
        exact ⟨by omega, by omega, by rw [this]; exact h⟩
      · exact ⟨h1, by omega, h3⟩
  have hno : ¬ ((10 * p + k) / 10 = p ∧ (10 * p + k) % 10 < k ∧ f ((10 * p + k) % 10) = true) := by
    rintro ⟨-, h2, -⟩
    omega
  simp only [aAll, aPush, e, Prod.mk.injEq, true_and]
  constructor
  · funext r
    by_cases hr : r = 10 * p + k
    · subst hr; rw [if_pos (Or.inl rfl), if_pos rfl, if_neg hno]
    · simp only [hr, false_or, if_false]
  · funext r
    by_cases hr : r = 10 * p + k
    · subst hr; simp only [true_or, if_true, hno, if_false]
    · simp only [hr, false_or, if_false]
/-- bits of a row: those of p's row that f names become v -/
def aRowSet (σ : aS) (b p : Nat) (f : Nat → Bool) (n : Nat) (v : Int32) : aS := ((fun a' b' k => if a' = 1 ∧ b' = b ∧ k / 10 = p ∧ k % 10 < n ∧ f (k % 10) = true then v else σ.1 a' b' k), σ.2)
theorem aRowSet_0 (σ : aS) (b p : Nat) (f : Nat → Bool) (v : Int32) : aRowSet σ b p f 0 v = σ := by simp [aRowSet]
theorem aRowSet_no {σ : aS} {b p : Nat} {f : Nat → Bool} {v : Int32} {k : Nat} (h : f k = false) : aRowSet σ b p f (k + 1) v = aRowSet σ b p f k v := by
  have e : ∀ r, (r / 10 = p ∧ r % 10 < k + 1 ∧ f (r % 10) = true) ↔ (r / 10 = p ∧ r % 10 < k ∧ f (r % 10) = true) := by
    intro r
    constructor
    · rintro ⟨h1, h2, h3⟩
      refine ⟨h1, ?_, h3⟩
      by_cases hk : r % 10 = k
      · rw [hk, h] at h3; cases h3
      · omega
    · rintro ⟨h1, h2, h3⟩
      exact ⟨h1, by omega, h3⟩
  simp only [aRowSet, e]
theorem aRowSet_yes {σ : aS} {b p : Nat} {f : Nat → Bool} {v : Int32} {k : Nat} (hk : k < 10) (h : f k = true) : aRowSet σ b p f (k + 1) v = aN (aRowSet σ b p f k v) 1 b (10 * p + k) v := by
  have e : ∀ r, (r / 10 = p ∧ r % 10 < k + 1 ∧ f (r % 10) = true) ↔ (r = 10 * p + k ∨ (r / 10 = p ∧ r % 10 < k ∧ f (r % 10) = true)) := by
    intro r
    constructor
    · rintro ⟨h1, h2, h3⟩
      by_cases hk2 : r % 10 = k
      · left; omega
      · right; exact ⟨h1, by omega, h3⟩
    · rintro (h1 | ⟨h1, h2, h3⟩)
      · subst h1
        have : (10 * p + k) % 10 = k := by omega
        exact ⟨by omega, by omega, by rw [this]; exact h⟩
      · exact ⟨h1, by omega, h3⟩
  simp only [aRowSet, aN, e, Prod.mk.injEq, and_true]
  funext a' b' r
  simp only [z3]
  by_cases h1 : a' = 1 ∧ b' = b
  · obtain ⟨rfl, rfl⟩ := h1
    by_cases hr : r = 10 * p + k
    · simp [hr]
    · simp [hr]
  · have h2 : ¬ (a' = 1 ∧ b' = b ∧ (r = 10 * p + k ∨ (r / 10 = p ∧ r % 10 < k ∧ f (r % 10) = true))) := fun h => h1 ⟨h.1, h.2.1⟩
    have h3 : ¬ (a' = 1 ∧ b' = b ∧ r = 10 * p + k) := fun h => h1 ⟨h.1, h.2.1⟩
    have h4 : ¬ (a' = 1 ∧ b' = b ∧ r / 10 = p ∧ r % 10 < k ∧ f (r % 10) = true) := fun h => h1 ⟨h.1, h.2.1⟩
    rw [if_neg h2, if_neg h3, if_neg h4]
def aWaits (σ : aS) (p : Nat) : Nat → Bool := fun q => σ.1 1 16 (10 * p + q) != 0
def aBit (x : Int32) (q : Nat) : Bool := x.toBitVec.getLsbD q
def aAsks (p : Nat) (mask : Int32) : Nat → Bool := fun q => q != p && aBit mask q
def aHangs (σ : aS) (p q : Nat) : Prop := σ.1 1 16 (10 * p + q) ≠ 0 ∧ aOf 5 (σ.2.1 (10 * q + p)) = 0
/-- p is in a ring: it is in every set that holds those that p hangs on, and with one those that it hangs on -/
def aInRing (σ : aS) (n p : Nat) : Prop := ∀ T : Nat → Prop, (∀ q, q < n → aHangs σ p q → T q) → (∀ a b, a < n → b < n → T a → aHangs σ a b → T b) → T p
noncomputable def aRing (σ : aS) (n p : Nat) : Int32 := @ite Int32 (aInRing σ n p) (Classical.propDecidable _) 1 0
def fStart (σ : aS) : Int32 × aS := if σ.1 0 0 1 = 0 then (1, aN (aN σ 0 0 1 1) 1 8 0 1) else (0, σ)
def fSend (n : Nat) (σ : aS) (p q : Nat) : Int32 × aS := if aFree σ n p = true ∧ aOf 1 (σ.2.1 (10 * p + q)) ≠ 20 ∧ σ.1 1 10 p ≠ 100 then (1, aN (aN (aPush σ (10 * p + q) (1, -1, -1)) 1 10 p (σ.1 1 10 p + 1)) 1 11 p (σ.1 1 11 p + 1)) else (0, σ)
def fRest (n : Nat) (σ : aS) (p : Nat) : Int32 × aS := if aFree σ n p = true then (1, aLeave n (aN σ 1 8 p 0) p) else (0, σ)
def fAsk (n : Nat) (σ : aS) (p : Nat) (mask : Int32) : Int32 × aS := if aFree σ n p = true ∧ aCnt (aAsks p mask) n ≠ 0 then (nI (aCnt (aAsks p mask) n), aAll (aRowSet σ 16 p (aAsks p mask) n 1) p (aAsks p mask) n (4, -1, -1)) else (-1, σ)
def fAnswer (n : Nat) (σ : aS) (q p : Nat) : Int32 × aS := if aWf σ n q = 0 ∧ σ.1 1 17 (10 * q + p) ≠ 0 then (1, aPush (aN (aN σ 1 17 (10 * q + p) 0) 1 30 (10 * p + q) 1) (10 * q + p) (5, -1, -1)) else (0, σ)
def fProbe (n : Nat) (σ : aS) (p : Nat) : Int32 × aS := if aWf σ n p ≠ 0 ∧ σ.1 1 15 p ≠ 50 then (σ.1 1 15 p + 1, aAll (aN σ 1 15 p (σ.1 1 15 p + 1)) p (aWaits σ p) n (6, nI p, σ.1 1 15 p + 1)) else (-1, σ)
def fPass (n : Nat) (σ : aS) (p : Nat) : Int32 × aS :=
  if σ.1 1 13 p = 0 ∨ σ.1 1 8 p ≠ 0 ∨ σ.1 0 0 1 = 0 ∨ σ.1 0 0 3 ≠ 0 then (-1, σ)
  else if p ≠ 0 then (1, aPush (aN (aN (aN (aN σ 0 0 20 (σ.1 0 0 20 + σ.1 1 11 p)) 0 0 21 (if σ.1 0 0 21 ≠ 0 then 1 else if σ.1 1 12 p ≠ 0 then 1 else 0)) 1 12 p 0) 1 13 p 0) (10 * p + (p - 1)) (3, -1, -1))
  else if 0 < σ.1 0 0 19 ∧ σ.1 0 0 21 = 0 ∧ σ.1 1 12 0 = 0 ∧ σ.1 0 0 20 + σ.1 1 11 0 = 0 then (2, aJudge n (aN σ 0 0 3 1))
  else (1, aPush (aN (aN (aN (aN (aN σ 0 0 19 (σ.1 0 0 19 + 1)) 1 12 0 0) 0 0 21 0) 0 0 20 0) 1 13 0 0) (10 * 0 + (n - 1)) (3, -1, -1))
def aWork (σ : aS) (p q : Nat) : aS :=
  let τ := aN (aN (aN σ 1 8 q 1) 1 12 q 1) 1 11 q (σ.1 1 11 q - 1)
  if aTree τ q = true then aPush τ (10 * q + p) (2, -1, -1) else aN τ 1 9 q (nI p)
noncomputable def aDead (n : Nat) (σ : aS) (i : Nat) : aS :=
  let τ := aN (aN σ 1 14 i (σ.1 1 14 i + 1)) 0 0 7 (σ.1 0 0 7 + 1)
  if aRing τ n i = 0 then aN τ 0 0 5 (τ.1 0 0 5 + 1) else τ
noncomputable def aProbed (n : Nat) (σ : aS) (j k i : Nat) (num : Int32) : aS :=
  if aWf σ n k = 0 ∨ σ.1 1 17 (10 * k + j) = 0 then σ
  else if k = i then aDead n σ i
  else if σ.1 1 18 (10 * k + i) < num then aAll (aN σ 1 18 (10 * k + i) num) k (aWaits σ k) n (6, nI i, num)
  else σ
noncomputable def aTake (n : Nat) (σ : aS) (p q : Nat) (m : aM) : aS :=
  if m.1 = 1 then aWork σ p q
  else if m.1 = 2 then aN σ 1 10 q (σ.1 1 10 q - 1)
  else if m.1 = 3 then aN σ 1 13 q 1
  else if m.1 = 4 then aN σ 1 17 (10 * q + p) 1
  else if m.1 = 5 then aN (aN σ 1 16 (10 * q + p) 0) 1 30 (10 * q + p) 0
  else aProbed n σ p q m.2.1.toNatClampNeg m.2.2
noncomputable def fRecv (n : Nat) (σ : aS) (p q : Nat) : Int32 × aS := match σ.2.1 (10 * p + q) with
  | [] => (-1, σ)
  | m :: _ => (m.1, aLeave n (aTake n (aN (aTail σ (10 * p + q)) 0 0 6 (σ.1 0 0 6 + 1)) p q m) q)
noncomputable def fStep (n : Nat) (σ : aS) (k : Nat) : Int32 × aS := if k / n = k % n then fPass n σ (k / n) else fRecv n σ (k / n) (k % n)
/-- t turns: the seed, how often something was done, the state; g: the next seed, h: the draw of a seed -/
noncomputable def aRun (g : Int32 → Int32) (h : Int32 → Nat) (n : Nat) (s : Int32) (σ : aS) : Nat → Int32 × Int32 × aS
  | 0 => (s, 0, σ)
  | t + 1 => (g (aRun g h n s σ t).1, (if (fStep n (aRun g h n s σ t).2.2 (h (g (aRun g h n s σ t).1))).1 = -1 then (aRun g h n s σ t).2.1 else (aRun g h n s σ t).2.1 + 1), (fStep n (aRun g h n s σ t).2.2 (h (g (aRun g h n s σ t).1))).2)
def hG (g : Int32 → Int32) : Prop := ∀ x : Int32, x * 1103515245 + 12345 = g x
def hH (n : Nat) (h : Int32 → Nat) : Prop := ∀ x : Int32, h x = (x.toBitVec.toNat / 65536) % (n * n)
def fTold (n : Nat) (σ : aS) (i : Nat) (w : Int32) : Int32 :=
  if w = 0 then σ.1 1 8 i else if w = 1 then (if aWf σ n i = 0 then 0 else 1) else if w = 2 then (if aTree σ i = true then 1 else 0)
  else if w = 3 then σ.1 1 9 i else if w = 4 then σ.1 1 10 i else if w = 5 then σ.1 1 11 i else if w = 6 then σ.1 1 12 i
  else if w = 7 then σ.1 1 13 i else if w = 8 then nI (aWf σ n i) else if w = 9 then nI (aPd σ n i) else if w = 10 then σ.1 1 14 i
  else if w = 11 then σ.1 1 15 i else -1
def fMsg (l : List aM) (x w : Int32) : Int32 := if x < 0 then -1 else match l[x.toNatClampNeg]? with
  | none => -1
  | some m => if w = 0 then m.1 else if w = 1 then m.2.1 else if w = 2 then m.2.2 else -1
def aSum (f : Nat → Nat) : Nat → Nat
  | 0 => 0
  | k + 1 => aSum f k + f k
def fCount (σ : aS) (w : Int32) : Int32 :=
  if w = 0 then σ.1 0 0 0 else if w = 1 then σ.1 0 0 2 else if w = 2 then σ.1 0 0 3 else if w = 3 then σ.1 0 0 19 else if w = 4 then σ.1 0 0 20
  else if w = 5 then σ.1 0 0 21 else if w = 6 then nI (aSum (fun r => (σ.2.1 r).length) 100) else if w = 7 then nI (aSum (fun r => aOf 1 (σ.2.1 r)) 100)
  else if w = 8 then σ.1 0 0 6 else if w = 9 then σ.1 0 0 7 else -1
/-- what a call may count on -/
def aSafe (n : Nat) (σ : aS) : Prop := aB n σ ∧ (∀ k, k < n → aQual σ k = false) ∧ (∀ i, i < n → i ≠ 0 → σ.1 1 9 i ≠ -1 → ∃ j, j < n ∧ j ≠ i ∧ σ.1 1 9 i = nI j) ∧ (∀ r, r < 100 → (σ.2.1 r).length ≤ 630) ∧ ∀ r, r < 100 → ∀ m ∈ σ.2.1 r, m.1 = 1 ∨ m.1 = 2 ∨ m.1 = 3 ∨ m.1 = 4 ∨ m.1 = 5 ∨ (m.1 = 6 ∧ ∃ i, i < n ∧ m.2.1 = nI i)
end
section
theorem nI_neg {i : Nat} (h : i < 2 ^ 31) : ¬ nI i < 0 := nI_pos h
theorem aBad.of {n i : Nat} (hi : i < n) (hn : n ≤ 10) : ¬ aBad n (nI i) := by
  rintro (h | h)
  · exact nI_pos (by omega) h
  · exact nI_ge hi (by omega) h
theorem aIx (n : Nat) (hn : n ≤ 10) (x : Int32) : aBad n x ∨ ∃ i : Nat, i < n ∧ x = nI i := by
  rcases pk_ix x (n := n) (by omega) with h | h | h
  · exact Or.inl (Or.inl h)
  · exact Or.inl (Or.inr h)
  · exact Or.inr h
theorem r10 {i j n : Nat} (hi : i < n) (hj : j < n) (hn : n ≤ 10) : 10 * i + j < 100 := by omega
set_option maxHeartbeats 4000000 in
set_option maxRecDepth 100000 in
theorem k_X4_isOne_t {l : Launch} {D : va_G} {K : zKs} {ad : zAd} {S : zSt} {σ : aS} {n i : Nat} (hB : aB n σ) (hR : rRel σ S) (hi : i < n) : zMet l yX4_isOne cX4_isOne 2 (some .boolean) { frames := 0, cells := 0, slots := 0, locals := 0 } D K rIL (rSh K) ad S [.ref (ad (0, 0)), .int (nI i)] (zEq (some (.int 1)) (rSh K) ad (S)) := by
  refine zEnter (own := RX4) (lv0 := [some (.ref (ad (0, 0))), some (.int (nI i))]) (by decide) rfl (by simp [Value.category]) (Nat.le_of_ble_eq_true rfl) rfl ?_
  intro p e s m below meth c A C _ hnm
  have hn := hB.2.2.1
  refine Zr_iload_n C dX4_isOne_0 rfl ?_
  refine Zr_if_lt C 16 dX4_isOne_1 (by decide) (fun h1 => absurd h1 (nI_pos (by omega))) (fun h1 => ?_)
  refine Zr_iload_n C dX4_isOne_4 rfl ?_
  refine Zr_aload_n C dX4_isOne_5 rfl ?_
  refine Zr_getE C gf_X4_60 qm0 rfl rfl rfl (rg hR) dX4_isOne_6 ?_
  refine Zr_icmp_ge C 16 dX4_isOne_9 (by decide) (fun h9 => absurd h9 (by rw [hB.1]; exact nI_ge hi (by omega))) (fun h9 => ?_)
  refine Zr_iconst C (1) dX4_isOne_12 rfl ?_
  refine Zr_goto C 17 dX4_isOne_13 (by decide) ?_
  exact Zr_zret C dX4_isOne_17 (Nat.zero_le _) (Nat.zero_le _) (by first | exact Or.inl rfl | exact Or.inr rfl | assumption) ⟨rfl, rfl, rfl, rfl⟩
set_option maxHeartbeats 4000000 in
set_option maxRecDepth 100000 in
theorem k_X4_isOne_f {l : Launch} {D : va_G} {K : zKs} {ad : zAd} {S : zSt} {σ : aS} {n : Nat} {x : Int32} (hB : aB n σ) (hR : rRel σ S) (hx : aBad n x) : zMet l yX4_isOne cX4_isOne 2 (some .boolean) { frames := 0, cells := 0, slots := 0, locals := 0 } D K rIL (rSh K) ad S [.ref (ad (0, 0)), .int x] (zEq (some (.int 0)) (rSh K) ad (S)) := by
  refine zEnter (own := RX4) (lv0 := [some (.ref (ad (0, 0))), some (.int x)]) (by decide) rfl (by simp [Value.category]) (Nat.le_of_ble_eq_true rfl) rfl ?_
  intro p e s m below meth c A C _ hnm
  refine Zr_iload_n C dX4_isOne_0 rfl ?_
  refine Zr_if_lt C 16 dX4_isOne_1 (by decide) (fun h1 => ?_) (fun h1 => ?_)
  · refine Zr_iconst C (0) dX4_isOne_16 rfl ?_
    exact Zr_zret C dX4_isOne_17 (Nat.zero_le _) (Nat.zero_le _) (by first | exact Or.inl rfl | exact Or.inr rfl | assumption) ⟨rfl, rfl, rfl, rfl⟩
  · refine Zr_iload_n C dX4_isOne_4 rfl ?_
    refine Zr_aload_n C dX4_isOne_5 rfl ?_
    refine Zr_getE C gf_X4_60 qm0 rfl rfl rfl (rg hR) dX4_isOne_6 ?_
    refine Zr_icmp_ge C 16 dX4_isOne_9 (by decide) (fun h9 => ?_) (fun h9 => absurd (hx.resolve_left h1) (by rw [← hB.1]; exact h9))
    refine Zr_iconst C (0) dX4_isOne_16 rfl ?_
    exact Zr_zret C dX4_isOne_17 (Nat.zero_le _) (Nat.zero_le _) (by first | exact Or.inl rfl | exact Or.inr rfl | assumption) ⟨rfl, rfl, rfl, rfl⟩
set_option maxHeartbeats 4000000 in
set_option maxRecDepth 100000 in
theorem k_X4_row {l : Launch} {D : va_G} {K : zKs} {IL : List zI} {sh : zSh} {ad : zAd} {S : zSt} {i j : Nat} : zMet l yX4_row cX4_row 2 (some .int) { frames := 0, cells := 0, slots := 0, locals := 0 } D K IL sh ad S [.int (nI i), .int (nI j)] (zEq (some (.int (nI (10 * i + j)))) sh ad (S)) := by
  refine zEnter (own := RX4) (lv0 := [some (.int (nI i)), some (.int (nI j))]) (by decide) rfl (by simp [Value.category]) (Nat.le_of_ble_eq_true rfl) rfl ?_
  intro p e s m below meth c A C _ hnm
  refine Zr_bipush C (10) dX4_row_0 rfl ?_
  refine Zr_iload_n C dX4_row_2 rfl ?_
  refine Zr_imul C dX4_row_3 ?_
  refine Zr_iload_n C dX4_row_4 rfl ?_
  refine Zr_iadd C dX4_row_5 ?_
  exact Zr_iret C dX4_row_6 (Nat.zero_le _) (Nat.zero_le _) ⟨by rw [show (10 : Int32) = nI 10 from rfl, pk_mul, nI_add], rfl, rfl, rfl⟩
set_option maxHeartbeats 4000000 in
set_option maxRecDepth 100000 in
theorem k_X4_toInt {l : Launch} {D : va_G} {K : zKs} {IL : List zI} {sh : zSh} {ad : zAd} {S : zSt} {b : Int32} (hb : b = 0 ∨ b = 1) : zMet l yX4_toInt cX4_toInt 1 (some .int) { frames := 0, cells := 0, slots := 0, locals := 0 } D K IL sh ad S [.int b] (zEq (some (.int b)) sh ad (S)) := by
  refine zEnter (own := RX4) (lv0 := [some (.int b)]) (by decide) rfl (by simp [Value.category]) (Nat.le_of_ble_eq_true rfl) rfl ?_
  intro p e s m below meth c A C _ hnm
  rcases hb with rfl | rfl
  · refine Zr_iload_n C dX4_toInt_0 rfl ?_
    refine Zr_if_eq C 8 dX4_toInt_1 (by decide) (fun h1 => ?_) (fun h1 => absurd rfl h1)
    refine Zr_iconst C (0) dX4_toInt_8 rfl ?_
    exact Zr_iret C dX4_toInt_9 (Nat.zero_le _) (Nat.zero_le _) ⟨rfl, rfl, rfl, rfl⟩
  · refine Zr_iload_n C dX4_toInt_0 rfl ?_
    refine Zr_if_eq C 8 dX4_toInt_1 (by decide) (fun h1 => absurd h1 (by decide)) (fun h1 => ?_)
    refine Zr_iconst C (1) dX4_toInt_4 rfl ?_
    refine Zr_goto C 9 dX4_toInt_5 (by decide) ?_
    exact Zr_iret C dX4_toInt_9 (Nat.zero_le _) (Nat.zero_le _) ⟨rfl, rfl, rfl, rfl⟩
set_option maxHeartbeats 4000000 in
set_option maxRecDepth 100000 in
theorem k_X4_isRow_t {l : Launch} {D : va_G} {K : zKs} {ad : zAd} {S : zSt} {σ : aS} {n i j : Nat} (hB : aB n σ) (hR : rRel σ S) (hi : i < n) (hj : j < n) (hij : i ≠ j) : zMet l yX4_isRow cX4_isRow 3 (some .boolean) { frames := 1, cells := 0, slots := 0, locals := 21 } D K rIL (rSh K) ad S [.ref (ad (0, 0)), .int (nI i), .int (nI j)] (zEq (some (.int 1)) (rSh K) ad (S)) := by
  refine zEnter (own := RX4) (lv0 := [some (.ref (ad (0, 0))), some (.int (nI i)), some (.int (nI j))]) (by decide) rfl (by simp [Value.category]) (Nat.le_of_ble_eq_true rfl) rfl ?_
  intro p e s m below meth c A C _ hnm
  have hn := hB.2.2.1
  refine Zr_aload_n C dX4_isRow_0 rfl ?_
  refine Zr_iload_n C dX4_isRow_1 rfl ?_
  refine Zr_callV C cw_X4_64 (k_X4_isOne_t hB hR (by assumption)) qm0 rfl rfl rfl (Nat.le_of_ble_eq_true rfl) (Nat.le_of_ble_eq_true rfl) rfl (Nat.le_of_ble_eq_true rfl) dX4_isRow_2 ⟨Nat.zero_le _, Nat.zero_le _⟩ ?_
  refine Zr_if_eq C 25 dX4_isRow_5 (by decide) (fun h5 => absurd h5 (by decide)) (fun h5 => ?_)
  refine Zr_aload_n C dX4_isRow_8 rfl ?_
  refine Zr_iload_n C dX4_isRow_9 rfl ?_
  refine Zr_callV C cw_X4_64 (k_X4_isOne_t hB hR (by assumption)) qm0 rfl rfl rfl (Nat.le_of_ble_eq_true rfl) (Nat.le_of_ble_eq_true rfl) rfl (Nat.le_of_ble_eq_true rfl) dX4_isRow_10 ⟨Nat.zero_le _, Nat.zero_le _⟩ ?_
  refine Zr_if_eq C 25 dX4_isRow_13 (by decide) (fun h13 => absurd h13 (by decide)) (fun h13 => ?_)
  refine Zr_iload_n C dX4_isRow_16 rfl ?_
  refine Zr_iload_n C dX4_isRow_17 rfl ?_
  refine Zr_icmp_eq C 25 dX4_isRow_18 (by decide) (fun h18 => absurd ((nI_eq (by omega) (by omega)).mp h18) hij) (fun h18 => ?_)
  refine Zr_iconst C (1) dX4_isRow_21 rfl ?_
  refine Zr_goto C 26 dX4_isRow_22 (by decide) ?_
  exact Zr_zret C dX4_isRow_26 (Nat.zero_le _) (Nat.zero_le _) (by first | exact Or.inl rfl | exact Or.inr rfl | assumption) ⟨rfl, rfl, rfl, rfl⟩
set_option maxHeartbeats 4000000 in
set_option maxRecDepth 100000 in
theorem k_X4_isRow_f {l : Launch} {D : va_G} {K : zKs} {ad : zAd} {S : zSt} {σ : aS} {n : Nat} {x y : Int32} (hB : aB n σ) (hR : rRel σ S) (hx : aBad n x ∨ aBad n y ∨ x = y) : zMet l yX4_isRow cX4_isRow 3 (some .boolean) { frames := 1, cells := 0, slots := 0, locals := 21 } D K rIL (rSh K) ad S [.ref (ad (0, 0)), .int x, .int y] (zEq (some (.int 0)) (rSh K) ad (S)) := by
  refine zEnter (own := RX4) (lv0 := [some (.ref (ad (0, 0))), some (.int x), some (.int y)]) (by decide) rfl (by simp [Value.category]) (Nat.le_of_ble_eq_true rfl) rfl ?_
  intro p e s m below meth c A C _ hnm
  have hn := hB.2.2.1
  rcases aIx n hn x with h | ⟨i, hi, rfl⟩
  · refine Zr_aload_n C dX4_isRow_0 rfl ?_
    refine Zr_iload_n C dX4_isRow_1 rfl ?_
    refine Zr_callV C cw_X4_64 (k_X4_isOne_f hB hR h) qm0 rfl rfl rfl (Nat.le_of_ble_eq_true rfl) (Nat.le_of_ble_eq_true rfl) rfl (Nat.le_of_ble_eq_true rfl) dX4_isRow_2 ⟨Nat.zero_le _, Nat.zero_le _⟩ ?_
    refine Zr_if_eq C 25 dX4_isRow_5 (by decide) (fun h5 => ?_) (fun h5 => absurd rfl h5)
    refine Zr_iconst C (0) dX4_isRow_25 rfl ?_
    exact Zr_zret C dX4_isRow_26 (Nat.zero_le _) (Nat.zero_le _) (by first | exact Or.inl rfl | exact Or.inr rfl | assumption) ⟨rfl, rfl, rfl, rfl⟩
  · rcases aIx n hn y with h | ⟨j, hj, rfl⟩
    · refine Zr_aload_n C dX4_isRow_0 rfl ?_
      refine Zr_iload_n C dX4_isRow_1 rfl ?_
      refine Zr_callV C cw_X4_64 (k_X4_isOne_t hB hR hi) qm0 rfl rfl rfl (Nat.le_of_ble_eq_true rfl) (Nat.le_of_ble_eq_true rfl) rfl (Nat.le_of_ble_eq_true rfl) dX4_isRow_2 ⟨Nat.zero_le _, Nat.zero_le _⟩ ?_
      refine Zr_if_eq C 25 dX4_isRow_5 (by decide) (fun h5 => absurd h5 (by decide)) (fun h5 => ?_)
      refine Zr_aload_n C dX4_isRow_8 rfl ?_
      refine Zr_iload_n C dX4_isRow_9 rfl ?_
      refine Zr_callV C cw_X4_64 (k_X4_isOne_f hB hR h) qm0 rfl rfl rfl (Nat.le_of_ble_eq_true rfl) (Nat.le_of_ble_eq_true rfl) rfl (Nat.le_of_ble_eq_true rfl) dX4_isRow_10 ⟨Nat.zero_le _, Nat.zero_le _⟩ ?_
      refine Zr_if_eq C 25 dX4_isRow_13 (by decide) (fun h13 => ?_) (fun h13 => absurd rfl h13)
      refine Zr_iconst C (0) dX4_isRow_25 rfl ?_
      exact Zr_zret C dX4_isRow_26 (Nat.zero_le _) (Nat.zero_le _) (by first | exact Or.inl rfl | exact Or.inr rfl | assumption) ⟨rfl, rfl, rfl, rfl⟩
    · have h : nI i = nI j := (hx.resolve_left (aBad.of hi hn)).resolve_left (aBad.of hj hn)
      refine Zr_aload_n C dX4_isRow_0 rfl ?_
      refine Zr_iload_n C dX4_isRow_1 rfl ?_
      refine Zr_callV C cw_X4_64 (k_X4_isOne_t hB hR hi) qm0 rfl rfl rfl (Nat.le_of_ble_eq_true rfl) (Nat.le_of_ble_eq_true rfl) rfl (Nat.le_of_ble_eq_true rfl) dX4_isRow_2 ⟨Nat.zero_le _, Nat.zero_le _⟩ ?_
      refine Zr_if_eq C 25 dX4_isRow_5 (by decide) (fun h5 => absurd h5 (by decide)) (fun h5 => ?_)
      refine Zr_aload_n C dX4_isRow_8 rfl ?_
      refine Zr_iload_n C dX4_isRow_9 rfl ?_
      refine Zr_callV C cw_X4_64 (k_X4_isOne_t hB hR hj) qm0 rfl rfl rfl (Nat.le_of_ble_eq_true rfl) (Nat.le_of_ble_eq_true rfl) rfl (Nat.le_of_ble_eq_true rfl) dX4_isRow_10 ⟨Nat.zero_le _, Nat.zero_le _⟩ ?_
      refine Zr_if_eq C 25 dX4_isRow_13 (by decide) (fun h13 => absurd h13 (by decide)) (fun h13 => ?_)
      refine Zr_iload_n C dX4_isRow_16 rfl ?_
      refine Zr_iload_n C dX4_isRow_17 rfl ?_
      refine Zr_icmp_eq C 25 dX4_isRow_18 (by decide) (fun h18 => ?_) (fun h18 => absurd h h18)
      refine Zr_iconst C (0) dX4_isRow_25 rfl ?_
      exact Zr_zret C dX4_isRow_26 (Nat.zero_le _) (Nat.zero_le _) (by first | exact Or.inl rfl | exact Or.inr rfl | assumption) ⟨rfl, rfl, rfl, rfl⟩
end
section
theorem aOf_take {k : Int32} {l : List aM} {i : Nat} {m : aM} (h : l[i]? = some m) : aOf k (l.take (i + 1)) = aOf k (l.take i) + (if m.1 = k then 1 else 0) := by
  rw [List.take_add_one, h]
  simp [aOf, List.countP_append, List.countP_cons]
theorem aOf_all {k : Int32} {l : List aM} : aOf k (l.take l.length) = aOf k l := by rw [List.take_length]
theorem aOf_le {k : Int32} {l : List aM} : aOf k l ≤ l.length := List.countP_le_length
theorem x640 (r k : Nat) : (640 : Int32) * nI r + nI k = nI (640 * r + k) := by rw [show (640 : Int32) = nI 640 from rfl, pk_mul, nI_add]
set_option maxHeartbeats 4000000 in
set_option maxRecDepth 100000 in
theorem k_X4_counted {l : Launch} {D : va_G} {K : zKs} {ad : zAd} {S : zSt} {σ : aS} {r : Nat} {kind : Int32} (hR : rRel σ S) (hr : r < 100) : zMet l yX4_counted cX4_counted 5 (some .int) { frames := 0, cells := 0, slots := 0, locals := 0 } D K rIL (rSh K) ad S [.ref (ad (0, 0)), .int (nI r), .int kind] (zEq (some (.int (nI (aOf kind (σ.2.1 r))))) (rSh K) ad (S)) := by
  refine zEnter (own := RX4) (lv0 := [some (.ref (ad (0, 0))), some (.int (nI r)), some (.int kind), none, none]) (by decide) rfl (by simp [Value.category]) (Nat.le_of_ble_eq_true rfl) rfl ?_
  intro p e s m below meth c A C _ hnm
  have hlen := rlen hR hr
  have key : ∀ (d k : Nat), k + d = (σ.2.1 r).length → Z p l e ({ frames := 0, cells := 0, slots := 0, locals := 0 } : Room) s m ([.ref (ad (0, 0)), .int (nI r), .int kind] : List Value).toArray below meth c D A 5 (MQ below (zQ (zEq (some (.int (nI (aOf kind (σ.2.1 r))))) (rSh K) ad (S)) rIL D A) ([.ref (ad (0, 0)), .int (nI r), .int kind] : List Value).toArray s 0 0 A) rIL 0 0 (rSh K) ad S (5) ([some (.ref (ad (0, 0))), some (.int (nI r)), some (.int kind), some (.int (nI (aOf kind ((σ.2.1 r).take k)))), some (.int (nI k))]) ([]) := by
    intro d
    induction d with
    | zero =>
      intro k hk
      have hk : k = (σ.2.1 r).length := by omega
      subst hk
      refine Zr_iload C dX4_counted_5 rfl ?_
      refine Zr_aload_n C dX4_counted_7 rfl ?_
      refine Zr_getR C gf_X4_44 qm0 rfl rfl rfl (by decide) dX4_counted_8 ?_
      refine Zr_iload_n C dX4_counted_11 rfl ?_
      refine Zr_ialdN C qm_22 rfl rfl hr (by decide) (rmy hR hr) dX4_counted_12 ?_
      refine Zr_icmp_ge C 47 dX4_counted_13 (by decide) (fun h13 => ?_) (fun h13 => absurd (nI_le (Nat.le_refl _) (by omega)) h13)
      refine Zr_iload_n C dX4_counted_47 rfl ?_
      exact Zr_iret C dX4_counted_48 (Nat.zero_le _) (Nat.zero_le _) ⟨by rw [aOf_all], rfl, rfl, rfl⟩
    | succ d ih =>
      intro k hk
      have hkl : k < (σ.2.1 r).length := by omega
      obtain ⟨mm, hm⟩ : ∃ mm, (σ.2.1 r)[k]? = some mm := ⟨_, List.getElem?_eq_getElem hkl⟩
      refine Zr_iload C dX4_counted_5 rfl ?_
      refine Zr_aload_n C dX4_counted_7 rfl ?_
      refine Zr_getR C gf_X4_44 qm0 rfl rfl rfl (by decide) dX4_counted_8 ?_
      refine Zr_iload_n C dX4_counted_11 rfl ?_
      refine Zr_ialdN C qm_22 rfl rfl hr (by decide) (rmy hR hr) dX4_counted_12 ?_
      refine Zr_icmp_ge C 47 dX4_counted_13 (by decide) (fun h13 => absurd h13 (nI_ge hkl (by omega))) (fun h13 => ?_)
      refine Zr_iload_n C dX4_counted_16 rfl ?_
      refine Zr_aload_n C dX4_counted_17 rfl ?_
      refine Zr_getR C gf_X4_48 qm0 rfl rfl rfl (by decide) dX4_counted_18 ?_
      refine Zr_sipush C (640) dX4_counted_21 rfl ?_
      refine Zr_iload_n C dX4_counted_24 rfl ?_
      refine Zr_imul C dX4_counted_25 ?_
      refine Zr_iload C dX4_counted_26 rfl ?_
      refine Zr_iadd C dX4_counted_28 ?_
      refine Zr_topi (y := nI (640 * r + k)) (x640 r k) ?_
      refine Zr_ialdN C qm_23 rfl rfl (by omega) (by decide) ((hR.2 r hr).2 k mm hm).1 dX4_counted_29 ?_
      refine Zr_iload_n C dX4_counted_30 rfl ?_
      refine Zr_icmp_ne C 38 dX4_counted_31 (by decide) (fun h31 => ?_) (fun h31 => ?_)
      · refine Zr_iconst C (0) dX4_counted_38 rfl ?_
        refine Zr_iadd C dX4_counted_39 ?_
        refine Zr_topi (y := nI (aOf kind ((σ.2.1 r).take (k + 1)))) (by rw [aOf_take hm]; simp [h31, nI_1]) ?_
        refine Zr_istore_n C dX4_counted_40 (by decide) ?_
        refine Zr_iincE C (1) (nI (k + 1)) dX4_counted_41 (by decide) rfl rfl (nI_1 _) ?_
        refine Zr_goto C 5 dX4_counted_44 (by decide) ?_
        exact ih (k + 1) (by omega)
      · refine Zr_iconst C (1) dX4_counted_34 rfl ?_
        refine Zr_goto C 39 dX4_counted_35 (by decide) ?_
        refine Zr_iadd C dX4_counted_39 ?_
        refine Zr_topi (y := nI (aOf kind ((σ.2.1 r).take (k + 1)))) (by rw [aOf_take hm]; simp [h31, nI_1]) ?_
        refine Zr_istore_n C dX4_counted_40 (by decide) ?_
        refine Zr_iincE C (1) (nI (k + 1)) dX4_counted_41 (by decide) rfl rfl (nI_1 _) ?_
        refine Zr_goto C 5 dX4_counted_44 (by decide) ?_
        exact ih (k + 1) (by omega)
  refine Zr_iconst C (0) dX4_counted_0 rfl ?_
  refine Zr_istore_n C dX4_counted_1 (by decide) ?_
  refine Zr_iconst C (0) dX4_counted_2 rfl ?_
  refine Zr_istore C dX4_counted_3 (by decide) ?_
  exact key (σ.2.1 r).length 0 (by omega)
set_option maxHeartbeats 4000000 in
set_option maxRecDepth 100000 in
theorem k_X4_waitsFor {l : Launch} {D : va_G} {K : zKs} {ad : zAd} {S : zSt} {σ : aS} {n i : Nat} (hB : aB n σ) (hR : rRel σ S) (hi : i < n) : zMet l yX4_waitsFor cX4_waitsFor 4 (some .int) { frames := 1, cells := 0, slots := 0, locals := 21 } D K rIL (rSh K) ad S [.ref (ad (0, 0)), .int (nI i)] (zEq (some (.int (nI (aWf σ n i)))) (rSh K) ad (S)) := by
  refine zEnter (own := RX4) (lv0 := [some (.ref (ad (0, 0))), some (.int (nI i)), none, none]) (by decide) rfl (by simp [Value.category]) (Nat.le_of_ble_eq_true rfl) rfl ?_
  intro p e s m below meth c A C _ hnm
  have hn := hB.2.2.1
  have key : ∀ (d k : Nat), k + d = n → Z p l e ({ frames := 1, cells := 0, slots := 0, locals := 21 } : Room) s m ([.ref (ad (0, 0)), .int (nI i)] : List Value).toArray below meth c D A 4 (MQ below (zQ (zEq (some (.int (nI (aWf σ n i)))) (rSh K) ad (S)) rIL D A) ([.ref (ad (0, 0)), .int (nI i)] : List Value).toArray s 0 0 A) rIL 0 0 (rSh K) ad S (4) ([some (.ref (ad (0, 0))), some (.int (nI i)), some (.int (nI (aCnt (fun q => σ.1 1 16 (10 * i + q) != 0) k))), some (.int (nI k))]) ([]) := by
    intro d
    induction d with
    | zero =>
      intro k hk
      have hk : k = n := by omega
      subst hk
      refine Zr_iload_n C dX4_waitsFor_4 rfl ?_
      refine Zr_aload_n C dX4_waitsFor_5 rfl ?_
      refine Zr_getE C gf_X4_60 qm0 rfl rfl rfl (rg hR) dX4_waitsFor_6 ?_
      refine Zr_icmp_ge C 39 dX4_waitsFor_9 (by decide) (fun h9 => ?_) (fun h9 => absurd (by rw [hB.1]; exact nI_le (Nat.le_refl _) (by omega)) h9)
      refine Zr_iload_n C dX4_waitsFor_39 rfl ?_
      exact Zr_iret C dX4_waitsFor_40 (Nat.zero_le _) (Nat.zero_le _) ⟨rfl, rfl, rfl, rfl⟩
    | succ d ih =>
      intro k hk
      have hkl : k < n := by omega
      refine Zr_iload_n C dX4_waitsFor_4 rfl ?_
      refine Zr_aload_n C dX4_waitsFor_5 rfl ?_
      refine Zr_getE C gf_X4_60 qm0 rfl rfl rfl (rg hR) dX4_waitsFor_6 ?_
      refine Zr_icmp_ge C 39 dX4_waitsFor_9 (by decide) (fun h9 => absurd h9 (by rw [hB.1]; exact nI_ge hkl (by omega))) (fun h9 => ?_)
      refine Zr_iload_n C dX4_waitsFor_12 rfl ?_
      refine Zr_aload_n C dX4_waitsFor_13 rfl ?_
      refine Zr_getR C gf_X4_35 qm0 rfl rfl rfl (by decide) dX4_waitsFor_14 ?_
      refine Zr_iload_n C dX4_waitsFor_17 rfl ?_
      refine Zr_iload_n C dX4_waitsFor_18 rfl ?_
      refine Zr_callS C cw_X4_68 (k_X4_row (i := i) (j := k)) rfl (Nat.le_of_ble_eq_true rfl) (Nat.le_of_ble_eq_true rfl) rfl (Nat.le_of_ble_eq_true rfl) dX4_waitsFor_19 ⟨Nat.zero_le _, Nat.zero_le _⟩ ?_
      refine Zr_zaldN C qm_16 rfl rfl (by omega) (by decide) (ra hR (by decide)) dX4_waitsFor_22 ?_
      refine Zr_if_eq C 30 dX4_waitsFor_23 (by decide) (fun h23 => ?_) (fun h23 => ?_)
      · refine Zr_iconst C (0) dX4_waitsFor_30 rfl ?_
        refine Zr_iadd C dX4_waitsFor_31 ?_
        refine Zr_topi (y := nI (aCnt (fun q => σ.1 1 16 (10 * i + q) != 0) (k + 1))) (by simp [aCnt, h23, nI_1]) ?_
        refine Zr_istore_n C dX4_waitsFor_32 (by decide) ?_
        refine Zr_iincE C (1) (nI (k + 1)) dX4_waitsFor_33 (by decide) rfl rfl (nI_1 _) ?_
        refine Zr_goto C 4 dX4_waitsFor_36 (by decide) ?_
        exact ih (k + 1) (by omega)
      · refine Zr_iconst C (1) dX4_waitsFor_26 rfl ?_
        refine Zr_goto C 31 dX4_waitsFor_27 (by decide) ?_
        refine Zr_iadd C dX4_waitsFor_31 ?_
        refine Zr_topi (y := nI (aCnt (fun q => σ.1 1 16 (10 * i + q) != 0) (k + 1))) (by simp [aCnt, h23, nI_1]) ?_
        refine Zr_istore_n C dX4_waitsFor_32 (by decide) ?_
        refine Zr_iincE C (1) (nI (k + 1)) dX4_waitsFor_33 (by decide) rfl rfl (nI_1 _) ?_
        refine Zr_goto C 4 dX4_waitsFor_36 (by decide) ?_
        exact ih (k + 1) (by omega)
  refine Zr_iconst C (0) dX4_waitsFor_0 rfl ?_
  refine Zr_istore_n C dX4_waitsFor_1 (by decide) ?_
  refine Zr_iconst C (0) dX4_waitsFor_2 rfl ?_
  refine Zr_istore_n C dX4_waitsFor_3 (by decide) ?_
  exact key n 0 (by omega)
set_option maxHeartbeats 4000000 in
set_option maxRecDepth 100000 in
theorem k_X4_pendingAt {l : Launch} {D : va_G} {K : zKs} {ad : zAd} {S : zSt} {σ : aS} {n i : Nat} (hB : aB n σ) (hR : rRel σ S) (hi : i < n) : zMet l yX4_pendingAt cX4_pendingAt 4 (some .int) { frames := 1, cells := 0, slots := 0, locals := 21 } D K rIL (rSh K) ad S [.ref (ad (0, 0)), .int (nI i)] (zEq (some (.int (nI (aPd σ n i)))) (rSh K) ad (S)) := by
  refine zEnter (own := RX4) (lv0 := [some (.ref (ad (0, 0))), some (.int (nI i)), none, none]) (by decide) rfl (by simp [Value.category]) (Nat.le_of_ble_eq_true rfl) rfl ?_
  intro p e s m below meth c A C _ hnm
  have hn := hB.2.2.1
  have key : ∀ (d k : Nat), k + d = n → Z p l e ({ frames := 1, cells := 0, slots := 0, locals := 21 } : Room) s m ([.ref (ad (0, 0)), .int (nI i)] : List Value).toArray below meth c D A 4 (MQ below (zQ (zEq (some (.int (nI (aPd σ n i)))) (rSh K) ad (S)) rIL D A) ([.ref (ad (0, 0)), .int (nI i)] : List Value).toArray s 0 0 A) rIL 0 0 (rSh K) ad S (4) ([some (.ref (ad (0, 0))), some (.int (nI i)), some (.int (nI (aCnt (fun q => σ.1 1 17 (10 * i + q) != 0) k))), some (.int (nI k))]) ([]) := by
    intro d
    induction d with
    | zero =>
      intro k hk
      have hk : k = n := by omega
      subst hk
      refine Zr_iload_n C dX4_pendingAt_4 rfl ?_
      refine Zr_aload_n C dX4_pendingAt_5 rfl ?_
      refine Zr_getE C gf_X4_60 qm0 rfl rfl rfl (rg hR) dX4_pendingAt_6 ?_
      refine Zr_icmp_ge C 39 dX4_pendingAt_9 (by decide) (fun h9 => ?_) (fun h9 => absurd (by rw [hB.1]; exact nI_le (Nat.le_refl _) (by omega)) h9)
      refine Zr_iload_n C dX4_pendingAt_39 rfl ?_
      exact Zr_iret C dX4_pendingAt_40 (Nat.zero_le _) (Nat.zero_le _) ⟨rfl, rfl, rfl, rfl⟩
    | succ d ih =>
      intro k hk
      have hkl : k < n := by omega
      refine Zr_iload_n C dX4_pendingAt_4 rfl ?_
      refine Zr_aload_n C dX4_pendingAt_5 rfl ?_
      refine Zr_getE C gf_X4_60 qm0 rfl rfl rfl (rg hR) dX4_pendingAt_6 ?_
      refine Zr_icmp_ge C 39 dX4_pendingAt_9 (by decide) (fun h9 => absurd h9 (by rw [hB.1]; exact nI_ge hkl (by omega))) (fun h9 => ?_)
      refine Zr_iload_n C dX4_pendingAt_12 rfl ?_
      refine Zr_aload_n C dX4_pendingAt_13 rfl ?_
      refine Zr_getR C gf_X4_38 qm0 rfl rfl rfl (by decide) dX4_pendingAt_14 ?_
      refine Zr_iload_n C dX4_pendingAt_17 rfl ?_
      refine Zr_iload_n C dX4_pendingAt_18 rfl ?_
      refine Zr_callS C cw_X4_68 (k_X4_row (i := i) (j := k)) rfl (Nat.le_of_ble_eq_true rfl) (Nat.le_of_ble_eq_true rfl) rfl (Nat.le_of_ble_eq_true rfl) dX4_pendingAt_19 ⟨Nat.zero_le _, Nat.zero_le _⟩ ?_
      refine Zr_zaldN C qm_17 rfl rfl (by omega) (by decide) (ra hR (by decide)) dX4_pendingAt_22 ?_
      refine Zr_if_eq C 30 dX4_pendingAt_23 (by decide) (fun h23 => ?_) (fun h23 => ?_)
      · refine Zr_iconst C (0) dX4_pendingAt_30 rfl ?_
        refine Zr_iadd C dX4_pendingAt_31 ?_
        refine Zr_topi (y := nI (aCnt (fun q => σ.1 1 17 (10 * i + q) != 0) (k + 1))) (by simp [aCnt, h23, nI_1]) ?_
        refine Zr_istore_n C dX4_pendingAt_32 (by decide) ?_
        refine Zr_iincE C (1) (nI (k + 1)) dX4_pendingAt_33 (by decide) rfl rfl (nI_1 _) ?_
        refine Zr_goto C 4 dX4_pendingAt_36 (by decide) ?_
        exact ih (k + 1) (by omega)
      · refine Zr_iconst C (1) dX4_pendingAt_26 rfl ?_
        refine Zr_goto C 31 dX4_pendingAt_27 (by decide) ?_
        refine Zr_iadd C dX4_pendingAt_31 ?_
        refine Zr_topi (y := nI (aCnt (fun q => σ.1 1 17 (10 * i + q) != 0) (k + 1))) (by simp [aCnt, h23, nI_1]) ?_
        refine Zr_istore_n C dX4_pendingAt_32 (by decide) ?_
        refine Zr_iincE C (1) (nI (k + 1)) dX4_pendingAt_33 (by decide) rfl rfl (nI_1 _) ?_
        refine Zr_goto C 4 dX4_pendingAt_36 (by decide) ?_
        exact ih (k + 1) (by omega)
  refine Zr_iconst C (0) dX4_pendingAt_0 rfl ?_
  refine Zr_istore_n C dX4_pendingAt_1 (by decide) ?_
  refine Zr_iconst C (0) dX4_pendingAt_2 rfl ?_
  refine Zr_istore_n C dX4_pendingAt_3 (by decide) ?_
  exact key n 0 (by omega)
set_option maxHeartbeats 4000000 in
set_option maxRecDepth 100000 in
theorem k_X4_isBlocked {l : Launch} {D : va_G} {K : zKs} {ad : zAd} {S : zSt} {σ : aS} {n i : Nat} (hB : aB n σ) (hR : rRel σ S) (hi : i < n) : zMet l yX4_isBlocked cX4_isBlocked 2 (some .boolean) { frames := 2, cells := 0, slots := 0, locals := 44 } D K rIL (rSh K) ad S [.ref (ad (0, 0)), .int (nI i)] (zEq (some (.int (if aWf σ n i = 0 then 0 else 1))) (rSh K) ad (S)) := by
  refine zEnter (own := RX4) (lv0 := [some (.ref (ad (0, 0))), some (.int (nI i))]) (by decide) rfl (by simp [Value.category]) (Nat.le_of_ble_eq_true rfl) rfl ?_
  intro p e s m below meth c A C _ hnm
  have hn := hB.2.2.1
  have hw : aWf σ n i ≤ n := aCnt_le _ _
  rcases Nat.eq_zero_or_pos (aWf σ n i) with hz | hz
  · refine Zr_aload_n C dX4_isBlocked_0 rfl ?_
    refine Zr_iload_n C dX4_isBlocked_1 rfl ?_
    refine Zr_callV C cw_X4_72 (k_X4_waitsFor hB hR hi) qm0 rfl rfl rfl (Nat.le_of_ble_eq_true rfl) (Nat.le_of_ble_eq_true rfl) rfl (Nat.le_of_ble_eq_true rfl) dX4_isBlocked_2 ⟨Nat.zero_le _, Nat.zero_le _⟩ ?_
    refine Zr_if_le C 12 dX4_isBlocked_5 (by decide) (fun h5 => ?_) (fun h5 => absurd (by rw [hz]; decide) h5)
    refine Zr_iconst C (0) dX4_isBlocked_12 rfl ?_
    exact Zr_zret C dX4_isBlocked_13 (Nat.zero_le _) (Nat.zero_le _) (by first | exact Or.inl rfl | exact Or.inr rfl | assumption) ⟨by simp [hz], rfl, rfl, rfl⟩
  · refine Zr_aload_n C dX4_isBlocked_0 rfl ?_
    refine Zr_iload_n C dX4_isBlocked_1 rfl ?_
    refine Zr_callV C cw_X4_72 (k_X4_waitsFor hB hR hi) qm0 rfl rfl rfl (Nat.le_of_ble_eq_true rfl) (Nat.le_of_ble_eq_true rfl) rfl (Nat.le_of_ble_eq_true rfl) dX4_isBlocked_2 ⟨Nat.zero_le _, Nat.zero_le _⟩ ?_
    refine Zr_if_le C 12 dX4_isBlocked_5 (by decide) (fun h5 => absurd h5 (nI_nle hz (by omega))) (fun h5 => ?_)
    refine Zr_iconst C (1) dX4_isBlocked_8 rfl ?_
    refine Zr_goto C 13 dX4_isBlocked_9 (by decide) ?_
    exact Zr_zret C dX4_isBlocked_13 (Nat.zero_le _) (Nat.zero_le _) (by first | exact Or.inl rfl | exact Or.inr rfl | assumption) ⟨by rw [if_neg (by omega)], rfl, rfl, rfl⟩
set_option maxHeartbeats 4000000 in
set_option maxRecDepth 100000 in
theorem k_X4_isFree {l : Launch} {D : va_G} {K : zKs} {ad : zAd} {S : zSt} {σ : aS} {n i : Nat} (hB : aB n σ) (hR : rRel σ S) (hi : i < n) : zMet l yX4_isFree cX4_isFree 2 (some .boolean) { frames := 3, cells := 0, slots := 0, locals := 65 } D K rIL (rSh K) ad S [.ref (ad (0, 0)), .int (nI i)] (zEq (some (.int (if aFree σ n i = true then 1 else 0))) (rSh K) ad (S)) := by
  refine zEnter (own := RX4) (lv0 := [some (.ref (ad (0, 0))), some (.int (nI i))]) (by decide) rfl (by simp [Value.category]) (Nat.le_of_ble_eq_true rfl) rfl ?_
  intro p e s m below meth c A C _ hnm
  have hn := hB.2.2.1
  by_cases hw : aWf σ n i = 0
  · refine Zr_aload_n C dX4_isFree_0 rfl ?_
    refine Zr_iload_n C dX4_isFree_1 rfl ?_
    refine Zr_callV C cw_X4_64 (k_X4_isOne_t hB hR hi) qm0 rfl rfl rfl (Nat.le_of_ble_eq_true rfl) (Nat.le_of_ble_eq_true rfl) rfl (Nat.le_of_ble_eq_true rfl) dX4_isFree_2 ⟨Nat.zero_le _, Nat.zero_le _⟩ ?_
    refine Zr_if_eq C 29 dX4_isFree_5 (by decide) (fun h5 => absurd h5 (by decide)) (fun h5 => ?_)
    refine Zr_aload_n C dX4_isFree_8 rfl ?_
    refine Zr_getR C gf_X4_9 qm0 rfl rfl rfl (by decide) dX4_isFree_9 ?_
    refine Zr_iload_n C dX4_isFree_12 rfl ?_
    refine Zr_zaldN C qm_8 rfl rfl (by omega) (by decide) (ra hR (by decide)) dX4_isFree_13 ?_
    refine Zr_if_eq C 29 dX4_isFree_14 (by decide) (fun h14 => ?_) (fun h14 => ?_)
    · refine Zr_iconst C (0) dX4_isFree_29 rfl ?_
      exact Zr_zret C dX4_isFree_30 (Nat.zero_le _) (Nat.zero_le _) (by first | exact Or.inl rfl | exact Or.inr rfl | assumption) ⟨by simp [aFree, hw, h14], rfl, rfl, rfl⟩
    · refine Zr_aload_n C dX4_isFree_17 rfl ?_
      refine Zr_iload_n C dX4_isFree_18 rfl ?_
      refine Zr_callV C cw_X4_76 (k_X4_isBlocked hB hR hi) qm0 rfl rfl rfl (Nat.le_of_ble_eq_true rfl) (Nat.le_of_ble_eq_true rfl) rfl (Nat.le_of_ble_eq_true rfl) dX4_isFree_19 ⟨Nat.zero_le _, Nat.zero_le _⟩ ?_
      refine Zr_topi (y := 0) (if_pos hw) ?_
      refine Zr_if_ne C 29 dX4_isFree_22 (by decide) (fun h22 => absurd rfl h22) (fun h22 => ?_)
      refine Zr_iconst C (1) dX4_isFree_25 rfl ?_
      refine Zr_goto C 30 dX4_isFree_26 (by decide) ?_
      exact Zr_zret C dX4_isFree_30 (Nat.zero_le _) (Nat.zero_le _) (by first | exact Or.inl rfl | exact Or.inr rfl | assumption) ⟨by simp [aFree, hw, h14], rfl, rfl, rfl⟩
  · refine Zr_aload_n C dX4_isFree_0 rfl ?_
    refine Zr_iload_n C dX4_isFree_1 rfl ?_
    refine Zr_callV C cw_X4_64 (k_X4_isOne_t hB hR hi) qm0 rfl rfl rfl (Nat.le_of_ble_eq_true rfl) (Nat.le_of_ble_eq_true rfl) rfl (Nat.le_of_ble_eq_true rfl) dX4_isFree_2 ⟨Nat.zero_le _, Nat.zero_le _⟩ ?_
    refine Zr_if_eq C 29 dX4_isFree_5 (by decide) (fun h5 => absurd h5 (by decide)) (fun h5 => ?_)
    refine Zr_aload_n C dX4_isFree_8 rfl ?_
    refine Zr_getR C gf_X4_9 qm0 rfl rfl rfl (by decide) dX4_isFree_9 ?_
    refine Zr_iload_n C dX4_isFree_12 rfl ?_
    refine Zr_zaldN C qm_8 rfl rfl (by omega) (by decide) (ra hR (by decide)) dX4_isFree_13 ?_
    refine Zr_if_eq C 29 dX4_isFree_14 (by decide) (fun h14 => ?_) (fun h14 => ?_)
    · refine Zr_iconst C (0) dX4_isFree_29 rfl ?_
      exact Zr_zret C dX4_isFree_30 (Nat.zero_le _) (Nat.zero_le _) (by first | exact Or.inl rfl | exact Or.inr rfl | assumption) ⟨by simp [aFree, hw], rfl, rfl, rfl⟩
    · refine Zr_aload_n C dX4_isFree_17 rfl ?_
      refine Zr_iload_n C dX4_isFree_18 rfl ?_
      refine Zr_callV C cw_X4_76 (k_X4_isBlocked hB hR hi) qm0 rfl rfl rfl (Nat.le_of_ble_eq_true rfl) (Nat.le_of_ble_eq_true rfl) rfl (Nat.le_of_ble_eq_true rfl) dX4_isFree_19 ⟨Nat.zero_le _, Nat.zero_le _⟩ ?_
      refine Zr_topi (y := 1) (if_neg hw) ?_
      refine Zr_if_ne C 29 dX4_isFree_22 (by decide) (fun h22 => ?_) (fun h22 => absurd h22 (by decide))
      refine Zr_iconst C (0) dX4_isFree_29 rfl ?_
      exact Zr_zret C dX4_isFree_30 (Nat.zero_le _) (Nat.zero_le _) (by first | exact Or.inl rfl | exact Or.inr rfl | assumption) ⟨by simp [aFree, hw], rfl, rfl, rfl⟩
set_option maxHeartbeats 4000000 in
set_option maxRecDepth 100000 in
theorem k_X4_isFree_f {l : Launch} {D : va_G} {K : zKs} {ad : zAd} {S : zSt} {σ : aS} {n : Nat} {x : Int32} (hB : aB n σ) (hR : rRel σ S) (hx : aBad n x) : zMet l yX4_isFree cX4_isFree 2 (some .boolean) { frames := 3, cells := 0, slots := 0, locals := 65 } D K rIL (rSh K) ad S [.ref (ad (0, 0)), .int x] (zEq (some (.int 0)) (rSh K) ad (S)) := by
  refine zEnter (own := RX4) (lv0 := [some (.ref (ad (0, 0))), some (.int x)]) (by decide) rfl (by simp [Value.category]) (Nat.le_of_ble_eq_true rfl) rfl ?_
  intro p e s m below meth c A C _ hnm
  refine Zr_aload_n C dX4_isFree_0 rfl ?_
  refine Zr_iload_n C dX4_isFree_1 rfl ?_
  refine Zr_callV C cw_X4_64 (k_X4_isOne_f hB hR hx) qm0 rfl rfl rfl (Nat.le_of_ble_eq_true rfl) (Nat.le_of_ble_eq_true rfl) rfl (Nat.le_of_ble_eq_true rfl) dX4_isFree_2 ⟨Nat.zero_le _, Nat.zero_le _⟩ ?_
  refine Zr_if_eq C 29 dX4_isFree_5 (by decide) (fun h5 => ?_) (fun h5 => absurd rfl h5)
  refine Zr_iconst C (0) dX4_isFree_29 rfl ?_
  exact Zr_zret C dX4_isFree_30 (Nat.zero_le _) (Nat.zero_le _) (by first | exact Or.inl rfl | exact Or.inr rfl | assumption) ⟨rfl, rfl, rfl, rfl⟩
set_option maxHeartbeats 4000000 in
set_option maxRecDepth 100000 in
theorem k_X4_isInTree {l : Launch} {D : va_G} {K : zKs} {ad : zAd} {S : zSt} {σ : aS} {n i : Nat} (hB : aB n σ) (hR : rRel σ S) (hi : i < n) : zMet l yX4_isInTree cX4_isInTree 2 (some .boolean) { frames := 0, cells := 0, slots := 0, locals := 0 } D K rIL (rSh K) ad S [.ref (ad (0, 0)), .int (nI i)] (zEq (some (.int (if aTree σ i = true then 1 else 0))) (rSh K) ad (S)) := by
  refine zEnter (own := RX4) (lv0 := [some (.ref (ad (0, 0))), some (.int (nI i))]) (by decide) rfl (by simp [Value.category]) (Nat.le_of_ble_eq_true rfl) rfl ?_
  intro p e s m below meth c A C _ hnm
  have hn := hB.2.2.1
  rcases Nat.eq_zero_or_pos i with rfl | hz
  · refine Zr_iload_n C dX4_isInTree_0 rfl ?_
    refine Zr_if_ne C 26 dX4_isInTree_1 (by decide) (fun h1 => absurd rfl h1) (fun h1 => ?_)
    refine Zr_aload_n C dX4_isInTree_4 rfl ?_
    refine Zr_getE C gf_X4_79 qm0 rfl rfl rfl (rg hR) dX4_isInTree_5 ?_
    refine Zr_if_eq C 22 dX4_isInTree_8 (by decide) (fun h8 => ?_) (fun h8 => ?_)
    · refine Zr_iconst C (0) dX4_isInTree_22 rfl ?_
      refine Zr_goto C 41 dX4_isInTree_23 (by decide) ?_
      exact Zr_zret C dX4_isInTree_41 (Nat.zero_le _) (Nat.zero_le _) (by first | exact Or.inl rfl | exact Or.inr rfl | assumption) ⟨by simp [*, aTree], rfl, rfl, rfl⟩
    · refine Zr_aload_n C dX4_isInTree_11 rfl ?_
      refine Zr_getE C gf_X4_83 qm0 rfl rfl rfl (rg hR) dX4_isInTree_12 ?_
      refine Zr_if_ne C 22 dX4_isInTree_15 (by decide) (fun h15 => ?_) (fun h15 => ?_)
      · refine Zr_iconst C (0) dX4_isInTree_22 rfl ?_
        refine Zr_goto C 41 dX4_isInTree_23 (by decide) ?_
        exact Zr_zret C dX4_isInTree_41 (Nat.zero_le _) (Nat.zero_le _) (by first | exact Or.inl rfl | exact Or.inr rfl | assumption) ⟨by simp [*, aTree], rfl, rfl, rfl⟩
      · refine Zr_iconst C (1) dX4_isInTree_18 rfl ?_
        refine Zr_goto C 41 dX4_isInTree_19 (by decide) ?_
        exact Zr_zret C dX4_isInTree_41 (Nat.zero_le _) (Nat.zero_le _) (by first | exact Or.inl rfl | exact Or.inr rfl | assumption) ⟨by simp [*, aTree], rfl, rfl, rfl⟩
  · have hz2 : ¬ i = 0 := by omega
    refine Zr_iload_n C dX4_isInTree_0 rfl ?_
    refine Zr_if_ne C 26 dX4_isInTree_1 (by decide) (fun h1 => ?_) (fun h1 => absurd h1 (nI_ne0 hz (by omega)))
    refine Zr_aload_n C dX4_isInTree_26 rfl ?_
    refine Zr_getR C gf_X4_13 qm0 rfl rfl rfl (by decide) dX4_isInTree_27 ?_
    refine Zr_iload_n C dX4_isInTree_30 rfl ?_
    refine Zr_ialdN C qm_9 rfl rfl (by omega) (by decide) (ra hR (by decide)) dX4_isInTree_31 ?_
    refine Zr_iconst C (-1) dX4_isInTree_32 rfl ?_
    refine Zr_icmp_eq C 40 dX4_isInTree_33 (by decide) (fun h33 => ?_) (fun h33 => ?_)
    · refine Zr_iconst C (0) dX4_isInTree_40 rfl ?_
      exact Zr_zret C dX4_isInTree_41 (Nat.zero_le _) (Nat.zero_le _) (by first | exact Or.inl rfl | exact Or.inr rfl | assumption) ⟨by simp [*, aTree], rfl, rfl, rfl⟩
    · refine Zr_iconst C (1) dX4_isInTree_36 rfl ?_
      refine Zr_goto C 41 dX4_isInTree_37 (by decide) ?_
      exact Zr_zret C dX4_isInTree_41 (Nat.zero_le _) (Nat.zero_le _) (by first | exact Or.inl rfl | exact Or.inr rfl | assumption) ⟨by simp [*, aTree], rfl, rfl, rfl⟩
set_option maxHeartbeats 4000000 in
set_option maxRecDepth 100000 in
theorem k_X4_sends {l : Launch} {D : va_G} {K : zKs} {ad : zAd} {S : zSt} {σ : aS} {i j : Nat} {kd wh nm : Int32} (hR : rRel σ S) (hi : i < 10) (hj : j < 10) (hl : (σ.2.1 (10 * i + j)).length < 640) : zMet l yX4_sends cX4_sends 8 none { frames := 1, cells := 0, slots := 0, locals := 21 } D K rIL (rSh K) ad S [.ref (ad (0, 0)), .int (nI i), .int (nI j), .int kd, .int wh, .int nm] (zR none (rSh K) ad (rRel (aPush σ (10 * i + j) (kd, wh, nm)))) := by
  refine zEnter (own := RX4) (lv0 := [some (.ref (ad (0, 0))), some (.int (nI i)), some (.int (nI j)), some (.int kd), some (.int wh), some (.int nm), none, none]) (by decide) rfl (by simp [Value.category]) (Nat.le_of_ble_eq_true rfl) rfl ?_
  intro p e s m below meth c A C _ hnm
  have hr : 10 * i + j < 100 := by omega
  refine Zr_iload_n C dX4_sends_0 rfl ?_
  refine Zr_iload_n C dX4_sends_1 rfl ?_
  refine Zr_callS C cw_X4_68 (k_X4_row (i := i) (j := j)) rfl (Nat.le_of_ble_eq_true rfl) (Nat.le_of_ble_eq_true rfl) rfl (Nat.le_of_ble_eq_true rfl) dX4_sends_2 ⟨Nat.zero_le _, Nat.zero_le _⟩ ?_
  refine Zr_istore C dX4_sends_5 (by decide) ?_
  refine Zr_sipush C (640) dX4_sends_7 rfl ?_
  refine Zr_iload C dX4_sends_10 rfl ?_
  refine Zr_imul C dX4_sends_12 ?_
  refine Zr_aload_n C dX4_sends_13 rfl ?_
  refine Zr_getR C gf_X4_44 qm0 rfl rfl rfl (by decide) dX4_sends_14 ?_
  refine Zr_iload C dX4_sends_17 rfl ?_
  refine Zr_ialdN C qm_22 rfl rfl hr (by decide) (rmy hR hr) dX4_sends_19 ?_
  refine Zr_iadd C dX4_sends_20 ?_
  refine Zr_topi (y := nI (640 * (10 * i + j) + (σ.2.1 (10 * i + j)).length)) (x640 _ _) ?_
  refine Zr_istore C dX4_sends_21 (by decide) ?_
  refine Zr_aload_n C dX4_sends_23 rfl ?_
  refine Zr_getR C gf_X4_48 qm0 rfl rfl rfl (by decide) dX4_sends_24 ?_
  refine Zr_iload C dX4_sends_27 rfl ?_
  refine Zr_iload_n C dX4_sends_29 rfl ?_
  refine Zr_iastN (Rel := fun X => X = _) C qm_23 rfl rfl (by omega) (by decide) rfl dX4_sends_30 (fun S1 hS1 => ?_)
  subst hS1
  refine Zr_aload_n C dX4_sends_31 rfl ?_
  refine Zr_getR C gf_X4_51 qm0 rfl rfl rfl (by decide) dX4_sends_32 ?_
  refine Zr_iload C dX4_sends_35 rfl ?_
  refine Zr_iload C dX4_sends_37 rfl ?_
  refine Zr_iastN (Rel := fun X => X = _) C qm_24 rfl rfl (by omega) (by decide) rfl dX4_sends_39 (fun S1 hS1 => ?_)
  subst hS1
  refine Zr_aload_n C dX4_sends_40 rfl ?_
  refine Zr_getR C gf_X4_54 qm0 rfl rfl rfl (by decide) dX4_sends_41 ?_
  refine Zr_iload C dX4_sends_44 rfl ?_
  refine Zr_iload C dX4_sends_46 rfl ?_
  refine Zr_iastN (Rel := fun X => X = _) C qm_25 rfl rfl (by omega) (by decide) rfl dX4_sends_48 (fun S1 hS1 => ?_)
  subst hS1
  refine Zr_aload_n C dX4_sends_49 rfl ?_
  refine Zr_getR C gf_X4_44 qm0 rfl rfl rfl (by decide) dX4_sends_50 ?_
  refine Zr_iload C dX4_sends_53 rfl ?_
  refine Zr_dup2 C dX4_sends_55 rfl rfl ?_
  refine Zr_ialdN C qm_22 rfl rfl hr (by decide) (by simp [z3]; exact rmy hR hr) dX4_sends_56 ?_
  refine Zr_iconst C (1) dX4_sends_57 rfl ?_
  refine Zr_iadd C dX4_sends_58 ?_
  refine Zr_iastN (Rel := fun X => X = _) C qm_22 rfl rfl hr (by decide) rfl dX4_sends_59 (fun S1 hS1 => ?_)
  subst hS1
  exact Zr_vret C dX4_sends_60 (Nat.zero_le _) (Nat.zero_le _) ⟨rfl, rfl, rfl, rPush (m := (kd, wh, nm)) hR hr hl rfl⟩
end
section
theorem i32_le {a b : Int32} (h : a ≤ b) : ¬ b < a := Int32.not_lt.mpr h
theorem nI_le0 {x : Nat} (h : x < 2 ^ 31) : nI x ≤ 0 ↔ x = 0 := by
  rw [show (0 : Int32) = nI 0 from rfl, nI_leI h (by decide)]
  omega
theorem aB.g {n : Nat} {σ : aS} {k : Nat} {v : Int32} (hB : aB n σ) (hk : k ≠ 0) (hv : (k = 1 ∨ k = 2 ∨ k = 3 ∨ k = 21) → (v = 0 ∨ v = 1)) : aB n (aN σ 0 0 k v) := by
  obtain ⟨h1, h2, h3, h4, h5⟩ := hB
  refine ⟨?_, h2, h3, fun j hj => ?_, fun j i hj => ?_⟩
  · simp only [aN, z3]
    rw [if_neg (fun h => hk h.2.2.symm)]
    exact h1
  · simp only [aN, z3]
    split
    · rename_i h
      exact hv (by rw [← h.2.2]; exact hj)
    · exact h4 j hj
  · simp only [aN, z3]
    rw [if_neg (fun h => by simp at h)]
    exact h5 j i hj
theorem aB.a {n : Nat} {σ : aS} {k i : Nat} {v : Int32} (hB : aB n σ) (hv : (k = 8 ∨ k = 12 ∨ k = 13 ∨ k = 16 ∨ k = 17) → (v = 0 ∨ v = 1)) : aB n (aN σ 1 k i v) := by
  obtain ⟨h1, h2, h3, h4, h5⟩ := hB
  refine ⟨?_, h2, h3, fun j hj => ?_, fun j x hj => ?_⟩
  · simp only [aN, z3]
    rw [if_neg (fun h => by simp at h)]
    exact h1
  · simp only [aN, z3]
    rw [if_neg (fun h => by simp at h)]
    exact h4 j hj
  · simp only [aN, z3]
    split
    · rename_i h
      exact hv (by rw [← h.2.1]; exact hj)
    · exact h5 j x hj
theorem aB.p {n : Nat} {σ : aS} {r : Nat} {mm : aM} (hB : aB n σ) : aB n (aPush σ r mm) := hB
theorem aQual_g {σ : aS} {k j : Nat} {v : Int32} (h : j ≠ 0) : aQual (aN σ 0 0 k v) j = aQual σ j := by
  simp [aQual, aTree, aN, z3, h]
theorem aQual_9 {σ : aS} {r i j : Nat} {mm : aM} {v : Int32} (h : j ≠ i) : aQual (aN (aPush σ r mm) 1 9 i v) j = aQual σ j := by
  simp [aQual, aTree, aN, aPush, z3, h]
theorem aB.t {n : Nat} {σ : aS} {r : Nat} (hB : aB n σ) : aB n (aTail σ r) := hB
set_option maxHeartbeats 4000000 in
set_option maxRecDepth 100000 in
theorem k_X4_quiet {l : Launch} {D : va_G} {K : zKs} {ad : zAd} {S : zSt} {σ : aS} {n : Nat} (hB : aB n σ) (hR : rRel σ S) : zMet l yX4_quiet cX4_quiet 3 (some .boolean) { frames := 1, cells := 0, slots := 0, locals := 24 } D K rIL (rSh K) ad S [.ref (ad (0, 0))] (zEq (some (.int (if aQuiet σ n = true then 1 else 0))) (rSh K) ad (S)) := by
  refine zEnter (own := RX4) (lv0 := [some (.ref (ad (0, 0))), none, none]) (by decide) rfl (by simp [Value.category]) (Nat.le_of_ble_eq_true rfl) rfl ?_
  intro p e s m below meth c A C _ hnm
  have hn := hB.2.2.1
  have key : ∀ (d i : Nat), i + d = n → (∀ j, j < i → σ.1 1 8 j = 0 ∧ ∀ q, q < n → aOf 1 (σ.2.1 (10 * j + q)) = 0) → Z p l e ({ frames := 1, cells := 0, slots := 0, locals := 24 } : Room) s m ([.ref (ad (0, 0))] : List Value).toArray below meth c D A 3 (MQ below (zQ (zEq (some (.int (if aQuiet σ n = true then 1 else 0))) (rSh K) ad (S)) rIL D A) ([.ref (ad (0, 0))] : List Value).toArray s 0 0 A) rIL 0 0 (rSh K) ad S (2) ([some (.ref (ad (0, 0))), some (.int (nI i)), none]) ([]) := by
    intro d
    induction d with
    | zero =>
      intro i hi hok
      have hi : i = n := by omega
      subst hi
      refine Zr_iload_n C dX4_quiet_2 rfl ?_
      refine Zr_aload_n C dX4_quiet_3 rfl ?_
      refine Zr_getE C gf_X4_60 qm0 rfl rfl rfl (rg hR) dX4_quiet_4 ?_
      refine Zr_icmp_ge C 58 dX4_quiet_7 (by decide) (fun h7 => ?_) (fun h7 => absurd (by rw [hB.1]; exact nI_le (Nat.le_refl _) (by omega)) h7)
      refine Zr_iconst C (1) dX4_quiet_58 rfl ?_
      exact Zr_zret C dX4_quiet_59 (Nat.zero_le _) (Nat.zero_le _) (by first | exact Or.inl rfl | exact Or.inr rfl | assumption) ⟨by rw [if_pos (aQuiet_iff.mpr hok)], rfl, rfl, rfl⟩
    | succ d ih =>
      intro i hi hok
      have hil : i < n := by omega
      have inner : ∀ (d2 q : Nat), q + d2 = n → σ.1 1 8 i = 0 → (∀ q2, q2 < q → aOf 1 (σ.2.1 (10 * i + q2)) = 0) → Z p l e ({ frames := 1, cells := 0, slots := 0, locals := 24 } : Room) s m ([.ref (ad (0, 0))] : List Value).toArray below meth c D A 3 (MQ below (zQ (zEq (some (.int (if aQuiet σ n = true then 1 else 0))) (rSh K) ad (S)) rIL D A) ([.ref (ad (0, 0))] : List Value).toArray s 0 0 A) rIL 0 0 (rSh K) ad S (23) ([some (.ref (ad (0, 0))), some (.int (nI i)), some (.int (nI q))]) ([]) := by
        intro d2
        induction d2 with
        | zero =>
          intro q hq h16 hin
          have hq : q = n := by omega
          subst hq
          refine Zr_iload_n C dX4_quiet_23 rfl ?_
          refine Zr_aload_n C dX4_quiet_24 rfl ?_
          refine Zr_getE C gf_X4_60 qm0 rfl rfl rfl (rg hR) dX4_quiet_25 ?_
          refine Zr_icmp_ge C 52 dX4_quiet_28 (by decide) (fun h28 => ?_) (fun h28 => absurd (by rw [hB.1]; exact nI_le (Nat.le_refl _) (by omega)) h28)
          refine Zr_iincE C (1) (nI (i + 1)) dX4_quiet_52 (by decide) rfl rfl (nI_1 _) ?_
          refine Zr_goto C 2 dX4_quiet_55 (by decide) ?_
          exact Zr_forget 2 (ih (i + 1) (by omega) (fun j hj => if hji : j = i then by rw [hji]; exact ⟨h16, hin⟩ else hok j (by omega)))
        | succ d2 ih2 =>
          intro q hq h16 hin
          have hql : q < n := by omega
          have hc : aOf 1 (σ.2.1 (10 * i + q)) ≤ 640 := Nat.le_trans aOf_le (rlen hR (by omega))
          refine Zr_iload_n C dX4_quiet_23 rfl ?_
          refine Zr_aload_n C dX4_quiet_24 rfl ?_
          refine Zr_getE C gf_X4_60 qm0 rfl rfl rfl (rg hR) dX4_quiet_25 ?_
          refine Zr_icmp_ge C 52 dX4_quiet_28 (by decide) (fun h28 => absurd h28 (by rw [hB.1]; exact nI_ge hql (by omega))) (fun h28 => ?_)
          refine Zr_aload_n C dX4_quiet_31 rfl ?_
          refine Zr_iload_n C dX4_quiet_32 rfl ?_
          refine Zr_iload_n C dX4_quiet_33 rfl ?_
          refine Zr_callS C cw_X4_68 (k_X4_row (i := i) (j := q)) rfl (Nat.le_of_ble_eq_true rfl) (Nat.le_of_ble_eq_true rfl) rfl (Nat.le_of_ble_eq_true rfl) dX4_quiet_34 ⟨Nat.zero_le _, Nat.zero_le _⟩ ?_
          refine Zr_iconst C (1) dX4_quiet_37 rfl ?_
          refine Zr_callV C cw_X4_86 (k_X4_counted hR (r10 hil hql hn)) qm0 rfl rfl rfl (Nat.le_of_ble_eq_true rfl) (Nat.le_of_ble_eq_true rfl) rfl (Nat.le_of_ble_eq_true rfl) dX4_quiet_38 ⟨Nat.zero_le _, Nat.zero_le _⟩ ?_
          refine Zr_if_le C 46 dX4_quiet_41 (by decide) (fun h41 => ?_) (fun h41 => ?_)
          · have h41 := (nI_le0 (by omega)).mp h41
            refine Zr_iincE C (1) (nI (q + 1)) dX4_quiet_46 (by decide) rfl rfl (nI_1 _) ?_
            refine Zr_goto C 23 dX4_quiet_49 (by decide) ?_
            exact ih2 (q + 1) (by omega) h16 (fun q2 hq2 => if hqq : q2 = q then by rw [hqq]; exact h41 else hin q2 (by omega))
          · have h41 := fun h => h41 ((nI_le0 (by omega)).mpr h)
            refine Zr_iconst C (0) dX4_quiet_44 rfl ?_
            exact Zr_zret C dX4_quiet_45 (Nat.zero_le _) (Nat.zero_le _) (by first | exact Or.inl rfl | exact Or.inr rfl | assumption) ⟨by rw [if_neg (fun h => h41 ((aQuiet_iff.mp h i hil).2 q hql))], rfl, rfl, rfl⟩
      refine Zr_iload_n C dX4_quiet_2 rfl ?_
      refine Zr_aload_n C dX4_quiet_3 rfl ?_
      refine Zr_getE C gf_X4_60 qm0 rfl rfl rfl (rg hR) dX4_quiet_4 ?_
      refine Zr_icmp_ge C 58 dX4_quiet_7 (by decide) (fun h7 => absurd h7 (by rw [hB.1]; exact nI_ge hil (by omega))) (fun h7 => ?_)
      refine Zr_aload_n C dX4_quiet_10 rfl ?_
      refine Zr_getR C gf_X4_9 qm0 rfl rfl rfl (by decide) dX4_quiet_11 ?_
      refine Zr_iload_n C dX4_quiet_14 rfl ?_
      refine Zr_zaldN C qm_8 rfl rfl (by omega) (by decide) (ra hR (by decide)) dX4_quiet_15 ?_
      refine Zr_if_eq C 21 dX4_quiet_16 (by decide) (fun h16 => ?_) (fun h16 => ?_)
      · refine Zr_iconst C (0) dX4_quiet_21 rfl ?_
        refine Zr_istore_n C dX4_quiet_22 (by decide) ?_
        exact inner n 0 (by omega) h16 (fun q2 hq2 => absurd hq2 (Nat.not_lt_zero _))
      · refine Zr_iconst C (0) dX4_quiet_19 rfl ?_
        exact Zr_zret C dX4_quiet_20 (Nat.zero_le _) (Nat.zero_le _) (by first | exact Or.inl rfl | exact Or.inr rfl | assumption) ⟨by rw [if_neg (fun h => h16 (aQuiet_iff.mp h i hil).1)], rfl, rfl, rfl⟩
  
  refine Zr_iconst C (0) dX4_quiet_0 rfl ?_
  refine Zr_istore_n C dX4_quiet_1 (by decide) ?_
  exact key n 0 (by omega) (fun j hj => absurd hj (Nat.not_lt_zero _))
set_option maxHeartbeats 4000000 in
set_option maxRecDepth 100000 in
theorem k_X4_settles {l : Launch} {D : va_G} {K : zKs} {ad : zAd} {S : zSt} {σ : aS} {n i0 : Nat} (hB : aB n σ) (hR : rRel σ S) (hi0 : i0 < n) (hO : ∀ i, i < n → i ≠ i0 → aQual σ i = false) (hpar : aQual σ i0 = true → i0 ≠ 0 → ∃ j, j < n ∧ σ.1 1 9 i0 = nI j ∧ (σ.2.1 (10 * i0 + j)).length < 640) : zMet l yX4_settles cX4_settles 3 none { frames := 2, cells := 0, slots := 0, locals := 48 } D K rIL (rSh K) ad S [.ref (ad (0, 0))] (zR none (rSh K) ad (rRel (aLeave n σ i0))) := by
  refine zEnter (own := RX4) (lv0 := [some (.ref (ad (0, 0))), none, none]) (by decide) rfl (by simp [Value.category]) (Nat.le_of_ble_eq_true rfl) rfl ?_
  intro p e s m below meth c A C _ hnm
  have hn := hB.2.2.1
  have skip : ∀ (τ : aS) (td : Int32) (i : Nat) (S : zSt), aB n τ → rRel τ S → i < n → aQual τ i = false → Z p l e ({ frames := 2, cells := 0, slots := 0, locals := 48 } : Room) s m ([.ref (ad (0, 0))] : List Value).toArray below meth c D A 3 (MQ below (zQ (zR none (rSh K) ad (rRel (aLeave n σ i0))) rIL D A) ([.ref (ad (0, 0))] : List Value).toArray s 0 0 A) rIL 0 0 (rSh K) ad S (76) ([some (.ref (ad (0, 0))), some (.int td), some (.int (nI i))]) ([]) → Z p l e ({ frames := 2, cells := 0, slots := 0, locals := 48 } : Room) s m ([.ref (ad (0, 0))] : List Value).toArray below meth c D A 3 (MQ below (zQ (zR none (rSh K) ad (rRel (aLeave n σ i0))) rIL D A) ([.ref (ad (0, 0))] : List Value).toArray s 0 0 A) rIL 0 0 (rSh K) ad S (4) ([some (.ref (ad (0, 0))), some (.int td), some (.int (nI i))]) ([]) := by
    intro τ td i S hB hR hi hq hk
    by_cases ht : aTree τ i = true
    · refine Zr_iload_n C dX4_settles_4 rfl ?_
      refine Zr_aload_n C dX4_settles_5 rfl ?_
      refine Zr_getE C gf_X4_60 qm0 rfl rfl rfl (rg hR) dX4_settles_6 ?_
      refine Zr_icmp_ge C 82 dX4_settles_9 (by decide) (fun h9 => absurd h9 (by rw [hB.1]; exact nI_ge hi (by omega))) (fun h9 => ?_)
      refine Zr_aload_n C dX4_settles_12 rfl ?_
      refine Zr_iload_n C dX4_settles_13 rfl ?_
      refine Zr_callV C cw_X4_89 (k_X4_isInTree hB hR hi) qm0 rfl rfl rfl (Nat.le_of_ble_eq_true rfl) (Nat.le_of_ble_eq_true rfl) rfl (Nat.le_of_ble_eq_true rfl) dX4_settles_14 ⟨Nat.zero_le _, Nat.zero_le _⟩ ?_
      refine Zr_topi (y := 1) (if_pos ht) ?_
      refine Zr_if_eq C 76 dX4_settles_17 (by decide) (fun h17 => absurd h17 (by decide)) (fun h17 => ?_)
      refine Zr_aload_n C dX4_settles_20 rfl ?_
      refine Zr_getR C gf_X4_9 qm0 rfl rfl rfl (by decide) dX4_settles_21 ?_
      refine Zr_iload_n C dX4_settles_24 rfl ?_
      refine Zr_zaldN C qm_8 rfl rfl (by omega) (by decide) (ra hR (by decide)) dX4_settles_25 ?_
      refine Zr_if_ne C 76 dX4_settles_26 (by decide) (fun h26 => ?_) (fun h26 => ?_)
      · exact hk
      · refine Zr_aload_n C dX4_settles_29 rfl ?_
        refine Zr_getR C gf_X4_17 qm0 rfl rfl rfl (by decide) dX4_settles_30 ?_
        refine Zr_iload_n C dX4_settles_33 rfl ?_
        refine Zr_ialdN C qm_10 rfl rfl (by omega) (by decide) (ra hR (by decide)) dX4_settles_34 ?_
        refine Zr_if_le C 41 dX4_settles_35 (by decide) (fun h35 => absurd (aQual_iff.mpr ⟨ht, h26, i32_le h35⟩) (by rw [hq]; decide)) (fun h35 => ?_)
        refine Zr_goto C 76 dX4_settles_38 (by decide) ?_
        exact hk
    · refine Zr_iload_n C dX4_settles_4 rfl ?_
      refine Zr_aload_n C dX4_settles_5 rfl ?_
      refine Zr_getE C gf_X4_60 qm0 rfl rfl rfl (rg hR) dX4_settles_6 ?_
      refine Zr_icmp_ge C 82 dX4_settles_9 (by decide) (fun h9 => absurd h9 (by rw [hB.1]; exact nI_ge hi (by omega))) (fun h9 => ?_)
      refine Zr_aload_n C dX4_settles_12 rfl ?_
      refine Zr_iload_n C dX4_settles_13 rfl ?_
      refine Zr_callV C cw_X4_89 (k_X4_isInTree hB hR hi) qm0 rfl rfl rfl (Nat.le_of_ble_eq_true rfl) (Nat.le_of_ble_eq_true rfl) rfl (Nat.le_of_ble_eq_true rfl) dX4_settles_14 ⟨Nat.zero_le _, Nat.zero_le _⟩ ?_
      refine Zr_topi (y := 0) (if_neg ht) ?_
      refine Zr_if_eq C 76 dX4_settles_17 (by decide) (fun h17 => ?_) (fun h17 => absurd rfl h17)
      exact hk
  have keyN : ∀ (d : Nat) (τ : aS) (td : Int32) (i : Nat) (S : zSt), i + d = n → aB n τ → rRel τ S → (∀ j, i ≤ j → j < n → aQual τ j = false) → Z p l e ({ frames := 2, cells := 0, slots := 0, locals := 48 } : Room) s m ([.ref (ad (0, 0))] : List Value).toArray below meth c D A 3 (MQ below (zQ (zR none (rSh K) ad (rRel (aLeave n σ i0))) rIL D A) ([.ref (ad (0, 0))] : List Value).toArray s 0 0 A) rIL 0 0 (rSh K) ad S (82) ([some (.ref (ad (0, 0))), some (.int td), some (.int (nI n))]) ([]) → Z p l e ({ frames := 2, cells := 0, slots := 0, locals := 48 } : Room) s m ([.ref (ad (0, 0))] : List Value).toArray below meth c D A 3 (MQ below (zQ (zR none (rSh K) ad (rRel (aLeave n σ i0))) rIL D A) ([.ref (ad (0, 0))] : List Value).toArray s 0 0 A) rIL 0 0 (rSh K) ad S (4) ([some (.ref (ad (0, 0))), some (.int td), some (.int (nI i))]) ([]) := by
    intro d
    induction d with
    | zero =>
      intro τ td i S hi hB hR hq hk
      have hi : i = n := by omega
      subst hi
      refine Zr_iload_n C dX4_settles_4 rfl ?_
      refine Zr_aload_n C dX4_settles_5 rfl ?_
      refine Zr_getE C gf_X4_60 qm0 rfl rfl rfl (rg hR) dX4_settles_6 ?_
      refine Zr_icmp_ge C 82 dX4_settles_9 (by decide) (fun h9 => ?_) (fun h9 => absurd (by rw [hB.1]; exact nI_le (Nat.le_refl _) (by omega)) h9)
      exact hk
    | succ d ih =>
      intro τ td i S hi hB hR hq hk
      refine skip τ td i S hB hR (by omega) (hq i (Nat.le_refl _) (by omega)) ?_
      refine Zr_iincE C (1) (nI (i + 1)) dX4_settles_76 (by decide) rfl rfl (nI_1 _) ?_
      refine Zr_goto C 4 dX4_settles_79 (by decide) ?_
      exact ih τ td (i + 1) S (by omega) hB hR (fun j h1 h2 => hq j (by omega) h2) hk
  by_cases hq : aQual σ i0 = true
  · have hq3 := aQual_iff.mp hq
    have tail0 : i0 = 0 → ∀ S, rRel (aN σ 0 0 2 1) S → Z p l e ({ frames := 2, cells := 0, slots := 0, locals := 48 } : Room) s m ([.ref (ad (0, 0))] : List Value).toArray below meth c D A 3 (MQ below (zQ (zR none (rSh K) ad (rRel (aLeave n σ i0))) rIL D A) ([.ref (ad (0, 0))] : List Value).toArray s 0 0 A) rIL 0 0 (rSh K) ad S (4) ([some (.ref (ad (0, 0))), some (.int 1), some (.int (nI (0 + 1)))]) ([]) := by
      intro h0 S hR
      subst h0
      have hB2 : aB n (aN σ 0 0 2 1) := hB.g (by decide) (fun _ => Or.inr rfl)
      refine keyN (n - 1) _ 1 1 S (by omega) hB2 hR (fun j h1 h2 => by rw [aQual_g (by omega)]; exact hO j h2 (by omega)) ?_
      have hl : aLeave n σ 0 = aJudge n (aN σ 0 0 2 1) := by rw [aLeave, if_pos hq, if_pos rfl]
      by_cases hQ : aQuiet (aN σ 0 0 2 1) n = true
      · refine Zr_iload_n C dX4_settles_82 rfl ?_
        refine Zr_if_eq C 103 dX4_settles_83 (by decide) (fun h83 => absurd h83 (by decide)) (fun h83 => ?_)
        refine Zr_aload_n C dX4_settles_86 rfl ?_
        refine Zr_callV C cw_X4_96 (k_X4_quiet hB2 hR) qm0 rfl rfl rfl (Nat.le_of_ble_eq_true rfl) (Nat.le_of_ble_eq_true rfl) rfl (Nat.le_of_ble_eq_true rfl) dX4_settles_87 ⟨Nat.zero_le _, Nat.zero_le _⟩ ?_
        refine Zr_topi (y := 1) (if_pos hQ) ?_
        refine Zr_if_ne C 103 dX4_settles_90 (by decide) (fun h90 => ?_) (fun h90 => absurd h90 (by decide))
        exact Zr_vret C dX4_settles_103 (Nat.zero_le _) (Nat.zero_le _) ⟨rfl, rfl, rfl, by rw [hl, aJudge, if_pos hQ]; exact hR⟩
      · refine Zr_iload_n C dX4_settles_82 rfl ?_
        refine Zr_if_eq C 103 dX4_settles_83 (by decide) (fun h83 => absurd h83 (by decide)) (fun h83 => ?_)
        refine Zr_aload_n C dX4_settles_86 rfl ?_
        refine Zr_callV C cw_X4_96 (k_X4_quiet hB2 hR) qm0 rfl rfl rfl (Nat.le_of_ble_eq_true rfl) (Nat.le_of_ble_eq_true rfl) rfl (Nat.le_of_ble_eq_true rfl) dX4_settles_87 ⟨Nat.zero_le _, Nat.zero_le _⟩ ?_
        refine Zr_topi (y := 0) (if_neg hQ) ?_
        refine Zr_if_ne C 103 dX4_settles_90 (by decide) (fun h90 => absurd rfl h90) (fun h90 => ?_)
        refine Zr_aload_n C dX4_settles_93 rfl ?_
        refine Zr_dup C dX4_settles_94 rfl ?_
        refine Zr_getE C gf_X4_100 qm0 rfl rfl rfl (rg hR) dX4_settles_95 ?_
        refine Zr_iconst C (1) dX4_settles_98 rfl ?_
        refine Zr_iadd C dX4_settles_99 ?_
        refine Zr_putE C pf_X4_100 qm0 rfl rfl rfl (znI _) (rRg hR) dX4_settles_100 (fun S hR => ?_)
        exact Zr_vret C dX4_settles_103 (Nat.zero_le _) (Nat.zero_le _) ⟨rfl, rfl, rfl, by rw [hl, aJudge, if_neg hQ]; exact hR⟩
    have tail1 : i0 ≠ 0 → ∀ j, σ.1 1 9 i0 = nI j → j < n → ∀ S, rRel (aN (aPush σ (10 * i0 + j) (2, -1, -1)) 1 9 i0 (-1)) S → Z p l e ({ frames := 2, cells := 0, slots := 0, locals := 48 } : Room) s m ([.ref (ad (0, 0))] : List Value).toArray below meth c D A 3 (MQ below (zQ (zR none (rSh K) ad (rRel (aLeave n σ i0))) rIL D A) ([.ref (ad (0, 0))] : List Value).toArray s 0 0 A) rIL 0 0 (rSh K) ad S (4) ([some (.ref (ad (0, 0))), some (.int 0), some (.int (nI (i0 + 1)))]) ([]) := by
      intro h0 j hj2 hj S hR
      have hB2 : aB n (aN (aPush σ (10 * i0 + j) (2, -1, -1)) 1 9 i0 (-1)) := (hB.p).a (by decide)
      refine keyN (n - (i0 + 1)) _ 0 (i0 + 1) S (by omega) hB2 hR (fun k h1 h2 => by rw [aQual_9 (by omega)]; exact hO k h2 (by omega)) ?_
      have hl : aLeave n σ i0 = aN (aPush σ (10 * i0 + j) (2, -1, -1)) 1 9 i0 (-1) := by rw [aLeave, if_pos hq, if_neg h0, hj2, nI_clamp (by omega)]
      refine Zr_iload_n C dX4_settles_82 rfl ?_
      refine Zr_if_eq C 103 dX4_settles_83 (by decide) (fun h83 => ?_) (fun h83 => absurd rfl h83)
      exact Zr_vret C dX4_settles_103 (Nat.zero_le _) (Nat.zero_le _) ⟨rfl, rfl, rfl, by rw [hl]; exact hR⟩
    have keyA : ∀ (d i : Nat), i + d = i0 → Z p l e ({ frames := 2, cells := 0, slots := 0, locals := 48 } : Room) s m ([.ref (ad (0, 0))] : List Value).toArray below meth c D A 3 (MQ below (zQ (zR none (rSh K) ad (rRel (aLeave n σ i0))) rIL D A) ([.ref (ad (0, 0))] : List Value).toArray s 0 0 A) rIL 0 0 (rSh K) ad S (4) ([some (.ref (ad (0, 0))), some (.int 0), some (.int (nI i))]) ([]) := by
      intro d
      induction d with
      | zero =>
        intro i hi
        have hi : i = i0 := by omega
        subst hi
        rcases Nat.eq_zero_or_pos i with rfl | hz
        · refine Zr_iload_n C dX4_settles_4 rfl ?_
          refine Zr_aload_n C dX4_settles_5 rfl ?_
          refine Zr_getE C gf_X4_60 qm0 rfl rfl rfl (rg hR) dX4_settles_6 ?_
          refine Zr_icmp_ge C 82 dX4_settles_9 (by decide) (fun h9 => absurd h9 (by rw [hB.1]; exact nI_ge hi0 (by omega))) (fun h9 => ?_)
          refine Zr_aload_n C dX4_settles_12 rfl ?_
          refine Zr_iload_n C dX4_settles_13 rfl ?_
          refine Zr_callV C cw_X4_89 (k_X4_isInTree hB hR hi0) qm0 rfl rfl rfl (Nat.le_of_ble_eq_true rfl) (Nat.le_of_ble_eq_true rfl) rfl (Nat.le_of_ble_eq_true rfl) dX4_settles_14 ⟨Nat.zero_le _, Nat.zero_le _⟩ ?_
          refine Zr_topi (y := 1) (if_pos hq3.1) ?_
          refine Zr_if_eq C 76 dX4_settles_17 (by decide) (fun h17 => absurd h17 (by decide)) (fun h17 => ?_)
          refine Zr_aload_n C dX4_settles_20 rfl ?_
          refine Zr_getR C gf_X4_9 qm0 rfl rfl rfl (by decide) dX4_settles_21 ?_
          refine Zr_iload_n C dX4_settles_24 rfl ?_
          refine Zr_zaldN C qm_8 rfl rfl (by omega) (by decide) (ra hR (by decide)) dX4_settles_25 ?_
          refine Zr_if_ne C 76 dX4_settles_26 (by decide) (fun h26 => absurd hq3.2.1 h26) (fun h26 => ?_)
          refine Zr_aload_n C dX4_settles_29 rfl ?_
          refine Zr_getR C gf_X4_17 qm0 rfl rfl rfl (by decide) dX4_settles_30 ?_
          refine Zr_iload_n C dX4_settles_33 rfl ?_
          refine Zr_ialdN C qm_10 rfl rfl (by omega) (by decide) (ra hR (by decide)) dX4_settles_34 ?_
          refine Zr_if_le C 41 dX4_settles_35 (by decide) (fun h35 => ?_) (fun h35 => absurd (Int32.not_lt.mp hq3.2.2) h35)
          refine Zr_iload_n C dX4_settles_41 rfl ?_
          refine Zr_if_ne C 55 dX4_settles_42 (by decide) (fun h42 => absurd rfl h42) (fun h42 => ?_)
          refine Zr_aload_n C dX4_settles_45 rfl ?_
          refine Zr_iconst C (1) dX4_settles_46 rfl ?_
          refine Zr_putE C pf_X4_83 qm0 rfl rfl rfl (znZ (by first | exact Or.inl rfl | exact Or.inr rfl | assumption)) (rRg hR) dX4_settles_47 (fun S hR => ?_)
          refine Zr_iconst C (1) dX4_settles_50 rfl ?_
          refine Zr_istore_n C dX4_settles_51 (by decide) ?_
          refine Zr_goto C 76 dX4_settles_52 (by decide) ?_
          refine Zr_iincE C (1) (nI (0 + 1)) dX4_settles_76 (by decide) rfl rfl (nI_1 _) ?_
          refine Zr_goto C 4 dX4_settles_79 (by decide) ?_
          exact tail0 rfl S hR
        · obtain ⟨j, hj, hj2, hj3⟩ := hpar hq (by omega)
          refine Zr_iload_n C dX4_settles_4 rfl ?_
          refine Zr_aload_n C dX4_settles_5 rfl ?_
          refine Zr_getE C gf_X4_60 qm0 rfl rfl rfl (rg hR) dX4_settles_6 ?_
          refine Zr_icmp_ge C 82 dX4_settles_9 (by decide) (fun h9 => absurd h9 (by rw [hB.1]; exact nI_ge hi0 (by omega))) (fun h9 => ?_)
          refine Zr_aload_n C dX4_settles_12 rfl ?_
          refine Zr_iload_n C dX4_settles_13 rfl ?_
          refine Zr_callV C cw_X4_89 (k_X4_isInTree hB hR hi0) qm0 rfl rfl rfl (Nat.le_of_ble_eq_true rfl) (Nat.le_of_ble_eq_true rfl) rfl (Nat.le_of_ble_eq_true rfl) dX4_settles_14 ⟨Nat.zero_le _, Nat.zero_le _⟩ ?_
          refine Zr_topi (y := 1) (if_pos hq3.1) ?_
          refine Zr_if_eq C 76 dX4_settles_17 (by decide) (fun h17 => absurd h17 (by decide)) (fun h17 => ?_)
          refine Zr_aload_n C dX4_settles_20 rfl ?_
          refine Zr_getR C gf_X4_9 qm0 rfl rfl rfl (by decide) dX4_settles_21 ?_
          refine Zr_iload_n C dX4_settles_24 rfl ?_
          refine Zr_zaldN C qm_8 rfl rfl (by omega) (by decide) (ra hR (by decide)) dX4_settles_25 ?_
          refine Zr_if_ne C 76 dX4_settles_26 (by decide) (fun h26 => absurd hq3.2.1 h26) (fun h26 => ?_)
          refine Zr_aload_n C dX4_settles_29 rfl ?_
          refine Zr_getR C gf_X4_17 qm0 rfl rfl rfl (by decide) dX4_settles_30 ?_
          refine Zr_iload_n C dX4_settles_33 rfl ?_
          refine Zr_ialdN C qm_10 rfl rfl (by omega) (by decide) (ra hR (by decide)) dX4_settles_34 ?_
          refine Zr_if_le C 41 dX4_settles_35 (by decide) (fun h35 => ?_) (fun h35 => absurd (Int32.not_lt.mp hq3.2.2) h35)
          refine Zr_iload_n C dX4_settles_41 rfl ?_
          refine Zr_if_ne C 55 dX4_settles_42 (by decide) (fun h42 => ?_) (fun h42 => absurd h42 (nI_ne0 hz (by omega)))
          refine Zr_aload_n C dX4_settles_55 rfl ?_
          refine Zr_iload_n C dX4_settles_56 rfl ?_
          refine Zr_aload_n C dX4_settles_57 rfl ?_
          refine Zr_getR C gf_X4_13 qm0 rfl rfl rfl (by decide) dX4_settles_58 ?_
          refine Zr_iload_n C dX4_settles_61 rfl ?_
          refine Zr_ialdN C qm_9 rfl rfl (by omega) (by decide) ((ra hR (by decide)).trans hj2) dX4_settles_62 ?_
          refine Zr_iconst C (2) dX4_settles_63 rfl ?_
          refine Zr_iconst C (-1) dX4_settles_64 rfl ?_
          refine Zr_iconst C (-1) dX4_settles_65 rfl ?_
          refine Zr_callVRv C cw_X4_92 (k_X4_sends hR (by omega) (by omega) hj3) qm0 rfl rfl rfl (Nat.le_of_ble_eq_true rfl) (Nat.le_of_ble_eq_true rfl) rfl (Nat.le_of_ble_eq_true rfl) dX4_settles_66 ⟨Nat.zero_le _, Nat.zero_le _⟩ (fun S hR => ?_)
          refine Zr_aload_n C dX4_settles_69 rfl ?_
          refine Zr_getR C gf_X4_13 qm0 rfl rfl rfl (by decide) dX4_settles_70 ?_
          refine Zr_iload_n C dX4_settles_73 rfl ?_
          refine Zr_iconst C (-1) dX4_settles_74 rfl ?_
          refine Zr_iastN C qm_9 rfl rfl (by omega) (by decide) (rRa hR (by decide)) dX4_settles_75 (fun S hR => ?_)
          refine Zr_iincE C (1) (nI (i + 1)) dX4_settles_76 (by decide) rfl rfl (nI_1 _) ?_
          refine Zr_goto C 4 dX4_settles_79 (by decide) ?_
          exact tail1 (by omega) j hj2 hj S hR
      | succ d ih =>
        intro i hi
        refine skip σ 0 i S hB hR (by omega) (hO i (by omega) (by omega)) ?_
        refine Zr_iincE C (1) (nI (i + 1)) dX4_settles_76 (by decide) rfl rfl (nI_1 _) ?_
        refine Zr_goto C 4 dX4_settles_79 (by decide) ?_
        exact ih (i + 1) (by omega)
    refine Zr_iconst C (0) dX4_settles_0 rfl ?_
    refine Zr_istore_n C dX4_settles_1 (by decide) ?_
    refine Zr_iconst C (0) dX4_settles_2 rfl ?_
    refine Zr_istore_n C dX4_settles_3 (by decide) ?_
    exact keyA i0 0 (by omega)
  · have hl : aLeave n σ i0 = σ := if_neg hq
    refine Zr_iconst C (0) dX4_settles_0 rfl ?_
    refine Zr_istore_n C dX4_settles_1 (by decide) ?_
    refine Zr_iconst C (0) dX4_settles_2 rfl ?_
    refine Zr_istore_n C dX4_settles_3 (by decide) ?_
    refine keyN n σ 0 0 S (by omega) hB hR (fun j _ h2 => if hji : j = i0 then by rw [hji]; exact Bool.eq_false_iff.mpr hq else hO j h2 hji) ?_
    refine Zr_iload_n C dX4_settles_82 rfl ?_
    refine Zr_if_eq C 103 dX4_settles_83 (by decide) (fun h83 => ?_) (fun h83 => absurd rfl h83)
    exact Zr_vret C dX4_settles_103 (Nat.zero_le _) (Nat.zero_le _) ⟨rfl, rfl, rfl, by rw [hl]; exact hR⟩
end
section
theorem aQual_8 {σ : aS} {i j : Nat} {v : Int32} (h : j ≠ i) : aQual (aN σ 1 8 i v) j = aQual σ j := by
  simp [aQual, aTree, aN, z3, h]
theorem aAll_at {σ : aS} {i k : Nat} {f : Nat → Bool} {mm : aM} (hk : k < 10) : (aAll σ i f k mm).2.1 (10 * i + k) = σ.2.1 (10 * i + k) := by
  simp only [aAll]
  rw [if_neg]
  rintro ⟨-, h, -⟩
  omega
theorem aAll_N (σ : aS) (a b k : Nat) (v : Int32) (p : Nat) (f : Nat → Bool) (n : Nat) (mm : aM) : aAll (aN σ a b k v) p f n mm = aN (aAll σ p f n mm) a b k v := rfl
theorem aPush_N (σ : aS) (a b k : Nat) (v : Int32) (r : Nat) (mm : aM) : aPush (aN σ a b k v) r mm = aN (aPush σ r mm) a b k v := rfl
theorem aBit_shr {x : Int32} {k : Nat} (hk : k < 32) : (x >>> (nI k &&& 31) &&& 1) = 0 ↔ aBit x k = false := by
  have h1 : ((nI k &&& 31).toBitVec.smod 32).toNat = k := by
    have : ∀ n, n < 32 → ((nI n &&& 31).toBitVec.smod 32).toNat = n := by decide +kernel
    exact this k hk
  have h2 : (x >>> (nI k &&& 31) &&& 1).toBitVec = (x.toBitVec.sshiftRight k) &&& 1#32 := by
    rw [Int32.toBitVec_and, Int32.toBitVec_shiftRight]
    rw [BitVec.sshiftRight_eq', h1]
    rfl
  have h3 : ∀ b : BitVec 32, (b &&& 1#32 = 0#32) ↔ b.getLsbD 0 = false := by
    intro b
    constructor
    · intro h
      have := congrArg (fun z : BitVec 32 => z.getLsbD 0) h
      simpa using this
    · intro h
      apply BitVec.eq_of_getLsbD_eq
      intro i hi
      rw [BitVec.getLsbD_and]
      rcases Nat.eq_zero_or_pos i with rfl | hz
      · rw [h]; simp
      · have : (1#32).getLsbD i = false := by
          rw [BitVec.getLsbD_one]
          simp
          omega
        simp [this]
  constructor
  · intro h
    have h4 := congrArg Int32.toBitVec h
    rw [h2] at h4
    have h5 := (h3 _).mp h4
    rw [BitVec.getLsbD_sshiftRight] at h5
    simpa [hk, aBit, Nat.not_le.mpr hk] using h5
  · intro h
    apply Int32.toBitVec_inj.mp
    rw [h2]
    refine (h3 _).mpr ?_
    rw [BitVec.getLsbD_sshiftRight]
    simpa [hk, aBit, Nat.not_le.mpr hk] using h
set_option maxHeartbeats 4000000 in
set_option maxRecDepth 100000 in
theorem k_X4_start {l : Launch} {D : va_G} {K : zKs} {ad : zAd} {S : zSt} {σ : aS} {n : Nat} (hB : aB n σ) (hR : rRel σ S) : zMet l yX4_start cX4_start 1 (some .boolean) { frames := 0, cells := 0, slots := 0, locals := 0 } D K rIL (rSh K) ad S [.ref (ad (0, 0))] (zR (some (.int (fStart σ).1)) (rSh K) ad (rRel (fStart σ).2)) := by
  refine zEnter (own := RX4) (lv0 := [some (.ref (ad (0, 0)))]) (by decide) rfl (by simp [Value.category]) (Nat.le_of_ble_eq_true rfl) rfl ?_
  intro p e s m below meth c A C _ hnm
  refine Zr_aload_n C dX4_start_0 rfl ?_
  refine Zr_getE C gf_X4_79 qm0 rfl rfl rfl (rg hR) dX4_start_1 ?_
  refine Zr_if_eq C 9 dX4_start_4 (by decide) (fun h4 => ?_) (fun h4 => ?_)
  · refine Zr_aload_n C dX4_start_9 rfl ?_
    refine Zr_iconst C (1) dX4_start_10 rfl ?_
    refine Zr_putE C pf_X4_79 qm0 rfl rfl rfl (znZ (by first | exact Or.inl rfl | exact Or.inr rfl | assumption)) (rRg hR) dX4_start_11 (fun S hR => ?_)
    refine Zr_aload_n C dX4_start_14 rfl ?_
    refine Zr_getR C gf_X4_9 qm0 rfl rfl rfl (by decide) dX4_start_15 ?_
    refine Zr_iconst C (0) dX4_start_18 rfl ?_
    refine Zr_topi (y := nI 0) rfl ?_
    refine Zr_iconst C (1) dX4_start_19 rfl ?_
    refine Zr_zastN C qm_8 rfl rfl (by decide) (by decide) (by first | exact Or.inl rfl | exact Or.inr rfl | assumption) (rRa hR (by decide)) dX4_start_20 (fun S hR => ?_)
    refine Zr_iconst C (1) dX4_start_21 rfl ?_
    exact Zr_zret C dX4_start_22 (Nat.zero_le _) (Nat.zero_le _) (by first | exact Or.inl rfl | exact Or.inr rfl | assumption) (by rw [fStart, if_pos h4]; exact ⟨rfl, rfl, rfl, hR⟩)
  · refine Zr_iconst C (0) dX4_start_7 rfl ?_
    exact Zr_zret C dX4_start_8 (Nat.zero_le _) (Nat.zero_le _) (by first | exact Or.inl rfl | exact Or.inr rfl | assumption) (by rw [fStart, if_neg h4]; exact ⟨rfl, rfl, rfl, hR⟩)
set_option maxHeartbeats 4000000 in
set_option maxRecDepth 100000 in
theorem k_X4_send {l : Launch} {D : va_G} {K : zKs} {ad : zAd} {S : zSt} {σ : aS} {n i j : Nat} (hB : aB n σ) (hR : rRel σ S) (hi : i < n) (hj : j < n) (hij : i ≠ j) (hl : (σ.2.1 (10 * i + j)).length < 640) : zMet l yX4_send cX4_send 3 (some .boolean) { frames := 4, cells := 0, slots := 0, locals := 86 } D K rIL (rSh K) ad S [.ref (ad (0, 0)), .int (nI i), .int (nI j)] (zR (some (.int (fSend n σ i j).1)) (rSh K) ad (rRel (fSend n σ i j).2)) := by
  refine zEnter (own := RX4) (lv0 := [some (.ref (ad (0, 0))), some (.int (nI i)), some (.int (nI j))]) (by decide) rfl (by simp [Value.category]) (Nat.le_of_ble_eq_true rfl) rfl ?_
  intro p e s m below meth c A C _ hnm
  have hn := hB.2.2.1
  have hc : aOf 1 (σ.2.1 (10 * i + j)) ≤ 640 := Nat.le_trans aOf_le (by omega)
  by_cases hf : aFree σ n i = true
  · refine Zr_aload_n C dX4_send_0 rfl ?_
    refine Zr_iload_n C dX4_send_1 rfl ?_
    refine Zr_iload_n C dX4_send_2 rfl ?_
    refine Zr_callV C cw_X4_103 (k_X4_isRow_t hB hR hi hj hij) qm0 rfl rfl rfl (Nat.le_of_ble_eq_true rfl) (Nat.le_of_ble_eq_true rfl) rfl (Nat.le_of_ble_eq_true rfl) dX4_send_3 ⟨Nat.zero_le _, Nat.zero_le _⟩ ?_
    refine Zr_if_eq C 43 dX4_send_6 (by decide) (fun h6 => absurd h6 (by decide)) (fun h6 => ?_)
    refine Zr_aload_n C dX4_send_9 rfl ?_
    refine Zr_iload_n C dX4_send_10 rfl ?_
    refine Zr_callV C cw_X4_107 (k_X4_isFree hB hR hi) qm0 rfl rfl rfl (Nat.le_of_ble_eq_true rfl) (Nat.le_of_ble_eq_true rfl) rfl (Nat.le_of_ble_eq_true rfl) dX4_send_11 ⟨Nat.zero_le _, Nat.zero_le _⟩ ?_
    refine Zr_topi (y := 1) (if_pos hf) ?_
    refine Zr_if_eq C 43 dX4_send_14 (by decide) (fun h14 => absurd h14 (by decide)) (fun h14 => ?_)
    refine Zr_aload_n C dX4_send_17 rfl ?_
    refine Zr_iload_n C dX4_send_18 rfl ?_
    refine Zr_iload_n C dX4_send_19 rfl ?_
    refine Zr_callS C cw_X4_68 (k_X4_row (i := i) (j := j)) rfl (Nat.le_of_ble_eq_true rfl) (Nat.le_of_ble_eq_true rfl) rfl (Nat.le_of_ble_eq_true rfl) dX4_send_20 ⟨Nat.zero_le _, Nat.zero_le _⟩ ?_
    refine Zr_iconst C (1) dX4_send_23 rfl ?_
    refine Zr_callV C cw_X4_86 (k_X4_counted hR (r10 hi hj hn)) qm0 rfl rfl rfl (Nat.le_of_ble_eq_true rfl) (Nat.le_of_ble_eq_true rfl) rfl (Nat.le_of_ble_eq_true rfl) dX4_send_24 ⟨Nat.zero_le _, Nat.zero_le _⟩ ?_
    refine Zr_bipush C (20) dX4_send_27 rfl ?_
    refine Zr_icmp_eq C 43 dX4_send_29 (by decide) (fun h29 => ?_) (fun h29 => ?_)
    · refine Zr_iconst C (0) dX4_send_43 rfl ?_
      exact Zr_zret C dX4_send_44 (Nat.zero_le _) (Nat.zero_le _) (by first | exact Or.inl rfl | exact Or.inr rfl | assumption) (by rw [fSend, if_neg (by first | exact fun h => h.2.1 ((nI_eq (by omega) (by decide)).mp h29) | exact fun h => h.2.2 h40)]; exact ⟨rfl, rfl, rfl, hR⟩)
    · refine Zr_aload_n C dX4_send_32 rfl ?_
      refine Zr_getR C gf_X4_17 qm0 rfl rfl rfl (by decide) dX4_send_33 ?_
      refine Zr_iload_n C dX4_send_36 rfl ?_
      refine Zr_ialdN C qm_10 rfl rfl (by omega) (by decide) (ra hR (by decide)) dX4_send_37 ?_
      refine Zr_bipush C (100) dX4_send_38 rfl ?_
      refine Zr_icmp_ne C 45 dX4_send_40 (by decide) (fun h40 => ?_) (fun h40 => ?_)
      · refine Zr_aload_n C dX4_send_45 rfl ?_
        refine Zr_iload_n C dX4_send_46 rfl ?_
        refine Zr_iload_n C dX4_send_47 rfl ?_
        refine Zr_iconst C (1) dX4_send_48 rfl ?_
        refine Zr_iconst C (-1) dX4_send_49 rfl ?_
        refine Zr_iconst C (-1) dX4_send_50 rfl ?_
        refine Zr_callVRv C cw_X4_92 (k_X4_sends hR (by omega) (by omega) hl) qm0 rfl rfl rfl (Nat.le_of_ble_eq_true rfl) (Nat.le_of_ble_eq_true rfl) rfl (Nat.le_of_ble_eq_true rfl) dX4_send_51 ⟨Nat.zero_le _, Nat.zero_le _⟩ (fun S hR => ?_)
        refine Zr_aload_n C dX4_send_54 rfl ?_
        refine Zr_getR C gf_X4_17 qm0 rfl rfl rfl (by decide) dX4_send_55 ?_
        refine Zr_iload_n C dX4_send_58 rfl ?_
        refine Zr_dup2 C dX4_send_59 rfl rfl ?_
        refine Zr_ialdN C qm_10 rfl rfl (by omega) (by decide) (ra hR (by decide)) dX4_send_60 ?_
        refine Zr_iconst C (1) dX4_send_61 rfl ?_
        refine Zr_iadd C dX4_send_62 ?_
        refine Zr_iastN C qm_10 rfl rfl (by omega) (by decide) (rRa hR (by decide)) dX4_send_63 (fun S hR => ?_)
        refine Zr_aload_n C dX4_send_64 rfl ?_
        refine Zr_getR C gf_X4_20 qm0 rfl rfl rfl (by decide) dX4_send_65 ?_
        refine Zr_iload_n C dX4_send_68 rfl ?_
        refine Zr_dup2 C dX4_send_69 rfl rfl ?_
        refine Zr_ialdN C qm_11 rfl rfl (by omega) (by decide) (ra hR (by decide)) dX4_send_70 ?_
        refine Zr_iconst C (1) dX4_send_71 rfl ?_
        refine Zr_iadd C dX4_send_72 ?_
        refine Zr_iastN C qm_11 rfl rfl (by omega) (by decide) (rRa hR (by decide)) dX4_send_73 (fun S hR => ?_)
        refine Zr_iconst C (1) dX4_send_74 rfl ?_
        exact Zr_zret C dX4_send_75 (Nat.zero_le _) (Nat.zero_le _) (by first | exact Or.inl rfl | exact Or.inr rfl | assumption) (by rw [fSend, if_pos ⟨hf, fun h => h29 (by rw [h]; rfl), h40⟩]; exact ⟨rfl, rfl, rfl, hR⟩)
      · refine Zr_iconst C (0) dX4_send_43 rfl ?_
        exact Zr_zret C dX4_send_44 (Nat.zero_le _) (Nat.zero_le _) (by first | exact Or.inl rfl | exact Or.inr rfl | assumption) (by rw [fSend, if_neg (by first | exact fun h => h.2.1 ((nI_eq (by omega) (by decide)).mp h29) | exact fun h => h.2.2 h40)]; exact ⟨rfl, rfl, rfl, hR⟩)
  · refine Zr_aload_n C dX4_send_0 rfl ?_
    refine Zr_iload_n C dX4_send_1 rfl ?_
    refine Zr_iload_n C dX4_send_2 rfl ?_
    refine Zr_callV C cw_X4_103 (k_X4_isRow_t hB hR hi hj hij) qm0 rfl rfl rfl (Nat.le_of_ble_eq_true rfl) (Nat.le_of_ble_eq_true rfl) rfl (Nat.le_of_ble_eq_true rfl) dX4_send_3 ⟨Nat.zero_le _, Nat.zero_le _⟩ ?_
    refine Zr_if_eq C 43 dX4_send_6 (by decide) (fun h6 => absurd h6 (by decide)) (fun h6 => ?_)
    refine Zr_aload_n C dX4_send_9 rfl ?_
    refine Zr_iload_n C dX4_send_10 rfl ?_
    refine Zr_callV C cw_X4_107 (k_X4_isFree hB hR hi) qm0 rfl rfl rfl (Nat.le_of_ble_eq_true rfl) (Nat.le_of_ble_eq_true rfl) rfl (Nat.le_of_ble_eq_true rfl) dX4_send_11 ⟨Nat.zero_le _, Nat.zero_le _⟩ ?_
    refine Zr_topi (y := 0) (if_neg hf) ?_
    refine Zr_if_eq C 43 dX4_send_14 (by decide) (fun h14 => ?_) (fun h14 => absurd rfl h14)
    refine Zr_iconst C (0) dX4_send_43 rfl ?_
    exact Zr_zret C dX4_send_44 (Nat.zero_le _) (Nat.zero_le _) (by first | exact Or.inl rfl | exact Or.inr rfl | assumption) (by rw [fSend, if_neg (fun h => hf h.1)]; exact ⟨rfl, rfl, rfl, hR⟩)
set_option maxHeartbeats 4000000 in
set_option maxRecDepth 100000 in
theorem k_X4_send_f {l : Launch} {D : va_G} {K : zKs} {ad : zAd} {S : zSt} {σ : aS} {n : Nat} {x y : Int32} (hB : aB n σ) (hR : rRel σ S) (hx : aBad n x ∨ aBad n y ∨ x = y) : zMet l yX4_send cX4_send 3 (some .boolean) { frames := 4, cells := 0, slots := 0, locals := 86 } D K rIL (rSh K) ad S [.ref (ad (0, 0)), .int x, .int y] (zEq (some (.int 0)) (rSh K) ad (S)) := by
  refine zEnter (own := RX4) (lv0 := [some (.ref (ad (0, 0))), some (.int x), some (.int y)]) (by decide) rfl (by simp [Value.category]) (Nat.le_of_ble_eq_true rfl) rfl ?_
  intro p e s m below meth c A C _ hnm
  refine Zr_aload_n C dX4_send_0 rfl ?_
  refine Zr_iload_n C dX4_send_1 rfl ?_
  refine Zr_iload_n C dX4_send_2 rfl ?_
  refine Zr_callV C cw_X4_103 (k_X4_isRow_f hB hR hx) qm0 rfl rfl rfl (Nat.le_of_ble_eq_true rfl) (Nat.le_of_ble_eq_true rfl) rfl (Nat.le_of_ble_eq_true rfl) dX4_send_3 ⟨Nat.zero_le _, Nat.zero_le _⟩ ?_
  refine Zr_if_eq C 43 dX4_send_6 (by decide) (fun h6 => ?_) (fun h6 => absurd rfl h6)
  refine Zr_iconst C (0) dX4_send_43 rfl ?_
  exact Zr_zret C dX4_send_44 (Nat.zero_le _) (Nat.zero_le _) (by first | exact Or.inl rfl | exact Or.inr rfl | assumption) ⟨rfl, rfl, rfl, rfl⟩
set_option maxHeartbeats 4000000 in
set_option maxRecDepth 100000 in
theorem k_X4_rest {l : Launch} {D : va_G} {K : zKs} {ad : zAd} {S : zSt} {σ : aS} {n i : Nat} (hB : aB n σ) (hR : rRel σ S) (hi : i < n) (hset : ∀ k, k < n → aQual σ k = false) (hP : i ≠ 0 → σ.1 1 9 i ≠ -1 → ∃ j, j < n ∧ σ.1 1 9 i = nI j) (hL : ∀ r, r < 100 → (σ.2.1 r).length < 640) : zMet l yX4_rest cX4_rest 2 (some .boolean) { frames := 4, cells := 0, slots := 0, locals := 86 } D K rIL (rSh K) ad S [.ref (ad (0, 0)), .int (nI i)] (zR (some (.int (fRest n σ i).1)) (rSh K) ad (rRel (fRest n σ i).2)) := by
  refine zEnter (own := RX4) (lv0 := [some (.ref (ad (0, 0))), some (.int (nI i))]) (by decide) rfl (by simp [Value.category]) (Nat.le_of_ble_eq_true rfl) rfl ?_
  intro p e s m below meth c A C _ hnm
  have hn := hB.2.2.1
  by_cases hf : aFree σ n i = true
  · have hB2 : aB n (aN σ 1 8 i 0) := hB.a (fun _ => Or.inl rfl)
    have hpar : aQual (aN σ 1 8 i 0) i = true → i ≠ 0 → ∃ j, j < n ∧ (aN σ 1 8 i 0).1 1 9 i = nI j ∧ ((aN σ 1 8 i 0).2.1 (10 * i + j)).length < 640 := by
      intro h1 h2
      have h3 : σ.1 1 9 i ≠ -1 := by simpa [aTree, h2, aN, z3] using (aQual_iff.mp h1).1
      obtain ⟨j, hj, hj2⟩ := hP h2 h3
      exact ⟨j, hj, by simpa [aN, z3] using hj2, hL _ (by omega)⟩
    refine Zr_aload_n C dX4_rest_0 rfl ?_
    refine Zr_iload_n C dX4_rest_1 rfl ?_
    refine Zr_callV C cw_X4_107 (k_X4_isFree hB hR hi) qm0 rfl rfl rfl (Nat.le_of_ble_eq_true rfl) (Nat.le_of_ble_eq_true rfl) rfl (Nat.le_of_ble_eq_true rfl) dX4_rest_2 ⟨Nat.zero_le _, Nat.zero_le _⟩ ?_
    refine Zr_topi (y := 1) (if_pos hf) ?_
    refine Zr_if_ne C 10 dX4_rest_5 (by decide) (fun h5 => ?_) (fun h5 => absurd h5 (by decide))
    refine Zr_aload_n C dX4_rest_10 rfl ?_
    refine Zr_getR C gf_X4_9 qm0 rfl rfl rfl (by decide) dX4_rest_11 ?_
    refine Zr_iload_n C dX4_rest_14 rfl ?_
    refine Zr_iconst C (0) dX4_rest_15 rfl ?_
    refine Zr_zastN C qm_8 rfl rfl (by omega) (by decide) (by first | exact Or.inl rfl | exact Or.inr rfl | assumption) (rRa hR (by decide)) dX4_rest_16 (fun S hR => ?_)
    refine Zr_aload_n C dX4_rest_17 rfl ?_
    refine Zr_callVRv C cw_X4_110 (k_X4_settles (i0 := i) hB2 hR hi (fun k hk hki => by rw [aQual_8 hki]; exact hset k hk) hpar) qm0 rfl rfl rfl (Nat.le_of_ble_eq_true rfl) (Nat.le_of_ble_eq_true rfl) rfl (Nat.le_of_ble_eq_true rfl) dX4_rest_18 ⟨Nat.zero_le _, Nat.zero_le _⟩ (fun S hR => ?_)
    refine Zr_iconst C (1) dX4_rest_21 rfl ?_
    exact Zr_zret C dX4_rest_22 (Nat.zero_le _) (Nat.zero_le _) (by first | exact Or.inl rfl | exact Or.inr rfl | assumption) (by rw [fRest, if_pos hf]; exact ⟨rfl, rfl, rfl, hR⟩)
  · refine Zr_aload_n C dX4_rest_0 rfl ?_
    refine Zr_iload_n C dX4_rest_1 rfl ?_
    refine Zr_callV C cw_X4_107 (k_X4_isFree hB hR hi) qm0 rfl rfl rfl (Nat.le_of_ble_eq_true rfl) (Nat.le_of_ble_eq_true rfl) rfl (Nat.le_of_ble_eq_true rfl) dX4_rest_2 ⟨Nat.zero_le _, Nat.zero_le _⟩ ?_
    refine Zr_topi (y := 0) (if_neg hf) ?_
    refine Zr_if_ne C 10 dX4_rest_5 (by decide) (fun h5 => absurd rfl h5) (fun h5 => ?_)
    refine Zr_iconst C (0) dX4_rest_8 rfl ?_
    exact Zr_zret C dX4_rest_9 (Nat.zero_le _) (Nat.zero_le _) (by first | exact Or.inl rfl | exact Or.inr rfl | assumption) (by rw [fRest, if_neg hf]; exact ⟨rfl, rfl, rfl, hR⟩)
set_option maxHeartbeats 4000000 in
set_option maxRecDepth 100000 in
theorem k_X4_rest_f {l : Launch} {D : va_G} {K : zKs} {ad : zAd} {S : zSt} {σ : aS} {n : Nat} {x : Int32} (hB : aB n σ) (hR : rRel σ S) (hx : aBad n x) : zMet l yX4_rest cX4_rest 2 (some .boolean) { frames := 4, cells := 0, slots := 0, locals := 86 } D K rIL (rSh K) ad S [.ref (ad (0, 0)), .int x] (zEq (some (.int 0)) (rSh K) ad (S)) := by
  refine zEnter (own := RX4) (lv0 := [some (.ref (ad (0, 0))), some (.int x)]) (by decide) rfl (by simp [Value.category]) (Nat.le_of_ble_eq_true rfl) rfl ?_
  intro p e s m below meth c A C _ hnm
  refine Zr_aload_n C dX4_rest_0 rfl ?_
  refine Zr_iload_n C dX4_rest_1 rfl ?_
  refine Zr_callV C cw_X4_107 (k_X4_isFree_f hB hR hx) qm0 rfl rfl rfl (Nat.le_of_ble_eq_true rfl) (Nat.le_of_ble_eq_true rfl) rfl (Nat.le_of_ble_eq_true rfl) dX4_rest_2 ⟨Nat.zero_le _, Nat.zero_le _⟩ ?_
  refine Zr_if_ne C 10 dX4_rest_5 (by decide) (fun h5 => absurd rfl h5) (fun h5 => ?_)
  refine Zr_iconst C (0) dX4_rest_8 rfl ?_
  exact Zr_zret C dX4_rest_9 (Nat.zero_le _) (Nat.zero_le _) (by first | exact Or.inl rfl | exact Or.inr rfl | assumption) ⟨rfl, rfl, rfl, rfl⟩
set_option maxHeartbeats 4000000 in
set_option maxRecDepth 100000 in
theorem k_X4_ask {l : Launch} {D : va_G} {K : zKs} {ad : zAd} {S : zSt} {σ : aS} {n i : Nat} {mask : Int32} (hB : aB n σ) (hR : rRel σ S) (hi : i < n) (hL : ∀ r, r < 100 → (σ.2.1 r).length < 640) : zMet l yX4_ask cX4_ask 5 (some .int) { frames := 4, cells := 0, slots := 0, locals := 86 } D K rIL (rSh K) ad S [.ref (ad (0, 0)), .int (nI i), .int mask] (zR (some (.int (fAsk n σ i mask).1)) (rSh K) ad (rRel (fAsk n σ i mask).2)) := by
  refine zEnter (own := RX4) (lv0 := [some (.ref (ad (0, 0))), some (.int (nI i)), some (.int mask), none, none]) (by decide) rfl (by simp [Value.category]) (Nat.le_of_ble_eq_true rfl) rfl ?_
  intro p e s m below meth c A C _ hnm
  have hn := hB.2.2.1
  by_cases hf : aFree σ n i = true
  · have key : ∀ (d k : Nat) (S : zSt), k + d = n → rRel (aAll (aRowSet σ 16 i (aAsks i mask) k 1) i (aAsks i mask) k (4, -1, -1)) S → Z p l e ({ frames := 4, cells := 0, slots := 0, locals := 86 } : Room) s m ([.ref (ad (0, 0)), .int (nI i), .int mask] : List Value).toArray below meth c D A 5 (MQ below (zQ (zR (some (.int (fAsk n σ i mask).1)) (rSh K) ad (rRel (fAsk n σ i mask).2)) rIL D A) ([.ref (ad (0, 0)), .int (nI i), .int mask] : List Value).toArray s 0 0 A) rIL 0 0 (rSh K) ad S (15) ([some (.ref (ad (0, 0))), some (.int (nI i)), some (.int mask), some (.int (nI (aCnt (aAsks i mask) k))), some (.int (nI k))]) ([]) := by
      intro d
      induction d with
      | zero =>
        intro k S hk hR
        have hk : k = n := by omega
        subst hk
        have hz : aCnt (aAsks i mask) k ≤ k := aCnt_le _ _
        have hnone : aCnt (aAsks i mask) k = 0 → (aAll (aRowSet σ 16 i (aAsks i mask) k 1) i (aAsks i mask) k (4, -1, -1)) = σ := by
          intro h0
          have h1 := aCnt_zero.mp h0
          have e1 : ∀ d, d ≤ k → aRowSet σ 16 i (aAsks i mask) d 1 = σ := by
            intro d
            induction d with
            | zero => intro _; exact aRowSet_0 _ _ _ _ _
            | succ d ihd => intro hd; rw [aRowSet_no (h1 d (by omega))]; exact ihd (by omega)
          have e2 : ∀ d, d ≤ k → aAll σ i (aAsks i mask) d (4, -1, -1) = σ := by
            intro d
            induction d with
            | zero => intro _; exact aAll_0 _ _ _ _
            | succ d ihd => intro hd; rw [aAll_no (h1 d (by omega))]; exact ihd (by omega)
          rw [e1 k (Nat.le_refl _), e2 k (Nat.le_refl _)]
        refine Zr_iload C dX4_ask_15 rfl ?_
        refine Zr_aload_n C dX4_ask_17 rfl ?_
        refine Zr_getE C gf_X4_60 qm0 rfl rfl rfl ((rg hR).trans hB.1) dX4_ask_18 ?_
        refine Zr_icmp_ge C 73 dX4_ask_21 (by decide) (fun h21 => ?_) (fun h21 => absurd (nI_le (Nat.le_refl _) (by omega)) h21)
        refine Zr_iload_n C dX4_ask_73 rfl ?_
        refine Zr_if_ne C 81 dX4_ask_74 (by decide) (fun h74 => ?_) (fun h74 => ?_)
        · refine Zr_iload_n C dX4_ask_81 rfl ?_
          exact Zr_iret C dX4_ask_82 (Nat.zero_le _) (Nat.zero_le _) (by first | (rw [fAsk, if_pos ⟨hf, fun h => h74 (by rw [h]; rfl)⟩]; exact ⟨rfl, rfl, rfl, hR⟩) | (rw [fAsk, if_neg (fun h => h.2 h0)]; rw [hnone h0] at hR; exact ⟨rfl, rfl, rfl, hR⟩))
        · have h0 : aCnt (aAsks i mask) k = 0 := (nI_eq (by omega) (by decide)).mp h74
          refine Zr_iconst C (-1) dX4_ask_77 rfl ?_
          refine Zr_goto C 82 dX4_ask_78 (by decide) ?_
          exact Zr_iret C dX4_ask_82 (Nat.zero_le _) (Nat.zero_le _) (by first | (rw [fAsk, if_pos ⟨hf, fun h => h74 (by rw [h]; rfl)⟩]; exact ⟨rfl, rfl, rfl, hR⟩) | (rw [fAsk, if_neg (fun h => h.2 h0)]; rw [hnone h0] at hR; exact ⟨rfl, rfl, rfl, hR⟩))
      | succ d ih =>
        intro k S hk hR
        have hkl : k < n := by omega
        have hle : (((aAll (aRowSet σ 16 i (aAsks i mask) k 1) i (aAsks i mask) k (4, -1, -1))).2.1 (10 * i + k)).length < 640 := by
          rw [aAll_at (by omega)]
          exact hL _ (by omega)
        refine Zr_iload C dX4_ask_15 rfl ?_
        refine Zr_aload_n C dX4_ask_17 rfl ?_
        refine Zr_getE C gf_X4_60 qm0 rfl rfl rfl ((rg hR).trans hB.1) dX4_ask_18 ?_
        refine Zr_icmp_ge C 73 dX4_ask_21 (by decide) (fun h21 => absurd h21 (nI_ge hkl (by omega))) (fun h21 => ?_)
        refine Zr_iload C dX4_ask_24 rfl ?_
        refine Zr_iload_n C dX4_ask_26 rfl ?_
        refine Zr_icmp_eq C 67 dX4_ask_27 (by decide) (fun h27 => ?_) (fun h27 => ?_)
        · have ha : aAsks i mask k = false := by simp [aAsks, (nI_eq (by omega) (by omega)).mp h27]
          refine Zr_iincE C (1) (nI (k + 1)) dX4_ask_67 (by decide) rfl rfl (nI_1 _) ?_
          refine Zr_goto C 15 dX4_ask_70 (by decide) ?_
          first | exact ih (k + 1) S (by omega) (by rw [aRowSet_yes (by omega) ha, aAll_N, aAll_yes (by omega) ha]; exact hR) | exact (by have e : aCnt (aAsks i mask) (k + 1) = aCnt (aAsks i mask) k := (by simp [aCnt, ha]); have := ih (k + 1) S (by omega) (by rw [aRowSet_no ha, aAll_no ha]; exact hR); rw [e] at this; exact this)
        · refine Zr_iload_n C dX4_ask_30 rfl ?_
          refine Zr_iload C dX4_ask_31 rfl ?_
          refine Zr_ishr C dX4_ask_33 ?_
          refine Zr_iconst C (1) dX4_ask_34 rfl ?_
          refine Zr_iand C dX4_ask_35 ?_
          refine Zr_if_ne C 42 dX4_ask_36 (by decide) (fun h36 => ?_) (fun h36 => ?_)
          · have ha : aAsks i mask k = true := by simp only [aAsks, Bool.and_eq_true, bne_iff_ne, ne_eq]; exact ⟨fun h => h27 (congrArg nI h), (Bool.not_eq_false _).mp (fun h => h36 ((aBit_shr (by omega)).mpr h))⟩
            refine Zr_aload_n C dX4_ask_42 rfl ?_
            refine Zr_iload_n C dX4_ask_43 rfl ?_
            refine Zr_iload C dX4_ask_44 rfl ?_
            refine Zr_iconst C (4) dX4_ask_46 rfl ?_
            refine Zr_iconst C (-1) dX4_ask_47 rfl ?_
            refine Zr_iconst C (-1) dX4_ask_48 rfl ?_
            refine Zr_callVRv C cw_X4_92 (k_X4_sends hR (by omega) (by omega) hle) qm0 rfl rfl rfl (Nat.le_of_ble_eq_true rfl) (Nat.le_of_ble_eq_true rfl) rfl (Nat.le_of_ble_eq_true rfl) dX4_ask_49 ⟨Nat.zero_le _, Nat.zero_le _⟩ (fun S hR => ?_)
            refine Zr_aload_n C dX4_ask_52 rfl ?_
            refine Zr_getR C gf_X4_35 qm0 rfl rfl rfl (by decide) dX4_ask_53 ?_
            refine Zr_iload_n C dX4_ask_56 rfl ?_
            refine Zr_iload C dX4_ask_57 rfl ?_
            refine Zr_callS C cw_X4_68 (k_X4_row (i := i) (j := k)) rfl (Nat.le_of_ble_eq_true rfl) (Nat.le_of_ble_eq_true rfl) rfl (Nat.le_of_ble_eq_true rfl) dX4_ask_59 ⟨Nat.zero_le _, Nat.zero_le _⟩ ?_
            refine Zr_iconst C (1) dX4_ask_62 rfl ?_
            refine Zr_zastN C qm_16 rfl rfl (by omega) (by decide) (by first | exact Or.inl rfl | exact Or.inr rfl | assumption) (rRa hR (by decide)) dX4_ask_63 (fun S hR => ?_)
            refine Zr_iincE C (1) (nI (aCnt (aAsks i mask) (k + 1))) dX4_ask_64 (by decide) rfl rfl (by simp [aCnt, ha, nI_1]) ?_
            refine Zr_iincE C (1) (nI (k + 1)) dX4_ask_67 (by decide) rfl rfl (nI_1 _) ?_
            refine Zr_goto C 15 dX4_ask_70 (by decide) ?_
            first | exact ih (k + 1) S (by omega) (by rw [aRowSet_yes (by omega) ha, aAll_N, aAll_yes (by omega) ha]; exact hR) | exact (by have e : aCnt (aAsks i mask) (k + 1) = aCnt (aAsks i mask) k := (by simp [aCnt, ha]); have := ih (k + 1) S (by omega) (by rw [aRowSet_no ha, aAll_no ha]; exact hR); rw [e] at this; exact this)
          · have ha : aAsks i mask k = false := by simp [aAsks, (aBit_shr (by omega)).mp h36]
            refine Zr_goto C 67 dX4_ask_39 (by decide) ?_
            refine Zr_iincE C (1) (nI (k + 1)) dX4_ask_67 (by decide) rfl rfl (nI_1 _) ?_
            refine Zr_goto C 15 dX4_ask_70 (by decide) ?_
            first | exact ih (k + 1) S (by omega) (by rw [aRowSet_yes (by omega) ha, aAll_N, aAll_yes (by omega) ha]; exact hR) | exact (by have e : aCnt (aAsks i mask) (k + 1) = aCnt (aAsks i mask) k := (by simp [aCnt, ha]); have := ih (k + 1) S (by omega) (by rw [aRowSet_no ha, aAll_no ha]; exact hR); rw [e] at this; exact this)
    refine Zr_aload_n C dX4_ask_0 rfl ?_
    refine Zr_iload_n C dX4_ask_1 rfl ?_
    refine Zr_callV C cw_X4_107 (k_X4_isFree hB hR hi) qm0 rfl rfl rfl (Nat.le_of_ble_eq_true rfl) (Nat.le_of_ble_eq_true rfl) rfl (Nat.le_of_ble_eq_true rfl) dX4_ask_2 ⟨Nat.zero_le _, Nat.zero_le _⟩ ?_
    refine Zr_topi (y := 1) (if_pos hf) ?_
    refine Zr_if_ne C 10 dX4_ask_5 (by decide) (fun h5 => ?_) (fun h5 => absurd h5 (by decide))
    refine Zr_iconst C (0) dX4_ask_10 rfl ?_
    refine Zr_istore_n C dX4_ask_11 (by decide) ?_
    refine Zr_iconst C (0) dX4_ask_12 rfl ?_
    refine Zr_istore C dX4_ask_13 (by decide) ?_
    exact key n 0 S (by omega) (by rw [aRowSet_0, aAll_0]; exact hR)
  · refine Zr_aload_n C dX4_ask_0 rfl ?_
    refine Zr_iload_n C dX4_ask_1 rfl ?_
    refine Zr_callV C cw_X4_107 (k_X4_isFree hB hR hi) qm0 rfl rfl rfl (Nat.le_of_ble_eq_true rfl) (Nat.le_of_ble_eq_true rfl) rfl (Nat.le_of_ble_eq_true rfl) dX4_ask_2 ⟨Nat.zero_le _, Nat.zero_le _⟩ ?_
    refine Zr_topi (y := 0) (if_neg hf) ?_
    refine Zr_if_ne C 10 dX4_ask_5 (by decide) (fun h5 => absurd rfl h5) (fun h5 => ?_)
    refine Zr_iconst C (-1) dX4_ask_8 rfl ?_
    exact Zr_iret C dX4_ask_9 (Nat.zero_le _) (Nat.zero_le _) (by rw [fAsk, if_neg (fun h => hf h.1)]; exact ⟨rfl, rfl, rfl, hR⟩)
set_option maxHeartbeats 4000000 in
set_option maxRecDepth 100000 in
theorem k_X4_ask_f {l : Launch} {D : va_G} {K : zKs} {ad : zAd} {S : zSt} {σ : aS} {n : Nat} {x y : Int32} (hB : aB n σ) (hR : rRel σ S) (hx : aBad n x) : zMet l yX4_ask cX4_ask 5 (some .int) { frames := 4, cells := 0, slots := 0, locals := 86 } D K rIL (rSh K) ad S [.ref (ad (0, 0)), .int x, .int y] (zEq (some (.int (-1))) (rSh K) ad (S)) := by
  refine zEnter (own := RX4) (lv0 := [some (.ref (ad (0, 0))), some (.int x), some (.int y), none, none]) (by decide) rfl (by simp [Value.category]) (Nat.le_of_ble_eq_true rfl) rfl ?_
  intro p e s m below meth c A C _ hnm
  refine Zr_aload_n C dX4_ask_0 rfl ?_
  refine Zr_iload_n C dX4_ask_1 rfl ?_
  refine Zr_callV C cw_X4_107 (k_X4_isFree_f hB hR hx) qm0 rfl rfl rfl (Nat.le_of_ble_eq_true rfl) (Nat.le_of_ble_eq_true rfl) rfl (Nat.le_of_ble_eq_true rfl) dX4_ask_2 ⟨Nat.zero_le _, Nat.zero_le _⟩ ?_
  refine Zr_if_ne C 10 dX4_ask_5 (by decide) (fun h5 => absurd rfl h5) (fun h5 => ?_)
  refine Zr_iconst C (-1) dX4_ask_8 rfl ?_
  exact Zr_iret C dX4_ask_9 (Nat.zero_le _) (Nat.zero_le _) ⟨rfl, rfl, rfl, rfl⟩
set_option maxHeartbeats 4000000 in
set_option maxRecDepth 100000 in
theorem k_X4_answer {l : Launch} {D : va_G} {K : zKs} {ad : zAd} {S : zSt} {σ : aS} {n i j : Nat} (hB : aB n σ) (hR : rRel σ S) (hi : i < n) (hj : j < n) (hij : i ≠ j) (hl : (σ.2.1 (10 * i + j)).length < 640) : zMet l yX4_answer cX4_answer 3 (some .boolean) { frames := 3, cells := 0, slots := 0, locals := 65 } D K rIL (rSh K) ad S [.ref (ad (0, 0)), .int (nI i), .int (nI j)] (zR (some (.int (fAnswer n σ i j).1)) (rSh K) ad (rRel (fAnswer n σ i j).2)) := by
  refine zEnter (own := RX4) (lv0 := [some (.ref (ad (0, 0))), some (.int (nI i)), some (.int (nI j))]) (by decide) rfl (by simp [Value.category]) (Nat.le_of_ble_eq_true rfl) rfl ?_
  intro p e s m below meth c A C _ hnm
  have hn := hB.2.2.1
  by_cases hw : aWf σ n i = 0
  · refine Zr_aload_n C dX4_answer_0 rfl ?_
    refine Zr_iload_n C dX4_answer_1 rfl ?_
    refine Zr_iload_n C dX4_answer_2 rfl ?_
    refine Zr_callV C cw_X4_103 (k_X4_isRow_t hB hR hi hj hij) qm0 rfl rfl rfl (Nat.le_of_ble_eq_true rfl) (Nat.le_of_ble_eq_true rfl) rfl (Nat.le_of_ble_eq_true rfl) dX4_answer_3 ⟨Nat.zero_le _, Nat.zero_le _⟩ ?_
    refine Zr_if_eq C 30 dX4_answer_6 (by decide) (fun h6 => absurd h6 (by decide)) (fun h6 => ?_)
    refine Zr_aload_n C dX4_answer_9 rfl ?_
    refine Zr_iload_n C dX4_answer_10 rfl ?_
    refine Zr_callV C cw_X4_76 (k_X4_isBlocked hB hR hi) qm0 rfl rfl rfl (Nat.le_of_ble_eq_true rfl) (Nat.le_of_ble_eq_true rfl) rfl (Nat.le_of_ble_eq_true rfl) dX4_answer_11 ⟨Nat.zero_le _, Nat.zero_le _⟩ ?_
    refine Zr_topi (y := 0) (if_pos hw) ?_
    refine Zr_if_ne C 30 dX4_answer_14 (by decide) (fun h14 => absurd rfl h14) (fun h14 => ?_)
    refine Zr_aload_n C dX4_answer_17 rfl ?_
    refine Zr_getR C gf_X4_38 qm0 rfl rfl rfl (by decide) dX4_answer_18 ?_
    refine Zr_iload_n C dX4_answer_21 rfl ?_
    refine Zr_iload_n C dX4_answer_22 rfl ?_
    refine Zr_callS C cw_X4_68 (k_X4_row (i := i) (j := j)) rfl (Nat.le_of_ble_eq_true rfl) (Nat.le_of_ble_eq_true rfl) rfl (Nat.le_of_ble_eq_true rfl) dX4_answer_23 ⟨Nat.zero_le _, Nat.zero_le _⟩ ?_
    refine Zr_zaldN C qm_17 rfl rfl (by omega) (by decide) (ra hR (by decide)) dX4_answer_26 ?_
    refine Zr_if_ne C 32 dX4_answer_27 (by decide) (fun h27 => ?_) (fun h27 => ?_)
    · refine Zr_aload_n C dX4_answer_32 rfl ?_
      refine Zr_getR C gf_X4_38 qm0 rfl rfl rfl (by decide) dX4_answer_33 ?_
      refine Zr_iload_n C dX4_answer_36 rfl ?_
      refine Zr_iload_n C dX4_answer_37 rfl ?_
      refine Zr_callS C cw_X4_68 (k_X4_row (i := i) (j := j)) rfl (Nat.le_of_ble_eq_true rfl) (Nat.le_of_ble_eq_true rfl) rfl (Nat.le_of_ble_eq_true rfl) dX4_answer_38 ⟨Nat.zero_le _, Nat.zero_le _⟩ ?_
      refine Zr_iconst C (0) dX4_answer_41 rfl ?_
      refine Zr_zastN C qm_17 rfl rfl (by omega) (by decide) (by first | exact Or.inl rfl | exact Or.inr rfl | assumption) (rRa hR (by decide)) dX4_answer_42 (fun S hR => ?_)
      refine Zr_aload_n C dX4_answer_43 rfl ?_
      refine Zr_iload_n C dX4_answer_44 rfl ?_
      refine Zr_iload_n C dX4_answer_45 rfl ?_
      refine Zr_iconst C (5) dX4_answer_46 rfl ?_
      refine Zr_iconst C (-1) dX4_answer_47 rfl ?_
      refine Zr_iconst C (-1) dX4_answer_48 rfl ?_
      refine Zr_callVRv C cw_X4_92 (k_X4_sends hR (by omega) (by omega) hl) qm0 rfl rfl rfl (Nat.le_of_ble_eq_true rfl) (Nat.le_of_ble_eq_true rfl) rfl (Nat.le_of_ble_eq_true rfl) dX4_answer_49 ⟨Nat.zero_le _, Nat.zero_le _⟩ (fun S hR => ?_)
      refine Zr_iconst C (1) dX4_answer_52 rfl ?_
      exact Zr_zret C dX4_answer_53 (Nat.zero_le _) (Nat.zero_le _) (by first | exact Or.inl rfl | exact Or.inr rfl | assumption) (by rw [fAnswer, if_pos ⟨hw, h27⟩]; exact ⟨rfl, rfl, rfl, rRy (by decide) hR⟩)
    · refine Zr_iconst C (0) dX4_answer_30 rfl ?_
      exact Zr_zret C dX4_answer_31 (Nat.zero_le _) (Nat.zero_le _) (by first | exact Or.inl rfl | exact Or.inr rfl | assumption) (by rw [fAnswer, if_neg (fun h => h.2 h27)]; exact ⟨rfl, rfl, rfl, hR⟩)
  · refine Zr_aload_n C dX4_answer_0 rfl ?_
    refine Zr_iload_n C dX4_answer_1 rfl ?_
    refine Zr_iload_n C dX4_answer_2 rfl ?_
    refine Zr_callV C cw_X4_103 (k_X4_isRow_t hB hR hi hj hij) qm0 rfl rfl rfl (Nat.le_of_ble_eq_true rfl) (Nat.le_of_ble_eq_true rfl) rfl (Nat.le_of_ble_eq_true rfl) dX4_answer_3 ⟨Nat.zero_le _, Nat.zero_le _⟩ ?_
    refine Zr_if_eq C 30 dX4_answer_6 (by decide) (fun h6 => absurd h6 (by decide)) (fun h6 => ?_)
    refine Zr_aload_n C dX4_answer_9 rfl ?_
    refine Zr_iload_n C dX4_answer_10 rfl ?_
    refine Zr_callV C cw_X4_76 (k_X4_isBlocked hB hR hi) qm0 rfl rfl rfl (Nat.le_of_ble_eq_true rfl) (Nat.le_of_ble_eq_true rfl) rfl (Nat.le_of_ble_eq_true rfl) dX4_answer_11 ⟨Nat.zero_le _, Nat.zero_le _⟩ ?_
    refine Zr_topi (y := 1) (if_neg hw) ?_
    refine Zr_if_ne C 30 dX4_answer_14 (by decide) (fun h14 => ?_) (fun h14 => absurd h14 (by decide))
    refine Zr_iconst C (0) dX4_answer_30 rfl ?_
    exact Zr_zret C dX4_answer_31 (Nat.zero_le _) (Nat.zero_le _) (by first | exact Or.inl rfl | exact Or.inr rfl | assumption) (by rw [fAnswer, if_neg (fun h => hw h.1)]; exact ⟨rfl, rfl, rfl, hR⟩)
set_option maxHeartbeats 4000000 in
set_option maxRecDepth 100000 in
theorem k_X4_answer_f {l : Launch} {D : va_G} {K : zKs} {ad : zAd} {S : zSt} {σ : aS} {n : Nat} {x y : Int32} (hB : aB n σ) (hR : rRel σ S) (hx : aBad n x ∨ aBad n y ∨ x = y) : zMet l yX4_answer cX4_answer 3 (some .boolean) { frames := 3, cells := 0, slots := 0, locals := 65 } D K rIL (rSh K) ad S [.ref (ad (0, 0)), .int x, .int y] (zEq (some (.int 0)) (rSh K) ad (S)) := by
  refine zEnter (own := RX4) (lv0 := [some (.ref (ad (0, 0))), some (.int x), some (.int y)]) (by decide) rfl (by simp [Value.category]) (Nat.le_of_ble_eq_true rfl) rfl ?_
  intro p e s m below meth c A C _ hnm
  refine Zr_aload_n C dX4_answer_0 rfl ?_
  refine Zr_iload_n C dX4_answer_1 rfl ?_
  refine Zr_iload_n C dX4_answer_2 rfl ?_
  refine Zr_callV C cw_X4_103 (k_X4_isRow_f hB hR hx) qm0 rfl rfl rfl (Nat.le_of_ble_eq_true rfl) (Nat.le_of_ble_eq_true rfl) rfl (Nat.le_of_ble_eq_true rfl) dX4_answer_3 ⟨Nat.zero_le _, Nat.zero_le _⟩ ?_
  refine Zr_if_eq C 30 dX4_answer_6 (by decide) (fun h6 => ?_) (fun h6 => absurd rfl h6)
  refine Zr_iconst C (0) dX4_answer_30 rfl ?_
  exact Zr_zret C dX4_answer_31 (Nat.zero_le _) (Nat.zero_le _) (by first | exact Or.inl rfl | exact Or.inr rfl | assumption) ⟨rfl, rfl, rfl, rfl⟩
set_option maxHeartbeats 4000000 in
set_option maxRecDepth 100000 in
theorem k_X4_probes {l : Launch} {D : va_G} {K : zKs} {ad : zAd} {S : zSt} {σ : aS} {n i : Nat} {wh nm : Int32} (hB : aB n σ) (hR : rRel σ S) (hi : i < n) (hL : ∀ r, r < 100 → (σ.2.1 r).length < 640) : zMet l yX4_probes cX4_probes 5 none { frames := 2, cells := 0, slots := 0, locals := 48 } D K rIL (rSh K) ad S [.ref (ad (0, 0)), .int (nI i), .int wh, .int nm] (zR none (rSh K) ad (rRel (aAll σ i (aWaits σ i) n (6, wh, nm)))) := by
  refine zEnter (own := RX4) (lv0 := [some (.ref (ad (0, 0))), some (.int (nI i)), some (.int wh), some (.int nm), none]) (by decide) rfl (by simp [Value.category]) (Nat.le_of_ble_eq_true rfl) rfl ?_
  intro p e s m below meth c A C _ hnm
  have hn := hB.2.2.1
  have key : ∀ (d k : Nat) (S : zSt), k + d = n → rRel (aAll σ i (aWaits σ i) k (6, wh, nm)) S → Z p l e ({ frames := 2, cells := 0, slots := 0, locals := 48 } : Room) s m ([.ref (ad (0, 0)), .int (nI i), .int wh, .int nm] : List Value).toArray below meth c D A 5 (MQ below (zQ (zR none (rSh K) ad (rRel (aAll σ i (aWaits σ i) n (6, wh, nm)))) rIL D A) ([.ref (ad (0, 0)), .int (nI i), .int wh, .int nm] : List Value).toArray s 0 0 A) rIL 0 0 (rSh K) ad S (3) ([some (.ref (ad (0, 0))), some (.int (nI i)), some (.int wh), some (.int nm), some (.int (nI k))]) ([]) := by
    intro d
    induction d with
    | zero =>
      intro k S hk hR
      have hk : k = n := by omega
      subst hk
      refine Zr_iload C dX4_probes_3 rfl ?_
      refine Zr_aload_n C dX4_probes_5 rfl ?_
      refine Zr_getE C gf_X4_60 qm0 rfl rfl rfl ((rg hR).trans hB.1) dX4_probes_6 ?_
      refine Zr_icmp_ge C 43 dX4_probes_9 (by decide) (fun h9 => ?_) (fun h9 => absurd (nI_le (Nat.le_refl _) (by omega)) h9)
      exact Zr_vret C dX4_probes_43 (Nat.zero_le _) (Nat.zero_le _) ⟨rfl, rfl, rfl, hR⟩
    | succ d ih =>
      intro k S hk hR
      have hkl : k < n := by omega
      have hle : (((aAll σ i (aWaits σ i) k (6, wh, nm))).2.1 (10 * i + k)).length < 640 := by
        rw [aAll_at (by omega)]
        exact hL _ (by omega)
      refine Zr_iload C dX4_probes_3 rfl ?_
      refine Zr_aload_n C dX4_probes_5 rfl ?_
      refine Zr_getE C gf_X4_60 qm0 rfl rfl rfl ((rg hR).trans hB.1) dX4_probes_6 ?_
      refine Zr_icmp_ge C 43 dX4_probes_9 (by decide) (fun h9 => absurd h9 (nI_ge hkl (by omega))) (fun h9 => ?_)
      refine Zr_aload_n C dX4_probes_12 rfl ?_
      refine Zr_getR C gf_X4_35 qm0 rfl rfl rfl (by decide) dX4_probes_13 ?_
      refine Zr_iload_n C dX4_probes_16 rfl ?_
      refine Zr_iload C dX4_probes_17 rfl ?_
      refine Zr_callS C cw_X4_68 (k_X4_row (i := i) (j := k)) rfl (Nat.le_of_ble_eq_true rfl) (Nat.le_of_ble_eq_true rfl) rfl (Nat.le_of_ble_eq_true rfl) dX4_probes_19 ⟨Nat.zero_le _, Nat.zero_le _⟩ ?_
      refine Zr_zaldN C qm_16 rfl rfl (by omega) (by decide) (ra hR (by decide)) dX4_probes_22 ?_
      refine Zr_if_eq C 37 dX4_probes_23 (by decide) (fun h23 => ?_) (fun h23 => ?_)
      · have ha : aWaits σ i k = false := by simpa [aWaits, aAll] using h23
        refine Zr_iincE C (1) (nI (k + 1)) dX4_probes_37 (by decide) rfl rfl (nI_1 _) ?_
        refine Zr_goto C 3 dX4_probes_40 (by decide) ?_
        first | exact ih (k + 1) S (by omega) (by rw [aAll_yes (by omega) ha]; exact hR) | exact ih (k + 1) S (by omega) (by rw [aAll_no ha]; exact hR)
      · have ha : aWaits σ i k = true := by simpa [aWaits, aAll] using h23
        refine Zr_aload_n C dX4_probes_26 rfl ?_
        refine Zr_iload_n C dX4_probes_27 rfl ?_
        refine Zr_iload C dX4_probes_28 rfl ?_
        refine Zr_bipush C (6) dX4_probes_30 rfl ?_
        refine Zr_iload_n C dX4_probes_32 rfl ?_
        refine Zr_iload_n C dX4_probes_33 rfl ?_
        refine Zr_callVRv C cw_X4_92 (k_X4_sends hR (by omega) (by omega) hle) qm0 rfl rfl rfl (Nat.le_of_ble_eq_true rfl) (Nat.le_of_ble_eq_true rfl) rfl (Nat.le_of_ble_eq_true rfl) dX4_probes_34 ⟨Nat.zero_le _, Nat.zero_le _⟩ (fun S hR => ?_)
        refine Zr_iincE C (1) (nI (k + 1)) dX4_probes_37 (by decide) rfl rfl (nI_1 _) ?_
        refine Zr_goto C 3 dX4_probes_40 (by decide) ?_
        first | exact ih (k + 1) S (by omega) (by rw [aAll_yes (by omega) ha]; exact hR) | exact ih (k + 1) S (by omega) (by rw [aAll_no ha]; exact hR)
  refine Zr_iconst C (0) dX4_probes_0 rfl ?_
  refine Zr_istore C dX4_probes_1 (by decide) ?_
  exact key n 0 S (by omega) (by rw [aAll_0]; exact hR)
set_option maxHeartbeats 4000000 in
set_option maxRecDepth 100000 in
theorem k_X4_probe {l : Launch} {D : va_G} {K : zKs} {ad : zAd} {S : zSt} {σ : aS} {n i : Nat} (hB : aB n σ) (hR : rRel σ S) (hi : i < n) (hL : ∀ r, r < 100 → (σ.2.1 r).length < 640) : zMet l yX4_probe cX4_probe 2 (some .int) { frames := 3, cells := 0, slots := 0, locals := 72 } D K rIL (rSh K) ad S [.ref (ad (0, 0)), .int (nI i)] (zR (some (.int (fProbe n σ i).1)) (rSh K) ad (rRel (fProbe n σ i).2)) := by
  refine zEnter (own := RX4) (lv0 := [some (.ref (ad (0, 0))), some (.int (nI i))]) (by decide) rfl (by simp [Value.category]) (Nat.le_of_ble_eq_true rfl) rfl ?_
  intro p e s m below meth c A C _ hnm
  have hn := hB.2.2.1
  by_cases hw : aWf σ n i = 0
  · refine Zr_aload_n C dX4_probe_0 rfl ?_
    refine Zr_iload_n C dX4_probe_1 rfl ?_
    refine Zr_callV C cw_X4_64 (k_X4_isOne_t hB hR hi) qm0 rfl rfl rfl (Nat.le_of_ble_eq_true rfl) (Nat.le_of_ble_eq_true rfl) rfl (Nat.le_of_ble_eq_true rfl) dX4_probe_2 ⟨Nat.zero_le _, Nat.zero_le _⟩ ?_
    refine Zr_if_eq C 27 dX4_probe_5 (by decide) (fun h5 => absurd h5 (by decide)) (fun h5 => ?_)
    refine Zr_aload_n C dX4_probe_8 rfl ?_
    refine Zr_iload_n C dX4_probe_9 rfl ?_
    refine Zr_callV C cw_X4_76 (k_X4_isBlocked hB hR hi) qm0 rfl rfl rfl (Nat.le_of_ble_eq_true rfl) (Nat.le_of_ble_eq_true rfl) rfl (Nat.le_of_ble_eq_true rfl) dX4_probe_10 ⟨Nat.zero_le _, Nat.zero_le _⟩ ?_
    refine Zr_topi (y := 0) (if_pos hw) ?_
    refine Zr_if_eq C 27 dX4_probe_13 (by decide) (fun h13 => ?_) (fun h13 => absurd rfl h13)
    refine Zr_iconst C (-1) dX4_probe_27 rfl ?_
    exact Zr_iret C dX4_probe_28 (Nat.zero_le _) (Nat.zero_le _) (by rw [fProbe, if_neg (fun h => h.1 hw)]; exact ⟨rfl, rfl, rfl, hR⟩)
  · have hB2 : aB n (aN σ 1 15 i (σ.1 1 15 i + 1)) := hB.a (fun h => by omega)
    refine Zr_aload_n C dX4_probe_0 rfl ?_
    refine Zr_iload_n C dX4_probe_1 rfl ?_
    refine Zr_callV C cw_X4_64 (k_X4_isOne_t hB hR hi) qm0 rfl rfl rfl (Nat.le_of_ble_eq_true rfl) (Nat.le_of_ble_eq_true rfl) rfl (Nat.le_of_ble_eq_true rfl) dX4_probe_2 ⟨Nat.zero_le _, Nat.zero_le _⟩ ?_
    refine Zr_if_eq C 27 dX4_probe_5 (by decide) (fun h5 => absurd h5 (by decide)) (fun h5 => ?_)
    refine Zr_aload_n C dX4_probe_8 rfl ?_
    refine Zr_iload_n C dX4_probe_9 rfl ?_
    refine Zr_callV C cw_X4_76 (k_X4_isBlocked hB hR hi) qm0 rfl rfl rfl (Nat.le_of_ble_eq_true rfl) (Nat.le_of_ble_eq_true rfl) rfl (Nat.le_of_ble_eq_true rfl) dX4_probe_10 ⟨Nat.zero_le _, Nat.zero_le _⟩ ?_
    refine Zr_topi (y := 1) (if_neg hw) ?_
    refine Zr_if_eq C 27 dX4_probe_13 (by decide) (fun h13 => absurd h13 (by decide)) (fun h13 => ?_)
    refine Zr_aload_n C dX4_probe_16 rfl ?_
    refine Zr_getR C gf_X4_32 qm0 rfl rfl rfl (by decide) dX4_probe_17 ?_
    refine Zr_iload_n C dX4_probe_20 rfl ?_
    refine Zr_ialdN C qm_15 rfl rfl (by omega) (by decide) (ra hR (by decide)) dX4_probe_21 ?_
    refine Zr_bipush C (50) dX4_probe_22 rfl ?_
    refine Zr_icmp_ne C 29 dX4_probe_24 (by decide) (fun h24 => ?_) (fun h24 => ?_)
    · refine Zr_aload_n C dX4_probe_29 rfl ?_
      refine Zr_getR C gf_X4_32 qm0 rfl rfl rfl (by decide) dX4_probe_30 ?_
      refine Zr_iload_n C dX4_probe_33 rfl ?_
      refine Zr_dup2 C dX4_probe_34 rfl rfl ?_
      refine Zr_ialdN C qm_15 rfl rfl (by omega) (by decide) (ra hR (by decide)) dX4_probe_35 ?_
      refine Zr_iconst C (1) dX4_probe_36 rfl ?_
      refine Zr_iadd C dX4_probe_37 ?_
      refine Zr_iastN C qm_15 rfl rfl (by omega) (by decide) (rRa hR (by decide)) dX4_probe_38 (fun S hR => ?_)
      refine Zr_aload_n C dX4_probe_39 rfl ?_
      refine Zr_iload_n C dX4_probe_40 rfl ?_
      refine Zr_iload_n C dX4_probe_41 rfl ?_
      refine Zr_aload_n C dX4_probe_42 rfl ?_
      refine Zr_getR C gf_X4_32 qm0 rfl rfl rfl (by decide) dX4_probe_43 ?_
      refine Zr_iload_n C dX4_probe_46 rfl ?_
      refine Zr_ialdN C qm_15 rfl rfl (by omega) (by decide) ((ra hR (by decide)).trans (by simp [aN, z3]; rfl)) dX4_probe_47 ?_
      refine Zr_callVRv C cw_X4_113 (k_X4_probes hB2 hR hi hL) qm0 rfl rfl rfl (Nat.le_of_ble_eq_true rfl) (Nat.le_of_ble_eq_true rfl) rfl (Nat.le_of_ble_eq_true rfl) dX4_probe_48 ⟨Nat.zero_le _, Nat.zero_le _⟩ (fun S hR => ?_)
      refine Zr_aload_n C dX4_probe_51 rfl ?_
      refine Zr_getR C gf_X4_32 qm0 rfl rfl rfl (by decide) dX4_probe_52 ?_
      refine Zr_iload_n C dX4_probe_55 rfl ?_
      refine Zr_ialdN C qm_15 rfl rfl (by omega) (by decide) ((ra hR (by decide)).trans (by simp [aAll, aN, z3]; rfl)) dX4_probe_56 ?_
      exact Zr_iret C dX4_probe_57 (Nat.zero_le _) (Nat.zero_le _) (by rw [fProbe, if_pos ⟨hw, h24⟩]; exact ⟨rfl, rfl, rfl, hR⟩)
    · refine Zr_iconst C (-1) dX4_probe_27 rfl ?_
      exact Zr_iret C dX4_probe_28 (Nat.zero_le _) (Nat.zero_le _) (by rw [fProbe, if_neg (fun h => h.2 h24)]; exact ⟨rfl, rfl, rfl, hR⟩)
set_option maxHeartbeats 4000000 in
set_option maxRecDepth 100000 in
theorem k_X4_probe_f {l : Launch} {D : va_G} {K : zKs} {ad : zAd} {S : zSt} {σ : aS} {n : Nat} {x : Int32} (hB : aB n σ) (hR : rRel σ S) (hx : aBad n x) : zMet l yX4_probe cX4_probe 2 (some .int) { frames := 3, cells := 0, slots := 0, locals := 72 } D K rIL (rSh K) ad S [.ref (ad (0, 0)), .int x] (zEq (some (.int (-1))) (rSh K) ad (S)) := by
  refine zEnter (own := RX4) (lv0 := [some (.ref (ad (0, 0))), some (.int x)]) (by decide) rfl (by simp [Value.category]) (Nat.le_of_ble_eq_true rfl) rfl ?_
  intro p e s m below meth c A C _ hnm
  refine Zr_aload_n C dX4_probe_0 rfl ?_
  refine Zr_iload_n C dX4_probe_1 rfl ?_
  refine Zr_callV C cw_X4_64 (k_X4_isOne_f hB hR hx) qm0 rfl rfl rfl (Nat.le_of_ble_eq_true rfl) (Nat.le_of_ble_eq_true rfl) rfl (Nat.le_of_ble_eq_true rfl) dX4_probe_2 ⟨Nat.zero_le _, Nat.zero_le _⟩ ?_
  refine Zr_if_eq C 27 dX4_probe_5 (by decide) (fun h5 => ?_) (fun h5 => absurd rfl h5)
  refine Zr_iconst C (-1) dX4_probe_27 rfl ?_
  exact Zr_iret C dX4_probe_28 (Nat.zero_le _) (Nat.zero_le _) ⟨rfl, rfl, rfl, rfl⟩
end
section
theorem nI_sub1 {i : Nat} (h : 0 < i) : nI i - 1 = nI (i - 1) := by
  obtain ⟨k, rfl⟩ : ∃ k, i = k + 1 := ⟨i - 1, by omega⟩
  exact nI_pred k
theorem w_out {w : Int32} (N : Nat) (hN : N < 1000) (h : ∀ k, k ≤ N → w ≠ nI k) : w.toInt < 0 ∨ (N : Int) < w.toInt := by
  rcases Int.lt_or_le w.toInt 0 with h1 | h1
  · exact Or.inl h1
  · rcases Int.lt_or_le (N : Int) w.toInt with h2 | h2
    · exact Or.inr h2
    · exfalso
      have h3 : ¬ w < 0 := fun q => by
        have := Int32.lt_iff_toInt_lt.mp q
        simp at this
        omega
      have h4 : w ≤ nI N := by
        rw [Int32.le_iff_toInt_le, nI_toInt (by omega)]
        exact h2
      obtain ⟨j, hj, rfl⟩ := nI_of2 (n := N) (nI_toInt (by omega)) h3 h4
      exact h j hj rfl
set_option maxHeartbeats 4000000 in
set_option maxRecDepth 100000 in
theorem k_X4_pass {l : Launch} {D : va_G} {K : zKs} {ad : zAd} {S : zSt} {σ : aS} {n i : Nat} (hB : aB n σ) (hR : rRel σ S) (hi : i < n) (hL : ∀ r, r < 100 → (σ.2.1 r).length < 640) : zMet l yX4_pass cX4_pass 2 (some .int) { frames := 2, cells := 0, slots := 0, locals := 48 } D K rIL (rSh K) ad S [.ref (ad (0, 0)), .int (nI i)] (zR (some (.int (fPass n σ i).1)) (rSh K) ad (rRel (fPass n σ i).2)) := by
  refine zEnter (own := RX4) (lv0 := [some (.ref (ad (0, 0))), some (.int (nI i))]) (by decide) rfl (by simp [Value.category]) (Nat.le_of_ble_eq_true rfl) rfl ?_
  intro p e s m below meth c A C _ hnm
  have hn := hB.2.2.1
  have hn2 := hB.2.1
  rcases Nat.eq_zero_or_pos i with rfl | hz
  · have hB2 : aB n (aN σ 0 0 3 1) := hB.g (by decide) (fun _ => Or.inr rfl)
    by_cases hQ : aQuiet (aN σ 0 0 3 1) n = true
    · refine Zr_aload_n C dX4_pass_0 rfl ?_
      refine Zr_iload_n C dX4_pass_1 rfl ?_
      refine Zr_callV C cw_X4_64 (k_X4_isOne_t hB hR hi) qm0 rfl rfl rfl (Nat.le_of_ble_eq_true rfl) (Nat.le_of_ble_eq_true rfl) rfl (Nat.le_of_ble_eq_true rfl) dX4_pass_2 ⟨Nat.zero_le _, Nat.zero_le _⟩ ?_
      refine Zr_if_eq C 40 dX4_pass_5 (by decide) (fun h5 => absurd h5 (by decide)) (fun h5 => ?_)
      refine Zr_aload_n C dX4_pass_8 rfl ?_
      refine Zr_getR C gf_X4_26 qm0 rfl rfl rfl (by decide) dX4_pass_9 ?_
      refine Zr_iload_n C dX4_pass_12 rfl ?_
      refine Zr_zaldN C qm_13 rfl rfl (by omega) (by decide) (ra hR (by decide)) dX4_pass_13 ?_
      refine Zr_if_eq C 40 dX4_pass_14 (by decide) (fun h14 => ?_) (fun h14 => ?_)
      · refine Zr_iconst C (-1) dX4_pass_40 rfl ?_
        exact Zr_iret C dX4_pass_41 (Nat.zero_le _) (Nat.zero_le _) (by rw [fPass, if_pos (by first | exact Or.inl h14 | exact Or.inr (Or.inl h23) | exact Or.inr (Or.inr (Or.inl h30)) | exact Or.inr (Or.inr (Or.inr h37)))]; exact ⟨rfl, rfl, rfl, hR⟩)
      · refine Zr_aload_n C dX4_pass_17 rfl ?_
        refine Zr_getR C gf_X4_9 qm0 rfl rfl rfl (by decide) dX4_pass_18 ?_
        refine Zr_iload_n C dX4_pass_21 rfl ?_
        refine Zr_zaldN C qm_8 rfl rfl (by omega) (by decide) (ra hR (by decide)) dX4_pass_22 ?_
        refine Zr_if_ne C 40 dX4_pass_23 (by decide) (fun h23 => ?_) (fun h23 => ?_)
        · refine Zr_iconst C (-1) dX4_pass_40 rfl ?_
          exact Zr_iret C dX4_pass_41 (Nat.zero_le _) (Nat.zero_le _) (by rw [fPass, if_pos (by first | exact Or.inl h14 | exact Or.inr (Or.inl h23) | exact Or.inr (Or.inr (Or.inl h30)) | exact Or.inr (Or.inr (Or.inr h37)))]; exact ⟨rfl, rfl, rfl, hR⟩)
        · refine Zr_aload_n C dX4_pass_26 rfl ?_
          refine Zr_getE C gf_X4_79 qm0 rfl rfl rfl (rg hR) dX4_pass_27 ?_
          refine Zr_if_eq C 40 dX4_pass_30 (by decide) (fun h30 => ?_) (fun h30 => ?_)
          · refine Zr_iconst C (-1) dX4_pass_40 rfl ?_
            exact Zr_iret C dX4_pass_41 (Nat.zero_le _) (Nat.zero_le _) (by rw [fPass, if_pos (by first | exact Or.inl h14 | exact Or.inr (Or.inl h23) | exact Or.inr (Or.inr (Or.inl h30)) | exact Or.inr (Or.inr (Or.inr h37)))]; exact ⟨rfl, rfl, rfl, hR⟩)
          · refine Zr_aload_n C dX4_pass_33 rfl ?_
            refine Zr_getE C gf_X4_117 qm0 rfl rfl rfl (rg hR) dX4_pass_34 ?_
            refine Zr_if_eq C 42 dX4_pass_37 (by decide) (fun h37 => ?_) (fun h37 => ?_)
            · refine Zr_iload_n C dX4_pass_42 rfl ?_
              refine Zr_if_le C 113 dX4_pass_43 (by decide) (fun h43 => ?_) (fun h43 => absurd (by decide) h43)
              refine Zr_aload_n C dX4_pass_113 rfl ?_
              refine Zr_getE C gf_X4_126 qm0 rfl rfl rfl (rg hR) dX4_pass_114 ?_
              refine Zr_if_le C 174 dX4_pass_117 (by decide) (fun h117 => ?_) (fun h117 => ?_)
              · refine Zr_aload_n C dX4_pass_174 rfl ?_
                refine Zr_dup C dX4_pass_175 rfl ?_
                refine Zr_getE C gf_X4_126 qm0 rfl rfl rfl (rg hR) dX4_pass_176 ?_
                refine Zr_iconst C (1) dX4_pass_179 rfl ?_
                refine Zr_iadd C dX4_pass_180 ?_
                refine Zr_putE C pf_X4_126 qm0 rfl rfl rfl (znI _) (rRg hR) dX4_pass_181 (fun S hR => ?_)
                refine Zr_aload_n C dX4_pass_184 rfl ?_
                refine Zr_getR C gf_X4_23 qm0 rfl rfl rfl (by decide) dX4_pass_185 ?_
                refine Zr_iconst C (0) dX4_pass_188 rfl ?_
                refine Zr_topi (y := nI 0) rfl ?_
                refine Zr_iconst C (0) dX4_pass_189 rfl ?_
                refine Zr_zastN C qm_12 rfl rfl (by decide) (by decide) (by first | exact Or.inl rfl | exact Or.inr rfl | assumption) (rRa hR (by decide)) dX4_pass_190 (fun S hR => ?_)
                refine Zr_aload_n C dX4_pass_191 rfl ?_
                refine Zr_iconst C (0) dX4_pass_192 rfl ?_
                refine Zr_putE C pf_X4_123 qm0 rfl rfl rfl (znZ (by first | exact Or.inl rfl | exact Or.inr rfl | assumption)) (rRg hR) dX4_pass_193 (fun S hR => ?_)
                refine Zr_aload_n C dX4_pass_196 rfl ?_
                refine Zr_iconst C (0) dX4_pass_197 rfl ?_
                refine Zr_putE C pf_X4_120 qm0 rfl rfl rfl (znI _) (rRg hR) dX4_pass_198 (fun S hR => ?_)
                refine Zr_aload_n C dX4_pass_201 rfl ?_
                refine Zr_getR C gf_X4_26 qm0 rfl rfl rfl (by decide) dX4_pass_202 ?_
                refine Zr_iconst C (0) dX4_pass_205 rfl ?_
                refine Zr_topi (y := nI 0) rfl ?_
                refine Zr_iconst C (0) dX4_pass_206 rfl ?_
                refine Zr_zastN C qm_13 rfl rfl (by decide) (by decide) (by first | exact Or.inl rfl | exact Or.inr rfl | assumption) (rRa hR (by decide)) dX4_pass_207 (fun S hR => ?_)
                refine Zr_aload_n C dX4_pass_208 rfl ?_
                refine Zr_iconst C (0) dX4_pass_209 rfl ?_
                refine Zr_aload_n C dX4_pass_210 rfl ?_
                refine Zr_getE C gf_X4_60 qm0 rfl rfl rfl ((rg hR).trans hB.1) dX4_pass_211 ?_
                refine Zr_iconst C (1) dX4_pass_214 rfl ?_
                refine Zr_isub C dX4_pass_215 ?_
                refine Zr_topi (y := nI (n - 1)) (nI_sub1 (by omega)) ?_
                refine Zr_iconst C (3) dX4_pass_216 rfl ?_
                refine Zr_iconst C (-1) dX4_pass_217 rfl ?_
                refine Zr_iconst C (-1) dX4_pass_218 rfl ?_
                refine Zr_callVRv C cw_X4_92 (k_X4_sends (i := 0) (j := n - 1) hR (by omega) (by omega) (hL _ (by omega))) qm0 rfl rfl rfl (Nat.le_of_ble_eq_true rfl) (Nat.le_of_ble_eq_true rfl) rfl (Nat.le_of_ble_eq_true rfl) dX4_pass_219 ⟨Nat.zero_le _, Nat.zero_le _⟩ (fun S hR => ?_)
                refine Zr_iconst C (1) dX4_pass_222 rfl ?_
                exact Zr_iret C dX4_pass_223 (Nat.zero_le _) (Nat.zero_le _) (by rw [fPass, if_neg (fun h => h.elim h14 (fun h => h.elim (fun h => h h23) (fun h => h.elim h30 (fun h => h h37)))), if_neg (fun h => h rfl), if_neg (by first | exact fun h => absurd h.1 (i32_le h117) | exact fun h => h124 h.2.1 | exact fun h => h133 h.2.2.1 | exact fun h => h147 h.2.2.2)]; exact ⟨rfl, rfl, rfl, hR⟩)
              · refine Zr_aload_n C dX4_pass_120 rfl ?_
                refine Zr_getE C gf_X4_123 qm0 rfl rfl rfl (rg hR) dX4_pass_121 ?_
                refine Zr_if_ne C 174 dX4_pass_124 (by decide) (fun h124 => ?_) (fun h124 => ?_)
                · refine Zr_aload_n C dX4_pass_174 rfl ?_
                  refine Zr_dup C dX4_pass_175 rfl ?_
                  refine Zr_getE C gf_X4_126 qm0 rfl rfl rfl (rg hR) dX4_pass_176 ?_
                  refine Zr_iconst C (1) dX4_pass_179 rfl ?_
                  refine Zr_iadd C dX4_pass_180 ?_
                  refine Zr_putE C pf_X4_126 qm0 rfl rfl rfl (znI _) (rRg hR) dX4_pass_181 (fun S hR => ?_)
                  refine Zr_aload_n C dX4_pass_184 rfl ?_
                  refine Zr_getR C gf_X4_23 qm0 rfl rfl rfl (by decide) dX4_pass_185 ?_
                  refine Zr_iconst C (0) dX4_pass_188 rfl ?_
                  refine Zr_topi (y := nI 0) rfl ?_
                  refine Zr_iconst C (0) dX4_pass_189 rfl ?_
                  refine Zr_zastN C qm_12 rfl rfl (by decide) (by decide) (by first | exact Or.inl rfl | exact Or.inr rfl | assumption) (rRa hR (by decide)) dX4_pass_190 (fun S hR => ?_)
                  refine Zr_aload_n C dX4_pass_191 rfl ?_
                  refine Zr_iconst C (0) dX4_pass_192 rfl ?_
                  refine Zr_putE C pf_X4_123 qm0 rfl rfl rfl (znZ (by first | exact Or.inl rfl | exact Or.inr rfl | assumption)) (rRg hR) dX4_pass_193 (fun S hR => ?_)
                  refine Zr_aload_n C dX4_pass_196 rfl ?_
                  refine Zr_iconst C (0) dX4_pass_197 rfl ?_
                  refine Zr_putE C pf_X4_120 qm0 rfl rfl rfl (znI _) (rRg hR) dX4_pass_198 (fun S hR => ?_)
                  refine Zr_aload_n C dX4_pass_201 rfl ?_
                  refine Zr_getR C gf_X4_26 qm0 rfl rfl rfl (by decide) dX4_pass_202 ?_
                  refine Zr_iconst C (0) dX4_pass_205 rfl ?_
                  refine Zr_topi (y := nI 0) rfl ?_
                  refine Zr_iconst C (0) dX4_pass_206 rfl ?_
                  refine Zr_zastN C qm_13 rfl rfl (by decide) (by decide) (by first | exact Or.inl rfl | exact Or.inr rfl | assumption) (rRa hR (by decide)) dX4_pass_207 (fun S hR => ?_)
                  refine Zr_aload_n C dX4_pass_208 rfl ?_
                  refine Zr_iconst C (0) dX4_pass_209 rfl ?_
                  refine Zr_aload_n C dX4_pass_210 rfl ?_
                  refine Zr_getE C gf_X4_60 qm0 rfl rfl rfl ((rg hR).trans hB.1) dX4_pass_211 ?_
                  refine Zr_iconst C (1) dX4_pass_214 rfl ?_
                  refine Zr_isub C dX4_pass_215 ?_
                  refine Zr_topi (y := nI (n - 1)) (nI_sub1 (by omega)) ?_
                  refine Zr_iconst C (3) dX4_pass_216 rfl ?_
                  refine Zr_iconst C (-1) dX4_pass_217 rfl ?_
                  refine Zr_iconst C (-1) dX4_pass_218 rfl ?_
                  refine Zr_callVRv C cw_X4_92 (k_X4_sends (i := 0) (j := n - 1) hR (by omega) (by omega) (hL _ (by omega))) qm0 rfl rfl rfl (Nat.le_of_ble_eq_true rfl) (Nat.le_of_ble_eq_true rfl) rfl (Nat.le_of_ble_eq_true rfl) dX4_pass_219 ⟨Nat.zero_le _, Nat.zero_le _⟩ (fun S hR => ?_)
                  refine Zr_iconst C (1) dX4_pass_222 rfl ?_
                  exact Zr_iret C dX4_pass_223 (Nat.zero_le _) (Nat.zero_le _) (by rw [fPass, if_neg (fun h => h.elim h14 (fun h => h.elim (fun h => h h23) (fun h => h.elim h30 (fun h => h h37)))), if_neg (fun h => h rfl), if_neg (by first | exact fun h => absurd h.1 (i32_le h117) | exact fun h => h124 h.2.1 | exact fun h => h133 h.2.2.1 | exact fun h => h147 h.2.2.2)]; exact ⟨rfl, rfl, rfl, hR⟩)
                · refine Zr_aload_n C dX4_pass_127 rfl ?_
                  refine Zr_getR C gf_X4_23 qm0 rfl rfl rfl (by decide) dX4_pass_128 ?_
                  refine Zr_iconst C (0) dX4_pass_131 rfl ?_
                  refine Zr_topi (y := nI 0) rfl ?_
                  refine Zr_zaldN C qm_12 rfl rfl (by decide) (by decide) (ra hR (by decide)) dX4_pass_132 ?_
                  refine Zr_if_ne C 174 dX4_pass_133 (by decide) (fun h133 => ?_) (fun h133 => ?_)
                  · refine Zr_aload_n C dX4_pass_174 rfl ?_
                    refine Zr_dup C dX4_pass_175 rfl ?_
                    refine Zr_getE C gf_X4_126 qm0 rfl rfl rfl (rg hR) dX4_pass_176 ?_
                    refine Zr_iconst C (1) dX4_pass_179 rfl ?_
                    refine Zr_iadd C dX4_pass_180 ?_
                    refine Zr_putE C pf_X4_126 qm0 rfl rfl rfl (znI _) (rRg hR) dX4_pass_181 (fun S hR => ?_)
                    refine Zr_aload_n C dX4_pass_184 rfl ?_
                    refine Zr_getR C gf_X4_23 qm0 rfl rfl rfl (by decide) dX4_pass_185 ?_
                    refine Zr_iconst C (0) dX4_pass_188 rfl ?_
                    refine Zr_topi (y := nI 0) rfl ?_
                    refine Zr_iconst C (0) dX4_pass_189 rfl ?_
                    refine Zr_zastN C qm_12 rfl rfl (by decide) (by decide) (by first | exact Or.inl rfl | exact Or.inr rfl | assumption) (rRa hR (by decide)) dX4_pass_190 (fun S hR => ?_)
                    refine Zr_aload_n C dX4_pass_191 rfl ?_
                    refine Zr_iconst C (0) dX4_pass_192 rfl ?_
                    refine Zr_putE C pf_X4_123 qm0 rfl rfl rfl (znZ (by first | exact Or.inl rfl | exact Or.inr rfl | assumption)) (rRg hR) dX4_pass_193 (fun S hR => ?_)
                    refine Zr_aload_n C dX4_pass_196 rfl ?_
                    refine Zr_iconst C (0) dX4_pass_197 rfl ?_
                    refine Zr_putE C pf_X4_120 qm0 rfl rfl rfl (znI _) (rRg hR) dX4_pass_198 (fun S hR => ?_)
                    refine Zr_aload_n C dX4_pass_201 rfl ?_
                    refine Zr_getR C gf_X4_26 qm0 rfl rfl rfl (by decide) dX4_pass_202 ?_
                    refine Zr_iconst C (0) dX4_pass_205 rfl ?_
                    refine Zr_topi (y := nI 0) rfl ?_
                    refine Zr_iconst C (0) dX4_pass_206 rfl ?_
                    refine Zr_zastN C qm_13 rfl rfl (by decide) (by decide) (by first | exact Or.inl rfl | exact Or.inr rfl | assumption) (rRa hR (by decide)) dX4_pass_207 (fun S hR => ?_)
                    refine Zr_aload_n C dX4_pass_208 rfl ?_
                    refine Zr_iconst C (0) dX4_pass_209 rfl ?_
                    refine Zr_aload_n C dX4_pass_210 rfl ?_
                    refine Zr_getE C gf_X4_60 qm0 rfl rfl rfl ((rg hR).trans hB.1) dX4_pass_211 ?_
                    refine Zr_iconst C (1) dX4_pass_214 rfl ?_
                    refine Zr_isub C dX4_pass_215 ?_
                    refine Zr_topi (y := nI (n - 1)) (nI_sub1 (by omega)) ?_
                    refine Zr_iconst C (3) dX4_pass_216 rfl ?_
                    refine Zr_iconst C (-1) dX4_pass_217 rfl ?_
                    refine Zr_iconst C (-1) dX4_pass_218 rfl ?_
                    refine Zr_callVRv C cw_X4_92 (k_X4_sends (i := 0) (j := n - 1) hR (by omega) (by omega) (hL _ (by omega))) qm0 rfl rfl rfl (Nat.le_of_ble_eq_true rfl) (Nat.le_of_ble_eq_true rfl) rfl (Nat.le_of_ble_eq_true rfl) dX4_pass_219 ⟨Nat.zero_le _, Nat.zero_le _⟩ (fun S hR => ?_)
                    refine Zr_iconst C (1) dX4_pass_222 rfl ?_
                    exact Zr_iret C dX4_pass_223 (Nat.zero_le _) (Nat.zero_le _) (by rw [fPass, if_neg (fun h => h.elim h14 (fun h => h.elim (fun h => h h23) (fun h => h.elim h30 (fun h => h h37)))), if_neg (fun h => h rfl), if_neg (by first | exact fun h => absurd h.1 (i32_le h117) | exact fun h => h124 h.2.1 | exact fun h => h133 h.2.2.1 | exact fun h => h147 h.2.2.2)]; exact ⟨rfl, rfl, rfl, hR⟩)
                  · refine Zr_aload_n C dX4_pass_136 rfl ?_
                    refine Zr_getE C gf_X4_120 qm0 rfl rfl rfl (rg hR) dX4_pass_137 ?_
                    refine Zr_aload_n C dX4_pass_140 rfl ?_
                    refine Zr_getR C gf_X4_20 qm0 rfl rfl rfl (by decide) dX4_pass_141 ?_
                    refine Zr_iconst C (0) dX4_pass_144 rfl ?_
                    refine Zr_topi (y := nI 0) rfl ?_
                    refine Zr_ialdN C qm_11 rfl rfl (by decide) (by decide) (ra hR (by decide)) dX4_pass_145 ?_
                    refine Zr_iadd C dX4_pass_146 ?_
                    refine Zr_if_ne C 174 dX4_pass_147 (by decide) (fun h147 => ?_) (fun h147 => ?_)
                    · refine Zr_aload_n C dX4_pass_174 rfl ?_
                      refine Zr_dup C dX4_pass_175 rfl ?_
                      refine Zr_getE C gf_X4_126 qm0 rfl rfl rfl (rg hR) dX4_pass_176 ?_
                      refine Zr_iconst C (1) dX4_pass_179 rfl ?_
                      refine Zr_iadd C dX4_pass_180 ?_
                      refine Zr_putE C pf_X4_126 qm0 rfl rfl rfl (znI _) (rRg hR) dX4_pass_181 (fun S hR => ?_)
                      refine Zr_aload_n C dX4_pass_184 rfl ?_
                      refine Zr_getR C gf_X4_23 qm0 rfl rfl rfl (by decide) dX4_pass_185 ?_
                      refine Zr_iconst C (0) dX4_pass_188 rfl ?_
                      refine Zr_topi (y := nI 0) rfl ?_
                      refine Zr_iconst C (0) dX4_pass_189 rfl ?_
                      refine Zr_zastN C qm_12 rfl rfl (by decide) (by decide) (by first | exact Or.inl rfl | exact Or.inr rfl | assumption) (rRa hR (by decide)) dX4_pass_190 (fun S hR => ?_)
                      refine Zr_aload_n C dX4_pass_191 rfl ?_
                      refine Zr_iconst C (0) dX4_pass_192 rfl ?_
                      refine Zr_putE C pf_X4_123 qm0 rfl rfl rfl (znZ (by first | exact Or.inl rfl | exact Or.inr rfl | assumption)) (rRg hR) dX4_pass_193 (fun S hR => ?_)
                      refine Zr_aload_n C dX4_pass_196 rfl ?_
                      refine Zr_iconst C (0) dX4_pass_197 rfl ?_
                      refine Zr_putE C pf_X4_120 qm0 rfl rfl rfl (znI _) (rRg hR) dX4_pass_198 (fun S hR => ?_)
                      refine Zr_aload_n C dX4_pass_201 rfl ?_
                      refine Zr_getR C gf_X4_26 qm0 rfl rfl rfl (by decide) dX4_pass_202 ?_
                      refine Zr_iconst C (0) dX4_pass_205 rfl ?_
                      refine Zr_topi (y := nI 0) rfl ?_
                      refine Zr_iconst C (0) dX4_pass_206 rfl ?_
                      refine Zr_zastN C qm_13 rfl rfl (by decide) (by decide) (by first | exact Or.inl rfl | exact Or.inr rfl | assumption) (rRa hR (by decide)) dX4_pass_207 (fun S hR => ?_)
                      refine Zr_aload_n C dX4_pass_208 rfl ?_
                      refine Zr_iconst C (0) dX4_pass_209 rfl ?_
                      refine Zr_aload_n C dX4_pass_210 rfl ?_
                      refine Zr_getE C gf_X4_60 qm0 rfl rfl rfl ((rg hR).trans hB.1) dX4_pass_211 ?_
                      refine Zr_iconst C (1) dX4_pass_214 rfl ?_
                      refine Zr_isub C dX4_pass_215 ?_
                      refine Zr_topi (y := nI (n - 1)) (nI_sub1 (by omega)) ?_
                      refine Zr_iconst C (3) dX4_pass_216 rfl ?_
                      refine Zr_iconst C (-1) dX4_pass_217 rfl ?_
                      refine Zr_iconst C (-1) dX4_pass_218 rfl ?_
                      refine Zr_callVRv C cw_X4_92 (k_X4_sends (i := 0) (j := n - 1) hR (by omega) (by omega) (hL _ (by omega))) qm0 rfl rfl rfl (Nat.le_of_ble_eq_true rfl) (Nat.le_of_ble_eq_true rfl) rfl (Nat.le_of_ble_eq_true rfl) dX4_pass_219 ⟨Nat.zero_le _, Nat.zero_le _⟩ (fun S hR => ?_)
                      refine Zr_iconst C (1) dX4_pass_222 rfl ?_
                      exact Zr_iret C dX4_pass_223 (Nat.zero_le _) (Nat.zero_le _) (by rw [fPass, if_neg (fun h => h.elim h14 (fun h => h.elim (fun h => h h23) (fun h => h.elim h30 (fun h => h h37)))), if_neg (fun h => h rfl), if_neg (by first | exact fun h => absurd h.1 (i32_le h117) | exact fun h => h124 h.2.1 | exact fun h => h133 h.2.2.1 | exact fun h => h147 h.2.2.2)]; exact ⟨rfl, rfl, rfl, hR⟩)
                    · refine Zr_aload_n C dX4_pass_150 rfl ?_
                      refine Zr_iconst C (1) dX4_pass_151 rfl ?_
                      refine Zr_putE C pf_X4_117 qm0 rfl rfl rfl (znZ (by first | exact Or.inl rfl | exact Or.inr rfl | assumption)) (rRg hR) dX4_pass_152 (fun S hR => ?_)
                      refine Zr_aload_n C dX4_pass_155 rfl ?_
                      refine Zr_callV C cw_X4_96 (k_X4_quiet hB2 hR) qm0 rfl rfl rfl (Nat.le_of_ble_eq_true rfl) (Nat.le_of_ble_eq_true rfl) rfl (Nat.le_of_ble_eq_true rfl) dX4_pass_156 ⟨Nat.zero_le _, Nat.zero_le _⟩ ?_
                      refine Zr_topi (y := 1) (if_pos hQ) ?_
                      refine Zr_if_ne C 172 dX4_pass_159 (by decide) (fun h159 => ?_) (fun h159 => absurd h159 (by decide))
                      refine Zr_iconst C (2) dX4_pass_172 rfl ?_
                      exact Zr_iret C dX4_pass_173 (Nat.zero_le _) (Nat.zero_le _) (by rw [fPass, if_neg (fun h => h.elim h14 (fun h => h.elim (fun h => h h23) (fun h => h.elim h30 (fun h => h h37)))), if_neg (fun h => h rfl), if_pos ⟨Int32.not_le.mp h117, h124, h133, h147⟩, aJudge, if_pos hQ]; exact ⟨rfl, rfl, rfl, hR⟩)
            · refine Zr_iconst C (-1) dX4_pass_40 rfl ?_
              exact Zr_iret C dX4_pass_41 (Nat.zero_le _) (Nat.zero_le _) (by rw [fPass, if_pos (by first | exact Or.inl h14 | exact Or.inr (Or.inl h23) | exact Or.inr (Or.inr (Or.inl h30)) | exact Or.inr (Or.inr (Or.inr h37)))]; exact ⟨rfl, rfl, rfl, hR⟩)
    · refine Zr_aload_n C dX4_pass_0 rfl ?_
      refine Zr_iload_n C dX4_pass_1 rfl ?_
      refine Zr_callV C cw_X4_64 (k_X4_isOne_t hB hR hi) qm0 rfl rfl rfl (Nat.le_of_ble_eq_true rfl) (Nat.le_of_ble_eq_true rfl) rfl (Nat.le_of_ble_eq_true rfl) dX4_pass_2 ⟨Nat.zero_le _, Nat.zero_le _⟩ ?_
      refine Zr_if_eq C 40 dX4_pass_5 (by decide) (fun h5 => absurd h5 (by decide)) (fun h5 => ?_)
      refine Zr_aload_n C dX4_pass_8 rfl ?_
      refine Zr_getR C gf_X4_26 qm0 rfl rfl rfl (by decide) dX4_pass_9 ?_
      refine Zr_iload_n C dX4_pass_12 rfl ?_
      refine Zr_zaldN C qm_13 rfl rfl (by omega) (by decide) (ra hR (by decide)) dX4_pass_13 ?_
      refine Zr_if_eq C 40 dX4_pass_14 (by decide) (fun h14 => ?_) (fun h14 => ?_)
      · refine Zr_iconst C (-1) dX4_pass_40 rfl ?_
        exact Zr_iret C dX4_pass_41 (Nat.zero_le _) (Nat.zero_le _) (by rw [fPass, if_pos (by first | exact Or.inl h14 | exact Or.inr (Or.inl h23) | exact Or.inr (Or.inr (Or.inl h30)) | exact Or.inr (Or.inr (Or.inr h37)))]; exact ⟨rfl, rfl, rfl, hR⟩)
      · refine Zr_aload_n C dX4_pass_17 rfl ?_
        refine Zr_getR C gf_X4_9 qm0 rfl rfl rfl (by decide) dX4_pass_18 ?_
        refine Zr_iload_n C dX4_pass_21 rfl ?_
        refine Zr_zaldN C qm_8 rfl rfl (by omega) (by decide) (ra hR (by decide)) dX4_pass_22 ?_
        refine Zr_if_ne C 40 dX4_pass_23 (by decide) (fun h23 => ?_) (fun h23 => ?_)
        · refine Zr_iconst C (-1) dX4_pass_40 rfl ?_
          exact Zr_iret C dX4_pass_41 (Nat.zero_le _) (Nat.zero_le _) (by rw [fPass, if_pos (by first | exact Or.inl h14 | exact Or.inr (Or.inl h23) | exact Or.inr (Or.inr (Or.inl h30)) | exact Or.inr (Or.inr (Or.inr h37)))]; exact ⟨rfl, rfl, rfl, hR⟩)
        · refine Zr_aload_n C dX4_pass_26 rfl ?_
          refine Zr_getE C gf_X4_79 qm0 rfl rfl rfl (rg hR) dX4_pass_27 ?_
          refine Zr_if_eq C 40 dX4_pass_30 (by decide) (fun h30 => ?_) (fun h30 => ?_)
          · refine Zr_iconst C (-1) dX4_pass_40 rfl ?_
            exact Zr_iret C dX4_pass_41 (Nat.zero_le _) (Nat.zero_le _) (by rw [fPass, if_pos (by first | exact Or.inl h14 | exact Or.inr (Or.inl h23) | exact Or.inr (Or.inr (Or.inl h30)) | exact Or.inr (Or.inr (Or.inr h37)))]; exact ⟨rfl, rfl, rfl, hR⟩)
          · refine Zr_aload_n C dX4_pass_33 rfl ?_
            refine Zr_getE C gf_X4_117 qm0 rfl rfl rfl (rg hR) dX4_pass_34 ?_
            refine Zr_if_eq C 42 dX4_pass_37 (by decide) (fun h37 => ?_) (fun h37 => ?_)
            · refine Zr_iload_n C dX4_pass_42 rfl ?_
              refine Zr_if_le C 113 dX4_pass_43 (by decide) (fun h43 => ?_) (fun h43 => absurd (by decide) h43)
              refine Zr_aload_n C dX4_pass_113 rfl ?_
              refine Zr_getE C gf_X4_126 qm0 rfl rfl rfl (rg hR) dX4_pass_114 ?_
              refine Zr_if_le C 174 dX4_pass_117 (by decide) (fun h117 => ?_) (fun h117 => ?_)
              · refine Zr_aload_n C dX4_pass_174 rfl ?_
                refine Zr_dup C dX4_pass_175 rfl ?_
                refine Zr_getE C gf_X4_126 qm0 rfl rfl rfl (rg hR) dX4_pass_176 ?_
                refine Zr_iconst C (1) dX4_pass_179 rfl ?_
                refine Zr_iadd C dX4_pass_180 ?_
                refine Zr_putE C pf_X4_126 qm0 rfl rfl rfl (znI _) (rRg hR) dX4_pass_181 (fun S hR => ?_)
                refine Zr_aload_n C dX4_pass_184 rfl ?_
                refine Zr_getR C gf_X4_23 qm0 rfl rfl rfl (by decide) dX4_pass_185 ?_
                refine Zr_iconst C (0) dX4_pass_188 rfl ?_
                refine Zr_topi (y := nI 0) rfl ?_
                refine Zr_iconst C (0) dX4_pass_189 rfl ?_
                refine Zr_zastN C qm_12 rfl rfl (by decide) (by decide) (by first | exact Or.inl rfl | exact Or.inr rfl | assumption) (rRa hR (by decide)) dX4_pass_190 (fun S hR => ?_)
                refine Zr_aload_n C dX4_pass_191 rfl ?_
                refine Zr_iconst C (0) dX4_pass_192 rfl ?_
                refine Zr_putE C pf_X4_123 qm0 rfl rfl rfl (znZ (by first | exact Or.inl rfl | exact Or.inr rfl | assumption)) (rRg hR) dX4_pass_193 (fun S hR => ?_)
                refine Zr_aload_n C dX4_pass_196 rfl ?_
                refine Zr_iconst C (0) dX4_pass_197 rfl ?_
                refine Zr_putE C pf_X4_120 qm0 rfl rfl rfl (znI _) (rRg hR) dX4_pass_198 (fun S hR => ?_)
                refine Zr_aload_n C dX4_pass_201 rfl ?_
                refine Zr_getR C gf_X4_26 qm0 rfl rfl rfl (by decide) dX4_pass_202 ?_
                refine Zr_iconst C (0) dX4_pass_205 rfl ?_
                refine Zr_topi (y := nI 0) rfl ?_
                refine Zr_iconst C (0) dX4_pass_206 rfl ?_
                refine Zr_zastN C qm_13 rfl rfl (by decide) (by decide) (by first | exact Or.inl rfl | exact Or.inr rfl | assumption) (rRa hR (by decide)) dX4_pass_207 (fun S hR => ?_)
                refine Zr_aload_n C dX4_pass_208 rfl ?_
                refine Zr_iconst C (0) dX4_pass_209 rfl ?_
                refine Zr_aload_n C dX4_pass_210 rfl ?_
                refine Zr_getE C gf_X4_60 qm0 rfl rfl rfl ((rg hR).trans hB.1) dX4_pass_211 ?_
                refine Zr_iconst C (1) dX4_pass_214 rfl ?_
                refine Zr_isub C dX4_pass_215 ?_
                refine Zr_topi (y := nI (n - 1)) (nI_sub1 (by omega)) ?_
                refine Zr_iconst C (3) dX4_pass_216 rfl ?_
                refine Zr_iconst C (-1) dX4_pass_217 rfl ?_
                refine Zr_iconst C (-1) dX4_pass_218 rfl ?_
                refine Zr_callVRv C cw_X4_92 (k_X4_sends (i := 0) (j := n - 1) hR (by omega) (by omega) (hL _ (by omega))) qm0 rfl rfl rfl (Nat.le_of_ble_eq_true rfl) (Nat.le_of_ble_eq_true rfl) rfl (Nat.le_of_ble_eq_true rfl) dX4_pass_219 ⟨Nat.zero_le _, Nat.zero_le _⟩ (fun S hR => ?_)
                refine Zr_iconst C (1) dX4_pass_222 rfl ?_
                exact Zr_iret C dX4_pass_223 (Nat.zero_le _) (Nat.zero_le _) (by rw [fPass, if_neg (fun h => h.elim h14 (fun h => h.elim (fun h => h h23) (fun h => h.elim h30 (fun h => h h37)))), if_neg (fun h => h rfl), if_neg (by first | exact fun h => absurd h.1 (i32_le h117) | exact fun h => h124 h.2.1 | exact fun h => h133 h.2.2.1 | exact fun h => h147 h.2.2.2)]; exact ⟨rfl, rfl, rfl, hR⟩)
              · refine Zr_aload_n C dX4_pass_120 rfl ?_
                refine Zr_getE C gf_X4_123 qm0 rfl rfl rfl (rg hR) dX4_pass_121 ?_
                refine Zr_if_ne C 174 dX4_pass_124 (by decide) (fun h124 => ?_) (fun h124 => ?_)
                · refine Zr_aload_n C dX4_pass_174 rfl ?_
                  refine Zr_dup C dX4_pass_175 rfl ?_
                  refine Zr_getE C gf_X4_126 qm0 rfl rfl rfl (rg hR) dX4_pass_176 ?_
                  refine Zr_iconst C (1) dX4_pass_179 rfl ?_
                  refine Zr_iadd C dX4_pass_180 ?_
                  refine Zr_putE C pf_X4_126 qm0 rfl rfl rfl (znI _) (rRg hR) dX4_pass_181 (fun S hR => ?_)
                  refine Zr_aload_n C dX4_pass_184 rfl ?_
                  refine Zr_getR C gf_X4_23 qm0 rfl rfl rfl (by decide) dX4_pass_185 ?_
                  refine Zr_iconst C (0) dX4_pass_188 rfl ?_
                  refine Zr_topi (y := nI 0) rfl ?_
                  refine Zr_iconst C (0) dX4_pass_189 rfl ?_
                  refine Zr_zastN C qm_12 rfl rfl (by decide) (by decide) (by first | exact Or.inl rfl | exact Or.inr rfl | assumption) (rRa hR (by decide)) dX4_pass_190 (fun S hR => ?_)
                  refine Zr_aload_n C dX4_pass_191 rfl ?_
                  refine Zr_iconst C (0) dX4_pass_192 rfl ?_
                  refine Zr_putE C pf_X4_123 qm0 rfl rfl rfl (znZ (by first | exact Or.inl rfl | exact Or.inr rfl | assumption)) (rRg hR) dX4_pass_193 (fun S hR => ?_)
                  refine Zr_aload_n C dX4_pass_196 rfl ?_
                  refine Zr_iconst C (0) dX4_pass_197 rfl ?_
                  refine Zr_putE C pf_X4_120 qm0 rfl rfl rfl (znI _) (rRg hR) dX4_pass_198 (fun S hR => ?_)
                  refine Zr_aload_n C dX4_pass_201 rfl ?_
                  refine Zr_getR C gf_X4_26 qm0 rfl rfl rfl (by decide) dX4_pass_202 ?_
                  refine Zr_iconst C (0) dX4_pass_205 rfl ?_
                  refine Zr_topi (y := nI 0) rfl ?_
                  refine Zr_iconst C (0) dX4_pass_206 rfl ?_
                  refine Zr_zastN C qm_13 rfl rfl (by decide) (by decide) (by first | exact Or.inl rfl | exact Or.inr rfl | assumption) (rRa hR (by decide)) dX4_pass_207 (fun S hR => ?_)
                  refine Zr_aload_n C dX4_pass_208 rfl ?_
                  refine Zr_iconst C (0) dX4_pass_209 rfl ?_
                  refine Zr_aload_n C dX4_pass_210 rfl ?_
                  refine Zr_getE C gf_X4_60 qm0 rfl rfl rfl ((rg hR).trans hB.1) dX4_pass_211 ?_
                  refine Zr_iconst C (1) dX4_pass_214 rfl ?_
                  refine Zr_isub C dX4_pass_215 ?_
                  refine Zr_topi (y := nI (n - 1)) (nI_sub1 (by omega)) ?_
                  refine Zr_iconst C (3) dX4_pass_216 rfl ?_
                  refine Zr_iconst C (-1) dX4_pass_217 rfl ?_
                  refine Zr_iconst C (-1) dX4_pass_218 rfl ?_
                  refine Zr_callVRv C cw_X4_92 (k_X4_sends (i := 0) (j := n - 1) hR (by omega) (by omega) (hL _ (by omega))) qm0 rfl rfl rfl (Nat.le_of_ble_eq_true rfl) (Nat.le_of_ble_eq_true rfl) rfl (Nat.le_of_ble_eq_true rfl) dX4_pass_219 ⟨Nat.zero_le _, Nat.zero_le _⟩ (fun S hR => ?_)
                  refine Zr_iconst C (1) dX4_pass_222 rfl ?_
                  exact Zr_iret C dX4_pass_223 (Nat.zero_le _) (Nat.zero_le _) (by rw [fPass, if_neg (fun h => h.elim h14 (fun h => h.elim (fun h => h h23) (fun h => h.elim h30 (fun h => h h37)))), if_neg (fun h => h rfl), if_neg (by first | exact fun h => absurd h.1 (i32_le h117) | exact fun h => h124 h.2.1 | exact fun h => h133 h.2.2.1 | exact fun h => h147 h.2.2.2)]; exact ⟨rfl, rfl, rfl, hR⟩)
                · refine Zr_aload_n C dX4_pass_127 rfl ?_
                  refine Zr_getR C gf_X4_23 qm0 rfl rfl rfl (by decide) dX4_pass_128 ?_
                  refine Zr_iconst C (0) dX4_pass_131 rfl ?_
                  refine Zr_topi (y := nI 0) rfl ?_
                  refine Zr_zaldN C qm_12 rfl rfl (by decide) (by decide) (ra hR (by decide)) dX4_pass_132 ?_
                  refine Zr_if_ne C 174 dX4_pass_133 (by decide) (fun h133 => ?_) (fun h133 => ?_)
                  · refine Zr_aload_n C dX4_pass_174 rfl ?_
                    refine Zr_dup C dX4_pass_175 rfl ?_
                    refine Zr_getE C gf_X4_126 qm0 rfl rfl rfl (rg hR) dX4_pass_176 ?_
                    refine Zr_iconst C (1) dX4_pass_179 rfl ?_
                    refine Zr_iadd C dX4_pass_180 ?_
                    refine Zr_putE C pf_X4_126 qm0 rfl rfl rfl (znI _) (rRg hR) dX4_pass_181 (fun S hR => ?_)
                    refine Zr_aload_n C dX4_pass_184 rfl ?_
                    refine Zr_getR C gf_X4_23 qm0 rfl rfl rfl (by decide) dX4_pass_185 ?_
                    refine Zr_iconst C (0) dX4_pass_188 rfl ?_
                    refine Zr_topi (y := nI 0) rfl ?_
                    refine Zr_iconst C (0) dX4_pass_189 rfl ?_
                    refine Zr_zastN C qm_12 rfl rfl (by decide) (by decide) (by first | exact Or.inl rfl | exact Or.inr rfl | assumption) (rRa hR (by decide)) dX4_pass_190 (fun S hR => ?_)
                    refine Zr_aload_n C dX4_pass_191 rfl ?_
                    refine Zr_iconst C (0) dX4_pass_192 rfl ?_
                    refine Zr_putE C pf_X4_123 qm0 rfl rfl rfl (znZ (by first | exact Or.inl rfl | exact Or.inr rfl | assumption)) (rRg hR) dX4_pass_193 (fun S hR => ?_)
                    refine Zr_aload_n C dX4_pass_196 rfl ?_
                    refine Zr_iconst C (0) dX4_pass_197 rfl ?_
                    refine Zr_putE C pf_X4_120 qm0 rfl rfl rfl (znI _) (rRg hR) dX4_pass_198 (fun S hR => ?_)
                    refine Zr_aload_n C dX4_pass_201 rfl ?_
                    refine Zr_getR C gf_X4_26 qm0 rfl rfl rfl (by decide) dX4_pass_202 ?_
                    refine Zr_iconst C (0) dX4_pass_205 rfl ?_
                    refine Zr_topi (y := nI 0) rfl ?_
                    refine Zr_iconst C (0) dX4_pass_206 rfl ?_
                    refine Zr_zastN C qm_13 rfl rfl (by decide) (by decide) (by first | exact Or.inl rfl | exact Or.inr rfl | assumption) (rRa hR (by decide)) dX4_pass_207 (fun S hR => ?_)
                    refine Zr_aload_n C dX4_pass_208 rfl ?_
                    refine Zr_iconst C (0) dX4_pass_209 rfl ?_
                    refine Zr_aload_n C dX4_pass_210 rfl ?_
                    refine Zr_getE C gf_X4_60 qm0 rfl rfl rfl ((rg hR).trans hB.1) dX4_pass_211 ?_
                    refine Zr_iconst C (1) dX4_pass_214 rfl ?_
                    refine Zr_isub C dX4_pass_215 ?_
                    refine Zr_topi (y := nI (n - 1)) (nI_sub1 (by omega)) ?_
                    refine Zr_iconst C (3) dX4_pass_216 rfl ?_
                    refine Zr_iconst C (-1) dX4_pass_217 rfl ?_
                    refine Zr_iconst C (-1) dX4_pass_218 rfl ?_
                    refine Zr_callVRv C cw_X4_92 (k_X4_sends (i := 0) (j := n - 1) hR (by omega) (by omega) (hL _ (by omega))) qm0 rfl rfl rfl (Nat.le_of_ble_eq_true rfl) (Nat.le_of_ble_eq_true rfl) rfl (Nat.le_of_ble_eq_true rfl) dX4_pass_219 ⟨Nat.zero_le _, Nat.zero_le _⟩ (fun S hR => ?_)
                    refine Zr_iconst C (1) dX4_pass_222 rfl ?_
                    exact Zr_iret C dX4_pass_223 (Nat.zero_le _) (Nat.zero_le _) (by rw [fPass, if_neg (fun h => h.elim h14 (fun h => h.elim (fun h => h h23) (fun h => h.elim h30 (fun h => h h37)))), if_neg (fun h => h rfl), if_neg (by first | exact fun h => absurd h.1 (i32_le h117) | exact fun h => h124 h.2.1 | exact fun h => h133 h.2.2.1 | exact fun h => h147 h.2.2.2)]; exact ⟨rfl, rfl, rfl, hR⟩)
                  · refine Zr_aload_n C dX4_pass_136 rfl ?_
                    refine Zr_getE C gf_X4_120 qm0 rfl rfl rfl (rg hR) dX4_pass_137 ?_
                    refine Zr_aload_n C dX4_pass_140 rfl ?_
                    refine Zr_getR C gf_X4_20 qm0 rfl rfl rfl (by decide) dX4_pass_141 ?_
                    refine Zr_iconst C (0) dX4_pass_144 rfl ?_
                    refine Zr_topi (y := nI 0) rfl ?_
                    refine Zr_ialdN C qm_11 rfl rfl (by decide) (by decide) (ra hR (by decide)) dX4_pass_145 ?_
                    refine Zr_iadd C dX4_pass_146 ?_
                    refine Zr_if_ne C 174 dX4_pass_147 (by decide) (fun h147 => ?_) (fun h147 => ?_)
                    · refine Zr_aload_n C dX4_pass_174 rfl ?_
                      refine Zr_dup C dX4_pass_175 rfl ?_
                      refine Zr_getE C gf_X4_126 qm0 rfl rfl rfl (rg hR) dX4_pass_176 ?_
                      refine Zr_iconst C (1) dX4_pass_179 rfl ?_
                      refine Zr_iadd C dX4_pass_180 ?_
                      refine Zr_putE C pf_X4_126 qm0 rfl rfl rfl (znI _) (rRg hR) dX4_pass_181 (fun S hR => ?_)
                      refine Zr_aload_n C dX4_pass_184 rfl ?_
                      refine Zr_getR C gf_X4_23 qm0 rfl rfl rfl (by decide) dX4_pass_185 ?_
                      refine Zr_iconst C (0) dX4_pass_188 rfl ?_
                      refine Zr_topi (y := nI 0) rfl ?_
                      refine Zr_iconst C (0) dX4_pass_189 rfl ?_
                      refine Zr_zastN C qm_12 rfl rfl (by decide) (by decide) (by first | exact Or.inl rfl | exact Or.inr rfl | assumption) (rRa hR (by decide)) dX4_pass_190 (fun S hR => ?_)
                      refine Zr_aload_n C dX4_pass_191 rfl ?_
                      refine Zr_iconst C (0) dX4_pass_192 rfl ?_
                      refine Zr_putE C pf_X4_123 qm0 rfl rfl rfl (znZ (by first | exact Or.inl rfl | exact Or.inr rfl | assumption)) (rRg hR) dX4_pass_193 (fun S hR => ?_)
                      refine Zr_aload_n C dX4_pass_196 rfl ?_
                      refine Zr_iconst C (0) dX4_pass_197 rfl ?_
                      refine Zr_putE C pf_X4_120 qm0 rfl rfl rfl (znI _) (rRg hR) dX4_pass_198 (fun S hR => ?_)
                      refine Zr_aload_n C dX4_pass_201 rfl ?_
                      refine Zr_getR C gf_X4_26 qm0 rfl rfl rfl (by decide) dX4_pass_202 ?_
                      refine Zr_iconst C (0) dX4_pass_205 rfl ?_
                      refine Zr_topi (y := nI 0) rfl ?_
                      refine Zr_iconst C (0) dX4_pass_206 rfl ?_
                      refine Zr_zastN C qm_13 rfl rfl (by decide) (by decide) (by first | exact Or.inl rfl | exact Or.inr rfl | assumption) (rRa hR (by decide)) dX4_pass_207 (fun S hR => ?_)
                      refine Zr_aload_n C dX4_pass_208 rfl ?_
                      refine Zr_iconst C (0) dX4_pass_209 rfl ?_
                      refine Zr_aload_n C dX4_pass_210 rfl ?_
                      refine Zr_getE C gf_X4_60 qm0 rfl rfl rfl ((rg hR).trans hB.1) dX4_pass_211 ?_
                      refine Zr_iconst C (1) dX4_pass_214 rfl ?_
                      refine Zr_isub C dX4_pass_215 ?_
                      refine Zr_topi (y := nI (n - 1)) (nI_sub1 (by omega)) ?_
                      refine Zr_iconst C (3) dX4_pass_216 rfl ?_
                      refine Zr_iconst C (-1) dX4_pass_217 rfl ?_
                      refine Zr_iconst C (-1) dX4_pass_218 rfl ?_
                      refine Zr_callVRv C cw_X4_92 (k_X4_sends (i := 0) (j := n - 1) hR (by omega) (by omega) (hL _ (by omega))) qm0 rfl rfl rfl (Nat.le_of_ble_eq_true rfl) (Nat.le_of_ble_eq_true rfl) rfl (Nat.le_of_ble_eq_true rfl) dX4_pass_219 ⟨Nat.zero_le _, Nat.zero_le _⟩ (fun S hR => ?_)
                      refine Zr_iconst C (1) dX4_pass_222 rfl ?_
                      exact Zr_iret C dX4_pass_223 (Nat.zero_le _) (Nat.zero_le _) (by rw [fPass, if_neg (fun h => h.elim h14 (fun h => h.elim (fun h => h h23) (fun h => h.elim h30 (fun h => h h37)))), if_neg (fun h => h rfl), if_neg (by first | exact fun h => absurd h.1 (i32_le h117) | exact fun h => h124 h.2.1 | exact fun h => h133 h.2.2.1 | exact fun h => h147 h.2.2.2)]; exact ⟨rfl, rfl, rfl, hR⟩)
                    · refine Zr_aload_n C dX4_pass_150 rfl ?_
                      refine Zr_iconst C (1) dX4_pass_151 rfl ?_
                      refine Zr_putE C pf_X4_117 qm0 rfl rfl rfl (znZ (by first | exact Or.inl rfl | exact Or.inr rfl | assumption)) (rRg hR) dX4_pass_152 (fun S hR => ?_)
                      refine Zr_aload_n C dX4_pass_155 rfl ?_
                      refine Zr_callV C cw_X4_96 (k_X4_quiet hB2 hR) qm0 rfl rfl rfl (Nat.le_of_ble_eq_true rfl) (Nat.le_of_ble_eq_true rfl) rfl (Nat.le_of_ble_eq_true rfl) dX4_pass_156 ⟨Nat.zero_le _, Nat.zero_le _⟩ ?_
                      refine Zr_topi (y := 0) (if_neg hQ) ?_
                      refine Zr_if_ne C 172 dX4_pass_159 (by decide) (fun h159 => absurd rfl h159) (fun h159 => ?_)
                      refine Zr_aload_n C dX4_pass_162 rfl ?_
                      refine Zr_dup C dX4_pass_163 rfl ?_
                      refine Zr_getE C gf_X4_100 qm0 rfl rfl rfl (rg hR) dX4_pass_164 ?_
                      refine Zr_iconst C (1) dX4_pass_167 rfl ?_
                      refine Zr_iadd C dX4_pass_168 ?_
                      refine Zr_putE C pf_X4_100 qm0 rfl rfl rfl (znI _) (rRg hR) dX4_pass_169 (fun S hR => ?_)
                      refine Zr_iconst C (2) dX4_pass_172 rfl ?_
                      exact Zr_iret C dX4_pass_173 (Nat.zero_le _) (Nat.zero_le _) (by rw [fPass, if_neg (fun h => h.elim h14 (fun h => h.elim (fun h => h h23) (fun h => h.elim h30 (fun h => h h37)))), if_neg (fun h => h rfl), if_pos ⟨Int32.not_le.mp h117, h124, h133, h147⟩, aJudge, if_neg hQ]; exact ⟨rfl, rfl, rfl, hR⟩)
            · refine Zr_iconst C (-1) dX4_pass_40 rfl ?_
              exact Zr_iret C dX4_pass_41 (Nat.zero_le _) (Nat.zero_le _) (by rw [fPass, if_pos (by first | exact Or.inl h14 | exact Or.inr (Or.inl h23) | exact Or.inr (Or.inr (Or.inl h30)) | exact Or.inr (Or.inr (Or.inr h37)))]; exact ⟨rfl, rfl, rfl, hR⟩)
  · have hz2 : i ≠ 0 := by omega
    refine Zr_aload_n C dX4_pass_0 rfl ?_
    refine Zr_iload_n C dX4_pass_1 rfl ?_
    refine Zr_callV C cw_X4_64 (k_X4_isOne_t hB hR hi) qm0 rfl rfl rfl (Nat.le_of_ble_eq_true rfl) (Nat.le_of_ble_eq_true rfl) rfl (Nat.le_of_ble_eq_true rfl) dX4_pass_2 ⟨Nat.zero_le _, Nat.zero_le _⟩ ?_
    refine Zr_if_eq C 40 dX4_pass_5 (by decide) (fun h5 => absurd h5 (by decide)) (fun h5 => ?_)
    refine Zr_aload_n C dX4_pass_8 rfl ?_
    refine Zr_getR C gf_X4_26 qm0 rfl rfl rfl (by decide) dX4_pass_9 ?_
    refine Zr_iload_n C dX4_pass_12 rfl ?_
    refine Zr_zaldN C qm_13 rfl rfl (by omega) (by decide) (ra hR (by decide)) dX4_pass_13 ?_
    refine Zr_if_eq C 40 dX4_pass_14 (by decide) (fun h14 => ?_) (fun h14 => ?_)
    · refine Zr_iconst C (-1) dX4_pass_40 rfl ?_
      exact Zr_iret C dX4_pass_41 (Nat.zero_le _) (Nat.zero_le _) (by rw [fPass, if_pos (by first | exact Or.inl h14 | exact Or.inr (Or.inl h23) | exact Or.inr (Or.inr (Or.inl h30)) | exact Or.inr (Or.inr (Or.inr h37)))]; exact ⟨rfl, rfl, rfl, hR⟩)
    · refine Zr_aload_n C dX4_pass_17 rfl ?_
      refine Zr_getR C gf_X4_9 qm0 rfl rfl rfl (by decide) dX4_pass_18 ?_
      refine Zr_iload_n C dX4_pass_21 rfl ?_
      refine Zr_zaldN C qm_8 rfl rfl (by omega) (by decide) (ra hR (by decide)) dX4_pass_22 ?_
      refine Zr_if_ne C 40 dX4_pass_23 (by decide) (fun h23 => ?_) (fun h23 => ?_)
      · refine Zr_iconst C (-1) dX4_pass_40 rfl ?_
        exact Zr_iret C dX4_pass_41 (Nat.zero_le _) (Nat.zero_le _) (by rw [fPass, if_pos (by first | exact Or.inl h14 | exact Or.inr (Or.inl h23) | exact Or.inr (Or.inr (Or.inl h30)) | exact Or.inr (Or.inr (Or.inr h37)))]; exact ⟨rfl, rfl, rfl, hR⟩)
      · refine Zr_aload_n C dX4_pass_26 rfl ?_
        refine Zr_getE C gf_X4_79 qm0 rfl rfl rfl (rg hR) dX4_pass_27 ?_
        refine Zr_if_eq C 40 dX4_pass_30 (by decide) (fun h30 => ?_) (fun h30 => ?_)
        · refine Zr_iconst C (-1) dX4_pass_40 rfl ?_
          exact Zr_iret C dX4_pass_41 (Nat.zero_le _) (Nat.zero_le _) (by rw [fPass, if_pos (by first | exact Or.inl h14 | exact Or.inr (Or.inl h23) | exact Or.inr (Or.inr (Or.inl h30)) | exact Or.inr (Or.inr (Or.inr h37)))]; exact ⟨rfl, rfl, rfl, hR⟩)
        · refine Zr_aload_n C dX4_pass_33 rfl ?_
          refine Zr_getE C gf_X4_117 qm0 rfl rfl rfl (rg hR) dX4_pass_34 ?_
          refine Zr_if_eq C 42 dX4_pass_37 (by decide) (fun h37 => ?_) (fun h37 => ?_)
          · refine Zr_iload_n C dX4_pass_42 rfl ?_
            refine Zr_if_le C 113 dX4_pass_43 (by decide) (fun h43 => absurd h43 (nI_nle hz (by omega))) (fun h43 => ?_)
            refine Zr_aload_n C dX4_pass_46 rfl ?_
            refine Zr_dup C dX4_pass_47 rfl ?_
            refine Zr_getE C gf_X4_120 qm0 rfl rfl rfl (rg hR) dX4_pass_48 ?_
            refine Zr_aload_n C dX4_pass_51 rfl ?_
            refine Zr_getR C gf_X4_20 qm0 rfl rfl rfl (by decide) dX4_pass_52 ?_
            refine Zr_iload_n C dX4_pass_55 rfl ?_
            refine Zr_ialdN C qm_11 rfl rfl (by omega) (by decide) (ra hR (by decide)) dX4_pass_56 ?_
            refine Zr_iadd C dX4_pass_57 ?_
            refine Zr_putE C pf_X4_120 qm0 rfl rfl rfl (znI _) (rRg hR) dX4_pass_58 (fun S hR => ?_)
            refine Zr_aload_n C dX4_pass_61 rfl ?_
            refine Zr_aload_n C dX4_pass_62 rfl ?_
            refine Zr_getE C gf_X4_123 qm0 rfl rfl rfl (rg hR) dX4_pass_63 ?_
            refine Zr_if_ne C 78 dX4_pass_66 (by decide) (fun h66 => ?_) (fun h66 => ?_)
            · have h66 : ¬ σ.1 0 0 21 = 0 := h66
              refine Zr_iconst C (1) dX4_pass_78 rfl ?_
              refine Zr_goto C 83 dX4_pass_79 (by decide) ?_
              refine Zr_putE C pf_X4_123 qm0 rfl rfl rfl (znZ (by first | exact Or.inl rfl | exact Or.inr rfl | assumption)) (rRg hR) dX4_pass_83 (fun S hR => ?_)
              refine Zr_aload_n C dX4_pass_86 rfl ?_
              refine Zr_getR C gf_X4_23 qm0 rfl rfl rfl (by decide) dX4_pass_87 ?_
              refine Zr_iload_n C dX4_pass_90 rfl ?_
              refine Zr_iconst C (0) dX4_pass_91 rfl ?_
              refine Zr_zastN C qm_12 rfl rfl (by omega) (by decide) (by first | exact Or.inl rfl | exact Or.inr rfl | assumption) (rRa hR (by decide)) dX4_pass_92 (fun S hR => ?_)
              refine Zr_aload_n C dX4_pass_93 rfl ?_
              refine Zr_getR C gf_X4_26 qm0 rfl rfl rfl (by decide) dX4_pass_94 ?_
              refine Zr_iload_n C dX4_pass_97 rfl ?_
              refine Zr_iconst C (0) dX4_pass_98 rfl ?_
              refine Zr_zastN C qm_13 rfl rfl (by omega) (by decide) (by first | exact Or.inl rfl | exact Or.inr rfl | assumption) (rRa hR (by decide)) dX4_pass_99 (fun S hR => ?_)
              refine Zr_aload_n C dX4_pass_100 rfl ?_
              refine Zr_iload_n C dX4_pass_101 rfl ?_
              refine Zr_iload_n C dX4_pass_102 rfl ?_
              refine Zr_iconst C (1) dX4_pass_103 rfl ?_
              refine Zr_isub C dX4_pass_104 ?_
              refine Zr_topi (y := nI (i - 1)) (nI_sub1 hz) ?_
              refine Zr_iconst C (3) dX4_pass_105 rfl ?_
              refine Zr_iconst C (-1) dX4_pass_106 rfl ?_
              refine Zr_iconst C (-1) dX4_pass_107 rfl ?_
              refine Zr_callVRv C cw_X4_92 (k_X4_sends hR (by omega) (by omega) (hL _ (by omega))) qm0 rfl rfl rfl (Nat.le_of_ble_eq_true rfl) (Nat.le_of_ble_eq_true rfl) rfl (Nat.le_of_ble_eq_true rfl) dX4_pass_108 ⟨Nat.zero_le _, Nat.zero_le _⟩ (fun S hR => ?_)
              refine Zr_iconst C (1) dX4_pass_111 rfl ?_
              exact Zr_iret C dX4_pass_112 (Nat.zero_le _) (Nat.zero_le _) (by rw [fPass, if_neg (fun h => h.elim h14 (fun h => h.elim (fun h => h h23) (fun h => h.elim h30 (fun h => h h37)))), if_pos hz2]; refine ⟨rfl, rfl, rfl, ?_⟩; first | (rw [if_pos h66]; exact hR) | (rw [if_neg (fun h => h h66), if_pos h75]; exact hR) | (rw [if_neg (fun h => h h66), if_neg (fun h => h h75)]; exact hR))
            · have h66 : σ.1 0 0 21 = 0 := h66
              refine Zr_aload_n C dX4_pass_69 rfl ?_
              refine Zr_getR C gf_X4_23 qm0 rfl rfl rfl (by decide) dX4_pass_70 ?_
              refine Zr_iload_n C dX4_pass_73 rfl ?_
              refine Zr_zaldN C qm_12 rfl rfl (by omega) (by decide) (ra hR (by decide)) dX4_pass_74 ?_
              refine Zr_if_eq C 82 dX4_pass_75 (by decide) (fun h75 => ?_) (fun h75 => ?_)
              · have h75 : σ.1 1 12 i = 0 := h75
                refine Zr_iconst C (0) dX4_pass_82 rfl ?_
                refine Zr_putE C pf_X4_123 qm0 rfl rfl rfl (znZ (by first | exact Or.inl rfl | exact Or.inr rfl | assumption)) (rRg hR) dX4_pass_83 (fun S hR => ?_)
                refine Zr_aload_n C dX4_pass_86 rfl ?_
                refine Zr_getR C gf_X4_23 qm0 rfl rfl rfl (by decide) dX4_pass_87 ?_
                refine Zr_iload_n C dX4_pass_90 rfl ?_
                refine Zr_iconst C (0) dX4_pass_91 rfl ?_
                refine Zr_zastN C qm_12 rfl rfl (by omega) (by decide) (by first | exact Or.inl rfl | exact Or.inr rfl | assumption) (rRa hR (by decide)) dX4_pass_92 (fun S hR => ?_)
                refine Zr_aload_n C dX4_pass_93 rfl ?_
                refine Zr_getR C gf_X4_26 qm0 rfl rfl rfl (by decide) dX4_pass_94 ?_
                refine Zr_iload_n C dX4_pass_97 rfl ?_
                refine Zr_iconst C (0) dX4_pass_98 rfl ?_
                refine Zr_zastN C qm_13 rfl rfl (by omega) (by decide) (by first | exact Or.inl rfl | exact Or.inr rfl | assumption) (rRa hR (by decide)) dX4_pass_99 (fun S hR => ?_)
                refine Zr_aload_n C dX4_pass_100 rfl ?_
                refine Zr_iload_n C dX4_pass_101 rfl ?_
                refine Zr_iload_n C dX4_pass_102 rfl ?_
                refine Zr_iconst C (1) dX4_pass_103 rfl ?_
                refine Zr_isub C dX4_pass_104 ?_
                refine Zr_topi (y := nI (i - 1)) (nI_sub1 hz) ?_
                refine Zr_iconst C (3) dX4_pass_105 rfl ?_
                refine Zr_iconst C (-1) dX4_pass_106 rfl ?_
                refine Zr_iconst C (-1) dX4_pass_107 rfl ?_
                refine Zr_callVRv C cw_X4_92 (k_X4_sends hR (by omega) (by omega) (hL _ (by omega))) qm0 rfl rfl rfl (Nat.le_of_ble_eq_true rfl) (Nat.le_of_ble_eq_true rfl) rfl (Nat.le_of_ble_eq_true rfl) dX4_pass_108 ⟨Nat.zero_le _, Nat.zero_le _⟩ (fun S hR => ?_)
                refine Zr_iconst C (1) dX4_pass_111 rfl ?_
                exact Zr_iret C dX4_pass_112 (Nat.zero_le _) (Nat.zero_le _) (by rw [fPass, if_neg (fun h => h.elim h14 (fun h => h.elim (fun h => h h23) (fun h => h.elim h30 (fun h => h h37)))), if_pos hz2]; refine ⟨rfl, rfl, rfl, ?_⟩; first | (rw [if_pos h66]; exact hR) | (rw [if_neg (fun h => h h66), if_pos h75]; exact hR) | (rw [if_neg (fun h => h h66), if_neg (fun h => h h75)]; exact hR))
              · have h75 : ¬ σ.1 1 12 i = 0 := h75
                refine Zr_iconst C (1) dX4_pass_78 rfl ?_
                refine Zr_goto C 83 dX4_pass_79 (by decide) ?_
                refine Zr_putE C pf_X4_123 qm0 rfl rfl rfl (znZ (by first | exact Or.inl rfl | exact Or.inr rfl | assumption)) (rRg hR) dX4_pass_83 (fun S hR => ?_)
                refine Zr_aload_n C dX4_pass_86 rfl ?_
                refine Zr_getR C gf_X4_23 qm0 rfl rfl rfl (by decide) dX4_pass_87 ?_
                refine Zr_iload_n C dX4_pass_90 rfl ?_
                refine Zr_iconst C (0) dX4_pass_91 rfl ?_
                refine Zr_zastN C qm_12 rfl rfl (by omega) (by decide) (by first | exact Or.inl rfl | exact Or.inr rfl | assumption) (rRa hR (by decide)) dX4_pass_92 (fun S hR => ?_)
                refine Zr_aload_n C dX4_pass_93 rfl ?_
                refine Zr_getR C gf_X4_26 qm0 rfl rfl rfl (by decide) dX4_pass_94 ?_
                refine Zr_iload_n C dX4_pass_97 rfl ?_
                refine Zr_iconst C (0) dX4_pass_98 rfl ?_
                refine Zr_zastN C qm_13 rfl rfl (by omega) (by decide) (by first | exact Or.inl rfl | exact Or.inr rfl | assumption) (rRa hR (by decide)) dX4_pass_99 (fun S hR => ?_)
                refine Zr_aload_n C dX4_pass_100 rfl ?_
                refine Zr_iload_n C dX4_pass_101 rfl ?_
                refine Zr_iload_n C dX4_pass_102 rfl ?_
                refine Zr_iconst C (1) dX4_pass_103 rfl ?_
                refine Zr_isub C dX4_pass_104 ?_
                refine Zr_topi (y := nI (i - 1)) (nI_sub1 hz) ?_
                refine Zr_iconst C (3) dX4_pass_105 rfl ?_
                refine Zr_iconst C (-1) dX4_pass_106 rfl ?_
                refine Zr_iconst C (-1) dX4_pass_107 rfl ?_
                refine Zr_callVRv C cw_X4_92 (k_X4_sends hR (by omega) (by omega) (hL _ (by omega))) qm0 rfl rfl rfl (Nat.le_of_ble_eq_true rfl) (Nat.le_of_ble_eq_true rfl) rfl (Nat.le_of_ble_eq_true rfl) dX4_pass_108 ⟨Nat.zero_le _, Nat.zero_le _⟩ (fun S hR => ?_)
                refine Zr_iconst C (1) dX4_pass_111 rfl ?_
                exact Zr_iret C dX4_pass_112 (Nat.zero_le _) (Nat.zero_le _) (by rw [fPass, if_neg (fun h => h.elim h14 (fun h => h.elim (fun h => h h23) (fun h => h.elim h30 (fun h => h h37)))), if_pos hz2]; refine ⟨rfl, rfl, rfl, ?_⟩; first | (rw [if_pos h66]; exact hR) | (rw [if_neg (fun h => h h66), if_pos h75]; exact hR) | (rw [if_neg (fun h => h h66), if_neg (fun h => h h75)]; exact hR))
          · refine Zr_iconst C (-1) dX4_pass_40 rfl ?_
            exact Zr_iret C dX4_pass_41 (Nat.zero_le _) (Nat.zero_le _) (by rw [fPass, if_pos (by first | exact Or.inl h14 | exact Or.inr (Or.inl h23) | exact Or.inr (Or.inr (Or.inl h30)) | exact Or.inr (Or.inr (Or.inr h37)))]; exact ⟨rfl, rfl, rfl, hR⟩)
set_option maxHeartbeats 4000000 in
set_option maxRecDepth 100000 in
theorem k_X4_pass_f {l : Launch} {D : va_G} {K : zKs} {ad : zAd} {S : zSt} {σ : aS} {n : Nat} {x : Int32} (hB : aB n σ) (hR : rRel σ S) (hx : aBad n x) : zMet l yX4_pass cX4_pass 2 (some .int) { frames := 2, cells := 0, slots := 0, locals := 48 } D K rIL (rSh K) ad S [.ref (ad (0, 0)), .int x] (zEq (some (.int (-1))) (rSh K) ad (S)) := by
  refine zEnter (own := RX4) (lv0 := [some (.ref (ad (0, 0))), some (.int x)]) (by decide) rfl (by simp [Value.category]) (Nat.le_of_ble_eq_true rfl) rfl ?_
  intro p e s m below meth c A C _ hnm
  refine Zr_aload_n C dX4_pass_0 rfl ?_
  refine Zr_iload_n C dX4_pass_1 rfl ?_
  refine Zr_callV C cw_X4_64 (k_X4_isOne_f hB hR hx) qm0 rfl rfl rfl (Nat.le_of_ble_eq_true rfl) (Nat.le_of_ble_eq_true rfl) rfl (Nat.le_of_ble_eq_true rfl) dX4_pass_2 ⟨Nat.zero_le _, Nat.zero_le _⟩ ?_
  refine Zr_if_eq C 40 dX4_pass_5 (by decide) (fun h5 => ?_) (fun h5 => absurd rfl h5)
  refine Zr_iconst C (-1) dX4_pass_40 rfl ?_
  exact Zr_iret C dX4_pass_41 (Nat.zero_le _) (Nat.zero_le _) ⟨rfl, rfl, rfl, rfl⟩
set_option maxHeartbeats 4000000 in
set_option maxRecDepth 100000 in
theorem k_X4_hangs_t {l : Launch} {D : va_G} {K : zKs} {ad : zAd} {S : zSt} {σ : aS} {n i j : Nat} (hB : aB n σ) (hR : rRel σ S) (hi : i < n) (hj : j < n) (h : aHangs σ i j) : zMet l yX4_hangs cX4_hangs 3 (some .boolean) { frames := 1, cells := 0, slots := 0, locals := 24 } D K rIL (rSh K) ad S [.ref (ad (0, 0)), .int (nI i), .int (nI j)] (zEq (some (.int 1)) (rSh K) ad (S)) := by
  refine zEnter (own := RX4) (lv0 := [some (.ref (ad (0, 0))), some (.int (nI i)), some (.int (nI j))]) (by decide) rfl (by simp [Value.category]) (Nat.le_of_ble_eq_true rfl) rfl ?_
  intro p e s m below meth c A C _ hnm
  have hn := hB.2.2.1
  refine Zr_aload_n C dX4_hangs_0 rfl ?_
  refine Zr_getR C gf_X4_35 qm0 rfl rfl rfl (by decide) dX4_hangs_1 ?_
  refine Zr_iload_n C dX4_hangs_4 rfl ?_
  refine Zr_iload_n C dX4_hangs_5 rfl ?_
  refine Zr_callS C cw_X4_68 (k_X4_row (i := i) (j := j)) rfl (Nat.le_of_ble_eq_true rfl) (Nat.le_of_ble_eq_true rfl) rfl (Nat.le_of_ble_eq_true rfl) dX4_hangs_6 ⟨Nat.zero_le _, Nat.zero_le _⟩ ?_
  refine Zr_zaldN C qm_16 rfl rfl (by omega) (by decide) (ra hR (by decide)) dX4_hangs_9 ?_
  refine Zr_if_eq C 30 dX4_hangs_10 (by decide) (fun h10 => absurd h10 h.1) (fun h10 => ?_)
  refine Zr_aload_n C dX4_hangs_13 rfl ?_
  refine Zr_iload_n C dX4_hangs_14 rfl ?_
  refine Zr_iload_n C dX4_hangs_15 rfl ?_
  refine Zr_callS C cw_X4_68 (k_X4_row (i := j) (j := i)) rfl (Nat.le_of_ble_eq_true rfl) (Nat.le_of_ble_eq_true rfl) rfl (Nat.le_of_ble_eq_true rfl) dX4_hangs_16 ⟨Nat.zero_le _, Nat.zero_le _⟩ ?_
  refine Zr_iconst C (5) dX4_hangs_19 rfl ?_
  refine Zr_callV C cw_X4_86 (k_X4_counted hR (r10 hj hi hn)) qm0 rfl rfl rfl (Nat.le_of_ble_eq_true rfl) (Nat.le_of_ble_eq_true rfl) rfl (Nat.le_of_ble_eq_true rfl) dX4_hangs_20 ⟨Nat.zero_le _, Nat.zero_le _⟩ ?_
  refine Zr_if_ne C 30 dX4_hangs_23 (by decide) (fun h23 => absurd (by rw [h.2]; rfl) h23) (fun h23 => ?_)
  refine Zr_iconst C (1) dX4_hangs_26 rfl ?_
  refine Zr_goto C 31 dX4_hangs_27 (by decide) ?_
  exact Zr_zret C dX4_hangs_31 (Nat.zero_le _) (Nat.zero_le _) (by first | exact Or.inl rfl | exact Or.inr rfl | assumption) ⟨rfl, rfl, rfl, rfl⟩
set_option maxHeartbeats 4000000 in
set_option maxRecDepth 100000 in
theorem k_X4_hangs_f {l : Launch} {D : va_G} {K : zKs} {ad : zAd} {S : zSt} {σ : aS} {n i j : Nat} (hB : aB n σ) (hR : rRel σ S) (hi : i < n) (hj : j < n) (h : ¬ aHangs σ i j) : zMet l yX4_hangs cX4_hangs 3 (some .boolean) { frames := 1, cells := 0, slots := 0, locals := 24 } D K rIL (rSh K) ad S [.ref (ad (0, 0)), .int (nI i), .int (nI j)] (zEq (some (.int 0)) (rSh K) ad (S)) := by
  refine zEnter (own := RX4) (lv0 := [some (.ref (ad (0, 0))), some (.int (nI i)), some (.int (nI j))]) (by decide) rfl (by simp [Value.category]) (Nat.le_of_ble_eq_true rfl) rfl ?_
  intro p e s m below meth c A C _ hnm
  have hn := hB.2.2.1
  have hc : aOf 5 (σ.2.1 (10 * j + i)) ≤ 640 := Nat.le_trans aOf_le (rlen hR (by omega))
  refine Zr_aload_n C dX4_hangs_0 rfl ?_
  refine Zr_getR C gf_X4_35 qm0 rfl rfl rfl (by decide) dX4_hangs_1 ?_
  refine Zr_iload_n C dX4_hangs_4 rfl ?_
  refine Zr_iload_n C dX4_hangs_5 rfl ?_
  refine Zr_callS C cw_X4_68 (k_X4_row (i := i) (j := j)) rfl (Nat.le_of_ble_eq_true rfl) (Nat.le_of_ble_eq_true rfl) rfl (Nat.le_of_ble_eq_true rfl) dX4_hangs_6 ⟨Nat.zero_le _, Nat.zero_le _⟩ ?_
  refine Zr_zaldN C qm_16 rfl rfl (by omega) (by decide) (ra hR (by decide)) dX4_hangs_9 ?_
  refine Zr_if_eq C 30 dX4_hangs_10 (by decide) (fun h10 => ?_) (fun h10 => ?_)
  · refine Zr_iconst C (0) dX4_hangs_30 rfl ?_
    exact Zr_zret C dX4_hangs_31 (Nat.zero_le _) (Nat.zero_le _) (by first | exact Or.inl rfl | exact Or.inr rfl | assumption) ⟨rfl, rfl, rfl, rfl⟩
  · refine Zr_aload_n C dX4_hangs_13 rfl ?_
    refine Zr_iload_n C dX4_hangs_14 rfl ?_
    refine Zr_iload_n C dX4_hangs_15 rfl ?_
    refine Zr_callS C cw_X4_68 (k_X4_row (i := j) (j := i)) rfl (Nat.le_of_ble_eq_true rfl) (Nat.le_of_ble_eq_true rfl) rfl (Nat.le_of_ble_eq_true rfl) dX4_hangs_16 ⟨Nat.zero_le _, Nat.zero_le _⟩ ?_
    refine Zr_iconst C (5) dX4_hangs_19 rfl ?_
    refine Zr_callV C cw_X4_86 (k_X4_counted hR (r10 hj hi hn)) qm0 rfl rfl rfl (Nat.le_of_ble_eq_true rfl) (Nat.le_of_ble_eq_true rfl) rfl (Nat.le_of_ble_eq_true rfl) dX4_hangs_20 ⟨Nat.zero_le _, Nat.zero_le _⟩ ?_
    refine Zr_if_ne C 30 dX4_hangs_23 (by decide) (fun h23 => ?_) (fun h23 => absurd ⟨h10, (nI_eq (by omega) (by decide)).mp h23⟩ h)
    refine Zr_iconst C (0) dX4_hangs_30 rfl ?_
    exact Zr_zret C dX4_hangs_31 (Nat.zero_le _) (Nat.zero_le _) (by first | exact Or.inl rfl | exact Or.inr rfl | assumption) ⟨rfl, rfl, rfl, rfl⟩
set_option maxHeartbeats 4000000 in
set_option maxRecDepth 100000 in
theorem k_X4_work {l : Launch} {D : va_G} {K : zKs} {ad : zAd} {S : zSt} {σ : aS} {n i j : Nat} (hB : aB n σ) (hR : rRel σ S) (hi : i < n) (hj : j < n) (hl : (σ.2.1 (10 * j + i)).length < 640) : zMet l yX4_work cX4_work 3 none { frames := 2, cells := 0, slots := 0, locals := 48 } D K rIL (rSh K) ad S [.ref (ad (0, 0)), .int (nI i), .int (nI j)] (zR none (rSh K) ad (rRel (aWork σ i j))) := by
  refine zEnter (own := RX4) (lv0 := [some (.ref (ad (0, 0))), some (.int (nI i)), some (.int (nI j))]) (by decide) rfl (by simp [Value.category]) (Nat.le_of_ble_eq_true rfl) rfl ?_
  intro p e s m below meth c A C _ hnm
  have hn := hB.2.2.1
  have hB2 : aB n (aN (aN (aN σ 1 8 j 1) 1 12 j 1) 1 11 j (σ.1 1 11 j - 1)) := ((hB.a (fun _ => Or.inr rfl)).a (fun _ => Or.inr rfl)).a (fun h => by omega)
  by_cases ht : aTree (aN (aN (aN σ 1 8 j 1) 1 12 j 1) 1 11 j (σ.1 1 11 j - 1)) j = true
  · have e : aWork σ i j = aPush (aN (aN (aN σ 1 8 j 1) 1 12 j 1) 1 11 j (σ.1 1 11 j - 1)) (10 * j + i) (2, -1, -1) := if_pos ht
    refine Zr_aload_n C dX4_work_0 rfl ?_
    refine Zr_getR C gf_X4_9 qm0 rfl rfl rfl (by decide) dX4_work_1 ?_
    refine Zr_iload_n C dX4_work_4 rfl ?_
    refine Zr_iconst C (1) dX4_work_5 rfl ?_
    refine Zr_zastN C qm_8 rfl rfl (by omega) (by decide) (by first | exact Or.inl rfl | exact Or.inr rfl | assumption) (rRa hR (by decide)) dX4_work_6 (fun S hR => ?_)
    refine Zr_aload_n C dX4_work_7 rfl ?_
    refine Zr_getR C gf_X4_23 qm0 rfl rfl rfl (by decide) dX4_work_8 ?_
    refine Zr_iload_n C dX4_work_11 rfl ?_
    refine Zr_iconst C (1) dX4_work_12 rfl ?_
    refine Zr_zastN C qm_12 rfl rfl (by omega) (by decide) (by first | exact Or.inl rfl | exact Or.inr rfl | assumption) (rRa hR (by decide)) dX4_work_13 (fun S hR => ?_)
    refine Zr_aload_n C dX4_work_14 rfl ?_
    refine Zr_getR C gf_X4_20 qm0 rfl rfl rfl (by decide) dX4_work_15 ?_
    refine Zr_iload_n C dX4_work_18 rfl ?_
    refine Zr_dup2 C dX4_work_19 rfl rfl ?_
    refine Zr_ialdN C qm_11 rfl rfl (by omega) (by decide) (ra hR (by decide)) dX4_work_20 ?_
    refine Zr_iconst C (1) dX4_work_21 rfl ?_
    refine Zr_isub C dX4_work_22 ?_
    refine Zr_iastN C qm_11 rfl rfl (by omega) (by decide) (rRa hR (by decide)) dX4_work_23 (fun S hR => ?_)
    refine Zr_aload_n C dX4_work_24 rfl ?_
    refine Zr_iload_n C dX4_work_25 rfl ?_
    refine Zr_callV C cw_X4_89 (k_X4_isInTree hB2 hR hj) qm0 rfl rfl rfl (Nat.le_of_ble_eq_true rfl) (Nat.le_of_ble_eq_true rfl) rfl (Nat.le_of_ble_eq_true rfl) dX4_work_26 ⟨Nat.zero_le _, Nat.zero_le _⟩ ?_
    refine Zr_topi (y := 1) (if_pos ht) ?_
    refine Zr_if_eq C 44 dX4_work_29 (by decide) (fun h29 => absurd h29 (by decide)) (fun h29 => ?_)
    refine Zr_aload_n C dX4_work_32 rfl ?_
    refine Zr_iload_n C dX4_work_33 rfl ?_
    refine Zr_iload_n C dX4_work_34 rfl ?_
    refine Zr_iconst C (2) dX4_work_35 rfl ?_
    refine Zr_iconst C (-1) dX4_work_36 rfl ?_
    refine Zr_iconst C (-1) dX4_work_37 rfl ?_
    refine Zr_callVRv C cw_X4_92 (k_X4_sends hR (by omega) (by omega) hl) qm0 rfl rfl rfl (Nat.le_of_ble_eq_true rfl) (Nat.le_of_ble_eq_true rfl) rfl (Nat.le_of_ble_eq_true rfl) dX4_work_38 ⟨Nat.zero_le _, Nat.zero_le _⟩ (fun S hR => ?_)
    refine Zr_goto C 51 dX4_work_41 (by decide) ?_
    exact Zr_vret C dX4_work_51 (Nat.zero_le _) (Nat.zero_le _) ⟨rfl, rfl, rfl, by rw [e]; exact hR⟩
  · have e : aWork σ i j = aN (aN (aN (aN σ 1 8 j 1) 1 12 j 1) 1 11 j (σ.1 1 11 j - 1)) 1 9 j (nI i) := if_neg ht
    refine Zr_aload_n C dX4_work_0 rfl ?_
    refine Zr_getR C gf_X4_9 qm0 rfl rfl rfl (by decide) dX4_work_1 ?_
    refine Zr_iload_n C dX4_work_4 rfl ?_
    refine Zr_iconst C (1) dX4_work_5 rfl ?_
    refine Zr_zastN C qm_8 rfl rfl (by omega) (by decide) (by first | exact Or.inl rfl | exact Or.inr rfl | assumption) (rRa hR (by decide)) dX4_work_6 (fun S hR => ?_)
    refine Zr_aload_n C dX4_work_7 rfl ?_
    refine Zr_getR C gf_X4_23 qm0 rfl rfl rfl (by decide) dX4_work_8 ?_
    refine Zr_iload_n C dX4_work_11 rfl ?_
    refine Zr_iconst C (1) dX4_work_12 rfl ?_
    refine Zr_zastN C qm_12 rfl rfl (by omega) (by decide) (by first | exact Or.inl rfl | exact Or.inr rfl | assumption) (rRa hR (by decide)) dX4_work_13 (fun S hR => ?_)
    refine Zr_aload_n C dX4_work_14 rfl ?_
    refine Zr_getR C gf_X4_20 qm0 rfl rfl rfl (by decide) dX4_work_15 ?_
    refine Zr_iload_n C dX4_work_18 rfl ?_
    refine Zr_dup2 C dX4_work_19 rfl rfl ?_
    refine Zr_ialdN C qm_11 rfl rfl (by omega) (by decide) (ra hR (by decide)) dX4_work_20 ?_
    refine Zr_iconst C (1) dX4_work_21 rfl ?_
    refine Zr_isub C dX4_work_22 ?_
    refine Zr_iastN C qm_11 rfl rfl (by omega) (by decide) (rRa hR (by decide)) dX4_work_23 (fun S hR => ?_)
    refine Zr_aload_n C dX4_work_24 rfl ?_
    refine Zr_iload_n C dX4_work_25 rfl ?_
    refine Zr_callV C cw_X4_89 (k_X4_isInTree hB2 hR hj) qm0 rfl rfl rfl (Nat.le_of_ble_eq_true rfl) (Nat.le_of_ble_eq_true rfl) rfl (Nat.le_of_ble_eq_true rfl) dX4_work_26 ⟨Nat.zero_le _, Nat.zero_le _⟩ ?_
    refine Zr_topi (y := 0) (if_neg ht) ?_
    refine Zr_if_eq C 44 dX4_work_29 (by decide) (fun h29 => ?_) (fun h29 => absurd rfl h29)
    refine Zr_aload_n C dX4_work_44 rfl ?_
    refine Zr_getR C gf_X4_13 qm0 rfl rfl rfl (by decide) dX4_work_45 ?_
    refine Zr_iload_n C dX4_work_48 rfl ?_
    refine Zr_iload_n C dX4_work_49 rfl ?_
    refine Zr_iastN C qm_9 rfl rfl (by omega) (by decide) (rRa hR (by decide)) dX4_work_50 (fun S hR => ?_)
    exact Zr_vret C dX4_work_51 (Nat.zero_le _) (Nat.zero_le _) ⟨rfl, rfl, rfl, by rw [e]; exact hR⟩
set_option maxHeartbeats 4000000 in
set_option maxRecDepth 100000 in
theorem k_X4_waits {l : Launch} {D : va_G} {K : zKs} {ad : zAd} {S : zSt} {σ : aS} {n i j : Nat} (hB : aB n σ) (hR : rRel σ S) (hi : i < n) (hj : j < n) : zMet l yX4_waits cX4_waits 3 (some .boolean) { frames := 1, cells := 0, slots := 0, locals := 21 } D K rIL (rSh K) ad S [.ref (ad (0, 0)), .int (nI i), .int (nI j)] (zEq (some (.int (σ.1 1 16 (10 * i + j)))) (rSh K) ad (S)) := by
  refine zEnter (own := RX4) (lv0 := [some (.ref (ad (0, 0))), some (.int (nI i)), some (.int (nI j))]) (by decide) rfl (by simp [Value.category]) (Nat.le_of_ble_eq_true rfl) rfl ?_
  intro p e s m below meth c A C _ hnm
  have hn := hB.2.2.1
  have hb := hB.2.2.2.2 16 (10 * i + j) (by decide)
  refine Zr_aload_n C dX4_waits_0 rfl ?_
  refine Zr_iload_n C dX4_waits_1 rfl ?_
  refine Zr_callV C cw_X4_64 (k_X4_isOne_t hB hR hi) qm0 rfl rfl rfl (Nat.le_of_ble_eq_true rfl) (Nat.le_of_ble_eq_true rfl) rfl (Nat.le_of_ble_eq_true rfl) dX4_waits_2 ⟨Nat.zero_le _, Nat.zero_le _⟩ ?_
  refine Zr_if_eq C 33 dX4_waits_5 (by decide) (fun h5 => absurd h5 (by decide)) (fun h5 => ?_)
  refine Zr_aload_n C dX4_waits_8 rfl ?_
  refine Zr_iload_n C dX4_waits_9 rfl ?_
  refine Zr_callV C cw_X4_64 (k_X4_isOne_t hB hR hj) qm0 rfl rfl rfl (Nat.le_of_ble_eq_true rfl) (Nat.le_of_ble_eq_true rfl) rfl (Nat.le_of_ble_eq_true rfl) dX4_waits_10 ⟨Nat.zero_le _, Nat.zero_le _⟩ ?_
  refine Zr_if_eq C 33 dX4_waits_13 (by decide) (fun h13 => absurd h13 (by decide)) (fun h13 => ?_)
  refine Zr_aload_n C dX4_waits_16 rfl ?_
  refine Zr_getR C gf_X4_35 qm0 rfl rfl rfl (by decide) dX4_waits_17 ?_
  refine Zr_iload_n C dX4_waits_20 rfl ?_
  refine Zr_iload_n C dX4_waits_21 rfl ?_
  refine Zr_callS C cw_X4_68 (k_X4_row (i := i) (j := j)) rfl (Nat.le_of_ble_eq_true rfl) (Nat.le_of_ble_eq_true rfl) rfl (Nat.le_of_ble_eq_true rfl) dX4_waits_22 ⟨Nat.zero_le _, Nat.zero_le _⟩ ?_
  refine Zr_zaldN C qm_16 rfl rfl (by omega) (by decide) (ra hR (by decide)) dX4_waits_25 ?_
  refine Zr_if_eq C 33 dX4_waits_26 (by decide) (fun h26 => ?_) (fun h26 => ?_)
  · refine Zr_iconst C (0) dX4_waits_33 rfl ?_
    exact Zr_zret C dX4_waits_34 (Nat.zero_le _) (Nat.zero_le _) (by first | exact Or.inl rfl | exact Or.inr rfl | assumption) ⟨by first | rw [h26] | rw [hb.resolve_left h26], rfl, rfl, rfl⟩
  · refine Zr_iconst C (1) dX4_waits_29 rfl ?_
    refine Zr_goto C 34 dX4_waits_30 (by decide) ?_
    exact Zr_zret C dX4_waits_34 (Nat.zero_le _) (Nat.zero_le _) (by first | exact Or.inl rfl | exact Or.inr rfl | assumption) ⟨by first | rw [h26] | rw [hb.resolve_left h26], rfl, rfl, rfl⟩
set_option maxHeartbeats 4000000 in
set_option maxRecDepth 100000 in
theorem k_X4_waits_f {l : Launch} {D : va_G} {K : zKs} {ad : zAd} {S : zSt} {σ : aS} {n : Nat} {x y : Int32} (hB : aB n σ) (hR : rRel σ S) (hx : aBad n x ∨ aBad n y) : zMet l yX4_waits cX4_waits 3 (some .boolean) { frames := 1, cells := 0, slots := 0, locals := 21 } D K rIL (rSh K) ad S [.ref (ad (0, 0)), .int x, .int y] (zEq (some (.int 0)) (rSh K) ad (S)) := by
  refine zEnter (own := RX4) (lv0 := [some (.ref (ad (0, 0))), some (.int x), some (.int y)]) (by decide) rfl (by simp [Value.category]) (Nat.le_of_ble_eq_true rfl) rfl ?_
  intro p e s m below meth c A C _ hnm
  have hn := hB.2.2.1
  rcases aIx n hn x with h | ⟨i, hi, rfl⟩
  · refine Zr_aload_n C dX4_waits_0 rfl ?_
    refine Zr_iload_n C dX4_waits_1 rfl ?_
    refine Zr_callV C cw_X4_64 (k_X4_isOne_f hB hR h) qm0 rfl rfl rfl (Nat.le_of_ble_eq_true rfl) (Nat.le_of_ble_eq_true rfl) rfl (Nat.le_of_ble_eq_true rfl) dX4_waits_2 ⟨Nat.zero_le _, Nat.zero_le _⟩ ?_
    refine Zr_if_eq C 33 dX4_waits_5 (by decide) (fun h5 => ?_) (fun h5 => absurd rfl h5)
    refine Zr_iconst C (0) dX4_waits_33 rfl ?_
    exact Zr_zret C dX4_waits_34 (Nat.zero_le _) (Nat.zero_le _) (by first | exact Or.inl rfl | exact Or.inr rfl | assumption) ⟨rfl, rfl, rfl, rfl⟩
  · refine Zr_aload_n C dX4_waits_0 rfl ?_
    refine Zr_iload_n C dX4_waits_1 rfl ?_
    refine Zr_callV C cw_X4_64 (k_X4_isOne_t hB hR hi) qm0 rfl rfl rfl (Nat.le_of_ble_eq_true rfl) (Nat.le_of_ble_eq_true rfl) rfl (Nat.le_of_ble_eq_true rfl) dX4_waits_2 ⟨Nat.zero_le _, Nat.zero_le _⟩ ?_
    refine Zr_if_eq C 33 dX4_waits_5 (by decide) (fun h5 => absurd h5 (by decide)) (fun h5 => ?_)
    refine Zr_aload_n C dX4_waits_8 rfl ?_
    refine Zr_iload_n C dX4_waits_9 rfl ?_
    refine Zr_callV C cw_X4_64 (k_X4_isOne_f hB hR (hx.resolve_left (aBad.of hi hn))) qm0 rfl rfl rfl (Nat.le_of_ble_eq_true rfl) (Nat.le_of_ble_eq_true rfl) rfl (Nat.le_of_ble_eq_true rfl) dX4_waits_10 ⟨Nat.zero_le _, Nat.zero_le _⟩ ?_
    refine Zr_if_eq C 33 dX4_waits_13 (by decide) (fun h13 => ?_) (fun h13 => absurd rfl h13)
    refine Zr_iconst C (0) dX4_waits_33 rfl ?_
    exact Zr_zret C dX4_waits_34 (Nat.zero_le _) (Nat.zero_le _) (by first | exact Or.inl rfl | exact Or.inr rfl | assumption) ⟨rfl, rfl, rfl, rfl⟩
set_option maxHeartbeats 4000000 in
set_option maxRecDepth 100000 in
theorem k_X4_wrong {l : Launch} {D : va_G} {K : zKs} {ad : zAd} {S : zSt} {σ : aS} (hR : rRel σ S) : zMet l yX4_wrong cX4_wrong 1 (some .int) { frames := 0, cells := 0, slots := 0, locals := 0 } D K rIL (rSh K) ad S [.ref (ad (0, 0))] (zEq (some (.int (σ.1 0 0 4))) (rSh K) ad (S)) := by
  refine zEnter (own := RX4) (lv0 := [some (.ref (ad (0, 0)))]) (by decide) rfl (by simp [Value.category]) (Nat.le_of_ble_eq_true rfl) rfl ?_
  intro p e s m below meth c A C _ hnm
  refine Zr_aload_n C dX4_wrong_0 rfl ?_
  refine Zr_getE C gf_X4_100 qm0 rfl rfl rfl (rg hR) dX4_wrong_1 ?_
  exact Zr_iret C dX4_wrong_4 (Nat.zero_le _) (Nat.zero_le _) ⟨rfl, rfl, rfl, rfl⟩
set_option maxHeartbeats 4000000 in
set_option maxRecDepth 100000 in
theorem k_X4_falsely {l : Launch} {D : va_G} {K : zKs} {ad : zAd} {S : zSt} {σ : aS} (hR : rRel σ S) : zMet l yX4_falsely cX4_falsely 1 (some .int) { frames := 0, cells := 0, slots := 0, locals := 0 } D K rIL (rSh K) ad S [.ref (ad (0, 0))] (zEq (some (.int (σ.1 0 0 5))) (rSh K) ad (S)) := by
  refine zEnter (own := RX4) (lv0 := [some (.ref (ad (0, 0)))]) (by decide) rfl (by simp [Value.category]) (Nat.le_of_ble_eq_true rfl) rfl ?_
  intro p e s m below meth c A C _ hnm
  refine Zr_aload_n C dX4_falsely_0 rfl ?_
  refine Zr_getE C gf_X4_138 qm0 rfl rfl rfl (rg hR) dX4_falsely_1 ?_
  exact Zr_iret C dX4_falsely_4 (Nat.zero_le _) (Nat.zero_le _) ⟨rfl, rfl, rfl, rfl⟩
set_option maxHeartbeats 4000000 in
set_option maxRecDepth 100000 in
theorem k_X4_told {l : Launch} {D : va_G} {K : zKs} {ad : zAd} {S : zSt} {σ : aS} {n i : Nat} {w : Int32} (hB : aB n σ) (hR : rRel σ S) (hi : i < n) : zMet l yX4_told cX4_told 3 (some .int) { frames := 3, cells := 0, slots := 0, locals := 65 } D K rIL (rSh K) ad S [.ref (ad (0, 0)), .int (nI i), .int w] (zEq (some (.int (fTold n σ i w))) (rSh K) ad (S)) := by
  refine zEnter (own := RX4) (lv0 := [some (.ref (ad (0, 0))), some (.int (nI i)), some (.int w)]) (by decide) rfl (by simp [Value.category]) (Nat.le_of_ble_eq_true rfl) rfl ?_
  intro p e s m below meth c A C _ hnm
  have hn := hB.2.2.1
  have hb := fun k h => hB.2.2.2.2 k i h
  by_cases h100 : w = 0
  · subst h100
    refine Zr_aload_n C dX4_told_0 rfl ?_
    refine Zr_iload_n C dX4_told_1 rfl ?_
    refine Zr_callV C cw_X4_64 (k_X4_isOne_t hB hR hi) qm0 rfl rfl rfl (Nat.le_of_ble_eq_true rfl) (Nat.le_of_ble_eq_true rfl) rfl (Nat.le_of_ble_eq_true rfl) dX4_told_2 ⟨Nat.zero_le _, Nat.zero_le _⟩ ?_
    refine Zr_if_ne C 10 dX4_told_5 (by decide) (fun h5 => ?_) (fun h5 => absurd h5 (by decide))
    refine Zr_iload_n C dX4_told_10 rfl ?_
    refine Zr_tableIn C 72 dX4_told_11 (by decide) (by decide) rfl (by decide) ?_
    refine Zr_aload_n C dX4_told_72 rfl ?_
    refine Zr_getR C gf_X4_9 qm0 rfl rfl rfl (by decide) dX4_told_73 ?_
    refine Zr_iload_n C dX4_told_76 rfl ?_
    refine Zr_zaldN C qm_8 rfl rfl (by omega) (by decide) (ra hR (by decide)) dX4_told_77 ?_
    refine Zr_callS C cw_X4_159 (k_X4_toInt (hb 8 (by decide))) rfl (Nat.le_of_ble_eq_true rfl) (Nat.le_of_ble_eq_true rfl) rfl (Nat.le_of_ble_eq_true rfl) dX4_told_78 ⟨Nat.zero_le _, Nat.zero_le _⟩ ?_
    exact Zr_iret C dX4_told_81 (Nat.zero_le _) (Nat.zero_le _) ⟨rfl, rfl, rfl, rfl⟩
  by_cases h101 : w = 1
  · subst h101
    refine Zr_aload_n C dX4_told_0 rfl ?_
    refine Zr_iload_n C dX4_told_1 rfl ?_
    refine Zr_callV C cw_X4_64 (k_X4_isOne_t hB hR hi) qm0 rfl rfl rfl (Nat.le_of_ble_eq_true rfl) (Nat.le_of_ble_eq_true rfl) rfl (Nat.le_of_ble_eq_true rfl) dX4_told_2 ⟨Nat.zero_le _, Nat.zero_le _⟩ ?_
    refine Zr_if_ne C 10 dX4_told_5 (by decide) (fun h5 => ?_) (fun h5 => absurd h5 (by decide))
    refine Zr_iload_n C dX4_told_10 rfl ?_
    refine Zr_tableIn C 82 dX4_told_11 (by decide) (by decide) rfl (by decide) ?_
    refine Zr_aload_n C dX4_told_82 rfl ?_
    refine Zr_iload_n C dX4_told_83 rfl ?_
    refine Zr_callV C cw_X4_76 (k_X4_isBlocked hB hR hi) qm0 rfl rfl rfl (Nat.le_of_ble_eq_true rfl) (Nat.le_of_ble_eq_true rfl) rfl (Nat.le_of_ble_eq_true rfl) dX4_told_84 ⟨Nat.zero_le _, Nat.zero_le _⟩ ?_
    refine Zr_callS C cw_X4_159 (k_X4_toInt (by split <;> decide)) rfl (Nat.le_of_ble_eq_true rfl) (Nat.le_of_ble_eq_true rfl) rfl (Nat.le_of_ble_eq_true rfl) dX4_told_87 ⟨Nat.zero_le _, Nat.zero_le _⟩ ?_
    exact Zr_iret C dX4_told_90 (Nat.zero_le _) (Nat.zero_le _) ⟨rfl, rfl, rfl, rfl⟩
  by_cases h102 : w = 2
  · subst h102
    refine Zr_aload_n C dX4_told_0 rfl ?_
    refine Zr_iload_n C dX4_told_1 rfl ?_
    refine Zr_callV C cw_X4_64 (k_X4_isOne_t hB hR hi) qm0 rfl rfl rfl (Nat.le_of_ble_eq_true rfl) (Nat.le_of_ble_eq_true rfl) rfl (Nat.le_of_ble_eq_true rfl) dX4_told_2 ⟨Nat.zero_le _, Nat.zero_le _⟩ ?_
    refine Zr_if_ne C 10 dX4_told_5 (by decide) (fun h5 => ?_) (fun h5 => absurd h5 (by decide))
    refine Zr_iload_n C dX4_told_10 rfl ?_
    refine Zr_tableIn C 91 dX4_told_11 (by decide) (by decide) rfl (by decide) ?_
    refine Zr_aload_n C dX4_told_91 rfl ?_
    refine Zr_iload_n C dX4_told_92 rfl ?_
    refine Zr_callV C cw_X4_89 (k_X4_isInTree hB hR hi) qm0 rfl rfl rfl (Nat.le_of_ble_eq_true rfl) (Nat.le_of_ble_eq_true rfl) rfl (Nat.le_of_ble_eq_true rfl) dX4_told_93 ⟨Nat.zero_le _, Nat.zero_le _⟩ ?_
    refine Zr_callS C cw_X4_159 (k_X4_toInt (by split <;> decide)) rfl (Nat.le_of_ble_eq_true rfl) (Nat.le_of_ble_eq_true rfl) rfl (Nat.le_of_ble_eq_true rfl) dX4_told_96 ⟨Nat.zero_le _, Nat.zero_le _⟩ ?_
    exact Zr_iret C dX4_told_99 (Nat.zero_le _) (Nat.zero_le _) ⟨rfl, rfl, rfl, rfl⟩
  by_cases h103 : w = 3
  · subst h103
    refine Zr_aload_n C dX4_told_0 rfl ?_
    refine Zr_iload_n C dX4_told_1 rfl ?_
    refine Zr_callV C cw_X4_64 (k_X4_isOne_t hB hR hi) qm0 rfl rfl rfl (Nat.le_of_ble_eq_true rfl) (Nat.le_of_ble_eq_true rfl) rfl (Nat.le_of_ble_eq_true rfl) dX4_told_2 ⟨Nat.zero_le _, Nat.zero_le _⟩ ?_
    refine Zr_if_ne C 10 dX4_told_5 (by decide) (fun h5 => ?_) (fun h5 => absurd h5 (by decide))
    refine Zr_iload_n C dX4_told_10 rfl ?_
    refine Zr_tableIn C 100 dX4_told_11 (by decide) (by decide) rfl (by decide) ?_
    refine Zr_aload_n C dX4_told_100 rfl ?_
    refine Zr_getR C gf_X4_13 qm0 rfl rfl rfl (by decide) dX4_told_101 ?_
    refine Zr_iload_n C dX4_told_104 rfl ?_
    refine Zr_ialdN C qm_9 rfl rfl (by omega) (by decide) (ra hR (by decide)) dX4_told_105 ?_
    exact Zr_iret C dX4_told_106 (Nat.zero_le _) (Nat.zero_le _) ⟨rfl, rfl, rfl, rfl⟩
  by_cases h104 : w = 4
  · subst h104
    refine Zr_aload_n C dX4_told_0 rfl ?_
    refine Zr_iload_n C dX4_told_1 rfl ?_
    refine Zr_callV C cw_X4_64 (k_X4_isOne_t hB hR hi) qm0 rfl rfl rfl (Nat.le_of_ble_eq_true rfl) (Nat.le_of_ble_eq_true rfl) rfl (Nat.le_of_ble_eq_true rfl) dX4_told_2 ⟨Nat.zero_le _, Nat.zero_le _⟩ ?_
    refine Zr_if_ne C 10 dX4_told_5 (by decide) (fun h5 => ?_) (fun h5 => absurd h5 (by decide))
    refine Zr_iload_n C dX4_told_10 rfl ?_
    refine Zr_tableIn C 107 dX4_told_11 (by decide) (by decide) rfl (by decide) ?_
    refine Zr_aload_n C dX4_told_107 rfl ?_
    refine Zr_getR C gf_X4_17 qm0 rfl rfl rfl (by decide) dX4_told_108 ?_
    refine Zr_iload_n C dX4_told_111 rfl ?_
    refine Zr_ialdN C qm_10 rfl rfl (by omega) (by decide) (ra hR (by decide)) dX4_told_112 ?_
    exact Zr_iret C dX4_told_113 (Nat.zero_le _) (Nat.zero_le _) ⟨rfl, rfl, rfl, rfl⟩
  by_cases h105 : w = 5
  · subst h105
    refine Zr_aload_n C dX4_told_0 rfl ?_
    refine Zr_iload_n C dX4_told_1 rfl ?_
    refine Zr_callV C cw_X4_64 (k_X4_isOne_t hB hR hi) qm0 rfl rfl rfl (Nat.le_of_ble_eq_true rfl) (Nat.le_of_ble_eq_true rfl) rfl (Nat.le_of_ble_eq_true rfl) dX4_told_2 ⟨Nat.zero_le _, Nat.zero_le _⟩ ?_
    refine Zr_if_ne C 10 dX4_told_5 (by decide) (fun h5 => ?_) (fun h5 => absurd h5 (by decide))
    refine Zr_iload_n C dX4_told_10 rfl ?_
    refine Zr_tableIn C 114 dX4_told_11 (by decide) (by decide) rfl (by decide) ?_
    refine Zr_aload_n C dX4_told_114 rfl ?_
    refine Zr_getR C gf_X4_20 qm0 rfl rfl rfl (by decide) dX4_told_115 ?_
    refine Zr_iload_n C dX4_told_118 rfl ?_
    refine Zr_ialdN C qm_11 rfl rfl (by omega) (by decide) (ra hR (by decide)) dX4_told_119 ?_
    exact Zr_iret C dX4_told_120 (Nat.zero_le _) (Nat.zero_le _) ⟨rfl, rfl, rfl, rfl⟩
  by_cases h106 : w = 6
  · subst h106
    refine Zr_aload_n C dX4_told_0 rfl ?_
    refine Zr_iload_n C dX4_told_1 rfl ?_
    refine Zr_callV C cw_X4_64 (k_X4_isOne_t hB hR hi) qm0 rfl rfl rfl (Nat.le_of_ble_eq_true rfl) (Nat.le_of_ble_eq_true rfl) rfl (Nat.le_of_ble_eq_true rfl) dX4_told_2 ⟨Nat.zero_le _, Nat.zero_le _⟩ ?_
    refine Zr_if_ne C 10 dX4_told_5 (by decide) (fun h5 => ?_) (fun h5 => absurd h5 (by decide))
    refine Zr_iload_n C dX4_told_10 rfl ?_
    refine Zr_tableIn C 121 dX4_told_11 (by decide) (by decide) rfl (by decide) ?_
    refine Zr_aload_n C dX4_told_121 rfl ?_
    refine Zr_getR C gf_X4_23 qm0 rfl rfl rfl (by decide) dX4_told_122 ?_
    refine Zr_iload_n C dX4_told_125 rfl ?_
    refine Zr_zaldN C qm_12 rfl rfl (by omega) (by decide) (ra hR (by decide)) dX4_told_126 ?_
    refine Zr_callS C cw_X4_159 (k_X4_toInt (hb 12 (by decide))) rfl (Nat.le_of_ble_eq_true rfl) (Nat.le_of_ble_eq_true rfl) rfl (Nat.le_of_ble_eq_true rfl) dX4_told_127 ⟨Nat.zero_le _, Nat.zero_le _⟩ ?_
    exact Zr_iret C dX4_told_130 (Nat.zero_le _) (Nat.zero_le _) ⟨rfl, rfl, rfl, rfl⟩
  by_cases h107 : w = 7
  · subst h107
    refine Zr_aload_n C dX4_told_0 rfl ?_
    refine Zr_iload_n C dX4_told_1 rfl ?_
    refine Zr_callV C cw_X4_64 (k_X4_isOne_t hB hR hi) qm0 rfl rfl rfl (Nat.le_of_ble_eq_true rfl) (Nat.le_of_ble_eq_true rfl) rfl (Nat.le_of_ble_eq_true rfl) dX4_told_2 ⟨Nat.zero_le _, Nat.zero_le _⟩ ?_
    refine Zr_if_ne C 10 dX4_told_5 (by decide) (fun h5 => ?_) (fun h5 => absurd h5 (by decide))
    refine Zr_iload_n C dX4_told_10 rfl ?_
    refine Zr_tableIn C 131 dX4_told_11 (by decide) (by decide) rfl (by decide) ?_
    refine Zr_aload_n C dX4_told_131 rfl ?_
    refine Zr_getR C gf_X4_26 qm0 rfl rfl rfl (by decide) dX4_told_132 ?_
    refine Zr_iload_n C dX4_told_135 rfl ?_
    refine Zr_zaldN C qm_13 rfl rfl (by omega) (by decide) (ra hR (by decide)) dX4_told_136 ?_
    refine Zr_callS C cw_X4_159 (k_X4_toInt (hb 13 (by decide))) rfl (Nat.le_of_ble_eq_true rfl) (Nat.le_of_ble_eq_true rfl) rfl (Nat.le_of_ble_eq_true rfl) dX4_told_137 ⟨Nat.zero_le _, Nat.zero_le _⟩ ?_
    exact Zr_iret C dX4_told_140 (Nat.zero_le _) (Nat.zero_le _) ⟨rfl, rfl, rfl, rfl⟩
  by_cases h108 : w = 8
  · subst h108
    refine Zr_aload_n C dX4_told_0 rfl ?_
    refine Zr_iload_n C dX4_told_1 rfl ?_
    refine Zr_callV C cw_X4_64 (k_X4_isOne_t hB hR hi) qm0 rfl rfl rfl (Nat.le_of_ble_eq_true rfl) (Nat.le_of_ble_eq_true rfl) rfl (Nat.le_of_ble_eq_true rfl) dX4_told_2 ⟨Nat.zero_le _, Nat.zero_le _⟩ ?_
    refine Zr_if_ne C 10 dX4_told_5 (by decide) (fun h5 => ?_) (fun h5 => absurd h5 (by decide))
    refine Zr_iload_n C dX4_told_10 rfl ?_
    refine Zr_tableIn C 141 dX4_told_11 (by decide) (by decide) rfl (by decide) ?_
    refine Zr_aload_n C dX4_told_141 rfl ?_
    refine Zr_iload_n C dX4_told_142 rfl ?_
    refine Zr_callV C cw_X4_72 (k_X4_waitsFor hB hR hi) qm0 rfl rfl rfl (Nat.le_of_ble_eq_true rfl) (Nat.le_of_ble_eq_true rfl) rfl (Nat.le_of_ble_eq_true rfl) dX4_told_143 ⟨Nat.zero_le _, Nat.zero_le _⟩ ?_
    exact Zr_iret C dX4_told_146 (Nat.zero_le _) (Nat.zero_le _) ⟨rfl, rfl, rfl, rfl⟩
  by_cases h109 : w = 9
  · subst h109
    refine Zr_aload_n C dX4_told_0 rfl ?_
    refine Zr_iload_n C dX4_told_1 rfl ?_
    refine Zr_callV C cw_X4_64 (k_X4_isOne_t hB hR hi) qm0 rfl rfl rfl (Nat.le_of_ble_eq_true rfl) (Nat.le_of_ble_eq_true rfl) rfl (Nat.le_of_ble_eq_true rfl) dX4_told_2 ⟨Nat.zero_le _, Nat.zero_le _⟩ ?_
    refine Zr_if_ne C 10 dX4_told_5 (by decide) (fun h5 => ?_) (fun h5 => absurd h5 (by decide))
    refine Zr_iload_n C dX4_told_10 rfl ?_
    refine Zr_tableIn C 147 dX4_told_11 (by decide) (by decide) rfl (by decide) ?_
    refine Zr_aload_n C dX4_told_147 rfl ?_
    refine Zr_iload_n C dX4_told_148 rfl ?_
    refine Zr_callV C cw_X4_163 (k_X4_pendingAt hB hR hi) qm0 rfl rfl rfl (Nat.le_of_ble_eq_true rfl) (Nat.le_of_ble_eq_true rfl) rfl (Nat.le_of_ble_eq_true rfl) dX4_told_149 ⟨Nat.zero_le _, Nat.zero_le _⟩ ?_
    exact Zr_iret C dX4_told_152 (Nat.zero_le _) (Nat.zero_le _) ⟨rfl, rfl, rfl, rfl⟩
  by_cases h110 : w = 10
  · subst h110
    refine Zr_aload_n C dX4_told_0 rfl ?_
    refine Zr_iload_n C dX4_told_1 rfl ?_
    refine Zr_callV C cw_X4_64 (k_X4_isOne_t hB hR hi) qm0 rfl rfl rfl (Nat.le_of_ble_eq_true rfl) (Nat.le_of_ble_eq_true rfl) rfl (Nat.le_of_ble_eq_true rfl) dX4_told_2 ⟨Nat.zero_le _, Nat.zero_le _⟩ ?_
    refine Zr_if_ne C 10 dX4_told_5 (by decide) (fun h5 => ?_) (fun h5 => absurd h5 (by decide))
    refine Zr_iload_n C dX4_told_10 rfl ?_
    refine Zr_tableIn C 153 dX4_told_11 (by decide) (by decide) rfl (by decide) ?_
    refine Zr_aload_n C dX4_told_153 rfl ?_
    refine Zr_getR C gf_X4_29 qm0 rfl rfl rfl (by decide) dX4_told_154 ?_
    refine Zr_iload_n C dX4_told_157 rfl ?_
    refine Zr_ialdN C qm_14 rfl rfl (by omega) (by decide) (ra hR (by decide)) dX4_told_158 ?_
    exact Zr_iret C dX4_told_159 (Nat.zero_le _) (Nat.zero_le _) ⟨rfl, rfl, rfl, rfl⟩
  by_cases h111 : w = 11
  · subst h111
    refine Zr_aload_n C dX4_told_0 rfl ?_
    refine Zr_iload_n C dX4_told_1 rfl ?_
    refine Zr_callV C cw_X4_64 (k_X4_isOne_t hB hR hi) qm0 rfl rfl rfl (Nat.le_of_ble_eq_true rfl) (Nat.le_of_ble_eq_true rfl) rfl (Nat.le_of_ble_eq_true rfl) dX4_told_2 ⟨Nat.zero_le _, Nat.zero_le _⟩ ?_
    refine Zr_if_ne C 10 dX4_told_5 (by decide) (fun h5 => ?_) (fun h5 => absurd h5 (by decide))
    refine Zr_iload_n C dX4_told_10 rfl ?_
    refine Zr_tableIn C 160 dX4_told_11 (by decide) (by decide) rfl (by decide) ?_
    refine Zr_aload_n C dX4_told_160 rfl ?_
    refine Zr_getR C gf_X4_32 qm0 rfl rfl rfl (by decide) dX4_told_161 ?_
    refine Zr_iload_n C dX4_told_164 rfl ?_
    refine Zr_ialdN C qm_15 rfl rfl (by omega) (by decide) (ra hR (by decide)) dX4_told_165 ?_
    exact Zr_iret C dX4_told_166 (Nat.zero_le _) (Nat.zero_le _) ⟨rfl, rfl, rfl, rfl⟩
  refine Zr_aload_n C dX4_told_0 rfl ?_
  refine Zr_iload_n C dX4_told_1 rfl ?_
  refine Zr_callV C cw_X4_64 (k_X4_isOne_t hB hR hi) qm0 rfl rfl rfl (Nat.le_of_ble_eq_true rfl) (Nat.le_of_ble_eq_true rfl) rfl (Nat.le_of_ble_eq_true rfl) dX4_told_2 ⟨Nat.zero_le _, Nat.zero_le _⟩ ?_
  refine Zr_if_ne C 10 dX4_told_5 (by decide) (fun h5 => ?_) (fun h5 => absurd h5 (by decide))
  refine Zr_iload_n C dX4_told_10 rfl ?_
  refine Zr_tableOut C 167 dX4_told_11 (w_out 11 (by decide) (fun k hk e => by rcases (show k = 0 ∨ k = 1 ∨ k = 2 ∨ k = 3 ∨ k = 4 ∨ k = 5 ∨ k = 6 ∨ k = 7 ∨ k = 8 ∨ k = 9 ∨ k = 10 ∨ k = 11 by omega) with rfl | rfl | rfl | rfl | rfl | rfl | rfl | rfl | rfl | rfl | rfl | rfl <;> first | exact h100 e | exact h101 e | exact h102 e | exact h103 e | exact h104 e | exact h105 e | exact h106 e | exact h107 e | exact h108 e | exact h109 e | exact h110 e | exact h111 e)) (by decide) ?_
  refine Zr_iconst C (-1) dX4_told_167 rfl ?_
  exact Zr_iret C dX4_told_168 (Nat.zero_le _) (Nat.zero_le _) ⟨by simp [fTold, h100, h101, h102, h103, h104, h105, h106, h107, h108, h109, h110, h111], rfl, rfl, rfl⟩
set_option maxHeartbeats 4000000 in
set_option maxRecDepth 100000 in
theorem k_X4_told_f {l : Launch} {D : va_G} {K : zKs} {ad : zAd} {S : zSt} {σ : aS} {n : Nat} {x w : Int32} (hB : aB n σ) (hR : rRel σ S) (hx : aBad n x) : zMet l yX4_told cX4_told 3 (some .int) { frames := 3, cells := 0, slots := 0, locals := 65 } D K rIL (rSh K) ad S [.ref (ad (0, 0)), .int x, .int w] (zEq (some (.int (-1))) (rSh K) ad (S)) := by
  refine zEnter (own := RX4) (lv0 := [some (.ref (ad (0, 0))), some (.int x), some (.int w)]) (by decide) rfl (by simp [Value.category]) (Nat.le_of_ble_eq_true rfl) rfl ?_
  intro p e s m below meth c A C _ hnm
  refine Zr_aload_n C dX4_told_0 rfl ?_
  refine Zr_iload_n C dX4_told_1 rfl ?_
  refine Zr_callV C cw_X4_64 (k_X4_isOne_f hB hR hx) qm0 rfl rfl rfl (Nat.le_of_ble_eq_true rfl) (Nat.le_of_ble_eq_true rfl) rfl (Nat.le_of_ble_eq_true rfl) dX4_told_2 ⟨Nat.zero_le _, Nat.zero_le _⟩ ?_
  refine Zr_if_ne C 10 dX4_told_5 (by decide) (fun h5 => absurd rfl h5) (fun h5 => ?_)
  refine Zr_iconst C (-1) dX4_told_8 rfl ?_
  exact Zr_iret C dX4_told_9 (Nat.zero_le _) (Nat.zero_le _) ⟨rfl, rfl, rfl, rfl⟩
end
section
theorem fMsg_at {l : List aM} {k : Nat} {mm : aM} (hk : k < 2 ^ 31) (h : l[k]? = some mm) (w : Int32) : fMsg l (nI k) w = if w = 0 then mm.1 else if w = 1 then mm.2.1 else if w = 2 then mm.2.2 else -1 := by
  simp only [fMsg]
  rw [if_neg (nI_pos hk), nI_clamp hk, h]
theorem fMsg_no {l : List aM} {x : Int32} (hl : l.length < 2 ^ 31) (h : x < 0 ∨ nI l.length ≤ x) (w : Int32) : fMsg l x w = -1 := by
  by_cases hx : x < 0
  · simp [fMsg, hx]
  · obtain ⟨k, hk, rfl⟩ := nI_of hx
    have h2 := (nI_leI hl hk).mp (h.resolve_left hx)
    simp only [fMsg]
    rw [if_neg hx, nI_clamp hk, List.getElem?_eq_none h2]
set_option maxHeartbeats 4000000 in
set_option maxRecDepth 100000 in
theorem k_X4_message {l : Launch} {D : va_G} {K : zKs} {ad : zAd} {S : zSt} {σ : aS} {n i j : Nat} {x w : Int32} (hB : aB n σ) (hR : rRel σ S) (hi : i < n) (hj : j < n) (hij : i ≠ j) : zMet l yX4_message cX4_message 6 (some .int) { frames := 2, cells := 0, slots := 0, locals := 43 } D K rIL (rSh K) ad S [.ref (ad (0, 0)), .int (nI i), .int (nI j), .int x, .int w] (zEq (some (.int (fMsg (σ.2.1 (10 * i + j)) x w))) (rSh K) ad (S)) := by
  refine zEnter (own := RX4) (lv0 := [some (.ref (ad (0, 0))), some (.int (nI i)), some (.int (nI j)), some (.int x), some (.int w), none]) (by decide) rfl (by simp [Value.category]) (Nat.le_of_ble_eq_true rfl) rfl ?_
  intro p e s m below meth c A C _ hnm
  have hn := hB.2.2.1
  have hr : 10 * i + j < 100 := r10 hi hj hn
  have hlen := rlen hR hr
  by_cases hx : x < 0 ∨ nI (σ.2.1 (10 * i + j)).length ≤ x
  · refine Zr_aload_n C dX4_message_0 rfl ?_
    refine Zr_iload_n C dX4_message_1 rfl ?_
    refine Zr_iload_n C dX4_message_2 rfl ?_
    refine Zr_callV C cw_X4_103 (k_X4_isRow_t hB hR hi hj hij) qm0 rfl rfl rfl (Nat.le_of_ble_eq_true rfl) (Nat.le_of_ble_eq_true rfl) rfl (Nat.le_of_ble_eq_true rfl) dX4_message_3 ⟨Nat.zero_le _, Nat.zero_le _⟩ ?_
    refine Zr_if_eq C 27 dX4_message_6 (by decide) (fun h6 => absurd h6 (by decide)) (fun h6 => ?_)
    refine Zr_iload_n C dX4_message_9 rfl ?_
    refine Zr_if_lt C 27 dX4_message_10 (by decide) (fun h10 => ?_) (fun h10 => ?_)
    · refine Zr_iconst C (-1) dX4_message_27 rfl ?_
      exact Zr_iret C dX4_message_28 (Nat.zero_le _) (Nat.zero_le _) ⟨by rw [fMsg_no (by omega) hx], rfl, rfl, rfl⟩
    · refine Zr_iload_n C dX4_message_13 rfl ?_
      refine Zr_aload_n C dX4_message_14 rfl ?_
      refine Zr_getR C gf_X4_44 qm0 rfl rfl rfl (by decide) dX4_message_15 ?_
      refine Zr_iload_n C dX4_message_18 rfl ?_
      refine Zr_iload_n C dX4_message_19 rfl ?_
      refine Zr_callS C cw_X4_68 (k_X4_row (i := i) (j := j)) rfl (Nat.le_of_ble_eq_true rfl) (Nat.le_of_ble_eq_true rfl) rfl (Nat.le_of_ble_eq_true rfl) dX4_message_20 ⟨Nat.zero_le _, Nat.zero_le _⟩ ?_
      refine Zr_ialdN C qm_22 rfl rfl hr (by decide) (rmy hR hr) dX4_message_23 ?_
      refine Zr_icmp_lt C 29 dX4_message_24 (by decide) (fun h24 => absurd (hx.resolve_left h10) (fun h => absurd h24 (i32_le h))) (fun h24 => ?_)
      refine Zr_iconst C (-1) dX4_message_27 rfl ?_
      exact Zr_iret C dX4_message_28 (Nat.zero_le _) (Nat.zero_le _) ⟨by rw [fMsg_no (by omega) hx], rfl, rfl, rfl⟩
  · obtain ⟨k, hk, rfl⟩ := nI_of (fun h => hx (Or.inl h))
    have hkl : k < (σ.2.1 (10 * i + j)).length := by
      rcases Nat.lt_or_ge k (σ.2.1 (10 * i + j)).length with h | h
      · exact h
      · exact absurd (Or.inr (nI_le h (by omega))) hx
    obtain ⟨mm, hm⟩ : ∃ mm, (σ.2.1 (10 * i + j))[k]? = some mm := ⟨_, List.getElem?_eq_getElem hkl⟩
    refine Zr_aload_n C dX4_message_0 rfl ?_
    refine Zr_iload_n C dX4_message_1 rfl ?_
    refine Zr_iload_n C dX4_message_2 rfl ?_
    refine Zr_callV C cw_X4_103 (k_X4_isRow_t hB hR hi hj hij) qm0 rfl rfl rfl (Nat.le_of_ble_eq_true rfl) (Nat.le_of_ble_eq_true rfl) rfl (Nat.le_of_ble_eq_true rfl) dX4_message_3 ⟨Nat.zero_le _, Nat.zero_le _⟩ ?_
    refine Zr_if_eq C 27 dX4_message_6 (by decide) (fun h6 => absurd h6 (by decide)) (fun h6 => ?_)
    refine Zr_iload_n C dX4_message_9 rfl ?_
    refine Zr_if_lt C 27 dX4_message_10 (by decide) (fun h10 => absurd h10 (nI_pos hk)) (fun h10 => ?_)
    refine Zr_iload_n C dX4_message_13 rfl ?_
    refine Zr_aload_n C dX4_message_14 rfl ?_
    refine Zr_getR C gf_X4_44 qm0 rfl rfl rfl (by decide) dX4_message_15 ?_
    refine Zr_iload_n C dX4_message_18 rfl ?_
    refine Zr_iload_n C dX4_message_19 rfl ?_
    refine Zr_callS C cw_X4_68 (k_X4_row (i := i) (j := j)) rfl (Nat.le_of_ble_eq_true rfl) (Nat.le_of_ble_eq_true rfl) rfl (Nat.le_of_ble_eq_true rfl) dX4_message_20 ⟨Nat.zero_le _, Nat.zero_le _⟩ ?_
    refine Zr_ialdN C qm_22 rfl rfl hr (by decide) (rmy hR hr) dX4_message_23 ?_
    refine Zr_icmp_lt C 29 dX4_message_24 (by decide) (fun h24 => ?_) (fun h24 => absurd (nI_lt hkl (by omega)) h24)
    refine Zr_sipush C (640) dX4_message_29 rfl ?_
    refine Zr_iload_n C dX4_message_32 rfl ?_
    refine Zr_iload_n C dX4_message_33 rfl ?_
    refine Zr_callS C cw_X4_68 (k_X4_row (i := i) (j := j)) rfl (Nat.le_of_ble_eq_true rfl) (Nat.le_of_ble_eq_true rfl) rfl (Nat.le_of_ble_eq_true rfl) dX4_message_34 ⟨Nat.zero_le _, Nat.zero_le _⟩ ?_
    refine Zr_imul C dX4_message_37 ?_
    refine Zr_iload_n C dX4_message_38 rfl ?_
    refine Zr_iadd C dX4_message_39 ?_
    refine Zr_topi (y := nI (640 * (10 * i + j) + k)) (x640 _ _) ?_
    refine Zr_istore C dX4_message_40 (by decide) ?_
    refine Zr_iload C dX4_message_42 rfl ?_
    refine Zr_if_ne C 57 dX4_message_44 (by decide) (fun h44 => ?_) (fun h44 => ?_)
    · refine Zr_iload C dX4_message_57 rfl ?_
      refine Zr_iconst C (1) dX4_message_59 rfl ?_
      refine Zr_icmp_ne C 73 dX4_message_60 (by decide) (fun h60 => ?_) (fun h60 => ?_)
      · refine Zr_iload C dX4_message_73 rfl ?_
        refine Zr_iconst C (2) dX4_message_75 rfl ?_
        refine Zr_icmp_ne C 89 dX4_message_76 (by decide) (fun h76 => ?_) (fun h76 => ?_)
        · refine Zr_iconst C (-1) dX4_message_89 rfl ?_
          exact Zr_iret C dX4_message_90 (Nat.zero_le _) (Nat.zero_le _) ⟨by rw [fMsg_at hk hm]; simp [*], rfl, rfl, rfl⟩
        · refine Zr_aload_n C dX4_message_79 rfl ?_
          refine Zr_getR C gf_X4_54 qm0 rfl rfl rfl (by decide) dX4_message_80 ?_
          refine Zr_iload C dX4_message_83 rfl ?_
          refine Zr_ialdN C qm_25 rfl rfl (by omega) (by decide) ((hR.2 _ hr).2 k mm hm).2.2 dX4_message_85 ?_
          refine Zr_goto C 90 dX4_message_86 (by decide) ?_
          exact Zr_iret C dX4_message_90 (Nat.zero_le _) (Nat.zero_le _) ⟨by rw [fMsg_at hk hm]; simp [*], rfl, rfl, rfl⟩
      · refine Zr_aload_n C dX4_message_63 rfl ?_
        refine Zr_getR C gf_X4_51 qm0 rfl rfl rfl (by decide) dX4_message_64 ?_
        refine Zr_iload C dX4_message_67 rfl ?_
        refine Zr_ialdN C qm_24 rfl rfl (by omega) (by decide) ((hR.2 _ hr).2 k mm hm).2.1 dX4_message_69 ?_
        refine Zr_goto C 90 dX4_message_70 (by decide) ?_
        exact Zr_iret C dX4_message_90 (Nat.zero_le _) (Nat.zero_le _) ⟨by rw [fMsg_at hk hm]; simp [*], rfl, rfl, rfl⟩
    · refine Zr_aload_n C dX4_message_47 rfl ?_
      refine Zr_getR C gf_X4_48 qm0 rfl rfl rfl (by decide) dX4_message_48 ?_
      refine Zr_iload C dX4_message_51 rfl ?_
      refine Zr_ialdN C qm_23 rfl rfl (by omega) (by decide) ((hR.2 _ hr).2 k mm hm).1 dX4_message_53 ?_
      refine Zr_goto C 90 dX4_message_54 (by decide) ?_
      exact Zr_iret C dX4_message_90 (Nat.zero_le _) (Nat.zero_le _) ⟨by rw [fMsg_at hk hm]; simp [*], rfl, rfl, rfl⟩
set_option maxHeartbeats 4000000 in
set_option maxRecDepth 100000 in
theorem k_X4_message_f {l : Launch} {D : va_G} {K : zKs} {ad : zAd} {S : zSt} {σ : aS} {n : Nat} {x y z w : Int32} (hB : aB n σ) (hR : rRel σ S) (hx : aBad n x ∨ aBad n y ∨ x = y) : zMet l yX4_message cX4_message 6 (some .int) { frames := 2, cells := 0, slots := 0, locals := 43 } D K rIL (rSh K) ad S [.ref (ad (0, 0)), .int x, .int y, .int z, .int w] (zEq (some (.int (-1))) (rSh K) ad (S)) := by
  refine zEnter (own := RX4) (lv0 := [some (.ref (ad (0, 0))), some (.int x), some (.int y), some (.int z), some (.int w), none]) (by decide) rfl (by simp [Value.category]) (Nat.le_of_ble_eq_true rfl) rfl ?_
  intro p e s m below meth c A C _ hnm
  refine Zr_aload_n C dX4_message_0 rfl ?_
  refine Zr_iload_n C dX4_message_1 rfl ?_
  refine Zr_iload_n C dX4_message_2 rfl ?_
  refine Zr_callV C cw_X4_103 (k_X4_isRow_f hB hR hx) qm0 rfl rfl rfl (Nat.le_of_ble_eq_true rfl) (Nat.le_of_ble_eq_true rfl) rfl (Nat.le_of_ble_eq_true rfl) dX4_message_3 ⟨Nat.zero_le _, Nat.zero_le _⟩ ?_
  refine Zr_if_eq C 27 dX4_message_6 (by decide) (fun h6 => ?_) (fun h6 => absurd rfl h6)
  refine Zr_iconst C (-1) dX4_message_27 rfl ?_
  exact Zr_iret C dX4_message_28 (Nat.zero_le _) (Nat.zero_le _) ⟨rfl, rfl, rfl, rfl⟩
set_option maxHeartbeats 4000000 in
set_option maxRecDepth 100000 in
theorem k_X4_count {l : Launch} {D : va_G} {K : zKs} {ad : zAd} {S : zSt} {σ : aS} {n : Nat} {w : Int32} (hB : aB n σ) (hR : rRel σ S) : zMet l yX4_count cX4_count 4 (some .int) { frames := 1, cells := 0, slots := 0, locals := 24 } D K rIL (rSh K) ad S [.ref (ad (0, 0)), .int w] (zEq (some (.int (fCount σ w))) (rSh K) ad (S)) := by
  refine zEnter (own := RX4) (lv0 := [some (.ref (ad (0, 0))), some (.int w), none, none]) (by decide) rfl (by simp [Value.category]) (Nat.le_of_ble_eq_true rfl) rfl ?_
  intro p e s m below meth c A C _ hnm
  have hb := hB.2.2.2.1
  have key6 : w = 6 → ∀ (d k : Nat), k + d = 100 → Z p l e ({ frames := 1, cells := 0, slots := 0, locals := 24 } : Room) s m ([.ref (ad (0, 0)), .int w] : List Value).toArray below meth c D A 4 (MQ below (zQ (zEq (some (.int (fCount σ w))) (rSh K) ad (S)) rIL D A) ([.ref (ad (0, 0)), .int w] : List Value).toArray s 0 0 A) rIL 0 0 (rSh K) ad S (97) ([some (.ref (ad (0, 0))), some (.int w), some (.int (nI (aSum (fun r => (σ.2.1 r).length) k))), some (.int (nI k))]) ([]) := by
    intro hw d
    induction d with
    | zero =>
      intro k hk
      have hk : k = 100 := by omega
      subst hk
      refine Zr_iload_n C dX4_count_97 rfl ?_
      refine Zr_bipush C (100) dX4_count_98 rfl ?_
      refine Zr_icmp_ge C 118 dX4_count_100 (by decide) (fun h100 => ?_) (fun h100 => absurd (by decide) h100)
      refine Zr_iload_n C dX4_count_118 rfl ?_
      exact Zr_iret C dX4_count_119 (Nat.zero_le _) (Nat.zero_le _) ⟨by rw [hw]; rfl, rfl, rfl, rfl⟩
    | succ d ih =>
      intro k hk
      refine Zr_iload_n C dX4_count_97 rfl ?_
      refine Zr_bipush C (100) dX4_count_98 rfl ?_
      refine Zr_icmp_ge C 118 dX4_count_100 (by decide) (fun h100 => absurd h100 (nI_ge (b := 100) (by omega) (by decide))) (fun h100 => ?_)
      refine Zr_iload_n C dX4_count_103 rfl ?_
      refine Zr_aload_n C dX4_count_104 rfl ?_
      refine Zr_getR C gf_X4_44 qm0 rfl rfl rfl (by decide) dX4_count_105 ?_
      refine Zr_iload_n C dX4_count_108 rfl ?_
      refine Zr_ialdN C qm_22 rfl rfl (by omega) (by decide) (rmy hR (by omega)) dX4_count_109 ?_
      refine Zr_iadd C dX4_count_110 ?_
      refine Zr_topi (y := nI (aSum (fun r => (σ.2.1 r).length) (k + 1))) (by rw [nI_add]; rfl) ?_
      refine Zr_istore_n C dX4_count_111 (by decide) ?_
      refine Zr_iincE C (1) (nI (k + 1)) dX4_count_112 (by decide) rfl rfl (nI_1 _) ?_
      refine Zr_goto C 97 dX4_count_115 (by decide) ?_
      exact ih (k + 1) (by omega)
  have key7 : w = 7 → ∀ (d k : Nat), k + d = 100 → Z p l e ({ frames := 1, cells := 0, slots := 0, locals := 24 } : Room) s m ([.ref (ad (0, 0)), .int w] : List Value).toArray below meth c D A 4 (MQ below (zQ (zEq (some (.int (fCount σ w))) (rSh K) ad (S)) rIL D A) ([.ref (ad (0, 0)), .int w] : List Value).toArray s 0 0 A) rIL 0 0 (rSh K) ad S (122) ([some (.ref (ad (0, 0))), some (.int w), some (.int (nI (aSum (fun r => aOf 1 (σ.2.1 r)) k))), some (.int (nI k))]) ([]) := by
    intro hw d
    induction d with
    | zero =>
      intro k hk
      have hk : k = 100 := by omega
      subst hk
      refine Zr_iload_n C dX4_count_122 rfl ?_
      refine Zr_bipush C (100) dX4_count_123 rfl ?_
      refine Zr_icmp_ge C 143 dX4_count_125 (by decide) (fun h125 => ?_) (fun h125 => absurd (by decide) h125)
      refine Zr_iload_n C dX4_count_143 rfl ?_
      exact Zr_iret C dX4_count_144 (Nat.zero_le _) (Nat.zero_le _) ⟨by rw [hw]; rfl, rfl, rfl, rfl⟩
    | succ d ih =>
      intro k hk
      refine Zr_iload_n C dX4_count_122 rfl ?_
      refine Zr_bipush C (100) dX4_count_123 rfl ?_
      refine Zr_icmp_ge C 143 dX4_count_125 (by decide) (fun h125 => absurd h125 (nI_ge (b := 100) (by omega) (by decide))) (fun h125 => ?_)
      refine Zr_iload_n C dX4_count_128 rfl ?_
      refine Zr_aload_n C dX4_count_129 rfl ?_
      refine Zr_iload_n C dX4_count_130 rfl ?_
      refine Zr_iconst C (1) dX4_count_131 rfl ?_
      refine Zr_callV C cw_X4_86 (k_X4_counted (r := k) hR (by omega)) qm0 rfl rfl rfl (Nat.le_of_ble_eq_true rfl) (Nat.le_of_ble_eq_true rfl) rfl (Nat.le_of_ble_eq_true rfl) dX4_count_132 ⟨Nat.zero_le _, Nat.zero_le _⟩ ?_
      refine Zr_iadd C dX4_count_135 ?_
      refine Zr_topi (y := nI (aSum (fun r => aOf 1 (σ.2.1 r)) (k + 1))) (by rw [nI_add]; rfl) ?_
      refine Zr_istore_n C dX4_count_136 (by decide) ?_
      refine Zr_iincE C (1) (nI (k + 1)) dX4_count_137 (by decide) rfl rfl (nI_1 _) ?_
      refine Zr_goto C 122 dX4_count_140 (by decide) ?_
      exact ih (k + 1) (by omega)
  by_cases h200 : w = 0
  · subst h200
    refine Zr_iconst C (0) dX4_count_0 rfl ?_
    refine Zr_istore_n C dX4_count_1 (by decide) ?_
    refine Zr_iload_n C dX4_count_2 rfl ?_
    refine Zr_tableIn C 56 dX4_count_3 (by decide) (by decide) rfl (by decide) ?_
    refine Zr_aload_n C dX4_count_56 rfl ?_
    refine Zr_getE C gf_X4_60 qm0 rfl rfl rfl (rg hR) dX4_count_57 ?_
    exact Zr_iret C dX4_count_60 (Nat.zero_le _) (Nat.zero_le _) ⟨rfl, rfl, rfl, rfl⟩
  by_cases h201 : w = 1
  · subst h201
    refine Zr_iconst C (0) dX4_count_0 rfl ?_
    refine Zr_istore_n C dX4_count_1 (by decide) ?_
    refine Zr_iload_n C dX4_count_2 rfl ?_
    refine Zr_tableIn C 61 dX4_count_3 (by decide) (by decide) rfl (by decide) ?_
    refine Zr_aload_n C dX4_count_61 rfl ?_
    refine Zr_getE C gf_X4_83 qm0 rfl rfl rfl (rg hR) dX4_count_62 ?_
    refine Zr_callS C cw_X4_159 (k_X4_toInt (hb 2 (by decide))) rfl (Nat.le_of_ble_eq_true rfl) (Nat.le_of_ble_eq_true rfl) rfl (Nat.le_of_ble_eq_true rfl) dX4_count_65 ⟨Nat.zero_le _, Nat.zero_le _⟩ ?_
    exact Zr_iret C dX4_count_68 (Nat.zero_le _) (Nat.zero_le _) ⟨rfl, rfl, rfl, rfl⟩
  by_cases h202 : w = 2
  · subst h202
    refine Zr_iconst C (0) dX4_count_0 rfl ?_
    refine Zr_istore_n C dX4_count_1 (by decide) ?_
    refine Zr_iload_n C dX4_count_2 rfl ?_
    refine Zr_tableIn C 69 dX4_count_3 (by decide) (by decide) rfl (by decide) ?_
    refine Zr_aload_n C dX4_count_69 rfl ?_
    refine Zr_getE C gf_X4_117 qm0 rfl rfl rfl (rg hR) dX4_count_70 ?_
    refine Zr_callS C cw_X4_159 (k_X4_toInt (hb 3 (by decide))) rfl (Nat.le_of_ble_eq_true rfl) (Nat.le_of_ble_eq_true rfl) rfl (Nat.le_of_ble_eq_true rfl) dX4_count_73 ⟨Nat.zero_le _, Nat.zero_le _⟩ ?_
    exact Zr_iret C dX4_count_76 (Nat.zero_le _) (Nat.zero_le _) ⟨rfl, rfl, rfl, rfl⟩
  by_cases h203 : w = 3
  · subst h203
    refine Zr_iconst C (0) dX4_count_0 rfl ?_
    refine Zr_istore_n C dX4_count_1 (by decide) ?_
    refine Zr_iload_n C dX4_count_2 rfl ?_
    refine Zr_tableIn C 77 dX4_count_3 (by decide) (by decide) rfl (by decide) ?_
    refine Zr_aload_n C dX4_count_77 rfl ?_
    refine Zr_getE C gf_X4_126 qm0 rfl rfl rfl (rg hR) dX4_count_78 ?_
    exact Zr_iret C dX4_count_81 (Nat.zero_le _) (Nat.zero_le _) ⟨rfl, rfl, rfl, rfl⟩
  by_cases h204 : w = 4
  · subst h204
    refine Zr_iconst C (0) dX4_count_0 rfl ?_
    refine Zr_istore_n C dX4_count_1 (by decide) ?_
    refine Zr_iload_n C dX4_count_2 rfl ?_
    refine Zr_tableIn C 82 dX4_count_3 (by decide) (by decide) rfl (by decide) ?_
    refine Zr_aload_n C dX4_count_82 rfl ?_
    refine Zr_getE C gf_X4_120 qm0 rfl rfl rfl (rg hR) dX4_count_83 ?_
    exact Zr_iret C dX4_count_86 (Nat.zero_le _) (Nat.zero_le _) ⟨rfl, rfl, rfl, rfl⟩
  by_cases h205 : w = 5
  · subst h205
    refine Zr_iconst C (0) dX4_count_0 rfl ?_
    refine Zr_istore_n C dX4_count_1 (by decide) ?_
    refine Zr_iload_n C dX4_count_2 rfl ?_
    refine Zr_tableIn C 87 dX4_count_3 (by decide) (by decide) rfl (by decide) ?_
    refine Zr_aload_n C dX4_count_87 rfl ?_
    refine Zr_getE C gf_X4_123 qm0 rfl rfl rfl (rg hR) dX4_count_88 ?_
    refine Zr_callS C cw_X4_159 (k_X4_toInt (hb 21 (by decide))) rfl (Nat.le_of_ble_eq_true rfl) (Nat.le_of_ble_eq_true rfl) rfl (Nat.le_of_ble_eq_true rfl) dX4_count_91 ⟨Nat.zero_le _, Nat.zero_le _⟩ ?_
    exact Zr_iret C dX4_count_94 (Nat.zero_le _) (Nat.zero_le _) ⟨rfl, rfl, rfl, rfl⟩
  by_cases h206 : w = 6
  · subst h206
    refine Zr_iconst C (0) dX4_count_0 rfl ?_
    refine Zr_istore_n C dX4_count_1 (by decide) ?_
    refine Zr_iload_n C dX4_count_2 rfl ?_
    refine Zr_tableIn C 95 dX4_count_3 (by decide) (by decide) rfl (by decide) ?_
    refine Zr_iconst C (0) dX4_count_95 rfl ?_
    refine Zr_istore_n C dX4_count_96 (by decide) ?_
    exact key6 rfl 100 0 (by omega)
  by_cases h207 : w = 7
  · subst h207
    refine Zr_iconst C (0) dX4_count_0 rfl ?_
    refine Zr_istore_n C dX4_count_1 (by decide) ?_
    refine Zr_iload_n C dX4_count_2 rfl ?_
    refine Zr_tableIn C 120 dX4_count_3 (by decide) (by decide) rfl (by decide) ?_
    refine Zr_iconst C (0) dX4_count_120 rfl ?_
    refine Zr_istore_n C dX4_count_121 (by decide) ?_
    exact key7 rfl 100 0 (by omega)
  by_cases h208 : w = 8
  · subst h208
    refine Zr_iconst C (0) dX4_count_0 rfl ?_
    refine Zr_istore_n C dX4_count_1 (by decide) ?_
    refine Zr_iload_n C dX4_count_2 rfl ?_
    refine Zr_tableIn C 145 dX4_count_3 (by decide) (by decide) rfl (by decide) ?_
    refine Zr_aload_n C dX4_count_145 rfl ?_
    refine Zr_getE C gf_X4_141 qm0 rfl rfl rfl (rg hR) dX4_count_146 ?_
    exact Zr_iret C dX4_count_149 (Nat.zero_le _) (Nat.zero_le _) ⟨rfl, rfl, rfl, rfl⟩
  by_cases h209 : w = 9
  · subst h209
    refine Zr_iconst C (0) dX4_count_0 rfl ?_
    refine Zr_istore_n C dX4_count_1 (by decide) ?_
    refine Zr_iload_n C dX4_count_2 rfl ?_
    refine Zr_tableIn C 150 dX4_count_3 (by decide) (by decide) rfl (by decide) ?_
    refine Zr_aload_n C dX4_count_150 rfl ?_
    refine Zr_getE C gf_X4_132 qm0 rfl rfl rfl (rg hR) dX4_count_151 ?_
    exact Zr_iret C dX4_count_154 (Nat.zero_le _) (Nat.zero_le _) ⟨rfl, rfl, rfl, rfl⟩
  refine Zr_iconst C (0) dX4_count_0 rfl ?_
  refine Zr_istore_n C dX4_count_1 (by decide) ?_
  refine Zr_iload_n C dX4_count_2 rfl ?_
  refine Zr_tableOut C 155 dX4_count_3 (w_out 9 (by decide) (fun k hk e => by rcases (show k = 0 ∨ k = 1 ∨ k = 2 ∨ k = 3 ∨ k = 4 ∨ k = 5 ∨ k = 6 ∨ k = 7 ∨ k = 8 ∨ k = 9 by omega) with rfl | rfl | rfl | rfl | rfl | rfl | rfl | rfl | rfl | rfl <;> first | exact h200 e | exact h201 e | exact h202 e | exact h203 e | exact h204 e | exact h205 e | exact h206 e | exact h207 e | exact h208 e | exact h209 e)) (by decide) ?_
  refine Zr_iconst C (-1) dX4_count_155 rfl ?_
  exact Zr_iret C dX4_count_156 (Nat.zero_le _) (Nat.zero_le _) ⟨by simp [fCount, h200, h201, h202, h203, h204, h205, h206, h207, h208, h209], rfl, rfl, rfl⟩
/-- the marks of the search: bits, those that i hangs on, none that a closed set must not hold -/
def rMk (σ : aS) (n i : Nat) (g : Nat → Int32) : Prop := (∀ q, q < n → g q = 0 ∨ g q = 1) ∧ (∀ q, q < n → aHangs σ i q → g q = 1) ∧ ∀ T : Nat → Prop, (∀ q, q < n → aHangs σ i q → T q) → (∀ a b, a < n → b < n → T a → aHangs σ a b → T b) → ∀ q, q < n → g q = 1 → T q
theorem rMk_ring {σ : aS} {n i : Nat} {g : Nat → Int32} (h : rMk σ n i g) (hi : i < n) (hc : ∀ a b, a < n → b < n → g a = 1 → aHangs σ a b → g b = 1) : g i = aRing σ n i := by
  unfold aRing
  rcases h.1 i hi with h0 | h1
  · rw [if_neg, h0]
    intro hr
    have := hr (fun q => q < n ∧ g q = 1) (fun q hq hh => ⟨hq, h.2.1 q hq hh⟩) (fun a b ha hb hT hh => ⟨hb, hc a b ha hb hT.2 hh⟩)
    rw [h0] at this
    exact absurd this.2 (by decide)
  · rw [if_pos, h1]
    intro T hT1 hT2
    exact h.2.2 T hT1 hT2 i hi h1
theorem rMk_add {σ : aS} {n i a b : Nat} {g : Nat → Int32} (h : rMk σ n i g) (ha : a < n) (hb : b < n) (hga : g a = 1) (hh : aHangs σ a b) : rMk σ n i (fun x => if x = b then 1 else g x) := by
  refine ⟨fun q hq => ?_, fun q hq hq2 => ?_, fun T h1 h2 q hq hg => ?_⟩
  · dsimp only
    split
    · exact Or.inr rfl
    · exact h.1 q hq
  · dsimp only
    split
    · rfl
    · exact h.2.1 q hq hq2
  · dsimp only at hg
    split at hg
    · rename_i hqb
      rw [hqb]
      exact h2 a b ha hb (h.2.2 T h1 h2 a ha hga) hh
    · exact h.2.2 T h1 h2 q hq hg
theorem aCnt_add {g : Nat → Int32} {b : Nat} (hg : g b = 0) : ∀ {n : Nat}, b < n → aCnt (fun q => (fun x => if x = b then (1 : Int32) else g x) q != 0) n = aCnt (fun q => g q != 0) n + 1
  | 0, h => absurd h (Nat.not_lt_zero _)
  | n + 1, h => by
    simp only [aCnt]
    by_cases hb : b = n
    · subst hb
      rw [aCnt_cong (f := fun q => (fun x => if x = b then (1 : Int32) else g x) q != 0) (g := fun q => g q != 0) (fun k hk => by
        have : k ≠ b := by omega
        simp [this])]
      simp [hg]
    · have ih := aCnt_add hg (n := n) (by omega)
      rw [ih]
      have : ¬ n = b := fun h => hb h.symm
      simp [this]
      omega
set_option maxHeartbeats 4000000 in
set_option maxRecDepth 100000 in
theorem k_X4_isInRing {l : Launch} {D : va_G} {K : zKs} {ad : zAd} {S : zSt} {σ : aS} {n i : Nat} (hB : aB n σ) (hR : rRel σ S) (hi : i < n) : zMet l yX4_isInRing cX4_isInRing 5 (some .boolean) { frames := 2, cells := 0, slots := 0, locals := 46 } D K rIL (rSh K) ad S [.ref (ad (0, 0)), .int (nI i)] (zR (some (.int (aRing σ n i))) (rSh K) ad (rRel σ)) := by
  refine zEnter (own := RX4) (lv0 := [some (.ref (ad (0, 0))), some (.int (nI i)), none, none, none]) (by decide) rfl (by simp [Value.category]) (Nat.le_of_ble_eq_true rfl) rfl ?_
  intro p e s m below meth c A C _ hnm
  have hn := hB.2.2.1
  have key1 : ∀ (d k : Nat) (S : zSt), k + d = n → rRel σ S → (∀ q, q < k → (aHangs σ i q ∧ S 1 26 q = 1) ∨ (¬ aHangs σ i q ∧ S 1 26 q = 0)) → (∀ S, rRel σ S → (∀ q, q < n → (aHangs σ i q ∧ S 1 26 q = 1) ∨ (¬ aHangs σ i q ∧ S 1 26 q = 0)) → Z p l e ({ frames := 2, cells := 0, slots := 0, locals := 46 } : Room) s m ([.ref (ad (0, 0)), .int (nI i)] : List Value).toArray below meth c D A 5 (MQ below (zQ (zR (some (.int (aRing σ n i))) (rSh K) ad (rRel σ)) rIL D A) ([.ref (ad (0, 0)), .int (nI i)] : List Value).toArray s 0 0 A) rIL 0 0 (rSh K) ad S (28) ([some (.ref (ad (0, 0))), some (.int (nI i)), none, none, none]) ([])) → Z p l e ({ frames := 2, cells := 0, slots := 0, locals := 46 } : Room) s m ([.ref (ad (0, 0)), .int (nI i)] : List Value).toArray below meth c D A 5 (MQ below (zQ (zR (some (.int (aRing σ n i))) (rSh K) ad (rRel σ)) rIL D A) ([.ref (ad (0, 0)), .int (nI i)] : List Value).toArray s 0 0 A) rIL 0 0 (rSh K) ad S (2) ([some (.ref (ad (0, 0))), some (.int (nI i)), some (.int (nI k)), none, none]) ([]) := by
    intro d
    induction d with
    | zero =>
      intro k S hk hR hg hex
      have hk : k = n := by omega
      subst hk
      refine Zr_iload_n C dX4_isInRing_2 rfl ?_
      refine Zr_aload_n C dX4_isInRing_3 rfl ?_
      refine Zr_getE C gf_X4_60 qm0 rfl rfl rfl (rg hR) dX4_isInRing_4 ?_
      refine Zr_icmp_ge C 28 dX4_isInRing_7 (by decide) (fun h7 => ?_) (fun h7 => absurd (by rw [hB.1]; exact nI_le (Nat.le_refl _) (by omega)) h7)
      exact Zr_forget 2 (hex S hR hg)
    | succ d ih =>
      intro k S hk hR hg hex
      have hkl : k < n := by omega
      by_cases hh : aHangs σ i k
      · refine Zr_iload_n C dX4_isInRing_2 rfl ?_
        refine Zr_aload_n C dX4_isInRing_3 rfl ?_
        refine Zr_getE C gf_X4_60 qm0 rfl rfl rfl (rg hR) dX4_isInRing_4 ?_
        refine Zr_icmp_ge C 28 dX4_isInRing_7 (by decide) (fun h7 => absurd h7 (by rw [hB.1]; exact nI_ge hkl (by omega))) (fun h7 => ?_)
        refine Zr_aload_n C dX4_isInRing_10 rfl ?_
        refine Zr_getR C gf_X4_57 qm0 rfl rfl rfl (by decide) dX4_isInRing_11 ?_
        refine Zr_iload_n C dX4_isInRing_14 rfl ?_
        refine Zr_aload_n C dX4_isInRing_15 rfl ?_
        refine Zr_iload_n C dX4_isInRing_16 rfl ?_
        refine Zr_iload_n C dX4_isInRing_17 rfl ?_
        refine Zr_callV C cw_X4_129 (k_X4_hangs_t hB hR hi hkl hh) qm0 rfl rfl rfl (Nat.le_of_ble_eq_true rfl) (Nat.le_of_ble_eq_true rfl) rfl (Nat.le_of_ble_eq_true rfl) dX4_isInRing_18 ⟨Nat.zero_le _, Nat.zero_le _⟩ ?_
        refine Zr_zastN C qm_26 rfl rfl (by omega) (by decide) (by first | exact Or.inl rfl | exact Or.inr rfl | assumption) (Rel := fun X => rRel σ X ∧ X = z3 S 1 26 k 1) ⟨rRx hR, rfl⟩ dX4_isInRing_21 (fun S hR => ?_)
        refine Zr_iincE C (1) (nI (k + 1)) dX4_isInRing_22 (by decide) rfl rfl (nI_1 _) ?_
        refine Zr_goto C 2 dX4_isInRing_25 (by decide) ?_
        exact ih (k + 1) _ (by omega) hR.1 (fun q hq => by rw [hR.2]; by_cases hqk : q = k; exact Or.inl ⟨by rw [hqk]; exact hh, by simp [z3, hqk]⟩; simpa [z3, hqk] using hg q (by omega)) hex
      · refine Zr_iload_n C dX4_isInRing_2 rfl ?_
        refine Zr_aload_n C dX4_isInRing_3 rfl ?_
        refine Zr_getE C gf_X4_60 qm0 rfl rfl rfl (rg hR) dX4_isInRing_4 ?_
        refine Zr_icmp_ge C 28 dX4_isInRing_7 (by decide) (fun h7 => absurd h7 (by rw [hB.1]; exact nI_ge hkl (by omega))) (fun h7 => ?_)
        refine Zr_aload_n C dX4_isInRing_10 rfl ?_
        refine Zr_getR C gf_X4_57 qm0 rfl rfl rfl (by decide) dX4_isInRing_11 ?_
        refine Zr_iload_n C dX4_isInRing_14 rfl ?_
        refine Zr_aload_n C dX4_isInRing_15 rfl ?_
        refine Zr_iload_n C dX4_isInRing_16 rfl ?_
        refine Zr_iload_n C dX4_isInRing_17 rfl ?_
        refine Zr_callV C cw_X4_129 (k_X4_hangs_f hB hR hi hkl hh) qm0 rfl rfl rfl (Nat.le_of_ble_eq_true rfl) (Nat.le_of_ble_eq_true rfl) rfl (Nat.le_of_ble_eq_true rfl) dX4_isInRing_18 ⟨Nat.zero_le _, Nat.zero_le _⟩ ?_
        refine Zr_zastN C qm_26 rfl rfl (by omega) (by decide) (by first | exact Or.inl rfl | exact Or.inr rfl | assumption) (Rel := fun X => rRel σ X ∧ X = z3 S 1 26 k 0) ⟨rRx hR, rfl⟩ dX4_isInRing_21 (fun S hR => ?_)
        refine Zr_iincE C (1) (nI (k + 1)) dX4_isInRing_22 (by decide) rfl rfl (nI_1 _) ?_
        refine Zr_goto C 2 dX4_isInRing_25 (by decide) ?_
        exact ih (k + 1) _ (by omega) hR.1 (fun q hq => by rw [hR.2]; by_cases hqk : q = k; exact Or.inr ⟨by rw [hqk]; exact hh, by simp [z3, hqk]⟩; simpa [z3, hqk] using hg q (by omega)) hex
  have keyW : ∀ (d : Nat) (S : zSt), n - aCnt (fun q => S 1 26 q != 0) n < d → rRel σ S → rMk σ n i (S 1 26) → Z p l e ({ frames := 2, cells := 0, slots := 0, locals := 46 } : Room) s m ([.ref (ad (0, 0)), .int (nI i)] : List Value).toArray below meth c D A 5 (MQ below (zQ (zR (some (.int (aRing σ n i))) (rSh K) ad (rRel σ)) rIL D A) ([.ref (ad (0, 0)), .int (nI i)] : List Value).toArray s 0 0 A) rIL 0 0 (rSh K) ad S (30) ([some (.ref (ad (0, 0))), some (.int (nI i)), some (.int 1), none, none]) ([]) := by
    intro d
    induction d with
    | zero => intro S h; exact absurd h (Nat.not_lt_zero _)
    | succ d ih =>
      intro S0 hd hR0 hM0
      have hc0 : aCnt (fun q => S0 1 26 q != 0) n ≤ n := aCnt_le _ _
      have keyA : ∀ (d2 a : Nat) (S : zSt) (mo : Int32), a + d2 = n → rRel σ S → rMk σ n i (S 1 26) → ((mo = 0 ∧ ∀ a' b, a' < a → b < n → S 1 26 a' = 1 → aHangs σ a' b → S 1 26 b = 1) ∨ (mo = 1 ∧ aCnt (fun q => S0 1 26 q != 0) n < aCnt (fun q => S 1 26 q != 0) n)) → aCnt (fun q => S0 1 26 q != 0) n ≤ aCnt (fun q => S 1 26 q != 0) n → Z p l e ({ frames := 2, cells := 0, slots := 0, locals := 46 } : Room) s m ([.ref (ad (0, 0)), .int (nI i)] : List Value).toArray below meth c D A 5 (MQ below (zQ (zR (some (.int (aRing σ n i))) (rSh K) ad (rRel σ)) rIL D A) ([.ref (ad (0, 0)), .int (nI i)] : List Value).toArray s 0 0 A) rIL 0 0 (rSh K) ad S (38) ([some (.ref (ad (0, 0))), some (.int (nI i)), some (.int mo), some (.int (nI a)), none]) ([]) := by
        intro d2
        induction d2 with
        | zero =>
          intro a S mo ha hR hM hI hle
          have ha : a = n := by omega
          subst ha
          have hc : aCnt (fun q => S 1 26 q != 0) a ≤ a := aCnt_le _ _
          rcases hI with ⟨rfl, hcl⟩ | ⟨rfl, hlt⟩
          · have e := rMk_ring hM hi (fun x y hx hy => hcl x y hx hy)
            refine Zr_iload_n C dX4_isInRing_38 rfl ?_
            refine Zr_aload_n C dX4_isInRing_39 rfl ?_
            refine Zr_getE C gf_X4_60 qm0 rfl rfl rfl (rg hR) dX4_isInRing_40 ?_
            refine Zr_icmp_ge C 112 dX4_isInRing_43 (by decide) (fun h43 => ?_) (fun h43 => absurd (by rw [hB.1]; exact nI_le (Nat.le_refl _) (by omega)) h43)
            refine Zr_goto C 30 dX4_isInRing_112 (by decide) ?_
            refine Zr_iload_n C dX4_isInRing_30 rfl ?_
            refine Zr_if_eq C 115 dX4_isInRing_31 (by decide) (fun h31 => ?_) (fun h31 => absurd rfl h31)
            refine Zr_aload_n C dX4_isInRing_115 rfl ?_
            refine Zr_getR C gf_X4_57 qm0 rfl rfl rfl (by decide) dX4_isInRing_116 ?_
            refine Zr_iload_n C dX4_isInRing_119 rfl ?_
            refine Zr_zaldN C qm_26 rfl rfl (by omega) (by decide) e dX4_isInRing_120 ?_
            exact Zr_zret C dX4_isInRing_121 (Nat.zero_le _) (Nat.zero_le _) (by rw [← e]; exact hM.1 i hi) ⟨rfl, rfl, rfl, hR⟩
          · refine Zr_iload_n C dX4_isInRing_38 rfl ?_
            refine Zr_aload_n C dX4_isInRing_39 rfl ?_
            refine Zr_getE C gf_X4_60 qm0 rfl rfl rfl (rg hR) dX4_isInRing_40 ?_
            refine Zr_icmp_ge C 112 dX4_isInRing_43 (by decide) (fun h43 => ?_) (fun h43 => absurd (by rw [hB.1]; exact nI_le (Nat.le_refl _) (by omega)) h43)
            refine Zr_goto C 30 dX4_isInRing_112 (by decide) ?_
            exact Zr_forget 3 (ih S (by omega) hR hM)
        | succ d2 ih2 =>
          intro a S mo ha hR hM hI hle
          have hal : a < n := by omega
          have keyB : ∀ (d3 b : Nat) (S : zSt) (mo : Int32), b + d3 = n → rRel σ S → rMk σ n i (S 1 26) → ((mo = 0 ∧ (∀ a' b', a' < a → b' < n → S 1 26 a' = 1 → aHangs σ a' b' → S 1 26 b' = 1) ∧ ∀ b', b' < b → S 1 26 a = 1 → aHangs σ a b' → S 1 26 b' = 1) ∨ (mo = 1 ∧ aCnt (fun q => S0 1 26 q != 0) n < aCnt (fun q => S 1 26 q != 0) n)) → aCnt (fun q => S0 1 26 q != 0) n ≤ aCnt (fun q => S 1 26 q != 0) n → Z p l e ({ frames := 2, cells := 0, slots := 0, locals := 46 } : Room) s m ([.ref (ad (0, 0)), .int (nI i)] : List Value).toArray below meth c D A 5 (MQ below (zQ (zR (some (.int (aRing σ n i))) (rSh K) ad (rRel σ)) rIL D A) ([.ref (ad (0, 0)), .int (nI i)] : List Value).toArray s 0 0 A) rIL 0 0 (rSh K) ad S (49) ([some (.ref (ad (0, 0))), some (.int (nI i)), some (.int mo), some (.int (nI a)), some (.int (nI b))]) ([]) := by
            intro d3
            induction d3 with
            | zero =>
              intro b S mo hb hR hM hI hle
              have hb : b = n := by omega
              subst hb
              refine Zr_iload C dX4_isInRing_49 rfl ?_
              refine Zr_aload_n C dX4_isInRing_51 rfl ?_
              refine Zr_getE C gf_X4_60 qm0 rfl rfl rfl (rg hR) dX4_isInRing_52 ?_
              refine Zr_icmp_ge C 106 dX4_isInRing_55 (by decide) (fun h55 => ?_) (fun h55 => absurd (by rw [hB.1]; exact nI_le (Nat.le_refl _) (by omega)) h55)
              refine Zr_iincE C (1) (nI (a + 1)) dX4_isInRing_106 (by decide) rfl rfl (nI_1 _) ?_
              refine Zr_goto C 38 dX4_isInRing_109 (by decide) ?_
              exact Zr_forget 4 (ih2 (a + 1) S mo (by omega) hR hM (hI.imp (fun h => ⟨h.1, fun a2 b2 h1 h2 h3 h4 => if h5 : a2 = a then h.2.2 b2 h2 (by rw [← h5]; exact h3) (by rw [← h5]; exact h4) else h.2.1 a2 b2 (by omega) h2 h3 h4⟩) id) hle)
            | succ d3 ih3 =>
              intro b S mo hb hR hM hI hle
              have hbl : b < n := by omega
              by_cases hh : aHangs σ a b
              · refine Zr_iload C dX4_isInRing_49 rfl ?_
                refine Zr_aload_n C dX4_isInRing_51 rfl ?_
                refine Zr_getE C gf_X4_60 qm0 rfl rfl rfl (rg hR) dX4_isInRing_52 ?_
                refine Zr_icmp_ge C 106 dX4_isInRing_55 (by decide) (fun h55 => absurd h55 (by rw [hB.1]; exact nI_ge hbl (by omega))) (fun h55 => ?_)
                refine Zr_aload_n C dX4_isInRing_58 rfl ?_
                refine Zr_getR C gf_X4_57 qm0 rfl rfl rfl (by decide) dX4_isInRing_59 ?_
                refine Zr_iload_n C dX4_isInRing_62 rfl ?_
                refine Zr_zaldN C qm_26 rfl rfl (by omega) (by decide) rfl dX4_isInRing_63 ?_
                refine Zr_if_eq C 106 dX4_isInRing_64 (by decide) (fun h64 => ?_) (fun h64 => ?_)
                · refine Zr_iincE C (1) (nI (a + 1)) dX4_isInRing_106 (by decide) rfl rfl (nI_1 _) ?_
                  refine Zr_goto C 38 dX4_isInRing_109 (by decide) ?_
                  exact Zr_forget 4 (ih2 (a + 1) S mo (by omega) hR hM (hI.imp (fun h => ⟨h.1, fun a2 b2 h1 h2 h3 h4 => if h5 : a2 = a then absurd (h3.symm.trans (show S 1 26 a2 = 0 by rw [h5]; exact h64)) (by decide) else h.2.1 a2 b2 (by omega) h2 h3 h4⟩) id) hle)
                · refine Zr_aload_n C dX4_isInRing_67 rfl ?_
                  refine Zr_getR C gf_X4_57 qm0 rfl rfl rfl (by decide) dX4_isInRing_68 ?_
                  refine Zr_iload C dX4_isInRing_71 rfl ?_
                  refine Zr_zaldN C qm_26 rfl rfl (by omega) (by decide) rfl dX4_isInRing_73 ?_
                  refine Zr_if_ne C 100 dX4_isInRing_74 (by decide) (fun h74 => ?_) (fun h74 => ?_)
                  · refine Zr_iincE C (1) (nI (b + 1)) dX4_isInRing_100 (by decide) rfl rfl (nI_1 _) ?_
                    refine Zr_goto C 49 dX4_isInRing_103 (by decide) ?_
                    first | exact ih3 (b + 1) S mo (by omega) hR hM (hI.imp (fun h => ⟨h.1, h.2.1, fun b2 h2 h3 h4 => if h5 : b2 = b then by rw [h5]; first | exact (hM.1 b hbl).resolve_left h74 | exact absurd (h5 ▸ h4) hh else h.2.2 b2 (by omega) h3 h4⟩) id) hle | exact ih3 (b + 1) _ 1 (by omega) hR.1 (by rw [hR.2]; exact rMk_add hM hal hbl ((hM.1 a hal).resolve_left h64) hh) (Or.inr ⟨rfl, by rw [hR.2, aCnt_add h74 hbl]; omega⟩) (by rw [hR.2, aCnt_add h74 hbl]; omega)
                  · refine Zr_aload_n C dX4_isInRing_77 rfl ?_
                    refine Zr_iload_n C dX4_isInRing_78 rfl ?_
                    refine Zr_iload C dX4_isInRing_79 rfl ?_
                    refine Zr_callV C cw_X4_129 (k_X4_hangs_t hB hR hal hbl hh) qm0 rfl rfl rfl (Nat.le_of_ble_eq_true rfl) (Nat.le_of_ble_eq_true rfl) rfl (Nat.le_of_ble_eq_true rfl) dX4_isInRing_81 ⟨Nat.zero_le _, Nat.zero_le _⟩ ?_
                    refine Zr_if_ne C 90 dX4_isInRing_84 (by decide) (fun h84 => ?_) (fun h84 => absurd h84 (by decide))
                    refine Zr_aload_n C dX4_isInRing_90 rfl ?_
                    refine Zr_getR C gf_X4_57 qm0 rfl rfl rfl (by decide) dX4_isInRing_91 ?_
                    refine Zr_iload C dX4_isInRing_94 rfl ?_
                    refine Zr_iconst C (1) dX4_isInRing_96 rfl ?_
                    refine Zr_zastN C qm_26 rfl rfl (by omega) (by decide) (by first | exact Or.inl rfl | exact Or.inr rfl | assumption) (Rel := fun X => rRel σ X ∧ X 1 26 = (fun x => if x = b then 1 else S 1 26 x)) ⟨rRx hR, z3_row S 1 26 b 1⟩ dX4_isInRing_97 (fun S hR => ?_)
                    refine Zr_iconst C (1) dX4_isInRing_98 rfl ?_
                    refine Zr_istore_n C dX4_isInRing_99 (by decide) ?_
                    refine Zr_iincE C (1) (nI (b + 1)) dX4_isInRing_100 (by decide) rfl rfl (nI_1 _) ?_
                    refine Zr_goto C 49 dX4_isInRing_103 (by decide) ?_
                    first | exact ih3 (b + 1) S mo (by omega) hR hM (hI.imp (fun h => ⟨h.1, h.2.1, fun b2 h2 h3 h4 => if h5 : b2 = b then by rw [h5]; first | exact (hM.1 b hbl).resolve_left h74 | exact absurd (h5 ▸ h4) hh else h.2.2 b2 (by omega) h3 h4⟩) id) hle | exact ih3 (b + 1) _ 1 (by omega) hR.1 (by rw [hR.2]; exact rMk_add hM hal hbl ((hM.1 a hal).resolve_left h64) hh) (Or.inr ⟨rfl, by rw [hR.2, aCnt_add h74 hbl]; omega⟩) (by rw [hR.2, aCnt_add h74 hbl]; omega)
              · refine Zr_iload C dX4_isInRing_49 rfl ?_
                refine Zr_aload_n C dX4_isInRing_51 rfl ?_
                refine Zr_getE C gf_X4_60 qm0 rfl rfl rfl (rg hR) dX4_isInRing_52 ?_
                refine Zr_icmp_ge C 106 dX4_isInRing_55 (by decide) (fun h55 => absurd h55 (by rw [hB.1]; exact nI_ge hbl (by omega))) (fun h55 => ?_)
                refine Zr_aload_n C dX4_isInRing_58 rfl ?_
                refine Zr_getR C gf_X4_57 qm0 rfl rfl rfl (by decide) dX4_isInRing_59 ?_
                refine Zr_iload_n C dX4_isInRing_62 rfl ?_
                refine Zr_zaldN C qm_26 rfl rfl (by omega) (by decide) rfl dX4_isInRing_63 ?_
                refine Zr_if_eq C 106 dX4_isInRing_64 (by decide) (fun h64 => ?_) (fun h64 => ?_)
                · refine Zr_iincE C (1) (nI (a + 1)) dX4_isInRing_106 (by decide) rfl rfl (nI_1 _) ?_
                  refine Zr_goto C 38 dX4_isInRing_109 (by decide) ?_
                  exact Zr_forget 4 (ih2 (a + 1) S mo (by omega) hR hM (hI.imp (fun h => ⟨h.1, fun a2 b2 h1 h2 h3 h4 => if h5 : a2 = a then absurd (h3.symm.trans (show S 1 26 a2 = 0 by rw [h5]; exact h64)) (by decide) else h.2.1 a2 b2 (by omega) h2 h3 h4⟩) id) hle)
                · refine Zr_aload_n C dX4_isInRing_67 rfl ?_
                  refine Zr_getR C gf_X4_57 qm0 rfl rfl rfl (by decide) dX4_isInRing_68 ?_
                  refine Zr_iload C dX4_isInRing_71 rfl ?_
                  refine Zr_zaldN C qm_26 rfl rfl (by omega) (by decide) rfl dX4_isInRing_73 ?_
                  refine Zr_if_ne C 100 dX4_isInRing_74 (by decide) (fun h74 => ?_) (fun h74 => ?_)
                  · refine Zr_iincE C (1) (nI (b + 1)) dX4_isInRing_100 (by decide) rfl rfl (nI_1 _) ?_
                    refine Zr_goto C 49 dX4_isInRing_103 (by decide) ?_
                    first | exact ih3 (b + 1) S mo (by omega) hR hM (hI.imp (fun h => ⟨h.1, h.2.1, fun b2 h2 h3 h4 => if h5 : b2 = b then by rw [h5]; first | exact (hM.1 b hbl).resolve_left h74 | exact absurd (h5 ▸ h4) hh else h.2.2 b2 (by omega) h3 h4⟩) id) hle | exact ih3 (b + 1) _ 1 (by omega) hR.1 (by rw [hR.2]; exact rMk_add hM hal hbl ((hM.1 a hal).resolve_left h64) hh) (Or.inr ⟨rfl, by rw [hR.2, aCnt_add h74 hbl]; omega⟩) (by rw [hR.2, aCnt_add h74 hbl]; omega)
                  · refine Zr_aload_n C dX4_isInRing_77 rfl ?_
                    refine Zr_iload_n C dX4_isInRing_78 rfl ?_
                    refine Zr_iload C dX4_isInRing_79 rfl ?_
                    refine Zr_callV C cw_X4_129 (k_X4_hangs_f hB hR hal hbl hh) qm0 rfl rfl rfl (Nat.le_of_ble_eq_true rfl) (Nat.le_of_ble_eq_true rfl) rfl (Nat.le_of_ble_eq_true rfl) dX4_isInRing_81 ⟨Nat.zero_le _, Nat.zero_le _⟩ ?_
                    refine Zr_if_ne C 90 dX4_isInRing_84 (by decide) (fun h84 => absurd rfl h84) (fun h84 => ?_)
                    refine Zr_goto C 100 dX4_isInRing_87 (by decide) ?_
                    refine Zr_iincE C (1) (nI (b + 1)) dX4_isInRing_100 (by decide) rfl rfl (nI_1 _) ?_
                    refine Zr_goto C 49 dX4_isInRing_103 (by decide) ?_
                    first | exact ih3 (b + 1) S mo (by omega) hR hM (hI.imp (fun h => ⟨h.1, h.2.1, fun b2 h2 h3 h4 => if h5 : b2 = b then by rw [h5]; first | exact (hM.1 b hbl).resolve_left h74 | exact absurd (h5 ▸ h4) hh else h.2.2 b2 (by omega) h3 h4⟩) id) hle | exact ih3 (b + 1) _ 1 (by omega) hR.1 (by rw [hR.2]; exact rMk_add hM hal hbl ((hM.1 a hal).resolve_left h64) hh) (Or.inr ⟨rfl, by rw [hR.2, aCnt_add h74 hbl]; omega⟩) (by rw [hR.2, aCnt_add h74 hbl]; omega)
          refine Zr_iload_n C dX4_isInRing_38 rfl ?_
          refine Zr_aload_n C dX4_isInRing_39 rfl ?_
          refine Zr_getE C gf_X4_60 qm0 rfl rfl rfl (rg hR) dX4_isInRing_40 ?_
          refine Zr_icmp_ge C 112 dX4_isInRing_43 (by decide) (fun h43 => absurd h43 (by rw [hB.1]; exact nI_ge hal (by omega))) (fun h43 => ?_)
          refine Zr_iconst C (0) dX4_isInRing_46 rfl ?_
          refine Zr_istore C dX4_isInRing_47 (by decide) ?_
          exact keyB n 0 S mo (by omega) hR hM (hI.imp (fun h => ⟨h.1, h.2, fun b2 hb2 => absurd hb2 (Nat.not_lt_zero _)⟩) id) hle
      refine Zr_iload_n C dX4_isInRing_30 rfl ?_
      refine Zr_if_eq C 115 dX4_isInRing_31 (by decide) (fun h31 => absurd h31 (by decide)) (fun h31 => ?_)
      refine Zr_iconst C (0) dX4_isInRing_34 rfl ?_
      refine Zr_istore_n C dX4_isInRing_35 (by decide) ?_
      refine Zr_iconst C (0) dX4_isInRing_36 rfl ?_
      refine Zr_istore_n C dX4_isInRing_37 (by decide) ?_
      exact keyA n 0 S0 0 (by omega) hR0 hM0 (Or.inl ⟨rfl, fun a2 b2 h2 => absurd h2 (Nat.not_lt_zero _)⟩) (Nat.le_refl _)
  have hex : ∀ S, rRel σ S → (∀ q, q < n → (aHangs σ i q ∧ S 1 26 q = 1) ∨ (¬ aHangs σ i q ∧ S 1 26 q = 0)) → Z p l e ({ frames := 2, cells := 0, slots := 0, locals := 46 } : Room) s m ([.ref (ad (0, 0)), .int (nI i)] : List Value).toArray below meth c D A 5 (MQ below (zQ (zR (some (.int (aRing σ n i))) (rSh K) ad (rRel σ)) rIL D A) ([.ref (ad (0, 0)), .int (nI i)] : List Value).toArray s 0 0 A) rIL 0 0 (rSh K) ad S (28) ([some (.ref (ad (0, 0))), some (.int (nI i)), none, none, none]) ([]) := by
    intro S hR hg
    refine Zr_iconst C (1) dX4_isInRing_28 rfl ?_
    refine Zr_istore_n C dX4_isInRing_29 (by decide) ?_
    exact keyW (n + 1) S (by omega) hR ⟨fun q hq => (hg q hq).elim (fun h => Or.inr h.2) (fun h => Or.inl h.2), fun q hq hh => (hg q hq).elim (fun h => h.2) (fun h => absurd hh h.1), fun T h1 h2 q hq hgq => (hg q hq).elim (fun h => h1 q hq h.1) (fun h => absurd (h.2.symm.trans hgq) (by decide))⟩
  refine Zr_iconst C (0) dX4_isInRing_0 rfl ?_
  refine Zr_istore_n C dX4_isInRing_1 (by decide) ?_
  exact key1 n 0 S (by omega) hR (fun q hq => absurd hq (Nat.not_lt_zero _)) hex
end
section
set_option maxHeartbeats 4000000 in
set_option maxRecDepth 100000 in
theorem k_X4_probed {l : Launch} {D : va_G} {K : zKs} {ad : zAd} {S : zSt} {σ : aS} {n j k i : Nat} {num : Int32} (hB : aB n σ) (hR : rRel σ S) (hj : j < n) (hk : k < n) (hi : i < n) (hL : ∀ r, r < 100 → (σ.2.1 r).length < 640) : zMet l yX4_probed cX4_probed 5 none { frames := 3, cells := 0, slots := 0, locals := 72 } D K rIL (rSh K) ad S [.ref (ad (0, 0)), .int (nI j), .int (nI k), .int (nI i), .int num] (zR none (rSh K) ad (rRel (aProbed n σ j k i num))) := by
  refine zEnter (own := RX4) (lv0 := [some (.ref (ad (0, 0))), some (.int (nI j)), some (.int (nI k)), some (.int (nI i)), some (.int num)]) (by decide) rfl (by simp [Value.category]) (Nat.le_of_ble_eq_true rfl) rfl ?_
  intro p e s m below meth c A C _ hnm
  have hn := hB.2.2.1
  by_cases hw : aWf σ n k = 0
  · refine Zr_aload_n C dX4_probed_0 rfl ?_
    refine Zr_iload_n C dX4_probed_1 rfl ?_
    refine Zr_callV C cw_X4_76 (k_X4_isBlocked hB hR hk) qm0 rfl rfl rfl (Nat.le_of_ble_eq_true rfl) (Nat.le_of_ble_eq_true rfl) rfl (Nat.le_of_ble_eq_true rfl) dX4_probed_2 ⟨Nat.zero_le _, Nat.zero_le _⟩ ?_
    refine Zr_topi (y := 0) (if_pos hw) ?_
    refine Zr_if_eq C 21 dX4_probed_5 (by decide) (fun h5 => ?_) (fun h5 => absurd rfl h5)
    exact Zr_vret C dX4_probed_21 (Nat.zero_le _) (Nat.zero_le _) ⟨rfl, rfl, rfl, by rw [aProbed, if_pos (Or.inl hw)]; exact hR⟩
  · by_cases hki : k = i
    · subst hki
      have hB2 : aB n (aN (aN σ 1 14 k (σ.1 1 14 k + 1)) 0 0 7 (σ.1 0 0 7 + 1)) := (hB.a (fun h => by omega)).g (by decide) (fun h => by omega)
      refine Zr_aload_n C dX4_probed_0 rfl ?_
      refine Zr_iload_n C dX4_probed_1 rfl ?_
      refine Zr_callV C cw_X4_76 (k_X4_isBlocked hB hR hk) qm0 rfl rfl rfl (Nat.le_of_ble_eq_true rfl) (Nat.le_of_ble_eq_true rfl) rfl (Nat.le_of_ble_eq_true rfl) dX4_probed_2 ⟨Nat.zero_le _, Nat.zero_le _⟩ ?_
      refine Zr_topi (y := 1) (if_neg hw) ?_
      refine Zr_if_eq C 21 dX4_probed_5 (by decide) (fun h5 => absurd h5 (by decide)) (fun h5 => ?_)
      refine Zr_aload_n C dX4_probed_8 rfl ?_
      refine Zr_getR C gf_X4_38 qm0 rfl rfl rfl (by decide) dX4_probed_9 ?_
      refine Zr_iload_n C dX4_probed_12 rfl ?_
      refine Zr_iload_n C dX4_probed_13 rfl ?_
      refine Zr_callS C cw_X4_68 (k_X4_row (i := k) (j := j)) rfl (Nat.le_of_ble_eq_true rfl) (Nat.le_of_ble_eq_true rfl) rfl (Nat.le_of_ble_eq_true rfl) dX4_probed_14 ⟨Nat.zero_le _, Nat.zero_le _⟩ ?_
      refine Zr_zaldN C qm_17 rfl rfl (by omega) (by decide) (ra hR (by decide)) dX4_probed_17 ?_
      refine Zr_if_ne C 22 dX4_probed_18 (by decide) (fun h18 => ?_) (fun h18 => ?_)
      · refine Zr_iload_n C dX4_probed_22 rfl ?_
        refine Zr_iload_n C dX4_probed_23 rfl ?_
        refine Zr_icmp_ne C 68 dX4_probed_24 (by decide) (fun h24 => absurd rfl h24) (fun h24 => ?_)
        refine Zr_aload_n C dX4_probed_27 rfl ?_
        refine Zr_getR C gf_X4_29 qm0 rfl rfl rfl (by decide) dX4_probed_28 ?_
        refine Zr_iload_n C dX4_probed_31 rfl ?_
        refine Zr_dup2 C dX4_probed_32 rfl rfl ?_
        refine Zr_ialdN C qm_14 rfl rfl (by omega) (by decide) (ra hR (by decide)) dX4_probed_33 ?_
        refine Zr_iconst C (1) dX4_probed_34 rfl ?_
        refine Zr_iadd C dX4_probed_35 ?_
        refine Zr_iastN C qm_14 rfl rfl (by omega) (by decide) (rRa hR (by decide)) dX4_probed_36 (fun S hR => ?_)
        refine Zr_aload_n C dX4_probed_37 rfl ?_
        refine Zr_dup C dX4_probed_38 rfl ?_
        refine Zr_getE C gf_X4_132 qm0 rfl rfl rfl (rg hR) dX4_probed_39 ?_
        refine Zr_iconst C (1) dX4_probed_42 rfl ?_
        refine Zr_iadd C dX4_probed_43 ?_
        refine Zr_putE C pf_X4_132 qm0 rfl rfl rfl (znI _) (rRg hR) dX4_probed_44 (fun S hR => ?_)
        refine Zr_aload_n C dX4_probed_47 rfl ?_
        refine Zr_iload_n C dX4_probed_48 rfl ?_
        refine Zr_callVR C cw_X4_135 (k_X4_isInRing hB2 hR hk) qm0 rfl rfl rfl (Nat.le_of_ble_eq_true rfl) (Nat.le_of_ble_eq_true rfl) rfl (Nat.le_of_ble_eq_true rfl) dX4_probed_49 ⟨Nat.zero_le _, Nat.zero_le _⟩ (fun S hR => ?_)
        refine Zr_if_ne C 103 dX4_probed_52 (by decide) (fun h52 => ?_) (fun h52 => ?_)
        · exact Zr_vret C dX4_probed_103 (Nat.zero_le _) (Nat.zero_le _) ⟨rfl, rfl, rfl, by rw [aProbed, if_neg (fun h => h.elim hw h18), if_pos rfl, aDead]; first | (rw [if_neg h52]; exact hR) | (rw [if_pos h52]; exact hR)⟩
        · refine Zr_aload_n C dX4_probed_55 rfl ?_
          refine Zr_dup C dX4_probed_56 rfl ?_
          refine Zr_getE C gf_X4_138 qm0 rfl rfl rfl (rg hR) dX4_probed_57 ?_
          refine Zr_iconst C (1) dX4_probed_60 rfl ?_
          refine Zr_iadd C dX4_probed_61 ?_
          refine Zr_putE C pf_X4_138 qm0 rfl rfl rfl (znI _) (rRg hR) dX4_probed_62 (fun S hR => ?_)
          refine Zr_goto C 103 dX4_probed_65 (by decide) ?_
          exact Zr_vret C dX4_probed_103 (Nat.zero_le _) (Nat.zero_le _) ⟨rfl, rfl, rfl, by rw [aProbed, if_neg (fun h => h.elim hw h18), if_pos rfl, aDead]; first | (rw [if_neg h52]; exact hR) | (rw [if_pos h52]; exact hR)⟩
      · exact Zr_vret C dX4_probed_21 (Nat.zero_le _) (Nat.zero_le _) ⟨rfl, rfl, rfl, by rw [aProbed, if_pos (Or.inr h18)]; exact hR⟩
    · have hB2 : aB n (aN σ 1 18 (10 * k + i) num) := hB.a (fun h => by omega)
      refine Zr_aload_n C dX4_probed_0 rfl ?_
      refine Zr_iload_n C dX4_probed_1 rfl ?_
      refine Zr_callV C cw_X4_76 (k_X4_isBlocked hB hR hk) qm0 rfl rfl rfl (Nat.le_of_ble_eq_true rfl) (Nat.le_of_ble_eq_true rfl) rfl (Nat.le_of_ble_eq_true rfl) dX4_probed_2 ⟨Nat.zero_le _, Nat.zero_le _⟩ ?_
      refine Zr_topi (y := 1) (if_neg hw) ?_
      refine Zr_if_eq C 21 dX4_probed_5 (by decide) (fun h5 => absurd h5 (by decide)) (fun h5 => ?_)
      refine Zr_aload_n C dX4_probed_8 rfl ?_
      refine Zr_getR C gf_X4_38 qm0 rfl rfl rfl (by decide) dX4_probed_9 ?_
      refine Zr_iload_n C dX4_probed_12 rfl ?_
      refine Zr_iload_n C dX4_probed_13 rfl ?_
      refine Zr_callS C cw_X4_68 (k_X4_row (i := k) (j := j)) rfl (Nat.le_of_ble_eq_true rfl) (Nat.le_of_ble_eq_true rfl) rfl (Nat.le_of_ble_eq_true rfl) dX4_probed_14 ⟨Nat.zero_le _, Nat.zero_le _⟩ ?_
      refine Zr_zaldN C qm_17 rfl rfl (by omega) (by decide) (ra hR (by decide)) dX4_probed_17 ?_
      refine Zr_if_ne C 22 dX4_probed_18 (by decide) (fun h18 => ?_) (fun h18 => ?_)
      · refine Zr_iload_n C dX4_probed_22 rfl ?_
        refine Zr_iload_n C dX4_probed_23 rfl ?_
        refine Zr_icmp_ne C 68 dX4_probed_24 (by decide) (fun h24 => ?_) (fun h24 => absurd (congrArg nI (show k = i from (nI_eq (by omega) (by omega)).mp h24)) (fun h => hki ((nI_eq (by omega) (by omega)).mp h)))
        refine Zr_iload C dX4_probed_68 rfl ?_
        refine Zr_aload_n C dX4_probed_70 rfl ?_
        refine Zr_getR C gf_X4_41 qm0 rfl rfl rfl (by decide) dX4_probed_71 ?_
        refine Zr_iload_n C dX4_probed_74 rfl ?_
        refine Zr_iload_n C dX4_probed_75 rfl ?_
        refine Zr_callS C cw_X4_68 (k_X4_row (i := k) (j := i)) rfl (Nat.le_of_ble_eq_true rfl) (Nat.le_of_ble_eq_true rfl) rfl (Nat.le_of_ble_eq_true rfl) dX4_probed_76 ⟨Nat.zero_le _, Nat.zero_le _⟩ ?_
        refine Zr_ialdN C qm_18 rfl rfl (by omega) (by decide) (ra hR (by decide)) dX4_probed_79 ?_
        refine Zr_icmp_le C 103 dX4_probed_80 (by decide) (fun h80 => ?_) (fun h80 => ?_)
        · exact Zr_vret C dX4_probed_103 (Nat.zero_le _) (Nat.zero_le _) ⟨rfl, rfl, rfl, by rw [aProbed, if_neg (fun h => h.elim hw h18), if_neg hki]; first | (rw [if_neg (i32_le h80)]; exact hR) | (rw [if_pos (Int32.not_le.mp h80)]; exact hR)⟩
        · refine Zr_aload_n C dX4_probed_83 rfl ?_
          refine Zr_getR C gf_X4_41 qm0 rfl rfl rfl (by decide) dX4_probed_84 ?_
          refine Zr_iload_n C dX4_probed_87 rfl ?_
          refine Zr_iload_n C dX4_probed_88 rfl ?_
          refine Zr_callS C cw_X4_68 (k_X4_row (i := k) (j := i)) rfl (Nat.le_of_ble_eq_true rfl) (Nat.le_of_ble_eq_true rfl) rfl (Nat.le_of_ble_eq_true rfl) dX4_probed_89 ⟨Nat.zero_le _, Nat.zero_le _⟩ ?_
          refine Zr_iload C dX4_probed_92 rfl ?_
          refine Zr_iastN C qm_18 rfl rfl (by omega) (by decide) (rRa hR (by decide)) dX4_probed_94 (fun S hR => ?_)
          refine Zr_aload_n C dX4_probed_95 rfl ?_
          refine Zr_iload_n C dX4_probed_96 rfl ?_
          refine Zr_iload_n C dX4_probed_97 rfl ?_
          refine Zr_iload C dX4_probed_98 rfl ?_
          refine Zr_callVRv C cw_X4_113 (k_X4_probes hB2 hR hk hL) qm0 rfl rfl rfl (Nat.le_of_ble_eq_true rfl) (Nat.le_of_ble_eq_true rfl) rfl (Nat.le_of_ble_eq_true rfl) dX4_probed_100 ⟨Nat.zero_le _, Nat.zero_le _⟩ (fun S hR => ?_)
          exact Zr_vret C dX4_probed_103 (Nat.zero_le _) (Nat.zero_le _) ⟨rfl, rfl, rfl, by rw [aProbed, if_neg (fun h => h.elim hw h18), if_neg hki]; first | (rw [if_neg (i32_le h80)]; exact hR) | (rw [if_pos (Int32.not_le.mp h80)]; exact hR)⟩
      · exact Zr_vret C dX4_probed_21 (Nat.zero_le _) (Nat.zero_le _) ⟨rfl, rfl, rfl, by rw [aProbed, if_pos (Or.inr h18)]; exact hR⟩
/-- a row whose first k places have been moved down by one -/
def rCut (σ : aS) (r k : Nat) (S : zSt) : Prop := (∀ a b x, ¬ (a = 1 ∧ 22 ≤ b) → S a b x = σ.1 a b x) ∧ (∀ q, q < 100 → q ≠ r → (S 1 22 q = nI (σ.2.1 q).length ∧ (σ.2.1 q).length ≤ 640) ∧ ∀ (j : Nat) (mm : aM), (σ.2.1 q)[j]? = some mm → S 1 23 (640 * q + j) = mm.1 ∧ S 1 24 (640 * q + j) = mm.2.1 ∧ S 1 25 (640 * q + j) = mm.2.2) ∧ (S 1 22 r = nI ((σ.2.1 r).length - 1) ∧ (σ.2.1 r).length ≤ 640) ∧ (∀ (j : Nat) (mm : aM), j < k → (σ.2.1 r)[j + 1]? = some mm → S 1 23 (640 * r + j) = mm.1 ∧ S 1 24 (640 * r + j) = mm.2.1 ∧ S 1 25 (640 * r + j) = mm.2.2) ∧ ∀ (j : Nat) (mm : aM), k ≤ j → (σ.2.1 r)[j]? = some mm → S 1 23 (640 * r + j) = mm.1 ∧ S 1 24 (640 * r + j) = mm.2.1 ∧ S 1 25 (640 * r + j) = mm.2.2
theorem rCut_0 {σ : aS} {r : Nat} {S : zSt} (h : rRel σ S) (hr : r < 100) (hl : 0 < (σ.2.1 r).length) : rCut σ r 0 (z3 S 1 22 r (nI (σ.2.1 r).length - 1)) := by
  refine ⟨fun a b x hn => ?_, fun q hq hqr => ?_, ⟨?_, (h.2 r hr).1.2⟩, fun j mm hj => absurd hj (Nat.not_lt_zero _), fun j mm _ hm => ?_⟩
  · simp only [z3]
    rw [if_neg (by omega)]
    exact h.1 a b x hn
  · obtain ⟨h1, h2⟩ := h.2 q hq
    refine ⟨by simpa [z3, hqr] using h1, fun j mm hm => ?_⟩
    simpa [z3] using h2 j mm hm
  · simp [z3, nI_sub1 hl]
  · simpa [z3] using (h.2 r hr).2 j mm hm
theorem rCut_s {σ : aS} {r k : Nat} {S : zSt} {mm : aM} (h : rCut σ r k S) (hr : r < 100) (hm : (σ.2.1 r)[k + 1]? = some mm) : rCut σ r (k + 1) (z3 (z3 (z3 S 1 23 (640 * r + k) mm.1) 1 24 (640 * r + k) mm.2.1) 1 25 (640 * r + k) mm.2.2) := by
  obtain ⟨h1, h2, h3, h4, h5⟩ := h
  have hkl := (List.getElem?_eq_some_iff.mp hm).1
  have hlen := h3.2
  refine ⟨fun a b x hn => ?_, fun q hq hqr => ?_, ⟨by simpa [z3] using h3.1, h3.2⟩, fun j m2 hj hm2 => ?_, fun j m2 hj hm2 => ?_⟩
  · simp only [z3]
    rw [if_neg (by omega), if_neg (by omega), if_neg (by omega)]
    exact h1 a b x hn
  · obtain ⟨g1, g2⟩ := h2 q hq hqr
    refine ⟨by simpa [z3] using g1, fun j m2 hm2 => ?_⟩
    have hjl := (List.getElem?_eq_some_iff.mp hm2).1
    have hg := g1.2
    have hne : ¬ (640 * q + j = 640 * r + k) := by omega
    simpa [z3, hne] using g2 j m2 hm2
  · by_cases hjk : j = k
    · subst hjk
      have e : m2 = mm := by rw [hm] at hm2; exact (Option.some.inj hm2).symm
      subst e
      simp [z3]
    · have hne : ¬ (j = k) := hjk
      simpa [z3, hne] using h4 j m2 (by omega) hm2
  · have hne : ¬ (j = k) := by omega
    simpa [z3, hne] using h5 j m2 (by omega) hm2
theorem rCut_e {σ : aS} {r k : Nat} {S : zSt} (h : rCut σ r k S) (hk : k + 1 = (σ.2.1 r).length) : rRel (aTail σ r) S := by
  obtain ⟨h1, h2, h3, h4, h5⟩ := h
  refine ⟨h1, fun q hq => ?_⟩
  by_cases hqr : q = r
  · subst hqr
    simp only [aTail, if_true]
    refine ⟨⟨by rw [List.length_tail]; exact h3.1, by rw [List.length_tail]; omega⟩, fun j mm hm => ?_⟩
    rw [List.getElem?_tail] at hm
    have := (List.getElem?_eq_some_iff.mp hm).1
    exact h4 j mm (by omega) hm
  · simp only [aTail, if_neg hqr]
    exact h2 q hq hqr
theorem aQual_of {σ τ : aS} {k : Nat} (h1 : τ.1 0 0 1 = σ.1 0 0 1) (h2 : τ.1 0 0 2 = σ.1 0 0 2) (h8 : τ.1 1 8 k = σ.1 1 8 k) (h9 : τ.1 1 9 k = σ.1 1 9 k) (h10 : τ.1 1 10 k = σ.1 1 10 k) : aQual τ k = aQual σ k := by
  simp [aQual, aTree, h1, h2, h8, h9, h10]
theorem aTake_O {n : Nat} {σ : aS} {i j k : Nat} {m : aM} (hkj : k ≠ j) : aQual (aTake n σ i j m) k = aQual σ k := by
  unfold aTake
  split
  · unfold aWork
    dsimp only
    split <;> refine aQual_of ?_ ?_ ?_ ?_ ?_ <;> simp [aN, aPush, z3, hkj]
  split
  · refine aQual_of ?_ ?_ ?_ ?_ ?_ <;> simp [aN, z3, hkj]
  split
  · refine aQual_of ?_ ?_ ?_ ?_ ?_ <;> simp [aN, z3]
  split
  · refine aQual_of ?_ ?_ ?_ ?_ ?_ <;> simp [aN, z3]
  split
  · refine aQual_of ?_ ?_ ?_ ?_ ?_ <;> simp [aN, z3]
  · unfold aProbed
    split
    · rfl
    split
    · unfold aDead
      dsimp only
      split <;> refine aQual_of ?_ ?_ ?_ ?_ ?_ <;> simp [aN, z3]
    split
    · refine aQual_of ?_ ?_ ?_ ?_ ?_ <;> simp [aN, aAll, z3]
    · rfl
theorem aTake_P {n : Nat} {σ : aS} {i j : Nat} {m : aM} (h : aQual (aTake n σ i j m) j = true) : (aTake n σ i j m).1 1 9 j = σ.1 1 9 j := by
  have h8 := (aQual_iff.mp h).2.1
  revert h8
  unfold aTake
  split
  · unfold aWork
    dsimp only
    split <;> simp [aN, aPush, z3]
  split
  · simp [aN, z3]
  split
  · simp [aN, z3]
  split
  · simp [aN, z3]
  split
  · simp [aN, z3]
  · unfold aProbed
    split
    · simp
    split
    · unfold aDead
      dsimp only
      split <;> simp [aN, z3]
    split
    · simp [aN, aAll, z3]
    · simp
theorem aPush_len {σ : aS} {r q : Nat} {m : aM} : ((aPush σ r m).2.1 q).length ≤ (σ.2.1 q).length + 1 := by
  simp only [aPush]
  split
  · rename_i h; subst h; simp
  · omega
theorem aAll_len {σ : aS} {p q n : Nat} {f : Nat → Bool} {m : aM} : ((aAll σ p f n m).2.1 q).length ≤ (σ.2.1 q).length + 1 := by
  simp only [aAll]
  split
  · simp
  · omega
theorem aTake_L {n : Nat} {σ : aS} {i j : Nat} {m : aM} (r : Nat) : ((aTake n σ i j m).2.1 r).length ≤ (σ.2.1 r).length + 1 := by
  unfold aTake
  split
  · unfold aWork
    dsimp only
    split
    · exact aPush_len (σ := aN (aN (aN σ 1 8 j 1) 1 12 j 1) 1 11 j (σ.1 1 11 j - 1))
    · exact Nat.le_succ _
  split
  · exact Nat.le_succ _
  split
  · exact Nat.le_succ _
  split
  · exact Nat.le_succ _
  split
  · exact Nat.le_succ _
  · unfold aProbed
    split
    · exact Nat.le_succ _
    split
    · unfold aDead
      dsimp only
      split <;> exact Nat.le_succ _
    split
    · exact aAll_len (σ := aN σ 1 18 (10 * j + m.2.1.toNatClampNeg) m.2.2)
    · exact Nat.le_succ _
theorem aB.all {n : Nat} {σ : aS} {p k : Nat} {f : Nat → Bool} {m : aM} (hB : aB n σ) : aB n (aAll σ p f k m) := hB
theorem aTake_B {n : Nat} {σ : aS} {i j : Nat} {m : aM} (hB : aB n σ) : aB n (aTake n σ i j m) := by
  unfold aTake
  split
  · have hB2 : aB n (aN (aN (aN σ 1 8 j 1) 1 12 j 1) 1 11 j (σ.1 1 11 j - 1)) := ((hB.a (fun _ => Or.inr rfl)).a (fun _ => Or.inr rfl)).a (fun h => by omega)
    unfold aWork
    dsimp only
    split
    · exact hB2.p
    · exact hB2.a (fun h => by omega)
  split
  · exact hB.a (fun h => by omega)
  split
  · exact hB.a (fun _ => Or.inr rfl)
  split
  · exact hB.a (fun _ => Or.inr rfl)
  split
  · exact (hB.a (fun _ => Or.inl rfl)).a (fun h => by omega)
  · unfold aProbed
    split
    · exact hB
    split
    · unfold aDead
      dsimp only
      have hB2 : aB n (aN (aN σ 1 14 m.2.1.toNatClampNeg (σ.1 1 14 m.2.1.toNatClampNeg + 1)) 0 0 7 (σ.1 0 0 7 + 1)) := (hB.a (fun h => by omega)).g (by decide) (fun h => by omega)
      split
      · exact hB2.g (by decide) (fun h => by omega)
      · exact hB2
    split
    · exact (hB.a (σ := σ) (k := 18) (fun h => by omega)).all
    · exact hB
set_option maxHeartbeats 4000000 in
set_option maxRecDepth 100000 in
theorem k_X4_receive {l : Launch} {D : va_G} {K : zKs} {ad : zAd} {S : zSt} {σ : aS} {n i j : Nat} (hS : aSafe n σ) (hR : rRel σ S) (hi : i < n) (hj : j < n) (hij : i ≠ j) : zMet l yX4_receive cX4_receive 9 (some .int) { frames := 4, cells := 0, slots := 0, locals := 96 } D K rIL (rSh K) ad S [.ref (ad (0, 0)), .int (nI i), .int (nI j)] (zR (some (.int (fRecv n σ i j).1)) (rSh K) ad (rRel (fRecv n σ i j).2)) := by
  refine zEnter (own := RX4) (lv0 := [some (.ref (ad (0, 0))), some (.int (nI i)), some (.int (nI j)), none, none, none, none, none, none]) (by decide) rfl (by simp [Value.category]) (Nat.le_of_ble_eq_true rfl) rfl ?_
  intro p e s m below meth c A C _ hnm
  have hB := hS.1
  have hn := hB.2.2.1
  have hr : 10 * i + j < 100 := r10 hi hj hn
  have hlen := hS.2.2.2.1 _ hr
  rcases hl : σ.2.1 (10 * i + j) with _ | ⟨m0, tl⟩
  · have ef : fRecv n σ i j = (-1, σ) := by simp only [fRecv, hl]
    refine Zr_aload_n C dX4_receive_0 rfl ?_
    refine Zr_iload_n C dX4_receive_1 rfl ?_
    refine Zr_iload_n C dX4_receive_2 rfl ?_
    refine Zr_callV C cw_X4_103 (k_X4_isRow_t hB hR hi hj hij) qm0 rfl rfl rfl (Nat.le_of_ble_eq_true rfl) (Nat.le_of_ble_eq_true rfl) rfl (Nat.le_of_ble_eq_true rfl) dX4_receive_3 ⟨Nat.zero_le _, Nat.zero_le _⟩ ?_
    refine Zr_if_eq C 22 dX4_receive_6 (by decide) (fun h6 => absurd h6 (by decide)) (fun h6 => ?_)
    refine Zr_aload_n C dX4_receive_9 rfl ?_
    refine Zr_getR C gf_X4_44 qm0 rfl rfl rfl (by decide) dX4_receive_10 ?_
    refine Zr_iload_n C dX4_receive_13 rfl ?_
    refine Zr_iload_n C dX4_receive_14 rfl ?_
    refine Zr_callS C cw_X4_68 (k_X4_row (i := i) (j := j)) rfl (Nat.le_of_ble_eq_true rfl) (Nat.le_of_ble_eq_true rfl) rfl (Nat.le_of_ble_eq_true rfl) dX4_receive_15 ⟨Nat.zero_le _, Nat.zero_le _⟩ ?_
    refine Zr_ialdN C qm_22 rfl rfl hr (by decide) ((rmy hR hr).trans (by rw [hl]; rfl : _ = (0 : Int32))) dX4_receive_18 ?_
    refine Zr_if_ne C 24 dX4_receive_19 (by decide) (fun h19 => absurd rfl h19) (fun h19 => ?_)
    refine Zr_iconst C (-1) dX4_receive_22 rfl ?_
    exact Zr_iret C dX4_receive_23 (Nat.zero_le _) (Nat.zero_le _) (by rw [ef]; exact ⟨rfl, rfl, rfl, hR⟩)
  · have ef : fRecv n σ i j = (m0.1, aLeave n (aTake n (aN (aTail σ (10 * i + j)) 0 0 6 (σ.1 0 0 6 + 1)) i j m0) j) := by simp only [fRecv, hl]
    have hlz : 0 < (σ.2.1 (10 * i + j)).length := by rw [hl]; simp
    have hm0 : (σ.2.1 (10 * i + j))[0]? = some m0 := by rw [hl]; rfl
    have hg0 := (hR.2 _ hr).2 0 m0 hm0
    have hBs : aB n (aN (aTail σ (10 * i + j)) 0 0 6 (σ.1 0 0 6 + 1)) := (hB.t).g (by decide) (fun h => by omega)
    have hLs : ∀ r, r < 100 → ((aN (aTail σ (10 * i + j)) 0 0 6 (σ.1 0 0 6 + 1)).2.1 r).length ≤ 630 := by
      intro r hr
      simp only [aN, aTail]
      split
      · rw [List.length_tail]; omega
      · exact hS.2.2.2.1 r hr
    have hLs2 : ∀ r, r < 100 → ((aN (aTail σ (10 * i + j)) 0 0 6 (σ.1 0 0 6 + 1)).2.1 r).length < 640 := fun r hr => Nat.lt_of_le_of_lt (hLs r hr) (by decide)
    have fin : ∀ S, rRel (aTake n (aN (aTail σ (10 * i + j)) 0 0 6 (σ.1 0 0 6 + 1)) i j m0) S → Z p l e ({ frames := 4, cells := 0, slots := 0, locals := 96 } : Room) s m ([.ref (ad (0, 0)), .int (nI i), .int (nI j)] : List Value).toArray below meth c D A 9 (MQ below (zQ (zR (some (.int (fRecv n σ i j).1)) (rSh K) ad (rRel (fRecv n σ i j).2)) rIL D A) ([.ref (ad (0, 0)), .int (nI i), .int (nI j)] : List Value).toArray s 0 0 A) rIL 0 0 (rSh K) ad S (262) ([some (.ref (ad (0, 0))), some (.int (nI i)), some (.int (nI j)), some (.int (nI (10 * i + j))), some (.int (nI (640 * (10 * i + j)))), some (.int m0.1), some (.int m0.2.1), some (.int m0.2.2), none]) ([]) := by
      intro S hR
      have hO : ∀ k, k < n → k ≠ j → aQual (aTake n (aN (aTail σ (10 * i + j)) 0 0 6 (σ.1 0 0 6 + 1)) i j m0) k = false := by
        intro k hk hkj
        rw [aTake_O hkj, ← hS.2.1 k hk]
        refine aQual_of ?_ ?_ ?_ ?_ ?_ <;> simp [aN, aTail, z3]
      have hpar : aQual (aTake n (aN (aTail σ (10 * i + j)) 0 0 6 (σ.1 0 0 6 + 1)) i j m0) j = true → j ≠ 0 → ∃ k, k < n ∧ (aTake n (aN (aTail σ (10 * i + j)) 0 0 6 (σ.1 0 0 6 + 1)) i j m0).1 1 9 j = nI k ∧ ((aTake n (aN (aTail σ (10 * i + j)) 0 0 6 (σ.1 0 0 6 + 1)) i j m0).2.1 (10 * j + k)).length < 640 := by
        intro h1 h2
        have h3 := aTake_P h1
        have h4 : (aTake n (aN (aTail σ (10 * i + j)) 0 0 6 (σ.1 0 0 6 + 1)) i j m0).1 1 9 j ≠ -1 := by
          have := (aQual_iff.mp h1).1
          simpa [aTree, h2] using this
        have h5 : (aN (aTail σ (10 * i + j)) 0 0 6 (σ.1 0 0 6 + 1)).1 1 9 j = σ.1 1 9 j := by simp [aN, aTail, z3]
        rw [h3, h5] at h4
        obtain ⟨k, hk, -, hk2⟩ := hS.2.2.1 j hj h2 h4
        refine ⟨k, hk, by rw [h3, h5]; exact hk2, ?_⟩
        have h6 := aTake_L (n := n) (σ := (aN (aTail σ (10 * i + j)) 0 0 6 (σ.1 0 0 6 + 1))) (i := i) (j := j) (m := m0) (10 * j + k)
        have h7 := hLs (10 * j + k) (by omega)
        omega
      refine Zr_aload_n C dX4_receive_262 rfl ?_
      refine Zr_callVRv C cw_X4_110 (k_X4_settles (i0 := j) (aTake_B hBs) hR hj hO hpar) qm0 rfl rfl rfl (Nat.le_of_ble_eq_true rfl) (Nat.le_of_ble_eq_true rfl) rfl (Nat.le_of_ble_eq_true rfl) dX4_receive_263 ⟨Nat.zero_le _, Nat.zero_le _⟩ (fun S hR => ?_)
      refine Zr_iload C dX4_receive_266 rfl ?_
      exact Zr_iret C dX4_receive_268 (Nat.zero_le _) (Nat.zero_le _) (by rw [ef]; exact ⟨rfl, rfl, rfl, hR⟩)
    have mid : ∀ S, rRel (aN (aTail σ (10 * i + j)) 0 0 6 (σ.1 0 0 6 + 1)) S → Z p l e ({ frames := 4, cells := 0, slots := 0, locals := 96 } : Room) s m ([.ref (ad (0, 0)), .int (nI i), .int (nI j)] : List Value).toArray below meth c D A 9 (MQ below (zQ (zR (some (.int (fRecv n σ i j).1)) (rSh K) ad (rRel (fRecv n σ i j).2)) rIL D A) ([.ref (ad (0, 0)), .int (nI i), .int (nI j)] : List Value).toArray s 0 0 A) rIL 0 0 (rSh K) ad S (156) ([some (.ref (ad (0, 0))), some (.int (nI i)), some (.int (nI j)), some (.int (nI (10 * i + j))), some (.int (nI (640 * (10 * i + j)))), some (.int m0.1), some (.int m0.2.1), some (.int m0.2.2), none]) ([]) := by
      intro S hR
      have hk := hS.2.2.2.2 _ hr m0 (List.mem_of_getElem? hm0)
      rcases hk with hk | hk | hk | hk | hk | ⟨hk, i6, hi6, hi62⟩
      · refine Zr_iload C dX4_receive_156 rfl ?_
        refine Zr_topi (y := 1) hk ?_
        refine Zr_tableIn C 192 dX4_receive_158 (by decide) (by decide) rfl (by decide) ?_
        refine Zr_aload_n C dX4_receive_192 rfl ?_
        refine Zr_iload_n C dX4_receive_193 rfl ?_
        refine Zr_iload_n C dX4_receive_194 rfl ?_
        refine Zr_callVRv C cw_X4_144 (k_X4_work hBs hR hi hj (hLs2 _ (by omega))) qm0 rfl rfl rfl (Nat.le_of_ble_eq_true rfl) (Nat.le_of_ble_eq_true rfl) rfl (Nat.le_of_ble_eq_true rfl) dX4_receive_195 ⟨Nat.zero_le _, Nat.zero_le _⟩ (fun S hR => ?_)
        refine Zr_goto C 262 dX4_receive_198 (by decide) ?_
        exact fin S (by simp only [aTake, hk]; exact hR)
      · refine Zr_iload C dX4_receive_156 rfl ?_
        refine Zr_topi (y := 2) hk ?_
        refine Zr_tableIn C 201 dX4_receive_158 (by decide) (by decide) rfl (by decide) ?_
        refine Zr_aload_n C dX4_receive_201 rfl ?_
        refine Zr_getR C gf_X4_17 qm0 rfl rfl rfl (by decide) dX4_receive_202 ?_
        refine Zr_iload_n C dX4_receive_205 rfl ?_
        refine Zr_dup2 C dX4_receive_206 rfl rfl ?_
        refine Zr_ialdN C qm_10 rfl rfl (by omega) (by decide) (ra hR (by decide)) dX4_receive_207 ?_
        refine Zr_iconst C (1) dX4_receive_208 rfl ?_
        refine Zr_isub C dX4_receive_209 ?_
        refine Zr_iastN C qm_10 rfl rfl (by omega) (by decide) (rRa hR (by decide)) dX4_receive_210 (fun S hR => ?_)
        refine Zr_goto C 262 dX4_receive_211 (by decide) ?_
        exact fin S (by simp only [aTake, hk]; exact hR)
      · refine Zr_iload C dX4_receive_156 rfl ?_
        refine Zr_topi (y := 3) hk ?_
        refine Zr_tableIn C 214 dX4_receive_158 (by decide) (by decide) rfl (by decide) ?_
        refine Zr_aload_n C dX4_receive_214 rfl ?_
        refine Zr_getR C gf_X4_26 qm0 rfl rfl rfl (by decide) dX4_receive_215 ?_
        refine Zr_iload_n C dX4_receive_218 rfl ?_
        refine Zr_iconst C (1) dX4_receive_219 rfl ?_
        refine Zr_zastN C qm_13 rfl rfl (by omega) (by decide) (by first | exact Or.inl rfl | exact Or.inr rfl | assumption) (rRa hR (by decide)) dX4_receive_220 (fun S hR => ?_)
        refine Zr_goto C 262 dX4_receive_221 (by decide) ?_
        exact fin S (by simp only [aTake, hk]; exact hR)
      · refine Zr_iload C dX4_receive_156 rfl ?_
        refine Zr_topi (y := 4) hk ?_
        refine Zr_tableIn C 224 dX4_receive_158 (by decide) (by decide) rfl (by decide) ?_
        refine Zr_aload_n C dX4_receive_224 rfl ?_
        refine Zr_getR C gf_X4_38 qm0 rfl rfl rfl (by decide) dX4_receive_225 ?_
        refine Zr_iload_n C dX4_receive_228 rfl ?_
        refine Zr_iload_n C dX4_receive_229 rfl ?_
        refine Zr_callS C cw_X4_68 (k_X4_row (i := j) (j := i)) rfl (Nat.le_of_ble_eq_true rfl) (Nat.le_of_ble_eq_true rfl) rfl (Nat.le_of_ble_eq_true rfl) dX4_receive_230 ⟨Nat.zero_le _, Nat.zero_le _⟩ ?_
        refine Zr_iconst C (1) dX4_receive_233 rfl ?_
        refine Zr_zastN C qm_17 rfl rfl (by omega) (by decide) (by first | exact Or.inl rfl | exact Or.inr rfl | assumption) (rRa hR (by decide)) dX4_receive_234 (fun S hR => ?_)
        refine Zr_goto C 262 dX4_receive_235 (by decide) ?_
        exact fin S (by simp only [aTake, hk]; exact hR)
      · refine Zr_iload C dX4_receive_156 rfl ?_
        refine Zr_topi (y := 5) hk ?_
        refine Zr_tableIn C 238 dX4_receive_158 (by decide) (by decide) rfl (by decide) ?_
        refine Zr_aload_n C dX4_receive_238 rfl ?_
        refine Zr_getR C gf_X4_35 qm0 rfl rfl rfl (by decide) dX4_receive_239 ?_
        refine Zr_iload_n C dX4_receive_242 rfl ?_
        refine Zr_iload_n C dX4_receive_243 rfl ?_
        refine Zr_callS C cw_X4_68 (k_X4_row (i := j) (j := i)) rfl (Nat.le_of_ble_eq_true rfl) (Nat.le_of_ble_eq_true rfl) rfl (Nat.le_of_ble_eq_true rfl) dX4_receive_244 ⟨Nat.zero_le _, Nat.zero_le _⟩ ?_
        refine Zr_iconst C (0) dX4_receive_247 rfl ?_
        refine Zr_zastN C qm_16 rfl rfl (by omega) (by decide) (by first | exact Or.inl rfl | exact Or.inr rfl | assumption) (rRa hR (by decide)) dX4_receive_248 (fun S hR => ?_)
        refine Zr_goto C 262 dX4_receive_249 (by decide) ?_
        exact fin S (by simp only [aTake, hk]; exact rRy (by decide) hR)
      · refine Zr_iload C dX4_receive_156 rfl ?_
        refine Zr_topi (y := 6) hk ?_
        refine Zr_tableOut C 252 dX4_receive_158 (Or.inr (by decide)) (by decide) ?_
        refine Zr_aload_n C dX4_receive_252 rfl ?_
        refine Zr_iload_n C dX4_receive_253 rfl ?_
        refine Zr_iload_n C dX4_receive_254 rfl ?_
        refine Zr_iload C dX4_receive_255 rfl ?_
        refine Zr_topi (y := nI i6) hi62 ?_
        refine Zr_iload C dX4_receive_257 rfl ?_
        refine Zr_callVRv C cw_X4_148 (k_X4_probed hBs hR hi hj hi6 hLs2) qm0 rfl rfl rfl (Nat.le_of_ble_eq_true rfl) (Nat.le_of_ble_eq_true rfl) rfl (Nat.le_of_ble_eq_true rfl) dX4_receive_259 ⟨Nat.zero_le _, Nat.zero_le _⟩ (fun S hR => ?_)
        exact fin S (by simp only [aTake, hk, hi62, nI_clamp (show i6 < 2 ^ 31 by omega)]; exact hR)
    have key : ∀ (d k : Nat) (S : zSt), k + d + 1 = (σ.2.1 (10 * i + j)).length → rCut σ (10 * i + j) k S → Z p l e ({ frames := 4, cells := 0, slots := 0, locals := 96 } : Room) s m ([.ref (ad (0, 0)), .int (nI i), .int (nI j)] : List Value).toArray below meth c D A 9 (MQ below (zQ (zR (some (.int (fRecv n σ i j).1)) (rSh K) ad (rRel (fRecv n σ i j).2)) rIL D A) ([.ref (ad (0, 0)), .int (nI i), .int (nI j)] : List Value).toArray s 0 0 A) rIL 0 0 (rSh K) ad S (78) ([some (.ref (ad (0, 0))), some (.int (nI i)), some (.int (nI j)), some (.int (nI (10 * i + j))), some (.int (nI (640 * (10 * i + j)))), some (.int m0.1), some (.int m0.2.1), some (.int m0.2.2), some (.int (nI (640 * (10 * i + j) + k)))]) ([]) := by
      intro d
      induction d with
      | zero =>
        intro k S hk hR
        have hR2 := rCut_e hR (by omega)
        refine Zr_iload C dX4_receive_78 rfl ?_
        refine Zr_iload C dX4_receive_80 rfl ?_
        refine Zr_aload_n C dX4_receive_82 rfl ?_
        refine Zr_getR C gf_X4_44 qm0 rfl rfl rfl (by decide) dX4_receive_83 ?_
        refine Zr_iload_n C dX4_receive_86 rfl ?_
        refine Zr_ialdN C qm_22 rfl rfl hr (by decide) hR.2.2.1.1 dX4_receive_87 ?_
        refine Zr_iadd C dX4_receive_88 ?_
        refine Zr_topi (y := nI (640 * (10 * i + j) + ((σ.2.1 (10 * i + j)).length - 1))) (nI_add _ _) ?_
        refine Zr_icmp_ge C 146 dX4_receive_89 (by decide) (fun h89 => ?_) (fun h89 => absurd (nI_le (show 640 * (10 * i + j) + ((σ.2.1 (10 * i + j)).length - 1) ≤ 640 * (10 * i + j) + k by omega) (by omega)) h89)
        refine Zr_aload_n C dX4_receive_146 rfl ?_
        refine Zr_dup C dX4_receive_147 rfl ?_
        refine Zr_getE C gf_X4_141 qm0 rfl rfl rfl (rg hR2) dX4_receive_148 ?_
        refine Zr_iconst C (1) dX4_receive_151 rfl ?_
        refine Zr_iadd C dX4_receive_152 ?_
        refine Zr_putE C pf_X4_141 qm0 rfl rfl rfl (znI _) (rRg hR2) dX4_receive_153 (fun S hR => ?_)
        exact Zr_forget 8 (mid S hR)
      | succ d ih =>
        intro k S hk hR
        obtain ⟨mm, hmm⟩ : ∃ mm, (σ.2.1 (10 * i + j))[k + 1]? = some mm := ⟨_, List.getElem?_eq_getElem (by omega)⟩
        have hg := hR.2.2.2.2 (k + 1) mm (by omega) hmm
        refine Zr_iload C dX4_receive_78 rfl ?_
        refine Zr_iload C dX4_receive_80 rfl ?_
        refine Zr_aload_n C dX4_receive_82 rfl ?_
        refine Zr_getR C gf_X4_44 qm0 rfl rfl rfl (by decide) dX4_receive_83 ?_
        refine Zr_iload_n C dX4_receive_86 rfl ?_
        refine Zr_ialdN C qm_22 rfl rfl hr (by decide) hR.2.2.1.1 dX4_receive_87 ?_
        refine Zr_iadd C dX4_receive_88 ?_
        refine Zr_topi (y := nI (640 * (10 * i + j) + ((σ.2.1 (10 * i + j)).length - 1))) (nI_add _ _) ?_
        refine Zr_icmp_ge C 146 dX4_receive_89 (by decide) (fun h89 => absurd h89 (nI_ge (show 640 * (10 * i + j) + k < 640 * (10 * i + j) + ((σ.2.1 (10 * i + j)).length - 1) by omega) (by omega))) (fun h89 => ?_)
        refine Zr_aload_n C dX4_receive_92 rfl ?_
        refine Zr_getR C gf_X4_48 qm0 rfl rfl rfl (by decide) dX4_receive_93 ?_
        refine Zr_iload C dX4_receive_96 rfl ?_
        refine Zr_aload_n C dX4_receive_98 rfl ?_
        refine Zr_getR C gf_X4_48 qm0 rfl rfl rfl (by decide) dX4_receive_99 ?_
        refine Zr_iload C dX4_receive_102 rfl ?_
        refine Zr_iconst C (1) dX4_receive_104 rfl ?_
        refine Zr_iadd C dX4_receive_105 ?_
        refine Zr_topi (y := nI (640 * (10 * i + j) + (k + 1))) (nI_1 _) ?_
        refine Zr_ialdN C qm_23 rfl rfl (by omega) (by decide) hg.1 dX4_receive_106 ?_
        refine Zr_iastN (Rel := fun X => X = _) C qm_23 rfl rfl (by omega) (by decide) rfl dX4_receive_107 (fun S1 hS1 => ?_)
        subst hS1
        refine Zr_aload_n C dX4_receive_108 rfl ?_
        refine Zr_getR C gf_X4_51 qm0 rfl rfl rfl (by decide) dX4_receive_109 ?_
        refine Zr_iload C dX4_receive_112 rfl ?_
        refine Zr_aload_n C dX4_receive_114 rfl ?_
        refine Zr_getR C gf_X4_51 qm0 rfl rfl rfl (by decide) dX4_receive_115 ?_
        refine Zr_iload C dX4_receive_118 rfl ?_
        refine Zr_iconst C (1) dX4_receive_120 rfl ?_
        refine Zr_iadd C dX4_receive_121 ?_
        refine Zr_topi (y := nI (640 * (10 * i + j) + (k + 1))) (nI_1 _) ?_
        refine Zr_ialdN C qm_24 rfl rfl (by omega) (by decide) (by simp [z3]; exact hg.2.1) dX4_receive_122 ?_
        refine Zr_iastN (Rel := fun X => X = _) C qm_24 rfl rfl (by omega) (by decide) rfl dX4_receive_123 (fun S1 hS1 => ?_)
        subst hS1
        refine Zr_aload_n C dX4_receive_124 rfl ?_
        refine Zr_getR C gf_X4_54 qm0 rfl rfl rfl (by decide) dX4_receive_125 ?_
        refine Zr_iload C dX4_receive_128 rfl ?_
        refine Zr_aload_n C dX4_receive_130 rfl ?_
        refine Zr_getR C gf_X4_54 qm0 rfl rfl rfl (by decide) dX4_receive_131 ?_
        refine Zr_iload C dX4_receive_134 rfl ?_
        refine Zr_iconst C (1) dX4_receive_136 rfl ?_
        refine Zr_iadd C dX4_receive_137 ?_
        refine Zr_topi (y := nI (640 * (10 * i + j) + (k + 1))) (nI_1 _) ?_
        refine Zr_ialdN C qm_25 rfl rfl (by omega) (by decide) (by simp [z3]; exact hg.2.2) dX4_receive_138 ?_
        refine Zr_iastN (Rel := fun X => X = _) C qm_25 rfl rfl (by omega) (by decide) rfl dX4_receive_139 (fun S1 hS1 => ?_)
        subst hS1
        refine Zr_iincE C (1) (nI (640 * (10 * i + j) + (k + 1))) dX4_receive_140 (by decide) rfl rfl (nI_1 _) ?_
        refine Zr_goto C 78 dX4_receive_143 (by decide) ?_
        exact ih (k + 1) _ (by omega) (rCut_s hR hr hmm)
    refine Zr_aload_n C dX4_receive_0 rfl ?_
    refine Zr_iload_n C dX4_receive_1 rfl ?_
    refine Zr_iload_n C dX4_receive_2 rfl ?_
    refine Zr_callV C cw_X4_103 (k_X4_isRow_t hB hR hi hj hij) qm0 rfl rfl rfl (Nat.le_of_ble_eq_true rfl) (Nat.le_of_ble_eq_true rfl) rfl (Nat.le_of_ble_eq_true rfl) dX4_receive_3 ⟨Nat.zero_le _, Nat.zero_le _⟩ ?_
    refine Zr_if_eq C 22 dX4_receive_6 (by decide) (fun h6 => absurd h6 (by decide)) (fun h6 => ?_)
    refine Zr_aload_n C dX4_receive_9 rfl ?_
    refine Zr_getR C gf_X4_44 qm0 rfl rfl rfl (by decide) dX4_receive_10 ?_
    refine Zr_iload_n C dX4_receive_13 rfl ?_
    refine Zr_iload_n C dX4_receive_14 rfl ?_
    refine Zr_callS C cw_X4_68 (k_X4_row (i := i) (j := j)) rfl (Nat.le_of_ble_eq_true rfl) (Nat.le_of_ble_eq_true rfl) rfl (Nat.le_of_ble_eq_true rfl) dX4_receive_15 ⟨Nat.zero_le _, Nat.zero_le _⟩ ?_
    refine Zr_ialdN C qm_22 rfl rfl hr (by decide) (rmy hR hr) dX4_receive_18 ?_
    refine Zr_if_ne C 24 dX4_receive_19 (by decide) (fun h19 => ?_) (fun h19 => absurd h19 (nI_ne0 hlz (by omega)))
    refine Zr_iload_n C dX4_receive_24 rfl ?_
    refine Zr_iload_n C dX4_receive_25 rfl ?_
    refine Zr_callS C cw_X4_68 (k_X4_row (i := i) (j := j)) rfl (Nat.le_of_ble_eq_true rfl) (Nat.le_of_ble_eq_true rfl) rfl (Nat.le_of_ble_eq_true rfl) dX4_receive_26 ⟨Nat.zero_le _, Nat.zero_le _⟩ ?_
    refine Zr_istore_n C dX4_receive_29 (by decide) ?_
    refine Zr_sipush C (640) dX4_receive_30 rfl ?_
    refine Zr_iload_n C dX4_receive_33 rfl ?_
    refine Zr_imul C dX4_receive_34 ?_
    refine Zr_topi (y := nI (640 * (10 * i + j))) (by rw [show (640 : Int32) = nI 640 from rfl, pk_mul]) ?_
    refine Zr_istore C dX4_receive_35 (by decide) ?_
    refine Zr_aload_n C dX4_receive_37 rfl ?_
    refine Zr_getR C gf_X4_48 qm0 rfl rfl rfl (by decide) dX4_receive_38 ?_
    refine Zr_iload C dX4_receive_41 rfl ?_
    refine Zr_ialdN C qm_23 rfl rfl (by omega) (by decide) hg0.1 dX4_receive_43 ?_
    refine Zr_istore C dX4_receive_44 (by decide) ?_
    refine Zr_aload_n C dX4_receive_46 rfl ?_
    refine Zr_getR C gf_X4_51 qm0 rfl rfl rfl (by decide) dX4_receive_47 ?_
    refine Zr_iload C dX4_receive_50 rfl ?_
    refine Zr_ialdN C qm_24 rfl rfl (by omega) (by decide) hg0.2.1 dX4_receive_52 ?_
    refine Zr_istore C dX4_receive_53 (by decide) ?_
    refine Zr_aload_n C dX4_receive_55 rfl ?_
    refine Zr_getR C gf_X4_54 qm0 rfl rfl rfl (by decide) dX4_receive_56 ?_
    refine Zr_iload C dX4_receive_59 rfl ?_
    refine Zr_ialdN C qm_25 rfl rfl (by omega) (by decide) hg0.2.2 dX4_receive_61 ?_
    refine Zr_istore C dX4_receive_62 (by decide) ?_
    refine Zr_aload_n C dX4_receive_64 rfl ?_
    refine Zr_getR C gf_X4_44 qm0 rfl rfl rfl (by decide) dX4_receive_65 ?_
    refine Zr_iload_n C dX4_receive_68 rfl ?_
    refine Zr_dup2 C dX4_receive_69 rfl rfl ?_
    refine Zr_ialdN C qm_22 rfl rfl hr (by decide) (rmy hR hr) dX4_receive_70 ?_
    refine Zr_iconst C (1) dX4_receive_71 rfl ?_
    refine Zr_isub C dX4_receive_72 ?_
    refine Zr_iastN (Rel := fun X => X = _) C qm_22 rfl rfl hr (by decide) rfl dX4_receive_73 (fun S1 hS1 => ?_)
    subst hS1
    refine Zr_iload C dX4_receive_74 rfl ?_
    refine Zr_istore C dX4_receive_76 (by decide) ?_
    exact key ((σ.2.1 (10 * i + j)).length - 1) 0 _ (by omega) (rCut_0 hR hr hlz)
set_option maxHeartbeats 4000000 in
set_option maxRecDepth 100000 in
theorem k_X4_receive_f {l : Launch} {D : va_G} {K : zKs} {ad : zAd} {S : zSt} {σ : aS} {n : Nat} {x y : Int32} (hB : aB n σ) (hR : rRel σ S) (hx : aBad n x ∨ aBad n y ∨ x = y) : zMet l yX4_receive cX4_receive 9 (some .int) { frames := 4, cells := 0, slots := 0, locals := 96 } D K rIL (rSh K) ad S [.ref (ad (0, 0)), .int x, .int y] (zEq (some (.int (-1))) (rSh K) ad (S)) := by
  refine zEnter (own := RX4) (lv0 := [some (.ref (ad (0, 0))), some (.int x), some (.int y), none, none, none, none, none, none]) (by decide) rfl (by simp [Value.category]) (Nat.le_of_ble_eq_true rfl) rfl ?_
  intro p e s m below meth c A C _ hnm
  refine Zr_aload_n C dX4_receive_0 rfl ?_
  refine Zr_iload_n C dX4_receive_1 rfl ?_
  refine Zr_iload_n C dX4_receive_2 rfl ?_
  refine Zr_callV C cw_X4_103 (k_X4_isRow_f hB hR hx) qm0 rfl rfl rfl (Nat.le_of_ble_eq_true rfl) (Nat.le_of_ble_eq_true rfl) rfl (Nat.le_of_ble_eq_true rfl) dX4_receive_3 ⟨Nat.zero_le _, Nat.zero_le _⟩ ?_
  refine Zr_if_eq C 22 dX4_receive_6 (by decide) (fun h6 => ?_) (fun h6 => absurd rfl h6)
  refine Zr_iconst C (-1) dX4_receive_22 rfl ?_
  exact Zr_iret C dX4_receive_23 (Nat.zero_le _) (Nat.zero_le _) ⟨rfl, rfl, rfl, rfl⟩
end
section
theorem i32_nat (x : Int32) : x = nI x.toBitVec.toNat := by
  apply Int32.toBitVec_inj.mp
  show x.toBitVec = BitVec.ofNat 32 x.toBitVec.toNat
  simp
theorem i32_ush (x : Int32) : (x.toUInt32 >>> ((16 : Int32).toUInt32 &&& Int32.toUInt32 31)).toInt32 = nI (x.toBitVec.toNat / 65536) := by
  have h := pk_ushr x 16 16 (by decide)
  rw [i32_nat ((x.toUInt32 >>> ((16 : Int32).toUInt32 &&& Int32.toUInt32 31)).toInt32), h]
theorem i32_u16 (x : Int32) : x.toBitVec.toNat / 65536 < 65536 := by
  have := x.toBitVec.isLt
  omega
theorem nn_pos {n : Nat} (h : 2 ≤ n) : 0 < n * n := Nat.mul_pos (by omega) (by omega)
theorem nn_le {n : Nat} (h : n ≤ 10) : n * n ≤ 100 := Nat.mul_le_mul h h
theorem hH.lt {n : Nat} {h : Int32 → Nat} (hh : hH n h) (hn : 2 ≤ n) (s : Int32) : h s < n * n := by rw [hh s]; exact Nat.mod_lt _ (nn_pos hn)
theorem nn_p {n k : Nat} (h : k < n * n) : k / n < n := Nat.div_lt_of_lt_mul h
theorem nn_q {n k : Nat} (h : 2 ≤ n) : k % n < n := Nat.mod_lt _ (by omega)
theorem aRun_s {g : Int32 → Int32} {h : Int32 → Nat} {n : Nat} {seed : Int32} {σ : aS} {k : Nat} {u : Int32 × Int32 × aS} {s2 : Int32} {x : Nat} {v : Int32 × aS} (hu : u = aRun g h n seed σ k) (hs : s2 = g u.1) (hx : x = h s2) (hv : fStep n u.2.2 x = v) : (s2, (if v.1 = -1 then u.2.1 else u.2.1 + 1), v.2) = aRun g h n seed σ (k + 1) := by
  rw [aRun, ← hu, ← hs, ← hx, hv]
theorem aRun_I {g : Int32 → Int32} {h : Int32 → Nat} {n : Nat} {seed : Int32} {σ : aS} (I : aS → Prop) (hh : hH n h) (hn2 : 2 ≤ n) (hIp : ∀ τ, I τ → ∀ i, i < n → I (fPass n τ i).2) (hIr : ∀ τ, I τ → ∀ i j, i < n → j < n → i ≠ j → I (fRecv n τ i j).2) (hI : I σ) : ∀ k, I (aRun g h n seed σ k).2.2 := by
  intro k
  induction k with
  | zero => exact hI
  | succ k ih =>
    rw [aRun]
    have hx := hh.lt hn2 (g (aRun g h n seed σ k).1)
    generalize h (g (aRun g h n seed σ k).1) = x at hx
    dsimp only
    unfold fStep
    split
    · exact hIp _ ih _ (nn_p hx)
    · rename_i hne
      exact hIr _ ih _ _ (nn_p hx) (nn_q hn2) hne
set_option maxHeartbeats 4000000 in
set_option maxRecDepth 100000 in
theorem k_X4_run {l : Launch} {D : va_G} {K : zKs} {ad : zAd} {S : zSt} {σ : aS} {n t : Nat} {seed : Int32} {g : Int32 → Int32} {h : Int32 → Nat} (hg : hG g) (hh : hH n h) (I : aS → Prop) (hIS : ∀ τ, I τ → aSafe n τ) (hIp : ∀ τ, I τ → ∀ i, i < n → I (fPass n τ i).2) (hIr : ∀ τ, I τ → ∀ i j, i < n → j < n → i ≠ j → I (fRecv n τ i j).2) (hI : I σ) (hR : rRel σ S) (ht : t ≤ 2000) : zMet l yX4_run cX4_run 10 (some .int) { frames := 5, cells := 0, slots := 0, locals := 124 } D K rIL (rSh K) ad S [.ref (ad (0, 0)), .int (nI t), .int seed] (zR (some (.int (aRun g h n seed σ t).2.1)) (rSh K) ad (rRel (aRun g h n seed σ t).2.2)) := by
  refine zEnter (own := RX4) (lv0 := [some (.ref (ad (0, 0))), some (.int (nI t)), some (.int seed), none, none, none, none, none, none, none]) (by decide) rfl (by simp [Value.category]) (Nat.le_of_ble_eq_true rfl) rfl ?_
  intro p e s m below meth c A C _ hnm
  have hB := (hIS σ hI).1
  have hn := hB.2.2.1
  have hn2 := hB.2.1
  have key : ∀ (d k : Nat) (u : Int32 × Int32 × aS) (S : zSt), k + d = t → u = aRun g h n seed σ k → rRel u.2.2 S → Z p l e ({ frames := 5, cells := 0, slots := 0, locals := 124 } : Room) s m ([.ref (ad (0, 0)), .int (nI t), .int seed] : List Value).toArray below meth c D A 10 (MQ below (zQ (zR (some (.int (aRun g h n seed σ t).2.1)) (rSh K) ad (rRel (aRun g h n seed σ t).2.2)) rIL D A) ([.ref (ad (0, 0)), .int (nI t), .int seed] : List Value).toArray s 0 0 A) rIL 0 0 (rSh K) ad S (21) ([some (.ref (ad (0, 0))), some (.int (nI t)), some (.int seed), some (.int u.1), some (.int u.2.1), some (.int (nI k)), none, none, none, none]) ([]) := by
    intro d
    induction d with
    | zero =>
      intro k u S hk hu hR
      have hk : k = t := by omega
      subst hk
      refine Zr_iload C dX4_run_21 rfl ?_
      refine Zr_iload_n C dX4_run_23 rfl ?_
      refine Zr_icmp_ge C 118 dX4_run_24 (by decide) (fun h24 => ?_) (fun h24 => absurd (nI_le (Nat.le_refl _) (by omega)) h24)
      refine Zr_iload C dX4_run_118 rfl ?_
      exact Zr_iret C dX4_run_120 (Nat.zero_le _) (Nat.zero_le _) ⟨by rw [hu], rfl, rfl, by rw [← hu]; exact hR⟩
    | succ d ih =>
      intro k u S hk hu hR
      have hSk : aSafe n u.2.2 := by rw [hu]; exact hIS _ (aRun_I I hh hn2 hIp hIr hI k)
      have hBk := hSk.1
      have hLk : ∀ r, r < 100 → (u.2.2.2.1 r).length < 640 := fun r hr => Nat.lt_of_le_of_lt (hSk.2.2.2.1 r hr) (by decide)
      have hnn := nn_le hn
      have hnp := nn_pos hn2
      obtain ⟨s2, hs2⟩ : ∃ s2, s2 = g u.1 := ⟨_, rfl⟩
      obtain ⟨y16, hy16⟩ : ∃ y16, y16 = s2.toBitVec.toNat / 65536 := ⟨_, rfl⟩
      have hu16 : y16 < 65536 := by rw [hy16]; exact i32_u16 s2
      obtain ⟨x, hx⟩ : ∃ x, x = h s2 := ⟨_, rfl⟩
      have hxy : x = y16 % (n * n) := by rw [hx, hh s2, hy16]
      have hd : x < n * n := by rw [hx]; exact hh.lt hn2 s2
      have hdp := nn_p hd
      have hdq : x % n < n := nn_q hn2
      by_cases hpq : x / n = x % n
      · have hst := aRun_s hu hs2 hx (show fStep n u.2.2 x = fPass n u.2.2 (x / n) from if_pos hpq)
        obtain ⟨dn, hdn⟩ : ∃ dn, dn = if (fPass n u.2.2 (x / n)).1 = -1 then u.2.1 else u.2.1 + 1 := ⟨_, rfl⟩
        refine Zr_iload C dX4_run_21 rfl ?_
        refine Zr_iload_n C dX4_run_23 rfl ?_
        refine Zr_icmp_ge C 118 dX4_run_24 (by decide) (fun h24 => absurd h24 (nI_ge (show k < t by omega) (by omega))) (fun h24 => ?_)
        refine Zr_iload_n C dX4_run_27 rfl ?_
        refine Zr_ldc C ct_X4_152 dX4_run_28 ?_
        refine Zr_imul C dX4_run_30 ?_
        refine Zr_sipush C (12345) dX4_run_31 rfl ?_
        refine Zr_iadd C dX4_run_34 ?_
        refine Zr_topi (y := s2) (by rw [hs2]; exact hg _) ?_
        refine Zr_istore_n C dX4_run_35 (by decide) ?_
        refine Zr_iload_n C dX4_run_36 rfl ?_
        refine Zr_bipush C (16) dX4_run_37 rfl ?_
        refine Zr_iushr C dX4_run_39 ?_
        refine Zr_topi (y := nI y16) (by rw [hy16]; exact i32_ush _) ?_
        refine Zr_aload_n C dX4_run_40 rfl ?_
        refine Zr_getE C gf_X4_60 qm0 rfl rfl rfl ((rg hR).trans hBk.1) dX4_run_41 ?_
        refine Zr_aload_n C dX4_run_44 rfl ?_
        refine Zr_getE C gf_X4_60 qm0 rfl rfl rfl ((rg hR).trans hBk.1) dX4_run_45 ?_
        refine Zr_imul C dX4_run_48 ?_
        refine Zr_topi (y := nI (n * n)) (pk_mul _ _) ?_
        refine Zr_irem C dX4_run_49 (nI_ne0 hnp (by omega)) ?_
        refine Zr_topi (y := nI x) (by rw [hxy]; exact pk_rem (by omega) hnp (by omega)) ?_
        refine Zr_istore C dX4_run_50 (by decide) ?_
        refine Zr_iload C dX4_run_52 rfl ?_
        refine Zr_aload_n C dX4_run_54 rfl ?_
        refine Zr_getE C gf_X4_60 qm0 rfl rfl rfl ((rg hR).trans hBk.1) dX4_run_55 ?_
        refine Zr_idiv C dX4_run_58 (nI_ne0 (by omega) (by omega)) ?_
        refine Zr_topi (y := nI (x / n)) (pk_div (by omega) (by omega) (by omega)) ?_
        refine Zr_istore C dX4_run_59 (by decide) ?_
        refine Zr_iload C dX4_run_61 rfl ?_
        refine Zr_aload_n C dX4_run_63 rfl ?_
        refine Zr_getE C gf_X4_60 qm0 rfl rfl rfl ((rg hR).trans hBk.1) dX4_run_64 ?_
        refine Zr_irem C dX4_run_67 (nI_ne0 (by omega) (by omega)) ?_
        refine Zr_topi (y := nI (x % n)) (pk_rem (by omega) (by omega) (by omega)) ?_
        refine Zr_istore C dX4_run_68 (by decide) ?_
        refine Zr_iload C dX4_run_70 rfl ?_
        refine Zr_iload C dX4_run_72 rfl ?_
        refine Zr_icmp_ne C 86 dX4_run_74 (by decide) (fun h74 => absurd (congrArg nI hpq) h74) (fun h74 => ?_)
        refine Zr_aload_n C dX4_run_77 rfl ?_
        refine Zr_iload C dX4_run_78 rfl ?_
        refine Zr_callVR C cw_X4_153 (k_X4_pass hBk hR hdp hLk) qm0 rfl rfl rfl (Nat.le_of_ble_eq_true rfl) (Nat.le_of_ble_eq_true rfl) rfl (Nat.le_of_ble_eq_true rfl) dX4_run_80 ⟨Nat.zero_le _, Nat.zero_le _⟩ (fun S hR => ?_)
        refine Zr_goto C 94 dX4_run_83 (by decide) ?_
        refine Zr_istore C dX4_run_94 (by decide) ?_
        refine Zr_iload C dX4_run_96 rfl ?_
        refine Zr_iload C dX4_run_98 rfl ?_
        refine Zr_iconst C (-1) dX4_run_100 rfl ?_
        refine Zr_icmp_ne C 108 dX4_run_101 (by decide) (fun h101 => ?_) (fun h101 => ?_)
        · refine Zr_iconst C (1) dX4_run_108 rfl ?_
          refine Zr_iadd C dX4_run_109 ?_
          refine Zr_topi (y := dn) (by first | (rw [hdn, if_neg h101]; done) | rw [hdn, if_pos h101, Int32.add_zero]) ?_
          refine Zr_istore C dX4_run_110 (by decide) ?_
          refine Zr_iincE C (1) (nI (k + 1)) dX4_run_112 (by decide) rfl rfl (nI_1 _) ?_
          refine Zr_goto C 21 dX4_run_115 (by decide) ?_
          exact Zr_forget 9 (Zr_forget 8 (Zr_forget 7 (Zr_forget 6 (ih (k + 1) (s2, dn, _) S (by omega) (by rw [hdn]; exact hst) hR))))
        · refine Zr_iconst C (0) dX4_run_104 rfl ?_
          refine Zr_goto C 109 dX4_run_105 (by decide) ?_
          refine Zr_iadd C dX4_run_109 ?_
          refine Zr_topi (y := dn) (by first | (rw [hdn, if_neg h101]; done) | rw [hdn, if_pos h101, Int32.add_zero]) ?_
          refine Zr_istore C dX4_run_110 (by decide) ?_
          refine Zr_iincE C (1) (nI (k + 1)) dX4_run_112 (by decide) rfl rfl (nI_1 _) ?_
          refine Zr_goto C 21 dX4_run_115 (by decide) ?_
          exact Zr_forget 9 (Zr_forget 8 (Zr_forget 7 (Zr_forget 6 (ih (k + 1) (s2, dn, _) S (by omega) (by rw [hdn]; exact hst) hR))))
      · have hst := aRun_s hu hs2 hx (show fStep n u.2.2 x = fRecv n u.2.2 (x / n) (x % n) from if_neg hpq)
        obtain ⟨dn, hdn⟩ : ∃ dn, dn = if (fRecv n u.2.2 (x / n) (x % n)).1 = -1 then u.2.1 else u.2.1 + 1 := ⟨_, rfl⟩
        refine Zr_iload C dX4_run_21 rfl ?_
        refine Zr_iload_n C dX4_run_23 rfl ?_
        refine Zr_icmp_ge C 118 dX4_run_24 (by decide) (fun h24 => absurd h24 (nI_ge (show k < t by omega) (by omega))) (fun h24 => ?_)
        refine Zr_iload_n C dX4_run_27 rfl ?_
        refine Zr_ldc C ct_X4_152 dX4_run_28 ?_
        refine Zr_imul C dX4_run_30 ?_
        refine Zr_sipush C (12345) dX4_run_31 rfl ?_
        refine Zr_iadd C dX4_run_34 ?_
        refine Zr_topi (y := s2) (by rw [hs2]; exact hg _) ?_
        refine Zr_istore_n C dX4_run_35 (by decide) ?_
        refine Zr_iload_n C dX4_run_36 rfl ?_
        refine Zr_bipush C (16) dX4_run_37 rfl ?_
        refine Zr_iushr C dX4_run_39 ?_
        refine Zr_topi (y := nI y16) (by rw [hy16]; exact i32_ush _) ?_
        refine Zr_aload_n C dX4_run_40 rfl ?_
        refine Zr_getE C gf_X4_60 qm0 rfl rfl rfl ((rg hR).trans hBk.1) dX4_run_41 ?_
        refine Zr_aload_n C dX4_run_44 rfl ?_
        refine Zr_getE C gf_X4_60 qm0 rfl rfl rfl ((rg hR).trans hBk.1) dX4_run_45 ?_
        refine Zr_imul C dX4_run_48 ?_
        refine Zr_topi (y := nI (n * n)) (pk_mul _ _) ?_
        refine Zr_irem C dX4_run_49 (nI_ne0 hnp (by omega)) ?_
        refine Zr_topi (y := nI x) (by rw [hxy]; exact pk_rem (by omega) hnp (by omega)) ?_
        refine Zr_istore C dX4_run_50 (by decide) ?_
        refine Zr_iload C dX4_run_52 rfl ?_
        refine Zr_aload_n C dX4_run_54 rfl ?_
        refine Zr_getE C gf_X4_60 qm0 rfl rfl rfl ((rg hR).trans hBk.1) dX4_run_55 ?_
        refine Zr_idiv C dX4_run_58 (nI_ne0 (by omega) (by omega)) ?_
        refine Zr_topi (y := nI (x / n)) (pk_div (by omega) (by omega) (by omega)) ?_
        refine Zr_istore C dX4_run_59 (by decide) ?_
        refine Zr_iload C dX4_run_61 rfl ?_
        refine Zr_aload_n C dX4_run_63 rfl ?_
        refine Zr_getE C gf_X4_60 qm0 rfl rfl rfl ((rg hR).trans hBk.1) dX4_run_64 ?_
        refine Zr_irem C dX4_run_67 (nI_ne0 (by omega) (by omega)) ?_
        refine Zr_topi (y := nI (x % n)) (pk_rem (by omega) (by omega) (by omega)) ?_
        refine Zr_istore C dX4_run_68 (by decide) ?_
        refine Zr_iload C dX4_run_70 rfl ?_
        refine Zr_iload C dX4_run_72 rfl ?_
        refine Zr_icmp_ne C 86 dX4_run_74 (by decide) (fun h74 => ?_) (fun h74 => absurd ((nI_eq (by omega) (by omega)).mp h74) hpq)
        refine Zr_aload_n C dX4_run_86 rfl ?_
        refine Zr_iload C dX4_run_87 rfl ?_
        refine Zr_iload C dX4_run_89 rfl ?_
        refine Zr_callVR C cw_X4_156 (k_X4_receive hSk hR hdp hdq hpq) qm0 rfl rfl rfl (Nat.le_of_ble_eq_true rfl) (Nat.le_of_ble_eq_true rfl) rfl (Nat.le_of_ble_eq_true rfl) dX4_run_91 ⟨Nat.zero_le _, Nat.zero_le _⟩ (fun S hR => ?_)
        refine Zr_istore C dX4_run_94 (by decide) ?_
        refine Zr_iload C dX4_run_96 rfl ?_
        refine Zr_iload C dX4_run_98 rfl ?_
        refine Zr_iconst C (-1) dX4_run_100 rfl ?_
        refine Zr_icmp_ne C 108 dX4_run_101 (by decide) (fun h101 => ?_) (fun h101 => ?_)
        · refine Zr_iconst C (1) dX4_run_108 rfl ?_
          refine Zr_iadd C dX4_run_109 ?_
          refine Zr_topi (y := dn) (by first | (rw [hdn, if_neg h101]; done) | rw [hdn, if_pos h101, Int32.add_zero]) ?_
          refine Zr_istore C dX4_run_110 (by decide) ?_
          refine Zr_iincE C (1) (nI (k + 1)) dX4_run_112 (by decide) rfl rfl (nI_1 _) ?_
          refine Zr_goto C 21 dX4_run_115 (by decide) ?_
          exact Zr_forget 9 (Zr_forget 8 (Zr_forget 7 (Zr_forget 6 (ih (k + 1) (s2, dn, _) S (by omega) (by rw [hdn]; exact hst) hR))))
        · refine Zr_iconst C (0) dX4_run_104 rfl ?_
          refine Zr_goto C 109 dX4_run_105 (by decide) ?_
          refine Zr_iadd C dX4_run_109 ?_
          refine Zr_topi (y := dn) (by first | (rw [hdn, if_neg h101]; done) | rw [hdn, if_pos h101, Int32.add_zero]) ?_
          refine Zr_istore C dX4_run_110 (by decide) ?_
          refine Zr_iincE C (1) (nI (k + 1)) dX4_run_112 (by decide) rfl rfl (nI_1 _) ?_
          refine Zr_goto C 21 dX4_run_115 (by decide) ?_
          exact Zr_forget 9 (Zr_forget 8 (Zr_forget 7 (Zr_forget 6 (ih (k + 1) (s2, dn, _) S (by omega) (by rw [hdn]; exact hst) hR))))
  refine Zr_iload_n C dX4_run_0 rfl ?_
  refine Zr_if_lt C 11 dX4_run_1 (by decide) (fun h1 => absurd h1 (nI_pos (by omega))) (fun h1 => ?_)
  refine Zr_iload_n C dX4_run_4 rfl ?_
  refine Zr_sipush C (2000) dX4_run_5 rfl ?_
  refine Zr_icmp_le C 13 dX4_run_8 (by decide) (fun h8 => ?_) (fun h8 => absurd (nI_le (b := 2000) ht (by decide)) h8)
  refine Zr_iload_n C dX4_run_13 rfl ?_
  refine Zr_istore_n C dX4_run_14 (by decide) ?_
  refine Zr_iconst C (0) dX4_run_15 rfl ?_
  refine Zr_istore C dX4_run_16 (by decide) ?_
  refine Zr_iconst C (0) dX4_run_18 rfl ?_
  refine Zr_istore C dX4_run_19 (by decide) ?_
  exact key t 0 (seed, 0, σ) S (by omega) rfl hR
set_option maxHeartbeats 4000000 in
set_option maxRecDepth 100000 in
theorem k_X4_run_f {l : Launch} {D : va_G} {K : zKs} {ad : zAd} {S : zSt} {σ : aS} {x seed : Int32} (hR : rRel σ S) (hx : x < 0 ∨ 2000 < x) : zMet l yX4_run cX4_run 10 (some .int) { frames := 5, cells := 0, slots := 0, locals := 124 } D K rIL (rSh K) ad S [.ref (ad (0, 0)), .int x, .int seed] (zEq (some (.int (-1))) (rSh K) ad (S)) := by
  refine zEnter (own := RX4) (lv0 := [some (.ref (ad (0, 0))), some (.int x), some (.int seed), none, none, none, none, none, none, none]) (by decide) rfl (by simp [Value.category]) (Nat.le_of_ble_eq_true rfl) rfl ?_
  intro p e s m below meth c A C _ hnm
  refine Zr_iload_n C dX4_run_0 rfl ?_
  refine Zr_if_lt C 11 dX4_run_1 (by decide) (fun h1 => ?_) (fun h1 => ?_)
  · refine Zr_iconst C (-1) dX4_run_11 rfl ?_
    exact Zr_iret C dX4_run_12 (Nat.zero_le _) (Nat.zero_le _) ⟨rfl, rfl, rfl, rfl⟩
  · refine Zr_iload_n C dX4_run_4 rfl ?_
    refine Zr_sipush C (2000) dX4_run_5 rfl ?_
    refine Zr_icmp_le C 13 dX4_run_8 (by decide) (fun h8 => absurd (hx.resolve_left h1) (i32_le h8)) (fun h8 => ?_)
    refine Zr_iconst C (-1) dX4_run_11 rfl ?_
    exact Zr_iret C dX4_run_12 (Nat.zero_le _) (Nat.zero_le _) ⟨rfl, rfl, rfl, rfl⟩
end
section
/-! ===== THE CLASS: what its numbers say ===== -/
def zA (ad : zAd) (ca : Nat → Nat) : zAd := fun i => if i.1 = 7 then ca i.2 else ad i
def cix (n r : Nat) : Nat := 10 * (r / n) + r % n
def cpo (n : Nat) (cp : Nat → Nat) : Nat → Nat := fun r => cp (cix n r)
theorem cix_of {n i j : Nat} (hj : j < n) : cix n (i * n + j) = 10 * i + j := by
  have h0 : 0 < n := by omega
  have h1 : (i * n + j) / n = i := by rw [Nat.mul_comm, Nat.mul_add_div h0, Nat.div_eq_of_lt hj, Nat.add_zero]
  have h2 : (i * n + j) % n = j := by rw [Nat.mul_comm, Nat.mul_add_mod, Nat.mod_eq_of_lt hj]
  rw [cix, h1, h2]
theorem cRow_of {n i j : Nat} (hi : i < n) (hj : j < n) (hij : i ≠ j) : cRow n (i * n + j) := by
  have h0 : 0 < n := by omega
  have h1 : (i * n + j) / n = i := by rw [Nat.mul_comm, Nat.mul_add_div h0, Nat.div_eq_of_lt hj, Nat.add_zero]
  have h2 : (i * n + j) % n = j := by rw [Nat.mul_comm, Nat.mul_add_mod, Nat.mod_eq_of_lt hj]
  refine ⟨?_, by rw [h1, h2]; exact hij⟩
  calc i * n + j < i * n + n := by omega
    _ = (i + 1) * n := by rw [Nat.succ_mul]
    _ ≤ n * n := Nat.mul_le_mul_right n hi
theorem cix_inj {n r q : Nat} (hn : n ≤ 10) (hr : cRow n r) (hq : cRow n q) (h : cix n r = cix n q) : r = q := by
  have h0 : 0 < n := by
    rcases Nat.eq_zero_or_pos n with h0 | h0
    · subst h0; exact absurd hr.1 (Nat.not_lt_zero _)
    · exact h0
  have h1 := Nat.mod_lt r h0
  have h2 := Nat.mod_lt q h0
  have h3 := Nat.div_add_mod r n
  have h4 := Nat.div_add_mod q n
  simp only [cix] at h
  have h5 : r / n = q / n := by omega
  have h6 : r % n = q % n := by omega
  rw [← h3, ← h4, h5, h6]
theorem cix_lt {n r : Nat} (hn : n ≤ 10) (hr : cRow n r) : cix n r < 100 := by
  have h0 : 0 < n := by
    rcases Nat.eq_zero_or_pos n with h0 | h0
    · subst h0; exact absurd hr.1 (Nat.not_lt_zero _)
    · exact h0
  have h1 := Nat.mod_lt r h0
  have h2 : r / n < n := Nat.div_lt_of_lt_mul hr.1
  simp only [cix]
  omega
def aBits (f : Nat → Bool) : Nat → Nat
  | 0 => 0
  | k + 1 => aBits f k + (if f k then 2 ^ k else 0)
theorem aBits_cong {f g : Nat → Bool} : ∀ {n : Nat}, (∀ k, k < n → f k = g k) → aBits f n = aBits g n
  | 0, _ => rfl
  | n + 1, h => by
    simp only [aBits]
    rw [aBits_cong (fun k hk => h k (by omega)), h n (by omega)]
/-- the fields of a worker -/
def cWk (N : Nat → Nat → Int32) (n p : Nat) (f : Nat → Int32) : Prop := f 1 = N 8 p ∧ f 2 = N 12 p ∧ f 3 = N 9 p ∧ f 4 = N 10 p ∧ f 5 = N 11 p ∧ f 6 = nI (aBits (fun q => N 16 (10 * p + q) != 0) n) ∧ f 7 = nI (aBits (fun q => N 30 (10 * p + q) != 0) n) ∧ f 8 = nI (aBits (fun q => N 17 (10 * p + q) != 0) n) ∧ f 9 = N 14 p ∧ f 10 = N 15 p
def cPack (m : aM) : Int32 := if m.1 = 6 then m.2.2 <<< ((7 : Int32) &&& 31) ||| m.2.1 <<< ((3 : Int32) &&& 31) ||| 6 else m.1
def cAt (f cap k : Nat) : Nat := if f + k < cap then f + k else f + k - cap
def cRing (f g : Nat → Int32) (cap : Nat) (l : List aM) : Prop := ∃ b : Nat, b < cap ∧ 4 ≤ cap ∧ cap ≤ 1280 ∧ f 1 = nI b ∧ f 2 = nI l.length ∧ l.length ≤ cap ∧ f 3 = nI (aOf 1 l) ∧ ∀ (k : Nat) (m : aM), l[k]? = some m → g (cAt b cap k) = cPack m
def cRel (n : Nat) (σ : aS) (S : zSt) : Prop :=
  (S 0 0 0 = σ.1 0 0 0 ∧ S 0 0 4 = σ.1 0 0 1 ∧ S 0 0 5 = σ.1 0 0 2 ∧ S 0 0 6 = σ.1 0 0 3 ∧ S 0 0 7 = σ.1 0 0 4 ∧ S 0 0 8 = σ.1 0 0 5 ∧ S 0 0 9 = σ.1 0 0 7 ∧ S 0 0 10 = σ.1 0 0 6) ∧
  (S 3 0 1 = σ.1 0 0 20 ∧ S 3 0 2 = σ.1 0 0 21 ∧ S 3 0 3 = σ.1 0 0 19) ∧
  (∀ p, p < n → σ.1 1 13 p = if S 3 0 0 = nI p then 1 else 0) ∧
  (∀ p, p < n → cWk (σ.1 1) n p (S 4 p)) ∧
  (∀ p, p < n → ∀ i, i < n → S 5 p i = σ.1 1 18 (10 * p + i)) ∧
  ∀ r, cRow n r → cRing (S 6 r) (S 7 r) (σ.2.2 (cix n r)) (σ.2.1 (cix n r))
theorem cRel.w {n : Nat} {σ : aS} {S : zSt} (h : cRel n σ S) {p : Nat} (hp : p < n) : cWk (σ.1 1) n p (S 4 p) := h.2.2.2.1 p hp
theorem cRel.r {n : Nat} {σ : aS} {S : zSt} (h : cRel n σ S) {r : Nat} (hr : cRow n r) : cRing (S 6 r) (S 7 r) (σ.2.2 (cix n r)) (σ.2.1 (cix n r)) := h.2.2.2.2.2 r hr
theorem cRm4 {n : Nat} {σ : aS} {S : zSt} {v : Int32} (h : cRel n σ S) : cRel n (aN σ 0 0 1 v) (z3 S 0 0 4 v) := by
  obtain ⟨⟨a1, a2, a3, a4, a5, a6, a7, a8⟩, ⟨b1, b2, b3⟩, hh, hw, hl, hr⟩ := h
  refine ⟨⟨?_, ?_, ?_, ?_, ?_, ?_, ?_, ?_⟩, ⟨?_, ?_, ?_⟩, fun q hq => ?_, fun q hq => ?_, fun q hq i hi => ?_, fun r hr2 => ?_⟩
  · simp [z3, aN, a1]
  · simp [z3, aN, a2]
  · simp [z3, aN, a3]
  · simp [z3, aN, a4]
  · simp [z3, aN, a5]
  · simp [z3, aN, a6]
  · simp [z3, aN, a7]
  · simp [z3, aN, a8]
  · simp [z3, aN, b1]
  · simp [z3, aN, b2]
  · simp [z3, aN, b3]
  · simpa [z3, aN] using hh q hq
  · simpa [cWk, z3, aN] using hw q hq
  · simpa [z3, aN] using hl q hq i hi
  · rw [show (z3 S 0 0 4 v) 6 r = S 6 r from by funext x; simp [z3], show (z3 S 0 0 4 v) 7 r = S 7 r from by funext x; simp [z3]]
    exact hr r hr2
theorem cRm5 {n : Nat} {σ : aS} {S : zSt} {v : Int32} (h : cRel n σ S) : cRel n (aN σ 0 0 2 v) (z3 S 0 0 5 v) := by
  obtain ⟨⟨a1, a2, a3, a4, a5, a6, a7, a8⟩, ⟨b1, b2, b3⟩, hh, hw, hl, hr⟩ := h
  refine ⟨⟨?_, ?_, ?_, ?_, ?_, ?_, ?_, ?_⟩, ⟨?_, ?_, ?_⟩, fun q hq => ?_, fun q hq => ?_, fun q hq i hi => ?_, fun r hr2 => ?_⟩
  · simp [z3, aN, a1]
  · simp [z3, aN, a2]
  · simp [z3, aN, a3]
  · simp [z3, aN, a4]
  · simp [z3, aN, a5]
  · simp [z3, aN, a6]
  · simp [z3, aN, a7]
  · simp [z3, aN, a8]
  · simp [z3, aN, b1]
  · simp [z3, aN, b2]
  · simp [z3, aN, b3]
  · simpa [z3, aN] using hh q hq
  · simpa [cWk, z3, aN] using hw q hq
  · simpa [z3, aN] using hl q hq i hi
  · rw [show (z3 S 0 0 5 v) 6 r = S 6 r from by funext x; simp [z3], show (z3 S 0 0 5 v) 7 r = S 7 r from by funext x; simp [z3]]
    exact hr r hr2
theorem cRm6 {n : Nat} {σ : aS} {S : zSt} {v : Int32} (h : cRel n σ S) : cRel n (aN σ 0 0 3 v) (z3 S 0 0 6 v) := by
  obtain ⟨⟨a1, a2, a3, a4, a5, a6, a7, a8⟩, ⟨b1, b2, b3⟩, hh, hw, hl, hr⟩ := h
  refine ⟨⟨?_, ?_, ?_, ?_, ?_, ?_, ?_, ?_⟩, ⟨?_, ?_, ?_⟩, fun q hq => ?_, fun q hq => ?_, fun q hq i hi => ?_, fun r hr2 => ?_⟩
  · simp [z3, aN, a1]
  · simp [z3, aN, a2]
  · simp [z3, aN, a3]
  · simp [z3, aN, a4]
  · simp [z3, aN, a5]
  · simp [z3, aN, a6]
  · simp [z3, aN, a7]
  · simp [z3, aN, a8]
  · simp [z3, aN, b1]
  · simp [z3, aN, b2]
  · simp [z3, aN, b3]
  · simpa [z3, aN] using hh q hq
  · simpa [cWk, z3, aN] using hw q hq
  · simpa [z3, aN] using hl q hq i hi
  · rw [show (z3 S 0 0 6 v) 6 r = S 6 r from by funext x; simp [z3], show (z3 S 0 0 6 v) 7 r = S 7 r from by funext x; simp [z3]]
    exact hr r hr2
theorem cRm7 {n : Nat} {σ : aS} {S : zSt} {v : Int32} (h : cRel n σ S) : cRel n (aN σ 0 0 4 v) (z3 S 0 0 7 v) := by
  obtain ⟨⟨a1, a2, a3, a4, a5, a6, a7, a8⟩, ⟨b1, b2, b3⟩, hh, hw, hl, hr⟩ := h
  refine ⟨⟨?_, ?_, ?_, ?_, ?_, ?_, ?_, ?_⟩, ⟨?_, ?_, ?_⟩, fun q hq => ?_, fun q hq => ?_, fun q hq i hi => ?_, fun r hr2 => ?_⟩
  · simp [z3, aN, a1]
  · simp [z3, aN, a2]
  · simp [z3, aN, a3]
  · simp [z3, aN, a4]
  · simp [z3, aN, a5]
  · simp [z3, aN, a6]
  · simp [z3, aN, a7]
  · simp [z3, aN, a8]
  · simp [z3, aN, b1]
  · simp [z3, aN, b2]
  · simp [z3, aN, b3]
  · simpa [z3, aN] using hh q hq
  · simpa [cWk, z3, aN] using hw q hq
  · simpa [z3, aN] using hl q hq i hi
  · rw [show (z3 S 0 0 7 v) 6 r = S 6 r from by funext x; simp [z3], show (z3 S 0 0 7 v) 7 r = S 7 r from by funext x; simp [z3]]
    exact hr r hr2
theorem cRm8 {n : Nat} {σ : aS} {S : zSt} {v : Int32} (h : cRel n σ S) : cRel n (aN σ 0 0 5 v) (z3 S 0 0 8 v) := by
  obtain ⟨⟨a1, a2, a3, a4, a5, a6, a7, a8⟩, ⟨b1, b2, b3⟩, hh, hw, hl, hr⟩ := h
  refine ⟨⟨?_, ?_, ?_, ?_, ?_, ?_, ?_, ?_⟩, ⟨?_, ?_, ?_⟩, fun q hq => ?_, fun q hq => ?_, fun q hq i hi => ?_, fun r hr2 => ?_⟩
  · simp [z3, aN, a1]
  · simp [z3, aN, a2]
  · simp [z3, aN, a3]
  · simp [z3, aN, a4]
  · simp [z3, aN, a5]
  · simp [z3, aN, a6]
  · simp [z3, aN, a7]
  · simp [z3, aN, a8]
  · simp [z3, aN, b1]
  · simp [z3, aN, b2]
  · simp [z3, aN, b3]
  · simpa [z3, aN] using hh q hq
  · simpa [cWk, z3, aN] using hw q hq
  · simpa [z3, aN] using hl q hq i hi
  · rw [show (z3 S 0 0 8 v) 6 r = S 6 r from by funext x; simp [z3], show (z3 S 0 0 8 v) 7 r = S 7 r from by funext x; simp [z3]]
    exact hr r hr2
theorem cRm9 {n : Nat} {σ : aS} {S : zSt} {v : Int32} (h : cRel n σ S) : cRel n (aN σ 0 0 7 v) (z3 S 0 0 9 v) := by
  obtain ⟨⟨a1, a2, a3, a4, a5, a6, a7, a8⟩, ⟨b1, b2, b3⟩, hh, hw, hl, hr⟩ := h
  refine ⟨⟨?_, ?_, ?_, ?_, ?_, ?_, ?_, ?_⟩, ⟨?_, ?_, ?_⟩, fun q hq => ?_, fun q hq => ?_, fun q hq i hi => ?_, fun r hr2 => ?_⟩
  · simp [z3, aN, a1]
  · simp [z3, aN, a2]
  · simp [z3, aN, a3]
  · simp [z3, aN, a4]
  · simp [z3, aN, a5]
  · simp [z3, aN, a6]
  · simp [z3, aN, a7]
  · simp [z3, aN, a8]
  · simp [z3, aN, b1]
  · simp [z3, aN, b2]
  · simp [z3, aN, b3]
  · simpa [z3, aN] using hh q hq
  · simpa [cWk, z3, aN] using hw q hq
  · simpa [z3, aN] using hl q hq i hi
  · rw [show (z3 S 0 0 9 v) 6 r = S 6 r from by funext x; simp [z3], show (z3 S 0 0 9 v) 7 r = S 7 r from by funext x; simp [z3]]
    exact hr r hr2
theorem cRm10 {n : Nat} {σ : aS} {S : zSt} {v : Int32} (h : cRel n σ S) : cRel n (aN σ 0 0 6 v) (z3 S 0 0 10 v) := by
  obtain ⟨⟨a1, a2, a3, a4, a5, a6, a7, a8⟩, ⟨b1, b2, b3⟩, hh, hw, hl, hr⟩ := h
  refine ⟨⟨?_, ?_, ?_, ?_, ?_, ?_, ?_, ?_⟩, ⟨?_, ?_, ?_⟩, fun q hq => ?_, fun q hq => ?_, fun q hq i hi => ?_, fun r hr2 => ?_⟩
  · simp [z3, aN, a1]
  · simp [z3, aN, a2]
  · simp [z3, aN, a3]
  · simp [z3, aN, a4]
  · simp [z3, aN, a5]
  · simp [z3, aN, a6]
  · simp [z3, aN, a7]
  · simp [z3, aN, a8]
  · simp [z3, aN, b1]
  · simp [z3, aN, b2]
  · simp [z3, aN, b3]
  · simpa [z3, aN] using hh q hq
  · simpa [cWk, z3, aN] using hw q hq
  · simpa [z3, aN] using hl q hq i hi
  · rw [show (z3 S 0 0 10 v) 6 r = S 6 r from by funext x; simp [z3], show (z3 S 0 0 10 v) 7 r = S 7 r from by funext x; simp [z3]]
    exact hr r hr2
theorem cRt1 {n : Nat} {σ : aS} {S : zSt} {v : Int32} (h : cRel n σ S) : cRel n (aN σ 0 0 20 v) (z3 S 3 0 1 v) := by
  obtain ⟨⟨a1, a2, a3, a4, a5, a6, a7, a8⟩, ⟨b1, b2, b3⟩, hh, hw, hl, hr⟩ := h
  refine ⟨⟨?_, ?_, ?_, ?_, ?_, ?_, ?_, ?_⟩, ⟨?_, ?_, ?_⟩, fun q hq => ?_, fun q hq => ?_, fun q hq i hi => ?_, fun r hr2 => ?_⟩
  · simp [z3, aN, a1]
  · simp [z3, aN, a2]
  · simp [z3, aN, a3]
  · simp [z3, aN, a4]
  · simp [z3, aN, a5]
  · simp [z3, aN, a6]
  · simp [z3, aN, a7]
  · simp [z3, aN, a8]
  · simp [z3, aN, b1]
  · simp [z3, aN, b2]
  · simp [z3, aN, b3]
  · simpa [z3, aN] using hh q hq
  · simpa [cWk, z3, aN] using hw q hq
  · simpa [z3, aN] using hl q hq i hi
  · rw [show (z3 S 3 0 1 v) 6 r = S 6 r from by funext x; simp [z3], show (z3 S 3 0 1 v) 7 r = S 7 r from by funext x; simp [z3]]
    exact hr r hr2
theorem cRt2 {n : Nat} {σ : aS} {S : zSt} {v : Int32} (h : cRel n σ S) : cRel n (aN σ 0 0 21 v) (z3 S 3 0 2 v) := by
  obtain ⟨⟨a1, a2, a3, a4, a5, a6, a7, a8⟩, ⟨b1, b2, b3⟩, hh, hw, hl, hr⟩ := h
  refine ⟨⟨?_, ?_, ?_, ?_, ?_, ?_, ?_, ?_⟩, ⟨?_, ?_, ?_⟩, fun q hq => ?_, fun q hq => ?_, fun q hq i hi => ?_, fun r hr2 => ?_⟩
  · simp [z3, aN, a1]
  · simp [z3, aN, a2]
  · simp [z3, aN, a3]
  · simp [z3, aN, a4]
  · simp [z3, aN, a5]
  · simp [z3, aN, a6]
  · simp [z3, aN, a7]
  · simp [z3, aN, a8]
  · simp [z3, aN, b1]
  · simp [z3, aN, b2]
  · simp [z3, aN, b3]
  · simpa [z3, aN] using hh q hq
  · simpa [cWk, z3, aN] using hw q hq
  · simpa [z3, aN] using hl q hq i hi
  · rw [show (z3 S 3 0 2 v) 6 r = S 6 r from by funext x; simp [z3], show (z3 S 3 0 2 v) 7 r = S 7 r from by funext x; simp [z3]]
    exact hr r hr2
theorem cRt3 {n : Nat} {σ : aS} {S : zSt} {v : Int32} (h : cRel n σ S) : cRel n (aN σ 0 0 19 v) (z3 S 3 0 3 v) := by
  obtain ⟨⟨a1, a2, a3, a4, a5, a6, a7, a8⟩, ⟨b1, b2, b3⟩, hh, hw, hl, hr⟩ := h
  refine ⟨⟨?_, ?_, ?_, ?_, ?_, ?_, ?_, ?_⟩, ⟨?_, ?_, ?_⟩, fun q hq => ?_, fun q hq => ?_, fun q hq i hi => ?_, fun r hr2 => ?_⟩
  · simp [z3, aN, a1]
  · simp [z3, aN, a2]
  · simp [z3, aN, a3]
  · simp [z3, aN, a4]
  · simp [z3, aN, a5]
  · simp [z3, aN, a6]
  · simp [z3, aN, a7]
  · simp [z3, aN, a8]
  · simp [z3, aN, b1]
  · simp [z3, aN, b2]
  · simp [z3, aN, b3]
  · simpa [z3, aN] using hh q hq
  · simpa [cWk, z3, aN] using hw q hq
  · simpa [z3, aN] using hl q hq i hi
  · rw [show (z3 S 3 0 3 v) 6 r = S 6 r from by funext x; simp [z3], show (z3 S 3 0 3 v) 7 r = S 7 r from by funext x; simp [z3]]
    exact hr r hr2
theorem cRw1 {n : Nat} {σ : aS} {S : zSt} {v : Int32} {p : Nat} (h : cRel n σ S) : cRel n (aN σ 1 8 p v) (z3 S 4 p 1 v) := by
  obtain ⟨⟨a1, a2, a3, a4, a5, a6, a7, a8⟩, ⟨b1, b2, b3⟩, hh, hw, hl, hr⟩ := h
  refine ⟨⟨?_, ?_, ?_, ?_, ?_, ?_, ?_, ?_⟩, ⟨?_, ?_, ?_⟩, fun q hq => ?_, fun q hq => ?_, fun q hq i hi => ?_, fun r hr2 => ?_⟩
  · simp [z3, aN, a1]
  · simp [z3, aN, a2]
  · simp [z3, aN, a3]
  · simp [z3, aN, a4]
  · simp [z3, aN, a5]
  · simp [z3, aN, a6]
  · simp [z3, aN, a7]
  · simp [z3, aN, a8]
  · simp [z3, aN, b1]
  · simp [z3, aN, b2]
  · simp [z3, aN, b3]
  · simpa [z3, aN] using hh q hq
  · obtain ⟨w1, w2, w3, w4, w5, w6, w7, w8, w9, w10⟩ := hw q hq
    by_cases hqp : q = p
    · subst hqp
      refine ⟨?_, ?_, ?_, ?_, ?_, ?_, ?_, ?_, ?_, ?_⟩ <;> simp [z3, aN, w1, w2, w3, w4, w5, w6, w7, w8, w9, w10]
    · refine ⟨?_, ?_, ?_, ?_, ?_, ?_, ?_, ?_, ?_, ?_⟩ <;> simp [z3, aN, hqp, w1, w2, w3, w4, w5, w6, w7, w8, w9, w10]
  · simpa [z3, aN] using hl q hq i hi
  · rw [show (z3 S 4 p 1 v) 6 r = S 6 r from by funext x; simp [z3], show (z3 S 4 p 1 v) 7 r = S 7 r from by funext x; simp [z3]]
    exact hr r hr2
theorem cRw2 {n : Nat} {σ : aS} {S : zSt} {v : Int32} {p : Nat} (h : cRel n σ S) : cRel n (aN σ 1 12 p v) (z3 S 4 p 2 v) := by
  obtain ⟨⟨a1, a2, a3, a4, a5, a6, a7, a8⟩, ⟨b1, b2, b3⟩, hh, hw, hl, hr⟩ := h
  refine ⟨⟨?_, ?_, ?_, ?_, ?_, ?_, ?_, ?_⟩, ⟨?_, ?_, ?_⟩, fun q hq => ?_, fun q hq => ?_, fun q hq i hi => ?_, fun r hr2 => ?_⟩
  · simp [z3, aN, a1]
  · simp [z3, aN, a2]
  · simp [z3, aN, a3]
  · simp [z3, aN, a4]
  · simp [z3, aN, a5]
  · simp [z3, aN, a6]
  · simp [z3, aN, a7]
  · simp [z3, aN, a8]
  · simp [z3, aN, b1]
  · simp [z3, aN, b2]
  · simp [z3, aN, b3]
  · simpa [z3, aN] using hh q hq
  · obtain ⟨w1, w2, w3, w4, w5, w6, w7, w8, w9, w10⟩ := hw q hq
    by_cases hqp : q = p
    · subst hqp
      refine ⟨?_, ?_, ?_, ?_, ?_, ?_, ?_, ?_, ?_, ?_⟩ <;> simp [z3, aN, w1, w2, w3, w4, w5, w6, w7, w8, w9, w10]
    · refine ⟨?_, ?_, ?_, ?_, ?_, ?_, ?_, ?_, ?_, ?_⟩ <;> simp [z3, aN, hqp, w1, w2, w3, w4, w5, w6, w7, w8, w9, w10]
  · simpa [z3, aN] using hl q hq i hi
  · rw [show (z3 S 4 p 2 v) 6 r = S 6 r from by funext x; simp [z3], show (z3 S 4 p 2 v) 7 r = S 7 r from by funext x; simp [z3]]
    exact hr r hr2
theorem cRw3 {n : Nat} {σ : aS} {S : zSt} {v : Int32} {p : Nat} (h : cRel n σ S) : cRel n (aN σ 1 9 p v) (z3 S 4 p 3 v) := by
  obtain ⟨⟨a1, a2, a3, a4, a5, a6, a7, a8⟩, ⟨b1, b2, b3⟩, hh, hw, hl, hr⟩ := h
  refine ⟨⟨?_, ?_, ?_, ?_, ?_, ?_, ?_, ?_⟩, ⟨?_, ?_, ?_⟩, fun q hq => ?_, fun q hq => ?_, fun q hq i hi => ?_, fun r hr2 => ?_⟩
  · simp [z3, aN, a1]
  · simp [z3, aN, a2]
  · simp [z3, aN, a3]
  · simp [z3, aN, a4]
  · simp [z3, aN, a5]
  · simp [z3, aN, a6]
  · simp [z3, aN, a7]
  · simp [z3, aN, a8]
  · simp [z3, aN, b1]
  · simp [z3, aN, b2]
  · simp [z3, aN, b3]
  · simpa [z3, aN] using hh q hq
  · obtain ⟨w1, w2, w3, w4, w5, w6, w7, w8, w9, w10⟩ := hw q hq
    by_cases hqp : q = p
    · subst hqp
      refine ⟨?_, ?_, ?_, ?_, ?_, ?_, ?_, ?_, ?_, ?_⟩ <;> simp [z3, aN, w1, w2, w3, w4, w5, w6, w7, w8, w9, w10]
    · refine ⟨?_, ?_, ?_, ?_, ?_, ?_, ?_, ?_, ?_, ?_⟩ <;> simp [z3, aN, hqp, w1, w2, w3, w4, w5, w6, w7, w8, w9, w10]
  · simpa [z3, aN] using hl q hq i hi
  · rw [show (z3 S 4 p 3 v) 6 r = S 6 r from by funext x; simp [z3], show (z3 S 4 p 3 v) 7 r = S 7 r from by funext x; simp [z3]]
    exact hr r hr2
theorem cRw4 {n : Nat} {σ : aS} {S : zSt} {v : Int32} {p : Nat} (h : cRel n σ S) : cRel n (aN σ 1 10 p v) (z3 S 4 p 4 v) := by
  obtain ⟨⟨a1, a2, a3, a4, a5, a6, a7, a8⟩, ⟨b1, b2, b3⟩, hh, hw, hl, hr⟩ := h
  refine ⟨⟨?_, ?_, ?_, ?_, ?_, ?_, ?_, ?_⟩, ⟨?_, ?_, ?_⟩, fun q hq => ?_, fun q hq => ?_, fun q hq i hi => ?_, fun r hr2 => ?_⟩
  · simp [z3, aN, a1]
  · simp [z3, aN, a2]
  · simp [z3, aN, a3]
  · simp [z3, aN, a4]
  · simp [z3, aN, a5]
  · simp [z3, aN, a6]
  · simp [z3, aN, a7]
  · simp [z3, aN, a8]
  · simp [z3, aN, b1]
  · simp [z3, aN, b2]
  · simp [z3, aN, b3]
  · simpa [z3, aN] using hh q hq
  · obtain ⟨w1, w2, w3, w4, w5, w6, w7, w8, w9, w10⟩ := hw q hq
    by_cases hqp : q = p
    · subst hqp
      refine ⟨?_, ?_, ?_, ?_, ?_, ?_, ?_, ?_, ?_, ?_⟩ <;> simp [z3, aN, w1, w2, w3, w4, w5, w6, w7, w8, w9, w10]
    · refine ⟨?_, ?_, ?_, ?_, ?_, ?_, ?_, ?_, ?_, ?_⟩ <;> simp [z3, aN, hqp, w1, w2, w3, w4, w5, w6, w7, w8, w9, w10]
  · simpa [z3, aN] using hl q hq i hi
  · rw [show (z3 S 4 p 4 v) 6 r = S 6 r from by funext x; simp [z3], show (z3 S 4 p 4 v) 7 r = S 7 r from by funext x; simp [z3]]
    exact hr r hr2
theorem cRw5 {n : Nat} {σ : aS} {S : zSt} {v : Int32} {p : Nat} (h : cRel n σ S) : cRel n (aN σ 1 11 p v) (z3 S 4 p 5 v) := by
  obtain ⟨⟨a1, a2, a3, a4, a5, a6, a7, a8⟩, ⟨b1, b2, b3⟩, hh, hw, hl, hr⟩ := h
  refine ⟨⟨?_, ?_, ?_, ?_, ?_, ?_, ?_, ?_⟩, ⟨?_, ?_, ?_⟩, fun q hq => ?_, fun q hq => ?_, fun q hq i hi => ?_, fun r hr2 => ?_⟩
  · simp [z3, aN, a1]
  · simp [z3, aN, a2]
  · simp [z3, aN, a3]
  · simp [z3, aN, a4]
  · simp [z3, aN, a5]
  · simp [z3, aN, a6]
  · simp [z3, aN, a7]
  · simp [z3, aN, a8]
  · simp [z3, aN, b1]
  · simp [z3, aN, b2]
  · simp [z3, aN, b3]
  · simpa [z3, aN] using hh q hq
  · obtain ⟨w1, w2, w3, w4, w5, w6, w7, w8, w9, w10⟩ := hw q hq
    by_cases hqp : q = p
    · subst hqp
      refine ⟨?_, ?_, ?_, ?_, ?_, ?_, ?_, ?_, ?_, ?_⟩ <;> simp [z3, aN, w1, w2, w3, w4, w5, w6, w7, w8, w9, w10]
    · refine ⟨?_, ?_, ?_, ?_, ?_, ?_, ?_, ?_, ?_, ?_⟩ <;> simp [z3, aN, hqp, w1, w2, w3, w4, w5, w6, w7, w8, w9, w10]
  · simpa [z3, aN] using hl q hq i hi
  · rw [show (z3 S 4 p 5 v) 6 r = S 6 r from by funext x; simp [z3], show (z3 S 4 p 5 v) 7 r = S 7 r from by funext x; simp [z3]]
    exact hr r hr2
theorem cRw9 {n : Nat} {σ : aS} {S : zSt} {v : Int32} {p : Nat} (h : cRel n σ S) : cRel n (aN σ 1 14 p v) (z3 S 4 p 9 v) := by
  obtain ⟨⟨a1, a2, a3, a4, a5, a6, a7, a8⟩, ⟨b1, b2, b3⟩, hh, hw, hl, hr⟩ := h
  refine ⟨⟨?_, ?_, ?_, ?_, ?_, ?_, ?_, ?_⟩, ⟨?_, ?_, ?_⟩, fun q hq => ?_, fun q hq => ?_, fun q hq i hi => ?_, fun r hr2 => ?_⟩
  · simp [z3, aN, a1]
  · simp [z3, aN, a2]
  · simp [z3, aN, a3]
  · simp [z3, aN, a4]
  · simp [z3, aN, a5]
  · simp [z3, aN, a6]
  · simp [z3, aN, a7]
  · simp [z3, aN, a8]
  · simp [z3, aN, b1]
  · simp [z3, aN, b2]
  · simp [z3, aN, b3]
  · simpa [z3, aN] using hh q hq
  · obtain ⟨w1, w2, w3, w4, w5, w6, w7, w8, w9, w10⟩ := hw q hq
    by_cases hqp : q = p
    · subst hqp
      refine ⟨?_, ?_, ?_, ?_, ?_, ?_, ?_, ?_, ?_, ?_⟩ <;> simp [z3, aN, w1, w2, w3, w4, w5, w6, w7, w8, w9, w10]
    · refine ⟨?_, ?_, ?_, ?_, ?_, ?_, ?_, ?_, ?_, ?_⟩ <;> simp [z3, aN, hqp, w1, w2, w3, w4, w5, w6, w7, w8, w9, w10]
  · simpa [z3, aN] using hl q hq i hi
  · rw [show (z3 S 4 p 9 v) 6 r = S 6 r from by funext x; simp [z3], show (z3 S 4 p 9 v) 7 r = S 7 r from by funext x; simp [z3]]
    exact hr r hr2
theorem cRw10 {n : Nat} {σ : aS} {S : zSt} {v : Int32} {p : Nat} (h : cRel n σ S) : cRel n (aN σ 1 15 p v) (z3 S 4 p 10 v) := by
  obtain ⟨⟨a1, a2, a3, a4, a5, a6, a7, a8⟩, ⟨b1, b2, b3⟩, hh, hw, hl, hr⟩ := h
  refine ⟨⟨?_, ?_, ?_, ?_, ?_, ?_, ?_, ?_⟩, ⟨?_, ?_, ?_⟩, fun q hq => ?_, fun q hq => ?_, fun q hq i hi => ?_, fun r hr2 => ?_⟩
  · simp [z3, aN, a1]
  · simp [z3, aN, a2]
  · simp [z3, aN, a3]
  · simp [z3, aN, a4]
  · simp [z3, aN, a5]
  · simp [z3, aN, a6]
  · simp [z3, aN, a7]
  · simp [z3, aN, a8]
  · simp [z3, aN, b1]
  · simp [z3, aN, b2]
  · simp [z3, aN, b3]
  · simpa [z3, aN] using hh q hq
  · obtain ⟨w1, w2, w3, w4, w5, w6, w7, w8, w9, w10⟩ := hw q hq
    by_cases hqp : q = p
    · subst hqp
      refine ⟨?_, ?_, ?_, ?_, ?_, ?_, ?_, ?_, ?_, ?_⟩ <;> simp [z3, aN, w1, w2, w3, w4, w5, w6, w7, w8, w9, w10]
    · refine ⟨?_, ?_, ?_, ?_, ?_, ?_, ?_, ?_, ?_, ?_⟩ <;> simp [z3, aN, hqp, w1, w2, w3, w4, w5, w6, w7, w8, w9, w10]
  · simpa [z3, aN] using hl q hq i hi
  · rw [show (z3 S 4 p 10 v) 6 r = S 6 r from by funext x; simp [z3], show (z3 S 4 p 10 v) 7 r = S 7 r from by funext x; simp [z3]]
    exact hr r hr2
theorem cRl {n : Nat} {σ : aS} {S : zSt} {v : Int32} {p j : Nat} (h : cRel n σ S) (hn : n ≤ 10) (hp : p < n) (hj : j < n) : cRel n (aN σ 1 18 (10 * p + j) v) (z3 S 5 p j v) := by
  obtain ⟨⟨a1, a2, a3, a4, a5, a6, a7, a8⟩, ⟨b1, b2, b3⟩, hh, hw, hl, hr⟩ := h
  refine ⟨⟨?_, ?_, ?_, ?_, ?_, ?_, ?_, ?_⟩, ⟨?_, ?_, ?_⟩, fun q hq => ?_, fun q hq => ?_, fun q hq i hi => ?_, fun r hr2 => ?_⟩
  · simp [z3, aN, a1]
  · simp [z3, aN, a2]
  · simp [z3, aN, a3]
  · simp [z3, aN, a4]
  · simp [z3, aN, a5]
  · simp [z3, aN, a6]
  · simp [z3, aN, a7]
  · simp [z3, aN, a8]
  · simp [z3, aN, b1]
  · simp [z3, aN, b2]
  · simp [z3, aN, b3]
  · simpa [z3, aN] using hh q hq
  · simpa [cWk, z3, aN] using hw q hq
  · by_cases hqp : q = p
    · subst hqp
      by_cases hij : i = j
      · subst hij; simp [z3, aN]
      · have : ¬ (10 * q + i = 10 * q + j) := by omega
        simpa [z3, aN, hij, this] using hl q hq i hi
    · have : ¬ (10 * q + i = 10 * p + j) := by omega
      simpa [z3, aN, hqp, this] using hl q hq i hi
  · rw [show (z3 S 5 p j v) 6 r = S 6 r from by funext x; simp [z3], show (z3 S 5 p j v) 7 r = S 7 r from by funext x; simp [z3]]
    exact hr r hr2
theorem cRh0 {n : Nat} {σ : aS} {S : zSt} {p : Nat} (h : cRel n σ S) (hn : n ≤ 10) (hp : p < n) (h0 : S 3 0 0 = nI p) : cRel n (aN σ 1 13 p 0) (z3 S 3 0 0 (-1)) := by
  obtain ⟨⟨a1, a2, a3, a4, a5, a6, a7, a8⟩, ⟨b1, b2, b3⟩, hh, hw, hl, hr⟩ := h
  refine ⟨⟨?_, ?_, ?_, ?_, ?_, ?_, ?_, ?_⟩, ⟨?_, ?_, ?_⟩, fun q hq => ?_, fun q hq => ?_, fun q hq i hi => ?_, fun r hr2 => ?_⟩
  · simp [z3, aN, a1]
  · simp [z3, aN, a2]
  · simp [z3, aN, a3]
  · simp [z3, aN, a4]
  · simp [z3, aN, a5]
  · simp [z3, aN, a6]
  · simp [z3, aN, a7]
  · simp [z3, aN, a8]
  · simp [z3, aN, b1]
  · simp [z3, aN, b2]
  · simp [z3, aN, b3]
  · have hq1 : ¬ ((-1 : Int32) = nI q) := by
      intro hc
      have := nI_pos (n := q) (by omega)
      rw [← hc] at this
      exact this (by decide)
    by_cases hqp : q = p
    · subst hqp; simp [z3, aN, hq1]
    · have h2 := hh q hq
      rw [if_neg (by rw [h0]; intro hc; exact hqp ((nI_eq (by omega) (by omega)).mp hc).symm)] at h2
      simp [z3, aN, hqp, hq1, h2]
  · simpa [cWk, z3, aN] using hw q hq
  · simpa [z3, aN] using hl q hq i hi
  · rw [show (z3 S 3 0 0 (-1)) 6 r = S 6 r from by funext x; simp [z3], show (z3 S 3 0 0 (-1)) 7 r = S 7 r from by funext x; simp [z3]]
    exact hr r hr2
theorem cRh1 {n : Nat} {σ : aS} {S : zSt} {p : Nat} (h : cRel n σ S) (hn : n ≤ 10) (hp : p < n) (h0 : ∀ q, q < n → σ.1 1 13 q = 0) : cRel n (aN σ 1 13 p 1) (z3 S 3 0 0 (nI p)) := by
  obtain ⟨⟨a1, a2, a3, a4, a5, a6, a7, a8⟩, ⟨b1, b2, b3⟩, hh, hw, hl, hr⟩ := h
  refine ⟨⟨?_, ?_, ?_, ?_, ?_, ?_, ?_, ?_⟩, ⟨?_, ?_, ?_⟩, fun q hq => ?_, fun q hq => ?_, fun q hq i hi => ?_, fun r hr2 => ?_⟩
  · simp [z3, aN, a1]
  · simp [z3, aN, a2]
  · simp [z3, aN, a3]
  · simp [z3, aN, a4]
  · simp [z3, aN, a5]
  · simp [z3, aN, a6]
  · simp [z3, aN, a7]
  · simp [z3, aN, a8]
  · simp [z3, aN, b1]
  · simp [z3, aN, b2]
  · simp [z3, aN, b3]
  · by_cases hqp : q = p
    · subst hqp; simp [z3, aN]
    · have : ¬ (nI p = nI q) := fun hc => hqp ((nI_eq (by omega) (by omega)).mp hc).symm
      simp [z3, aN, hqp, this, h0 q hq]
  · simpa [cWk, z3, aN] using hw q hq
  · simpa [z3, aN] using hl q hq i hi
  · rw [show (z3 S 3 0 0 (nI p)) 6 r = S 6 r from by funext x; simp [z3], show (z3 S 3 0 0 (nI p)) 7 r = S 7 r from by funext x; simp [z3]]
    exact hr r hr2
theorem aBits_lt (f : Nat → Bool) : ∀ n, aBits f n < 2 ^ n
  | 0 => by simp [aBits]
  | n + 1 => by
    have := aBits_lt f n
    simp only [aBits, Nat.pow_succ]
    split <;> omega
theorem aBits_bit (f : Nat → Bool) : ∀ (n q : Nat), (aBits f n).testBit q = (decide (q < n) && f q)
  | 0, q => by simp [aBits]
  | n + 1, q => by
    have ih := aBits_bit f n q
    have hlt := aBits_lt f n
    simp only [aBits]
    by_cases hf : f n = true
    · rw [if_pos hf, Nat.add_comm]
      by_cases hq : q = n
      · subst hq
        rw [Nat.testBit_two_pow_add_eq, ih]
        simp [hf]
      · by_cases hql : q < n
        · rw [Nat.testBit_two_pow_add_gt hql, ih]
          have : q < n + 1 := by omega
          simp [hql, this]
        · have h1 : 2 ^ n + aBits f n < 2 ^ q := by
            calc 2 ^ n + aBits f n < 2 ^ n + 2 ^ n := by omega
              _ = 2 ^ (n + 1) := by rw [Nat.pow_succ]; omega
              _ ≤ 2 ^ q := Nat.pow_le_pow_right (by decide) (by omega)
          rw [Nat.testBit_lt_two_pow h1]
          have : ¬ q < n + 1 := by omega
          simp [this]
    · rw [if_neg hf, Nat.add_zero, ih]
      by_cases hq : q = n
      · subst hq
        simp [hf]
      · have : (q < n) ↔ (q < n + 1) := by omega
        simp [this]
theorem aBits_ext {f : Nat → Bool} {n x : Nat} (hx : x < 2 ^ 32) (hn : n ≤ 10) (h : ∀ q, q < 32 → x.testBit q = (decide (q < n) && f q)) : x = aBits f n := by
  apply Nat.eq_of_testBit_eq
  intro q
  rw [aBits_bit]
  by_cases hq : q < 32
  · exact h q hq
  · rw [Nat.testBit_lt_two_pow (Nat.lt_of_lt_of_le hx (Nat.pow_le_pow_right (by decide) (by omega)))]
    have : ¬ q < n := by omega
    simp [this]
theorem aBits_zero {f : Nat → Bool} {n : Nat} : aBits f n = 0 ↔ aCnt f n = 0 := by
  rw [aCnt_zero]
  constructor
  · intro h k hk
    have := aBits_bit f n k
    rw [h] at this
    simpa [hk] using this.symm
  · intro h
    apply Nat.eq_of_testBit_eq
    intro q
    rw [aBits_bit]
    by_cases hq : q < n
    · simp [hq, h q hq]
    · simp [hq]
theorem aBits_10 {f : Nat → Bool} {n : Nat} (hn : n ≤ 10) : aBits f n < 1024 := Nat.lt_of_lt_of_le (aBits_lt f n) (Nat.pow_le_pow_right (by decide) hn)
theorem cRw6 {n : Nat} {σ : aS} {S : zSt} {p j : Nat} {v x : Int32} (h : cRel n σ S) (hn : n ≤ 10) (hp : p < n) (hj : j < n) (hx : x = nI (aBits (fun q => (aN σ 1 16 (10 * p + j) v).1 1 16 (10 * p + q) != 0) n)) : cRel n (aN σ 1 16 (10 * p + j) v) (z3 S 4 p 6 x) := by
  obtain ⟨⟨a1, a2, a3, a4, a5, a6, a7, a8⟩, ⟨b1, b2, b3⟩, hh, hw, hl, hr⟩ := h
  refine ⟨⟨?_, ?_, ?_, ?_, ?_, ?_, ?_, ?_⟩, ⟨?_, ?_, ?_⟩, fun q hq => ?_, fun q hq => ?_, fun q hq i hi => ?_, fun r hr2 => ?_⟩
  · simp [z3, aN, a1]
  · simp [z3, aN, a2]
  · simp [z3, aN, a3]
  · simp [z3, aN, a4]
  · simp [z3, aN, a5]
  · simp [z3, aN, a6]
  · simp [z3, aN, a7]
  · simp [z3, aN, a8]
  · simp [z3, aN, b1]
  · simp [z3, aN, b2]
  · simp [z3, aN, b3]
  · simpa [z3, aN] using hh q hq
  · obtain ⟨w1, w2, w3, w4, w5, w6, w7, w8, w9, w10⟩ := hw q hq
    by_cases hqp : q = p
    · subst hqp
      refine ⟨?_, ?_, ?_, ?_, ?_, ?_, ?_, ?_, ?_, ?_⟩ <;> first | (simpa [z3] using hx) | simp [z3, aN, w1, w2, w3, w4, w5, w6, w7, w8, w9, w10]
    · have e : aBits (fun x => (aN σ 1 16 (10 * p + j) v).1 1 16 (10 * q + x) != 0) n = aBits (fun x => σ.1 1 16 (10 * q + x) != 0) n := aBits_cong (fun x hx => by
        have : ¬ (10 * q + x = 10 * p + j) := by omega
        simp [aN, z3, this])
      refine ⟨?_, ?_, ?_, ?_, ?_, ?_, ?_, ?_, ?_, ?_⟩ <;> first | (simp only [e]; simp [z3, hqp, w6, w7, w8]; done) | simp [z3, aN, hqp, w1, w2, w3, w4, w5, w6, w7, w8, w9, w10]
  · simpa [z3, aN] using hl q hq i hi
  · rw [show (z3 S 4 p 6 x) 6 r = S 6 r from by funext x; simp [z3], show (z3 S 4 p 6 x) 7 r = S 7 r from by funext x; simp [z3]]
    exact hr r hr2
theorem cRw7 {n : Nat} {σ : aS} {S : zSt} {p j : Nat} {v x : Int32} (h : cRel n σ S) (hn : n ≤ 10) (hp : p < n) (hj : j < n) (hx : x = nI (aBits (fun q => (aN σ 1 30 (10 * p + j) v).1 1 30 (10 * p + q) != 0) n)) : cRel n (aN σ 1 30 (10 * p + j) v) (z3 S 4 p 7 x) := by
  obtain ⟨⟨a1, a2, a3, a4, a5, a6, a7, a8⟩, ⟨b1, b2, b3⟩, hh, hw, hl, hr⟩ := h
  refine ⟨⟨?_, ?_, ?_, ?_, ?_, ?_, ?_, ?_⟩, ⟨?_, ?_, ?_⟩, fun q hq => ?_, fun q hq => ?_, fun q hq i hi => ?_, fun r hr2 => ?_⟩
  · simp [z3, aN, a1]
  · simp [z3, aN, a2]
  · simp [z3, aN, a3]
  · simp [z3, aN, a4]
  · simp [z3, aN, a5]
  · simp [z3, aN, a6]
  · simp [z3, aN, a7]
  · simp [z3, aN, a8]
  · simp [z3, aN, b1]
  · simp [z3, aN, b2]
  · simp [z3, aN, b3]
  · simpa [z3, aN] using hh q hq
  · obtain ⟨w1, w2, w3, w4, w5, w6, w7, w8, w9, w10⟩ := hw q hq
    by_cases hqp : q = p
    · subst hqp
      refine ⟨?_, ?_, ?_, ?_, ?_, ?_, ?_, ?_, ?_, ?_⟩ <;> first | (simpa [z3] using hx) | simp [z3, aN, w1, w2, w3, w4, w5, w6, w7, w8, w9, w10]
    · have e : aBits (fun x => (aN σ 1 30 (10 * p + j) v).1 1 30 (10 * q + x) != 0) n = aBits (fun x => σ.1 1 30 (10 * q + x) != 0) n := aBits_cong (fun x hx => by
        have : ¬ (10 * q + x = 10 * p + j) := by omega
        simp [aN, z3, this])
      refine ⟨?_, ?_, ?_, ?_, ?_, ?_, ?_, ?_, ?_, ?_⟩ <;> first | (simp only [e]; simp [z3, hqp, w6, w7, w8]; done) | simp [z3, aN, hqp, w1, w2, w3, w4, w5, w6, w7, w8, w9, w10]
  · simpa [z3, aN] using hl q hq i hi
  · rw [show (z3 S 4 p 7 x) 6 r = S 6 r from by funext x; simp [z3], show (z3 S 4 p 7 x) 7 r = S 7 r from by funext x; simp [z3]]
    exact hr r hr2
theorem cRw8 {n : Nat} {σ : aS} {S : zSt} {p j : Nat} {v x : Int32} (h : cRel n σ S) (hn : n ≤ 10) (hp : p < n) (hj : j < n) (hx : x = nI (aBits (fun q => (aN σ 1 17 (10 * p + j) v).1 1 17 (10 * p + q) != 0) n)) : cRel n (aN σ 1 17 (10 * p + j) v) (z3 S 4 p 8 x) := by
  obtain ⟨⟨a1, a2, a3, a4, a5, a6, a7, a8⟩, ⟨b1, b2, b3⟩, hh, hw, hl, hr⟩ := h
  refine ⟨⟨?_, ?_, ?_, ?_, ?_, ?_, ?_, ?_⟩, ⟨?_, ?_, ?_⟩, fun q hq => ?_, fun q hq => ?_, fun q hq i hi => ?_, fun r hr2 => ?_⟩
  · simp [z3, aN, a1]
  · simp [z3, aN, a2]
  · simp [z3, aN, a3]
  · simp [z3, aN, a4]
  · simp [z3, aN, a5]
  · simp [z3, aN, a6]
  · simp [z3, aN, a7]
  · simp [z3, aN, a8]
  · simp [z3, aN, b1]
  · simp [z3, aN, b2]
  · simp [z3, aN, b3]
  · simpa [z3, aN] using hh q hq
  · obtain ⟨w1, w2, w3, w4, w5, w6, w7, w8, w9, w10⟩ := hw q hq
    by_cases hqp : q = p
    · subst hqp
      refine ⟨?_, ?_, ?_, ?_, ?_, ?_, ?_, ?_, ?_, ?_⟩ <;> first | (simpa [z3] using hx) | simp [z3, aN, w1, w2, w3, w4, w5, w6, w7, w8, w9, w10]
    · have e : aBits (fun x => (aN σ 1 17 (10 * p + j) v).1 1 17 (10 * q + x) != 0) n = aBits (fun x => σ.1 1 17 (10 * q + x) != 0) n := aBits_cong (fun x hx => by
        have : ¬ (10 * q + x = 10 * p + j) := by omega
        simp [aN, z3, this])
      refine ⟨?_, ?_, ?_, ?_, ?_, ?_, ?_, ?_, ?_, ?_⟩ <;> first | (simp only [e]; simp [z3, hqp, w6, w7, w8]; done) | simp [z3, aN, hqp, w1, w2, w3, w4, w5, w6, w7, w8, w9, w10]
  · simpa [z3, aN] using hl q hq i hi
  · rw [show (z3 S 4 p 8 x) 6 r = S 6 r from by funext x; simp [z3], show (z3 S 4 p 8 x) 7 r = S 7 r from by funext x; simp [z3]]
    exact hr r hr2
end
section
section ZVC
variable {p : Program} {l : Launch} {e : Env} {R : Room} {s : State} {m : MethodId} {args : Array Value} {below : List Frame} {meth : Method} {c : Code} {Q : State → Prop} {cells slots : Nat}
variable {own : String} {cc : ByteArray} {nL : Nat} {ret : Option FieldType} {D : va_G} {K : zKs} {A : Nat → Prop} {IL : List zI} {sh : zSh} {ad : zAd} {S : zSt} {pc : Nat} {lv : List (Option Value)} {st : List Value}
/-- the class's world behind a call: the rows' cells may lie elsewhere -/
def cP (K : zKs) (n : Nat) (ad : zAd) (V : Option Value) (σ : aS) : Option Value → zSh → zAd → zSt → Prop := fun v sh ad' S => v = V ∧ sh = cSh K n (cpo n σ.2.2) ∧ (∃ ca : Nat → Nat, ad' = zA ad ca) ∧ cRel n σ S
theorem Zr_callVC (C : zX p s m args meth c own cc nL ret D K A) {y : MethodName} {b : ByteArray} {nLc n0 idx ci a1 b1 fr lo mc ms nn : Nat} {Cn : String} {T : u_T} {N : Nat} {retc : Option FieldType} {ds : List (Option zI)} {st0 As : List Value} {v : Value} {σ : aS} {ad0 : zAd} {ca0 : Nat → Nat} (cw : zCV own idx Cn y b nLc retc n0) (hM : zMet l y b nLc retc { frames := fr, cells := mc, slots := ms, locals := lo } D K (cIL nn) sh (zA ad0 ca0) S (.ref (zA ad0 ca0 (a1, b1)) :: As) (cP K nn ad0 (some v) σ)) (hm : (a1, b1) ∈ cIL nn) (hs : sh (a1, b1) = .inl (ci, ds)) (hc : vwCl[ci]? = some (Cn, T, N)) (hst : st0 = As.reverse ++ .ref (zA ad0 ca0 (a1, b1)) :: st) (hfr : fr + 1 ≤ R.frames) (hlo : 8 + (nLc + 11) + lo ≤ R.locals) (hn : As.length = n0) (hcat : (st.map fun v => v.category).sum ≤ 8) (hd : decode cc pc = .ok (.invokevirtual idx, 3)) (hroom : cells + mc ≤ R.cells ∧ slots + ms ≤ R.slots)
    (kk : ∀ (ca : Nat → Nat) (S' : zSt), cRel nn σ S' → Z p l e R s m args below meth c D A nL Q (cIL nn) (cells + mc) (slots + ms) (cSh K nn (cpo nn σ.2.2)) (zA ad0 ca) S' (pc + 3) lv (v :: st)) : Z p l e R s m args below meth c D A nL Q (cIL nn) cells slots sh (zA ad0 ca0) S pc lv st0 := by
  refine Zr_invV C As cw hM hm hs hc hst hfr hlo hn hcat hd hroom (fun v sh' ad' S' hp => ?_)
  obtain ⟨rfl, rfl, ⟨ca, rfl⟩, hp⟩ := hp
  exact kk ca S' hp
theorem Zr_callVCv (C : zX p s m args meth c own cc nL ret D K A) {y : MethodName} {b : ByteArray} {nLc n0 idx ci a1 b1 fr lo mc ms nn : Nat} {Cn : String} {T : u_T} {N : Nat} {retc : Option FieldType} {ds : List (Option zI)} {st0 As : List Value} {σ : aS} {ad0 : zAd} {ca0 : Nat → Nat} (cw : zCV own idx Cn y b nLc retc n0) (hM : zMet l y b nLc retc { frames := fr, cells := mc, slots := ms, locals := lo } D K (cIL nn) sh (zA ad0 ca0) S (.ref (zA ad0 ca0 (a1, b1)) :: As) (cP K nn ad0 none σ)) (hm : (a1, b1) ∈ cIL nn) (hs : sh (a1, b1) = .inl (ci, ds)) (hc : vwCl[ci]? = some (Cn, T, N)) (hst : st0 = As.reverse ++ .ref (zA ad0 ca0 (a1, b1)) :: st) (hfr : fr + 1 ≤ R.frames) (hlo : 8 + (nLc + 11) + lo ≤ R.locals) (hn : As.length = n0) (hcat : (st.map fun v => v.category).sum ≤ 8) (hd : decode cc pc = .ok (.invokevirtual idx, 3)) (hroom : cells + mc ≤ R.cells ∧ slots + ms ≤ R.slots)
    (kk : ∀ (ca : Nat → Nat) (S' : zSt), cRel nn σ S' → Z p l e R s m args below meth c D A nL Q (cIL nn) (cells + mc) (slots + ms) (cSh K nn (cpo nn σ.2.2)) (zA ad0 ca) S' (pc + 3) lv st) : Z p l e R s m args below meth c D A nL Q (cIL nn) cells slots sh (zA ad0 ca0) S pc lv st0 := by
  refine Zr_invV C As cw hM hm hs hc hst hfr hlo hn hcat hd hroom (fun v sh' ad' S' hp => ?_)
  obtain ⟨rfl, rfl, ⟨ca, rfl⟩, hp⟩ := hp
  exact kk ca S' hp
end ZVC
set_option maxHeartbeats 4000000 in
set_option maxRecDepth 100000 in
theorem k_X3_oneIf {l : Launch} {D : va_G} {K : zKs} {IL : List zI} {sh : zSh} {ad : zAd} {S : zSt} {b : Int32} : zMet l yX3_oneIf cX3_oneIf 1 (some .int) { frames := 0, cells := 0, slots := 0, locals := 0 } D K IL sh ad S [.int b] (zEq (some (.int (if b = 0 then 0 else 1))) sh ad (S)) := by
  refine zEnter (own := RX3) (lv0 := [some (.int b)]) (by decide) rfl (by simp [Value.category]) (Nat.le_of_ble_eq_true rfl) rfl ?_
  intro p e s m below meth c A C _ hnm
  refine Zr_iload_n C dX3_oneIf_0 rfl ?_
  refine Zr_if_eq C 8 dX3_oneIf_1 (by decide) (fun h1 => ?_) (fun h1 => ?_)
  · refine Zr_iconst C (0) dX3_oneIf_8 rfl ?_
    exact Zr_iret C dX3_oneIf_9 (Nat.zero_le _) (Nat.zero_le _) ⟨by simp [*], rfl, rfl, rfl⟩
  · refine Zr_iconst C (1) dX3_oneIf_4 rfl ?_
    refine Zr_goto C 9 dX3_oneIf_5 (by decide) ?_
    exact Zr_iret C dX3_oneIf_9 (Nat.zero_le _) (Nat.zero_le _) ⟨by simp [*], rfl, rfl, rfl⟩
set_option maxHeartbeats 4000000 in
set_option maxRecDepth 100000 in
theorem k_X3_bitOf {l : Launch} {D : va_G} {K : zKs} {IL : List zI} {sh : zSh} {ad : zAd} {S : zSt} {x : Int32} : zMet l yX3_bitOf cX3_bitOf 1 (some .int) { frames := 0, cells := 0, slots := 0, locals := 0 } D K IL sh ad S [.int x] (zEq (some (.int (1 <<< (x &&& 31)))) sh ad (S)) := by
  refine zEnter (own := RX3) (lv0 := [some (.int x)]) (by decide) rfl (by simp [Value.category]) (Nat.le_of_ble_eq_true rfl) rfl ?_
  intro p e s m below meth c A C _ hnm
  refine Zr_iconst C (1) dX3_bitOf_0 rfl ?_
  refine Zr_iload_n C dX3_bitOf_1 rfl ?_
  refine Zr_ishl C dX3_bitOf_2 ?_
  exact Zr_iret C dX3_bitOf_3 (Nat.zero_le _) (Nat.zero_le _) ⟨rfl, rfl, rfl, rfl⟩
set_option maxHeartbeats 4000000 in
set_option maxRecDepth 100000 in
theorem k_X3_allOf {l : Launch} {D : va_G} {K : zKs} {IL : List zI} {sh : zSh} {ad : zAd} {S : zSt} {x : Int32} : zMet l yX3_allOf cX3_allOf 1 (some .int) { frames := 0, cells := 0, slots := 0, locals := 0 } D K IL sh ad S [.int x] (zEq (some (.int (1 <<< (x &&& 31) - 1))) sh ad (S)) := by
  refine zEnter (own := RX3) (lv0 := [some (.int x)]) (by decide) rfl (by simp [Value.category]) (Nat.le_of_ble_eq_true rfl) rfl ?_
  intro p e s m below meth c A C _ hnm
  refine Zr_iconst C (1) dX3_allOf_0 rfl ?_
  refine Zr_iload_n C dX3_allOf_1 rfl ?_
  refine Zr_ishl C dX3_allOf_2 ?_
  refine Zr_iconst C (1) dX3_allOf_3 rfl ?_
  refine Zr_isub C dX3_allOf_4 ?_
  exact Zr_iret C dX3_allOf_5 (Nat.zero_le _) (Nat.zero_le _) ⟨rfl, rfl, rfl, rfl⟩
set_option maxHeartbeats 4000000 in
set_option maxRecDepth 100000 in
theorem k_X3_kindOf {l : Launch} {D : va_G} {K : zKs} {IL : List zI} {sh : zSh} {ad : zAd} {S : zSt} {x : Int32} : zMet l yX3_kindOf cX3_kindOf 1 (some .int) { frames := 0, cells := 0, slots := 0, locals := 0 } D K IL sh ad S [.int x] (zEq (some (.int (x &&& 7))) sh ad (S)) := by
  refine zEnter (own := RX3) (lv0 := [some (.int x)]) (by decide) rfl (by simp [Value.category]) (Nat.le_of_ble_eq_true rfl) rfl ?_
  intro p e s m below meth c A C _ hnm
  refine Zr_iload_n C dX3_kindOf_0 rfl ?_
  refine Zr_bipush C (7) dX3_kindOf_1 rfl ?_
  refine Zr_iand C dX3_kindOf_3 ?_
  exact Zr_iret C dX3_kindOf_4 (Nat.zero_le _) (Nat.zero_le _) ⟨rfl, rfl, rfl, rfl⟩
set_option maxHeartbeats 4000000 in
set_option maxRecDepth 100000 in
theorem k_X3_beginnerOf {l : Launch} {D : va_G} {K : zKs} {IL : List zI} {sh : zSh} {ad : zAd} {S : zSt} {x : Int32} : zMet l yX3_beginnerOf cX3_beginnerOf 1 (some .int) { frames := 0, cells := 0, slots := 0, locals := 0 } D K IL sh ad S [.int x] (zEq (some (.int (x >>> ((3 : Int32) &&& 31) &&& 15))) sh ad (S)) := by
  refine zEnter (own := RX3) (lv0 := [some (.int x)]) (by decide) rfl (by simp [Value.category]) (Nat.le_of_ble_eq_true rfl) rfl ?_
  intro p e s m below meth c A C _ hnm
  refine Zr_iload_n C dX3_beginnerOf_0 rfl ?_
  refine Zr_iconst C (3) dX3_beginnerOf_1 rfl ?_
  refine Zr_ishr C dX3_beginnerOf_2 ?_
  refine Zr_bipush C (15) dX3_beginnerOf_3 rfl ?_
  refine Zr_iand C dX3_beginnerOf_5 ?_
  exact Zr_iret C dX3_beginnerOf_6 (Nat.zero_le _) (Nat.zero_le _) ⟨rfl, rfl, rfl, rfl⟩
set_option maxHeartbeats 4000000 in
set_option maxRecDepth 100000 in
theorem k_X3_numberOf {l : Launch} {D : va_G} {K : zKs} {IL : List zI} {sh : zSh} {ad : zAd} {S : zSt} {x : Int32} : zMet l yX3_numberOf cX3_numberOf 1 (some .int) { frames := 0, cells := 0, slots := 0, locals := 0 } D K IL sh ad S [.int x] (zEq (some (.int (x >>> ((7 : Int32) &&& 31)))) sh ad (S)) := by
  refine zEnter (own := RX3) (lv0 := [some (.int x)]) (by decide) rfl (by simp [Value.category]) (Nat.le_of_ble_eq_true rfl) rfl ?_
  intro p e s m below meth c A C _ hnm
  refine Zr_iload_n C dX3_numberOf_0 rfl ?_
  refine Zr_bipush C (7) dX3_numberOf_1 rfl ?_
  refine Zr_ishr C dX3_numberOf_3 ?_
  exact Zr_iret C dX3_numberOf_4 (Nat.zero_le _) (Nat.zero_le _) ⟨rfl, rfl, rfl, rfl⟩
set_option maxHeartbeats 4000000 in
set_option maxRecDepth 100000 in
theorem k_X3_probeOf {l : Launch} {D : va_G} {K : zKs} {IL : List zI} {sh : zSh} {ad : zAd} {S : zSt} {x y : Int32} : zMet l yX3_probeOf cX3_probeOf 2 (some .int) { frames := 0, cells := 0, slots := 0, locals := 0 } D K IL sh ad S [.int x, .int y] (zEq (some (.int (cPack (6, x, y)))) sh ad (S)) := by
  refine zEnter (own := RX3) (lv0 := [some (.int x), some (.int y)]) (by decide) rfl (by simp [Value.category]) (Nat.le_of_ble_eq_true rfl) rfl ?_
  intro p e s m below meth c A C _ hnm
  refine Zr_iload_n C dX3_probeOf_0 rfl ?_
  refine Zr_bipush C (7) dX3_probeOf_1 rfl ?_
  refine Zr_ishl C dX3_probeOf_3 ?_
  refine Zr_iload_n C dX3_probeOf_4 rfl ?_
  refine Zr_iconst C (3) dX3_probeOf_5 rfl ?_
  refine Zr_ishl C dX3_probeOf_6 ?_
  refine Zr_ior C dX3_probeOf_7 ?_
  refine Zr_bipush C (6) dX3_probeOf_8 rfl ?_
  refine Zr_ior C dX3_probeOf_10 ?_
  exact Zr_iret C dX3_probeOf_11 (Nat.zero_le _) (Nat.zero_le _) ⟨rfl, rfl, rfl, rfl⟩
theorem c_bit1 : ∀ q, q < 32 → (1 : Int32) <<< (nI q &&& 31) = nI (2 ^ q) := by decide +kernel
theorem c_land (a b : Nat) : nI a &&& nI b = nI (a &&& b) := by
  apply Int32.toBitVec_inj.1
  show BitVec.ofNat 32 a &&& BitVec.ofNat 32 b = BitVec.ofNat 32 (a &&& b)
  apply BitVec.eq_of_getLsbD_eq
  intro i hi
  simp [hi]
theorem c_lor (a b : Nat) : nI a ||| nI b = nI (a ||| b) := by
  apply Int32.toBitVec_inj.1
  show BitVec.ofNat 32 a ||| BitVec.ofNat 32 b = BitVec.ofNat 32 (a ||| b)
  apply BitVec.eq_of_getLsbD_eq
  intro i hi
  simp [hi]
theorem c_holds {x q : Nat} (hx : x < 1024) (hq : q < 10) : nI x &&& (1 : Int32) <<< (nI q &&& 31) = 0 ↔ x.testBit q = false := by
  rw [c_bit1 q (by omega), c_land]
  have h1 : x &&& 2 ^ q < 2 ^ 31 := Nat.lt_of_le_of_lt Nat.and_le_left (by omega)
  rw [show (0 : Int32) = nI 0 from rfl, nI_eq h1 (by decide)]
  constructor
  · intro h
    have := congrArg (fun z => z.testBit q) h
    simpa using this
  · intro h
    apply Nat.eq_of_testBit_eq
    intro i
    rw [Nat.testBit_and, Nat.testBit_two_pow]
    by_cases hi : q = i
    · subst hi; simp [h]
    · simp [hi]
set_option maxHeartbeats 4000000 in
set_option maxRecDepth 100000 in
theorem k_X3_holds {l : Launch} {D : va_G} {K : zKs} {IL : List zI} {sh : zSh} {ad : zAd} {S : zSt} {x q : Nat} (hx : x < 1024) (hq : q < 10) : zMet l yX3_holds cX3_holds 2 (some .boolean) { frames := 1, cells := 0, slots := 0, locals := 20 } D K IL sh ad S [.int (nI x), .int (nI q)] (zEq (some (.int (if x.testBit q = true then 1 else 0))) sh ad (S)) := by
  refine zEnter (own := RX3) (lv0 := [some (.int (nI x)), some (.int (nI q))]) (by decide) rfl (by simp [Value.category]) (Nat.le_of_ble_eq_true rfl) rfl ?_
  intro p e s m below meth c A C _ hnm
  refine Zr_iload_n C dX3_holds_0 rfl ?_
  refine Zr_iload_n C dX3_holds_1 rfl ?_
  refine Zr_callS C cw_X3_89 (k_X3_bitOf) rfl (Nat.le_of_ble_eq_true rfl) (Nat.le_of_ble_eq_true rfl) rfl (Nat.le_of_ble_eq_true rfl) dX3_holds_2 ⟨Nat.zero_le _, Nat.zero_le _⟩ ?_
  refine Zr_iand C dX3_holds_5 ?_
  refine Zr_if_eq C 13 dX3_holds_6 (by decide) (fun h6 => ?_) (fun h6 => ?_)
  · refine Zr_iconst C (0) dX3_holds_13 rfl ?_
    exact Zr_zret C dX3_holds_14 (Nat.zero_le _) (Nat.zero_le _) (by first | exact Or.inl rfl | exact Or.inr rfl | assumption) ⟨by first | rw [if_neg (by rw [(c_holds hx hq).mp h6]; decide)] | rw [if_pos ((Bool.not_eq_false _).mp (fun h => h6 ((c_holds hx hq).mpr h)))], rfl, rfl, rfl⟩
  · refine Zr_iconst C (1) dX3_holds_9 rfl ?_
    refine Zr_goto C 14 dX3_holds_10 (by decide) ?_
    exact Zr_zret C dX3_holds_14 (Nat.zero_le _) (Nat.zero_le _) (by first | exact Or.inl rfl | exact Or.inr rfl | assumption) ⟨by first | rw [if_neg (by rw [(c_holds hx hq).mp h6]; decide)] | rw [if_pos ((Bool.not_eq_false _).mp (fun h => h6 ((c_holds hx hq).mpr h)))], rfl, rfl, rfl⟩
set_option maxHeartbeats 4000000 in
set_option maxRecDepth 100000 in
theorem k_X0_placeOf {l : Launch} {D : va_G} {K : zKs} {IL : List zI} {sh : zSh} {ad : zAd} {S : zSt} {r cap b k : Nat} (hm6 : (6, r) ∈ IL) (hs6 : sh (6, r) = .inl (0, [some (7, r), none, none, none])) (hm7 : (7, r) ∈ IL) (hs7 : sh (7, r) = .inr (K.1, cap, none)) (hb : S 6 r 1 = nI b) (hbc : b < cap) (hcap : cap ≤ 2600) (hk : k ≤ 2600) : zMet l yX0_placeOf cX0_placeOf 3 (some .int) { frames := 0, cells := 0, slots := 0, locals := 0 } D K IL sh ad S [.ref (ad (6, r)), .int (nI k)] (zEq (some (.int (nI (cAt b cap k)))) sh ad (S)) := by
  refine zEnter (own := RX0) (lv0 := [some (.ref (ad (6, r))), some (.int (nI k)), none]) (by decide) rfl (by simp [Value.category]) (Nat.le_of_ble_eq_true rfl) rfl ?_
  intro p e s m below meth c A C _ hnm
  refine Zr_aload_n C dX0_placeOf_0 rfl ?_
  refine Zr_getE C gf_X0_36 hm6 rfl hs6 rfl hb dX0_placeOf_1 ?_
  refine Zr_iload_n C dX0_placeOf_4 rfl ?_
  refine Zr_iadd C dX0_placeOf_5 ?_
  refine Zr_topi (y := nI (b + k)) (nI_add _ _) ?_
  refine Zr_istore_n C dX0_placeOf_6 (by decide) ?_
  refine Zr_iload_n C dX0_placeOf_7 rfl ?_
  refine Zr_aload_n C dX0_placeOf_8 rfl ?_
  refine Zr_getR C gf_X0_11 hm6 rfl hs6 rfl (by simp) dX0_placeOf_9 ?_
  refine Zr_alen C 0 hm7 rfl hs7 rfl dX0_placeOf_12 ?_
  refine Zr_icmp_ge C 20 dX0_placeOf_13 (by decide) (fun h13 => ?_) (fun h13 => ?_)
  · refine Zr_iload_n C dX0_placeOf_20 rfl ?_
    refine Zr_aload_n C dX0_placeOf_21 rfl ?_
    refine Zr_getR C gf_X0_11 hm6 rfl hs6 rfl (by simp) dX0_placeOf_22 ?_
    refine Zr_alen C 0 hm7 rfl hs7 rfl dX0_placeOf_25 ?_
    refine Zr_isub C dX0_placeOf_26 ?_
    exact Zr_iret C dX0_placeOf_27 (Nat.zero_le _) (Nat.zero_le _) ⟨by first | (rw [cAt, if_pos (Nat.lt_of_not_le (fun h => h13 (nI_le h (by omega))))]; done) | (rw [cAt, if_neg (Nat.not_lt.mpr ((nI_leI (by omega) (by omega)).mp h13)), pk_sub ((nI_leI (by omega) (by omega)).mp h13)]), rfl, rfl, rfl⟩
  · refine Zr_iload_n C dX0_placeOf_16 rfl ?_
    refine Zr_goto C 27 dX0_placeOf_17 (by decide) ?_
    exact Zr_iret C dX0_placeOf_27 (Nat.zero_le _) (Nat.zero_le _) ⟨by first | (rw [cAt, if_pos (Nat.lt_of_not_le (fun h => h13 (nI_le h (by omega))))]; done) | (rw [cAt, if_neg (Nat.not_lt.mpr ((nI_leI (by omega) (by omega)).mp h13)), pk_sub ((nI_leI (by omega) (by omega)).mp h13)]), rfl, rfl, rfl⟩
theorem cAt_lt {b cap k : Nat} (hb : b < cap) (hk : k ≤ cap) : cAt b cap k < cap := by
  unfold cAt
  split <;> omega
set_option maxHeartbeats 4000000 in
set_option maxRecDepth 100000 in
theorem k_X0_at {l : Launch} {D : va_G} {K : zKs} {IL : List zI} {sh : zSh} {ad : zAd} {S : zSt} {r cap b k : Nat} (hm6 : (6, r) ∈ IL) (hs6 : sh (6, r) = .inl (0, [some (7, r), none, none, none])) (hm7 : (7, r) ∈ IL) (hs7 : sh (7, r) = .inr (K.1, cap, none)) (hb : S 6 r 1 = nI b) (hbc : b < cap) (hcap : cap ≤ 2600) (hk : k ≤ 2600) {v : Int32} (hkc : k ≤ cap) (hv : S 7 r (cAt b cap k) = v) : zMet l yX0_at cX0_at 2 (some .int) { frames := 1, cells := 0, slots := 0, locals := 22 } D K IL sh ad S [.ref (ad (6, r)), .int (nI k)] (zEq (some (.int v)) sh ad (S)) := by
  refine zEnter (own := RX0) (lv0 := [some (.ref (ad (6, r))), some (.int (nI k))]) (by decide) rfl (by simp [Value.category]) (Nat.le_of_ble_eq_true rfl) rfl ?_
  intro p e s m below meth c A C _ hnm
  have hc := cAt_lt hbc hkc
  refine Zr_aload_n C dX0_at_0 rfl ?_
  refine Zr_getR C gf_X0_11 hm6 rfl hs6 rfl (by simp) dX0_at_1 ?_
  refine Zr_aload_n C dX0_at_4 rfl ?_
  refine Zr_iload_n C dX0_at_5 rfl ?_
  refine Zr_callV C cw_X0_15 (k_X0_placeOf hm6 hs6 hm7 hs7 hb hbc hcap hk) hm6 hs6 rfl rfl (Nat.le_of_ble_eq_true rfl) (Nat.le_of_ble_eq_true rfl) rfl (Nat.le_of_ble_eq_true rfl) dX0_at_6 ⟨Nat.zero_le _, Nat.zero_le _⟩ ?_
  refine Zr_ialdN C hm7 rfl hs7 hc (by omega) hv dX0_at_9 ?_
  exact Zr_iret C dX0_at_10 (Nat.zero_le _) (Nat.zero_le _) ⟨rfl, rfl, rfl, rfl⟩
theorem cWf0 {σ : aS} {n i : Nat} (hn : n ≤ 10) : nI (aBits (fun q => σ.1 1 16 (10 * i + q) != 0) n) = 0 ↔ aWf σ n i = 0 := by
  have h := aBits_10 (f := fun q => σ.1 1 16 (10 * i + q) != 0) hn
  show nI _ = nI 0 ↔ _
  rw [nI_eq (by omega) (by decide)]
  exact aBits_zero
set_option maxHeartbeats 4000000 in
set_option maxRecDepth 100000 in
theorem k_X2_isBlocked {l : Launch} {D : va_G} {K : zKs} {n : Nat} {ad : zAd} {ca : Nat → Nat} {S : zSt} {σ : aS} {i : Nat} (hn : n ≤ 10) (hR : cRel n σ S) (hi : i < n) : zMet l yX2_isBlocked cX2_isBlocked 1 (some .boolean) { frames := 0, cells := 0, slots := 0, locals := 0 } D K (cIL n) (cSh K n (cpo n σ.2.2)) (zA ad ca) S [.ref (zA ad ca (4, i))] (zEq (some (.int (if aWf σ n i = 0 then 0 else 1))) (cSh K n (cpo n σ.2.2)) (zA ad ca) (S)) := by
  refine zEnter (own := RX2) (lv0 := [some (.ref (zA ad ca (4, i)))]) (by decide) rfl (by simp [Value.category]) (Nat.le_of_ble_eq_true rfl) rfl ?_
  intro p e s m below meth c A C _ hnm
  refine Zr_aload_n C dX2_isBlocked_0 rfl ?_
  refine Zr_getE C gf_X2_19 (cm4 hi) rfl rfl rfl (hR.w hi).2.2.2.2.2.1 dX2_isBlocked_1 ?_
  refine Zr_if_eq C 11 dX2_isBlocked_4 (by decide) (fun h4 => ?_) (fun h4 => ?_)
  · refine Zr_iconst C (0) dX2_isBlocked_11 rfl ?_
    exact Zr_zret C dX2_isBlocked_12 (Nat.zero_le _) (Nat.zero_le _) (by first | exact Or.inl rfl | exact Or.inr rfl | assumption) ⟨by first | rw [if_pos ((cWf0 hn).mp h4)] | rw [if_neg (fun h => h4 ((cWf0 hn).mpr h))], rfl, rfl, rfl⟩
  · refine Zr_iconst C (1) dX2_isBlocked_7 rfl ?_
    refine Zr_goto C 12 dX2_isBlocked_8 (by decide) ?_
    exact Zr_zret C dX2_isBlocked_12 (Nat.zero_le _) (Nat.zero_le _) (by first | exact Or.inl rfl | exact Or.inr rfl | assumption) ⟨by first | rw [if_pos ((cWf0 hn).mp h4)] | rw [if_neg (fun h => h4 ((cWf0 hn).mpr h))], rfl, rfl, rfl⟩
set_option maxHeartbeats 4000000 in
set_option maxRecDepth 100000 in
theorem k_X2_isFree {l : Launch} {D : va_G} {K : zKs} {n : Nat} {ad : zAd} {ca : Nat → Nat} {S : zSt} {σ : aS} {i : Nat} (hn : n ≤ 10) (hR : cRel n σ S) (hi : i < n) : zMet l yX2_isFree cX2_isFree 1 (some .boolean) { frames := 1, cells := 0, slots := 0, locals := 20 } D K (cIL n) (cSh K n (cpo n σ.2.2)) (zA ad ca) S [.ref (zA ad ca (4, i))] (zEq (some (.int (if aFree σ n i = true then 1 else 0))) (cSh K n (cpo n σ.2.2)) (zA ad ca) (S)) := by
  refine zEnter (own := RX2) (lv0 := [some (.ref (zA ad ca (4, i)))]) (by decide) rfl (by simp [Value.category]) (Nat.le_of_ble_eq_true rfl) rfl ?_
  intro p e s m below meth c A C _ hnm
  by_cases hw : aWf σ n i = 0
  · refine Zr_aload_n C dX2_isFree_0 rfl ?_
    refine Zr_getE C gf_X2_22 (cm4 hi) rfl rfl rfl (hR.w hi).1 dX2_isFree_1 ?_
    refine Zr_if_eq C 18 dX2_isFree_4 (by decide) (fun h4 => ?_) (fun h4 => ?_)
    · refine Zr_iconst C (0) dX2_isFree_18 rfl ?_
      exact Zr_zret C dX2_isFree_19 (Nat.zero_le _) (Nat.zero_le _) (by first | exact Or.inl rfl | exact Or.inr rfl | assumption) ⟨by simp [aFree, hw, h4], rfl, rfl, rfl⟩
    · refine Zr_aload_n C dX2_isFree_7 rfl ?_
      refine Zr_callV C cw_X2_26 (k_X2_isBlocked hn hR hi) (cm4 hi) rfl rfl rfl (Nat.le_of_ble_eq_true rfl) (Nat.le_of_ble_eq_true rfl) rfl (Nat.le_of_ble_eq_true rfl) dX2_isFree_8 ⟨Nat.zero_le _, Nat.zero_le _⟩ ?_
      refine Zr_topi (y := 0) (if_pos hw) ?_
      refine Zr_if_ne C 18 dX2_isFree_11 (by decide) (fun h11 => absurd rfl h11) (fun h11 => ?_)
      refine Zr_iconst C (1) dX2_isFree_14 rfl ?_
      refine Zr_goto C 19 dX2_isFree_15 (by decide) ?_
      exact Zr_zret C dX2_isFree_19 (Nat.zero_le _) (Nat.zero_le _) (by first | exact Or.inl rfl | exact Or.inr rfl | assumption) ⟨by simp [aFree, hw, h4], rfl, rfl, rfl⟩
  · refine Zr_aload_n C dX2_isFree_0 rfl ?_
    refine Zr_getE C gf_X2_22 (cm4 hi) rfl rfl rfl (hR.w hi).1 dX2_isFree_1 ?_
    refine Zr_if_eq C 18 dX2_isFree_4 (by decide) (fun h4 => ?_) (fun h4 => ?_)
    · refine Zr_iconst C (0) dX2_isFree_18 rfl ?_
      exact Zr_zret C dX2_isFree_19 (Nat.zero_le _) (Nat.zero_le _) (by first | exact Or.inl rfl | exact Or.inr rfl | assumption) ⟨by simp [aFree, hw], rfl, rfl, rfl⟩
    · refine Zr_aload_n C dX2_isFree_7 rfl ?_
      refine Zr_callV C cw_X2_26 (k_X2_isBlocked hn hR hi) (cm4 hi) rfl rfl rfl (Nat.le_of_ble_eq_true rfl) (Nat.le_of_ble_eq_true rfl) rfl (Nat.le_of_ble_eq_true rfl) dX2_isFree_8 ⟨Nat.zero_le _, Nat.zero_le _⟩ ?_
      refine Zr_topi (y := 1) (if_neg hw) ?_
      refine Zr_if_ne C 18 dX2_isFree_11 (by decide) (fun h11 => ?_) (fun h11 => absurd h11 (by decide))
      refine Zr_iconst C (0) dX2_isFree_18 rfl ?_
      exact Zr_zret C dX2_isFree_19 (Nat.zero_le _) (Nat.zero_le _) (by first | exact Or.inl rfl | exact Or.inr rfl | assumption) ⟨by simp [aFree, hw], rfl, rfl, rfl⟩
set_option maxHeartbeats 4000000 in
set_option maxRecDepth 100000 in
theorem k_X2_hangsOn {l : Launch} {D : va_G} {K : zKs} {n : Nat} {ad : zAd} {ca : Nat → Nat} {S : zSt} {σ : aS} {i : Nat} (hn : n ≤ 10) (hR : cRel n σ S) (hi : i < n) : zMet l yX2_hangsOn cX2_hangsOn 1 (some .int) { frames := 0, cells := 0, slots := 0, locals := 0 } D K (cIL n) (cSh K n (cpo n σ.2.2)) (zA ad ca) S [.ref (zA ad ca (4, i))] (zEq (some (.int (nI (aBits (fun q => σ.1 1 16 (10 * i + q) != 0) n) &&& (nI (aBits (fun q => σ.1 1 30 (10 * i + q) != 0) n) ^^^ (-1))))) (cSh K n (cpo n σ.2.2)) (zA ad ca) (S)) := by
  refine zEnter (own := RX2) (lv0 := [some (.ref (zA ad ca (4, i)))]) (by decide) rfl (by simp [Value.category]) (Nat.le_of_ble_eq_true rfl) rfl ?_
  intro p e s m below meth c A C _ hnm
  refine Zr_aload_n C dX2_hangsOn_0 rfl ?_
  refine Zr_getE C gf_X2_19 (cm4 hi) rfl rfl rfl (hR.w hi).2.2.2.2.2.1 dX2_hangsOn_1 ?_
  refine Zr_aload_n C dX2_hangsOn_4 rfl ?_
  refine Zr_getE C gf_X2_30 (cm4 hi) rfl rfl rfl (hR.w hi).2.2.2.2.2.2.1 dX2_hangsOn_5 ?_
  refine Zr_iconst C (-1) dX2_hangsOn_8 rfl ?_
  refine Zr_ixor C dX2_hangsOn_9 ?_
  refine Zr_iand C dX2_hangsOn_10 ?_
  exact Zr_iret C dX2_hangsOn_11 (Nat.zero_le _) (Nat.zero_le _) ⟨rfl, rfl, rfl, rfl⟩
set_option maxHeartbeats 4000000 in
set_option maxRecDepth 100000 in
theorem k_X2_noteIfNewer_t {l : Launch} {D : va_G} {K : zKs} {n : Nat} {ad : zAd} {ca : Nat → Nat} {S : zSt} {σ : aS} {i j : Nat} {num : Int32} (hn : n ≤ 10) (hR : cRel n σ S) (hi : i < n) (hj : j < n) (h : σ.1 1 18 (10 * i + j) < num) : zMet l yX2_noteIfNewer cX2_noteIfNewer 3 (some .boolean) { frames := 0, cells := 0, slots := 0, locals := 0 } D K (cIL n) (cSh K n (cpo n σ.2.2)) (zA ad ca) S [.ref (zA ad ca (4, i)), .int (nI j), .int num] (zR (some (.int 1)) (cSh K n (cpo n σ.2.2)) (zA ad ca) (cRel n (aN σ 1 18 (10 * i + j) num))) := by
  refine zEnter (own := RX2) (lv0 := [some (.ref (zA ad ca (4, i))), some (.int (nI j)), some (.int num)]) (by decide) rfl (by simp [Value.category]) (Nat.le_of_ble_eq_true rfl) rfl ?_
  intro p e s m below meth c A C _ hnm
  refine Zr_iload_n C dX2_noteIfNewer_0 rfl ?_
  refine Zr_if_lt C 23 dX2_noteIfNewer_1 (by decide) (fun h1 => absurd h1 (nI_pos (by omega))) (fun h1 => ?_)
  refine Zr_iload_n C dX2_noteIfNewer_4 rfl ?_
  refine Zr_aload_n C dX2_noteIfNewer_5 rfl ?_
  refine Zr_getR C gf_X2_15 (cm4 hi) rfl rfl rfl (by simp) dX2_noteIfNewer_6 ?_
  refine Zr_alen C 0 (cm5 hi) rfl rfl rfl dX2_noteIfNewer_9 ?_
  refine Zr_icmp_ge C 23 dX2_noteIfNewer_10 (by decide) (fun h10 => absurd h10 (nI_ge hj (by omega))) (fun h10 => ?_)
  refine Zr_iload_n C dX2_noteIfNewer_13 rfl ?_
  refine Zr_aload_n C dX2_noteIfNewer_14 rfl ?_
  refine Zr_getR C gf_X2_15 (cm4 hi) rfl rfl rfl (by simp) dX2_noteIfNewer_15 ?_
  refine Zr_iload_n C dX2_noteIfNewer_18 rfl ?_
  refine Zr_ialdN C (cm5 hi) rfl rfl hj (by omega) (hR.2.2.2.2.1 i hi j hj) dX2_noteIfNewer_19 ?_
  refine Zr_icmp_gt C 25 dX2_noteIfNewer_20 (by decide) (fun h20 => ?_) (fun h20 => absurd h h20)
  refine Zr_aload_n C dX2_noteIfNewer_25 rfl ?_
  refine Zr_getR C gf_X2_15 (cm4 hi) rfl rfl rfl (by simp) dX2_noteIfNewer_26 ?_
  refine Zr_iload_n C dX2_noteIfNewer_29 rfl ?_
  refine Zr_iload_n C dX2_noteIfNewer_30 rfl ?_
  refine Zr_iastN C (cm5 hi) rfl rfl hj (by omega) (cRl hR hn hi hj) dX2_noteIfNewer_31 (fun S hR => ?_)
  refine Zr_iconst C (1) dX2_noteIfNewer_32 rfl ?_
  exact Zr_zret C dX2_noteIfNewer_33 (Nat.zero_le _) (Nat.zero_le _) (by first | exact Or.inl rfl | exact Or.inr rfl | assumption) ⟨rfl, rfl, rfl, hR⟩
set_option maxHeartbeats 4000000 in
set_option maxRecDepth 100000 in
theorem k_X2_noteIfNewer_f {l : Launch} {D : va_G} {K : zKs} {n : Nat} {ad : zAd} {ca : Nat → Nat} {S : zSt} {σ : aS} {i j : Nat} {num : Int32} (hn : n ≤ 10) (hR : cRel n σ S) (hi : i < n) (hj : j < n) (h : ¬ σ.1 1 18 (10 * i + j) < num) : zMet l yX2_noteIfNewer cX2_noteIfNewer 3 (some .boolean) { frames := 0, cells := 0, slots := 0, locals := 0 } D K (cIL n) (cSh K n (cpo n σ.2.2)) (zA ad ca) S [.ref (zA ad ca (4, i)), .int (nI j), .int num] (zEq (some (.int 0)) (cSh K n (cpo n σ.2.2)) (zA ad ca) (S)) := by
  refine zEnter (own := RX2) (lv0 := [some (.ref (zA ad ca (4, i))), some (.int (nI j)), some (.int num)]) (by decide) rfl (by simp [Value.category]) (Nat.le_of_ble_eq_true rfl) rfl ?_
  intro p e s m below meth c A C _ hnm
  refine Zr_iload_n C dX2_noteIfNewer_0 rfl ?_
  refine Zr_if_lt C 23 dX2_noteIfNewer_1 (by decide) (fun h1 => absurd h1 (nI_pos (by omega))) (fun h1 => ?_)
  refine Zr_iload_n C dX2_noteIfNewer_4 rfl ?_
  refine Zr_aload_n C dX2_noteIfNewer_5 rfl ?_
  refine Zr_getR C gf_X2_15 (cm4 hi) rfl rfl rfl (by simp) dX2_noteIfNewer_6 ?_
  refine Zr_alen C 0 (cm5 hi) rfl rfl rfl dX2_noteIfNewer_9 ?_
  refine Zr_icmp_ge C 23 dX2_noteIfNewer_10 (by decide) (fun h10 => absurd h10 (nI_ge hj (by omega))) (fun h10 => ?_)
  refine Zr_iload_n C dX2_noteIfNewer_13 rfl ?_
  refine Zr_aload_n C dX2_noteIfNewer_14 rfl ?_
  refine Zr_getR C gf_X2_15 (cm4 hi) rfl rfl rfl (by simp) dX2_noteIfNewer_15 ?_
  refine Zr_iload_n C dX2_noteIfNewer_18 rfl ?_
  refine Zr_ialdN C (cm5 hi) rfl rfl hj (by omega) (hR.2.2.2.2.1 i hi j hj) dX2_noteIfNewer_19 ?_
  refine Zr_icmp_gt C 25 dX2_noteIfNewer_20 (by decide) (fun h20 => absurd h20 h) (fun h20 => ?_)
  refine Zr_iconst C (0) dX2_noteIfNewer_23 rfl ?_
  exact Zr_zret C dX2_noteIfNewer_24 (Nat.zero_le _) (Nat.zero_le _) (by first | exact Or.inl rfl | exact Or.inr rfl | assumption) ⟨rfl, rfl, rfl, rfl⟩
set_option maxHeartbeats 4000000 in
set_option maxRecDepth 100000 in
theorem k_X1_showsEndTo {l : Launch} {D : va_G} {K : zKs} {n : Nat} {ad : zAd} {ca : Nat → Nat} {S : zSt} {σ : aS} {i : Nat} (hn : n ≤ 10) (hR : cRel n σ S) (hi : i < n) : zMet l yX1_showsEndTo cX1_showsEndTo 2 (some .boolean) { frames := 0, cells := 0, slots := 0, locals := 0 } D K (cIL n) (cSh K n (cpo n σ.2.2)) (zA ad ca) S [.ref (zA ad ca (3, 0)), .ref (zA ad ca (4, i))] (zEq (some (.int (if 0 < σ.1 0 0 19 ∧ σ.1 0 0 21 = 0 ∧ σ.1 1 12 i = 0 ∧ σ.1 0 0 20 + σ.1 1 11 i = 0 then 1 else 0))) (cSh K n (cpo n σ.2.2)) (zA ad ca) (S)) := by
  refine zEnter (own := RX1) (lv0 := [some (.ref (zA ad ca (3, 0))), some (.ref (zA ad ca (4, i)))]) (by decide) rfl (by simp [Value.category]) (Nat.le_of_ble_eq_true rfl) rfl ?_
  intro p e s m below meth c A C _ hnm
  by_cases hc : 0 < σ.1 0 0 19 ∧ σ.1 0 0 21 = 0 ∧ σ.1 1 12 i = 0 ∧ σ.1 0 0 20 + σ.1 1 11 i = 0
  · refine Zr_aload_n C dX1_showsEndTo_0 rfl ?_
    refine Zr_getE C gf_X1_15 cm3 rfl rfl rfl hR.2.1.2.2 dX1_showsEndTo_1 ?_
    refine Zr_if_le C 37 dX1_showsEndTo_4 (by decide) (fun h4 => absurd hc.1 (i32_le h4)) (fun h4 => ?_)
    refine Zr_aload_n C dX1_showsEndTo_7 rfl ?_
    refine Zr_getE C gf_X1_18 cm3 rfl rfl rfl hR.2.1.2.1 dX1_showsEndTo_8 ?_
    refine Zr_if_ne C 37 dX1_showsEndTo_11 (by decide) (fun h11 => absurd hc.2.1 h11) (fun h11 => ?_)
    refine Zr_aload_n C dX1_showsEndTo_14 rfl ?_
    refine Zr_getE C gf_X1_22 (cm4 hi) rfl rfl rfl (hR.w hi).2.1 dX1_showsEndTo_15 ?_
    refine Zr_if_ne C 37 dX1_showsEndTo_18 (by decide) (fun h18 => absurd hc.2.2.1 h18) (fun h18 => ?_)
    refine Zr_aload_n C dX1_showsEndTo_21 rfl ?_
    refine Zr_getE C gf_X1_25 cm3 rfl rfl rfl hR.2.1.1 dX1_showsEndTo_22 ?_
    refine Zr_aload_n C dX1_showsEndTo_25 rfl ?_
    refine Zr_getE C gf_X1_28 (cm4 hi) rfl rfl rfl (hR.w hi).2.2.2.2.1 dX1_showsEndTo_26 ?_
    refine Zr_iadd C dX1_showsEndTo_29 ?_
    refine Zr_if_ne C 37 dX1_showsEndTo_30 (by decide) (fun h30 => absurd hc.2.2.2 h30) (fun h30 => ?_)
    refine Zr_iconst C (1) dX1_showsEndTo_33 rfl ?_
    refine Zr_goto C 38 dX1_showsEndTo_34 (by decide) ?_
    exact Zr_zret C dX1_showsEndTo_38 (Nat.zero_le _) (Nat.zero_le _) (by first | exact Or.inl rfl | exact Or.inr rfl | assumption) ⟨by rw [if_pos hc], rfl, rfl, rfl⟩
  · refine Zr_aload_n C dX1_showsEndTo_0 rfl ?_
    refine Zr_getE C gf_X1_15 cm3 rfl rfl rfl hR.2.1.2.2 dX1_showsEndTo_1 ?_
    refine Zr_if_le C 37 dX1_showsEndTo_4 (by decide) (fun h4 => ?_) (fun h4 => ?_)
    · refine Zr_iconst C (0) dX1_showsEndTo_37 rfl ?_
      exact Zr_zret C dX1_showsEndTo_38 (Nat.zero_le _) (Nat.zero_le _) (by first | exact Or.inl rfl | exact Or.inr rfl | assumption) ⟨by rw [if_neg hc], rfl, rfl, rfl⟩
    · refine Zr_aload_n C dX1_showsEndTo_7 rfl ?_
      refine Zr_getE C gf_X1_18 cm3 rfl rfl rfl hR.2.1.2.1 dX1_showsEndTo_8 ?_
      refine Zr_if_ne C 37 dX1_showsEndTo_11 (by decide) (fun h11 => ?_) (fun h11 => ?_)
      · refine Zr_iconst C (0) dX1_showsEndTo_37 rfl ?_
        exact Zr_zret C dX1_showsEndTo_38 (Nat.zero_le _) (Nat.zero_le _) (by first | exact Or.inl rfl | exact Or.inr rfl | assumption) ⟨by rw [if_neg hc], rfl, rfl, rfl⟩
      · refine Zr_aload_n C dX1_showsEndTo_14 rfl ?_
        refine Zr_getE C gf_X1_22 (cm4 hi) rfl rfl rfl (hR.w hi).2.1 dX1_showsEndTo_15 ?_
        refine Zr_if_ne C 37 dX1_showsEndTo_18 (by decide) (fun h18 => ?_) (fun h18 => ?_)
        · refine Zr_iconst C (0) dX1_showsEndTo_37 rfl ?_
          exact Zr_zret C dX1_showsEndTo_38 (Nat.zero_le _) (Nat.zero_le _) (by first | exact Or.inl rfl | exact Or.inr rfl | assumption) ⟨by rw [if_neg hc], rfl, rfl, rfl⟩
        · refine Zr_aload_n C dX1_showsEndTo_21 rfl ?_
          refine Zr_getE C gf_X1_25 cm3 rfl rfl rfl hR.2.1.1 dX1_showsEndTo_22 ?_
          refine Zr_aload_n C dX1_showsEndTo_25 rfl ?_
          refine Zr_getE C gf_X1_28 (cm4 hi) rfl rfl rfl (hR.w hi).2.2.2.2.1 dX1_showsEndTo_26 ?_
          refine Zr_iadd C dX1_showsEndTo_29 ?_
          refine Zr_if_ne C 37 dX1_showsEndTo_30 (by decide) (fun h30 => ?_) (fun h30 => absurd ⟨Int32.not_le.mp h4, h11, h18, h30⟩ hc)
          refine Zr_iconst C (0) dX1_showsEndTo_37 rfl ?_
          exact Zr_zret C dX1_showsEndTo_38 (Nat.zero_le _) (Nat.zero_le _) (by first | exact Or.inl rfl | exact Or.inr rfl | assumption) ⟨by rw [if_neg hc], rfl, rfl, rfl⟩
set_option maxHeartbeats 4000000 in
set_option maxRecDepth 100000 in
theorem k_X1_beginRound {l : Launch} {D : va_G} {K : zKs} {n : Nat} {ad : zAd} {ca : Nat → Nat} {S : zSt} {σ : aS} (hR : cRel n σ S) : zMet l yX1_beginRound cX1_beginRound 1 none { frames := 0, cells := 0, slots := 0, locals := 0 } D K (cIL n) (cSh K n (cpo n σ.2.2)) (zA ad ca) S [.ref (zA ad ca (3, 0))] (zR none (cSh K n (cpo n σ.2.2)) (zA ad ca) (cRel n (aN (aN (aN σ 0 0 19 (σ.1 0 0 19 + 1)) 0 0 21 0) 0 0 20 0))) := by
  refine zEnter (own := RX1) (lv0 := [some (.ref (zA ad ca (3, 0)))]) (by decide) rfl (by simp [Value.category]) (Nat.le_of_ble_eq_true rfl) rfl ?_
  intro p e s m below meth c A C _ hnm
  refine Zr_aload_n C dX1_beginRound_0 rfl ?_
  refine Zr_dup C dX1_beginRound_1 rfl ?_
  refine Zr_getE C gf_X1_15 cm3 rfl rfl rfl hR.2.1.2.2 dX1_beginRound_2 ?_
  refine Zr_iconst C (1) dX1_beginRound_5 rfl ?_
  refine Zr_iadd C dX1_beginRound_6 ?_
  refine Zr_putE C pf_X1_15 cm3 rfl rfl rfl (znI _) (cRt3 hR) dX1_beginRound_7 (fun S hR => ?_)
  refine Zr_aload_n C dX1_beginRound_10 rfl ?_
  refine Zr_iconst C (0) dX1_beginRound_11 rfl ?_
  refine Zr_putE C pf_X1_18 cm3 rfl rfl rfl (znZ (by first | exact Or.inl rfl | exact Or.inr rfl | assumption)) (cRt2 hR) dX1_beginRound_12 (fun S hR => ?_)
  refine Zr_aload_n C dX1_beginRound_15 rfl ?_
  refine Zr_iconst C (0) dX1_beginRound_16 rfl ?_
  refine Zr_putE C pf_X1_25 cm3 rfl rfl rfl (znI _) (cRt1 hR) dX1_beginRound_17 (fun S hR => ?_)
  exact Zr_vret C dX1_beginRound_20 (Nat.zero_le _) (Nat.zero_le _) ⟨rfl, rfl, rfl, hR⟩
set_option maxHeartbeats 4000000 in
set_option maxRecDepth 100000 in
theorem k_X1_collect {l : Launch} {D : va_G} {K : zKs} {n : Nat} {ad : zAd} {ca : Nat → Nat} {S : zSt} {σ : aS} {i : Nat} (hn : n ≤ 10) (hR : cRel n σ S) (hi : i < n) (hb : σ.1 0 0 21 = 0 ∨ σ.1 0 0 21 = 1) : zMet l yX1_collect cX1_collect 2 none { frames := 0, cells := 0, slots := 0, locals := 0 } D K (cIL n) (cSh K n (cpo n σ.2.2)) (zA ad ca) S [.ref (zA ad ca (3, 0)), .ref (zA ad ca (4, i))] (zR none (cSh K n (cpo n σ.2.2)) (zA ad ca) (cRel n (aN (aN (aN σ 0 0 20 (σ.1 0 0 20 + σ.1 1 11 i)) 0 0 21 (if σ.1 0 0 21 ≠ 0 then 1 else if σ.1 1 12 i ≠ 0 then 1 else 0)) 1 12 i 0))) := by
  refine zEnter (own := RX1) (lv0 := [some (.ref (zA ad ca (3, 0))), some (.ref (zA ad ca (4, i)))]) (by decide) rfl (by simp [Value.category]) (Nat.le_of_ble_eq_true rfl) rfl ?_
  intro p e s m below meth c A C _ hnm
  refine Zr_aload_n C dX1_collect_0 rfl ?_
  refine Zr_dup C dX1_collect_1 rfl ?_
  refine Zr_getE C gf_X1_25 cm3 rfl rfl rfl hR.2.1.1 dX1_collect_2 ?_
  refine Zr_aload_n C dX1_collect_5 rfl ?_
  refine Zr_getE C gf_X1_28 (cm4 hi) rfl rfl rfl (hR.w hi).2.2.2.2.1 dX1_collect_6 ?_
  refine Zr_iadd C dX1_collect_9 ?_
  refine Zr_putE C pf_X1_25 cm3 rfl rfl rfl (znI _) (cRt1 hR) dX1_collect_10 (fun S hR => ?_)
  refine Zr_aload_n C dX1_collect_13 rfl ?_
  refine Zr_aload_n C dX1_collect_14 rfl ?_
  refine Zr_getE C gf_X1_18 cm3 rfl rfl rfl hR.2.1.2.1 dX1_collect_15 ?_
  refine Zr_if_ne C 28 dX1_collect_18 (by decide) (fun h18 => ?_) (fun h18 => ?_)
  · have h18 : ¬ σ.1 0 0 21 = 0 := h18
    refine Zr_iconst C (1) dX1_collect_28 rfl ?_
    refine Zr_goto C 33 dX1_collect_29 (by decide) ?_
    refine Zr_putE C pf_X1_18 cm3 rfl rfl rfl (znZ (by first | exact Or.inl rfl | exact Or.inr rfl | assumption)) (cRt2 hR) dX1_collect_33 (fun S hR => ?_)
    refine Zr_aload_n C dX1_collect_36 rfl ?_
    refine Zr_iconst C (0) dX1_collect_37 rfl ?_
    refine Zr_putE C pf_X1_22 (cm4 hi) rfl rfl rfl (znZ (by first | exact Or.inl rfl | exact Or.inr rfl | assumption)) (cRw2 hR) dX1_collect_38 (fun S hR => ?_)
    exact Zr_vret C dX1_collect_41 (Nat.zero_le _) (Nat.zero_le _) ⟨rfl, rfl, rfl, by first | (rw [if_pos h18]; exact hR) | (rw [if_neg (fun h => h h18), if_pos h25]; exact hR) | (rw [if_neg (fun h => h h18), if_neg (fun h => h h25)]; exact hR)⟩
  · have h18 : σ.1 0 0 21 = 0 := h18
    refine Zr_aload_n C dX1_collect_21 rfl ?_
    refine Zr_getE C gf_X1_22 (cm4 hi) rfl rfl rfl (hR.w hi).2.1 dX1_collect_22 ?_
    refine Zr_if_eq C 32 dX1_collect_25 (by decide) (fun h25 => ?_) (fun h25 => ?_)
    · have h25 : σ.1 1 12 i = 0 := h25
      refine Zr_iconst C (0) dX1_collect_32 rfl ?_
      refine Zr_putE C pf_X1_18 cm3 rfl rfl rfl (znZ (by first | exact Or.inl rfl | exact Or.inr rfl | assumption)) (cRt2 hR) dX1_collect_33 (fun S hR => ?_)
      refine Zr_aload_n C dX1_collect_36 rfl ?_
      refine Zr_iconst C (0) dX1_collect_37 rfl ?_
      refine Zr_putE C pf_X1_22 (cm4 hi) rfl rfl rfl (znZ (by first | exact Or.inl rfl | exact Or.inr rfl | assumption)) (cRw2 hR) dX1_collect_38 (fun S hR => ?_)
      exact Zr_vret C dX1_collect_41 (Nat.zero_le _) (Nat.zero_le _) ⟨rfl, rfl, rfl, by first | (rw [if_pos h18]; exact hR) | (rw [if_neg (fun h => h h18), if_pos h25]; exact hR) | (rw [if_neg (fun h => h h18), if_neg (fun h => h h25)]; exact hR)⟩
    · have h25 : ¬ σ.1 1 12 i = 0 := h25
      refine Zr_iconst C (1) dX1_collect_28 rfl ?_
      refine Zr_goto C 33 dX1_collect_29 (by decide) ?_
      refine Zr_putE C pf_X1_18 cm3 rfl rfl rfl (znZ (by first | exact Or.inl rfl | exact Or.inr rfl | assumption)) (cRt2 hR) dX1_collect_33 (fun S hR => ?_)
      refine Zr_aload_n C dX1_collect_36 rfl ?_
      refine Zr_iconst C (0) dX1_collect_37 rfl ?_
      refine Zr_putE C pf_X1_22 (cm4 hi) rfl rfl rfl (znZ (by first | exact Or.inl rfl | exact Or.inr rfl | assumption)) (cRw2 hR) dX1_collect_38 (fun S hR => ?_)
      exact Zr_vret C dX1_collect_41 (Nat.zero_le _) (Nat.zero_le _) ⟨rfl, rfl, rfl, by first | (rw [if_pos h18]; exact hR) | (rw [if_neg (fun h => h h18), if_pos h25]; exact hR) | (rw [if_neg (fun h => h h18), if_neg (fun h => h h25)]; exact hR)⟩
end
section
def aWM (n : Nat) (m : aM) : Prop := ((m.1 = 1 ∨ m.1 = 2 ∨ m.1 = 3 ∨ m.1 = 4 ∨ m.1 = 5) ∧ m.2 = (-1, -1)) ∨ (m.1 = 6 ∧ ∃ i, i < n ∧ m.2.1 = nI i ∧ ∃ k, k < 51 ∧ m.2.2 = nI k)
theorem cPk : ∀ i, i < 10 → ∀ k, k < 51 → (cPack (6, nI i, nI k) &&& 7 = 6 ∧ cPack (6, nI i, nI k) >>> ((3 : Int32) &&& 31) &&& 15 = nI i ∧ cPack (6, nI i, nI k) >>> ((7 : Int32) &&& 31) = nI k) := by decide +kernel
theorem cPack_kind {n : Nat} {m : aM} (hn : n ≤ 10) (h : aWM n m) : cPack m &&& 7 = m.1 := by
  rcases h with ⟨h, -⟩ | ⟨h, i, hi, h1, k, hk, h2⟩
  · rcases h with h | h | h | h | h <;> (simp only [cPack, h]; rw [if_neg (by decide)]; decide)
  · have e : m = (6, nI i, nI k) := Prod.ext h (Prod.ext h1 h2)
    rw [e]
    exact (cPk i (by omega) k hk).1
theorem cAt_inj {b cap k j : Nat} (hb : b < cap) (hk : k < cap) (hj : j < cap) (h : cAt b cap k = cAt b cap j) : k = j := by
  unfold cAt at h
  split at h <;> split at h <;> omega
theorem cAt_1 {b cap k : Nat} (hb : b < cap) (hk : k + 1 ≤ cap) (hc : 1 < cap) : cAt (cAt b cap 1) cap k = cAt b cap (k + 1) := by
  unfold cAt
  split <;> split <;> split <;> omega
theorem cAt_0 {cap k : Nat} (hk : k < cap) : cAt 0 cap k = k := by
  unfold cAt
  rw [if_pos (by omega)]
  omega
theorem aOf_app {k : Int32} {l : List aM} {m : aM} : aOf k (l ++ [m]) = aOf k l + (if m.1 = k then 1 else 0) := by
  simp [aOf, List.countP_append, List.countP_cons]
theorem aOf_cons {k : Int32} {l : List aM} {m : aM} : aOf k (m :: l) = aOf k l + (if m.1 = k then 1 else 0) := by
  simp [aOf, List.countP_cons]
theorem ring_put {g f2 g2 : Nat → Int32} {cap b : Nat} {l : List aM} {m : aM} (h1 : b < cap) (h2 : 4 ≤ cap) (h3 : cap ≤ 1280) (hl : l.length < cap) (hg : ∀ (k : Nat) (m : aM), l[k]? = some m → g (cAt b cap k) = cPack m) (e1 : f2 1 = nI b) (e2 : f2 2 = nI (l.length + 1)) (e3 : f2 3 = nI (aOf 1 l + (if m.1 = 1 then 1 else 0))) (e4 : g2 = fun x => if x = cAt b cap l.length then cPack m else g x) : cRing f2 g2 cap (l ++ [m]) := by
  refine ⟨b, h1, h2, h3, e1, by rw [e2]; simp, by simp; omega, by rw [e3, aOf_app], fun k mm hk => ?_⟩
  rw [e4]
  dsimp only
  by_cases hkl : k < l.length
  · rw [List.getElem?_append_left hkl] at hk
    rw [if_neg (fun h => by have := cAt_inj h1 (by omega) hl h; omega)]
    exact hg k mm hk
  · rw [List.getElem?_append_right (by omega)] at hk
    have hk0 : k - l.length = 0 := by
      have := (List.getElem?_eq_some_iff.mp hk).1
      simp at this
      omega
    rw [hk0] at hk
    simp at hk
    have hk1 : k = l.length := by omega
    rw [hk1, if_pos rfl, hk]
theorem ring_take {g f2 g2 : Nat → Int32} {cap b : Nat} {l : List aM} {m : aM} (h1 : b < cap) (h2 : 4 ≤ cap) (h3 : cap ≤ 1280) (hl : (m :: l).length ≤ cap) (hg : ∀ (k : Nat) (mm : aM), (m :: l)[k]? = some mm → g (cAt b cap k) = cPack mm) (e1 : f2 1 = nI (cAt b cap 1)) (e2 : f2 2 = nI l.length) (e3 : f2 3 = nI (aOf 1 l)) (e4 : g2 = g) : cRing f2 g2 cap l := by
  simp at hl
  refine ⟨cAt b cap 1, cAt_lt h1 (by omega), h2, h3, e1, e2, by omega, e3, fun k mm hk => ?_⟩
  have hkl := (List.getElem?_eq_some_iff.mp hk).1
  rw [e4, cAt_1 h1 (by omega) (by omega)]
  exact hg (k + 1) mm (by simpa using hk)
theorem cR_row {n : Nat} {τ : aS} {S S' : zSt} {r c' : Nat} {l' : List aM} (hn : n ≤ 10) (h : cRel n τ S) (hr : cRow n r) (he : ∀ a b, ¬ (a = 6 ∧ b = r) → ¬ (a = 7 ∧ b = r) → S' a b = S a b) (hring : cRing (S' 6 r) (S' 7 r) c' l') : cRel n (τ.1, (fun x => if x = cix n r then l' else τ.2.1 x), fun x => if x = cix n r then c' else τ.2.2 x) S' := by
  obtain ⟨h1, h2, h3, h4, h5, h6⟩ := h
  refine ⟨?_, ?_, ?_, fun q hq => ?_, fun q hq i hi => ?_, fun q hq => ?_⟩
  · rw [he 0 0 (by omega) (by omega)]; exact h1
  · rw [he 3 0 (by omega) (by omega)]; exact h2
  · rw [he 3 0 (by omega) (by omega)]; exact h3
  · rw [he 4 q (by omega) (by omega)]; exact h4 q hq
  · rw [he 5 q (by omega) (by omega)]; exact h5 q hq i hi
  · by_cases hqr : q = r
    · subst hqr
      simp only [if_true]
      exact hring
    · have hne : ¬ cix n q = cix n r := fun hc => hqr (cix_inj hn hq hr hc)
      simp only [if_neg hne]
      rw [he 6 q (by omega) (by omega), he 7 q (by omega) (by omega)]
      exact h6 q hq
def aG (σ : aS) (r : Nat) : aS := (σ.1, σ.2.1, fun x => if x = r then 2 * σ.2.2 r else σ.2.2 x)
def aLam (σ : aS) : Nat := aSum σ.2.2 100
theorem aSum_upd {f : Nat → Nat} {r v : Nat} : ∀ {n : Nat}, r < n → aSum (fun x => if x = r then v else f x) n + f r = aSum f n + v
  | 0, h => absurd h (Nat.not_lt_zero _)
  | n + 1, h => by
    simp only [aSum]
    by_cases hr : r = n
    · subst hr
      have e : aSum (fun x => if x = r then v else f x) r = aSum f r := by
        have : ∀ k, k ≤ r → aSum (fun x => if x = r then v else f x) k = aSum f k := by
          intro k
          induction k with
          | zero => intro _; rfl
          | succ k ih => intro hk; simp only [aSum]; rw [ih (by omega), if_neg (by omega)]
        exact this r (Nat.le_refl _)
      rw [e, if_pos rfl]
      omega
    · have ih := aSum_upd (f := f) (r := r) (v := v) (n := n) (by omega)
      rw [if_neg (fun h => hr h.symm)]
      omega
theorem aLam_G {σ : aS} {r : Nat} (hr : r < 100) : aLam (aG σ r) = aLam σ + σ.2.2 r := by
  have := aSum_upd (f := σ.2.2) (v := 2 * σ.2.2 r) hr
  simp only [aLam, aG]
  omega
theorem aLam_push {σ : aS} {r : Nat} {m : aM} (hr : r < 100) : aLam (aPush σ r m) = aLam σ + (if (σ.2.1 r).length = σ.2.2 r then σ.2.2 r else 0) := by
  have := aSum_upd (f := σ.2.2) (v := if (σ.2.1 r).length = σ.2.2 r then 2 * σ.2.2 r else σ.2.2 r) hr
  simp only [aLam, aPush]
  split at this <;> split <;> omega
theorem aLam_push_le {σ : aS} {r : Nat} {m : aM} (hr : r < 100) : aLam σ ≤ aLam (aPush σ r m) := by rw [aLam_push hr]; omega
theorem c8 {n : Nat} {i : zI} (h : i ∈ cIL n) : i.1 ≤ 7 ∧ (i.1 ≤ 3 → i.2 = 0) := by
  simp only [cIL, List.mem_append, List.mem_map, List.mem_cons, List.not_mem_nil, or_false] at h
  rcases h with (((h | ⟨a, -, rfl⟩) | ⟨a, -, rfl⟩) | ⟨a, -, rfl⟩) | ⟨a, -, rfl⟩
  · rcases h with rfl | rfl | rfl | rfl <;> simp
  · simp
  · simp
  · simp
  · simp
theorem c67 {n a b : Nat} (h : (a, b) ∈ cIL n) (hab : a = 6 ∨ a = 7) : cRow n b := by
  simp only [cIL, List.mem_append, List.mem_map, List.mem_cons, List.not_mem_nil, or_false, Prod.mk.injEq] at h
  rcases h with (((h | ⟨q, -, h, -⟩) | ⟨q, -, h, -⟩) | ⟨q, hq, h, rfl⟩) | ⟨q, hq, h, rfl⟩
  · omega
  · omega
  · omega
  · exact cRs_mem.mp hq
  · exact cRs_mem.mp hq
theorem nodup_map {α β : Type} {f : α → β} {l : List α} (hf : ∀ a b, f a = f b → a = b) (h : l.Nodup) : (l.map f).Nodup := by
  induction l with
  | nil => simp
  | cons a l ih =>
    rw [List.nodup_cons] at h
    rw [List.map_cons, List.nodup_cons]
    refine ⟨fun hm => ?_, ih h.2⟩
    obtain ⟨b, hb, hab⟩ := List.mem_map.mp hm
    rw [hf b a hab] at hb
    exact h.1 hb
theorem cRs_nodup (n : Nat) : (cRs n).Nodup := List.Pairwise.filter _ List.nodup_range
theorem cIL_nodup (n : Nat) : (cIL n).Nodup := by
  have hm : ∀ (k : Nat) (l : List Nat), l.Nodup → (l.map (fun p => (k, p))).Nodup := fun k l hl => nodup_map (fun a b h => (Prod.mk.inj h).2) hl
  simp only [cIL]
  refine List.nodup_append.mpr ⟨List.nodup_append.mpr ⟨List.nodup_append.mpr ⟨List.nodup_append.mpr ⟨by decide, hm 4 _ List.nodup_range, ?_⟩, hm 5 _ List.nodup_range, ?_⟩, hm 6 _ (cRs_nodup n), ?_⟩, hm 7 _ (cRs_nodup n), ?_⟩
  all_goals
    intro x hx y hy hxy
    subst hxy
    simp only [List.mem_append, List.mem_map, List.mem_cons, List.not_mem_nil, or_false] at hx hy
    obtain ⟨b, -, rfl⟩ := hy
    simp at hx
set_option maxHeartbeats 4000000 in
set_option maxRecDepth 100000 in
theorem k_X0_takeFirst {l : Launch} {D : va_G} {K : zKs} {n : Nat} {ad : zAd} {ca : Nat → Nat} {S : zSt} {σ : aS} {r : Nat} (hn : n ≤ 10) (hR : cRel n σ S) (hr : cRow n r) {m0 : aM} {tl : List aM} (hl : σ.2.1 (cix n r) = m0 :: tl) (hw : aWM n m0) : zMet l yX0_takeFirst cX0_takeFirst 2 (some .int) { frames := 1, cells := 0, slots := 0, locals := 22 } D K (cIL n) (cSh K n (cpo n σ.2.2)) (zA ad ca) S [.ref (zA ad ca (6, r))] (zR (some (.int (cPack m0))) (cSh K n (cpo n σ.2.2)) (zA ad ca) (cRel n (aTail σ (cix n r)))) := by
  refine zEnter (own := RX0) (lv0 := [some (.ref (zA ad ca (6, r))), none]) (by decide) rfl (by simp [Value.category]) (Nat.le_of_ble_eq_true rfl) rfl ?_
  intro p e s m below meth c A C _ hnm
  obtain ⟨b, h1, h2, h3, e1, e2, h4, e3, hg⟩ := hR.r hr
  rw [hl] at e2 h4 e3 hg
  have hg0 := hg 0 m0 rfl
  have hc0 : cAt b (σ.2.2 (cix n r)) 0 = b := by unfold cAt; rw [if_pos (by omega)]; rfl
  rw [hc0] at hg0
  have ek := cPack_kind hn hw
  have fin : ∀ v : Int32, v = nI (aOf 1 tl) → cRel n (aTail σ (cix n r)) (z3 (z3 (z3 S 6 r 1 (nI (cAt b (σ.2.2 (cix n r)) 1))) 6 r 2 (nI tl.length)) 6 r 3 v) := by
    intro v hv
    have := cR_row (c' := σ.2.2 (cix n r)) (l' := tl) (S' := z3 (z3 (z3 S 6 r 1 (nI (cAt b (σ.2.2 (cix n r)) 1))) 6 r 2 (nI tl.length)) 6 r 3 v) hn hR hr (fun x y hx hy => by funext z; simp only [z3]; rw [if_neg (by omega), if_neg (by omega), if_neg (by omega)]) (ring_take h1 h2 h3 h4 hg (by simp [z3]) (by simp [z3]) (by simp [z3, hv]) (by funext z; simp [z3]))
    have e : aTail σ (cix n r) = (σ.1, (fun x => if x = cix n r then tl else σ.2.1 x), fun x => if x = cix n r then σ.2.2 (cix n r) else σ.2.2 x) := by
      simp only [aTail, hl, List.tail_cons, Prod.mk.injEq, true_and]
      funext x
      split
      · rename_i h; rw [h]
      · rfl
    rw [e]
    exact this
  simp only [List.length_cons] at e2 h4
  rw [aOf_cons] at e3
  refine Zr_aload_n C dX0_takeFirst_0 rfl ?_
  refine Zr_getR C gf_X0_11 (cm6 hr) rfl rfl rfl (by simp) dX0_takeFirst_1 ?_
  refine Zr_aload_n C dX0_takeFirst_4 rfl ?_
  refine Zr_getE C gf_X0_36 (cm6 hr) rfl rfl rfl e1 dX0_takeFirst_5 ?_
  refine Zr_ialdN C (cm7 hr) rfl rfl h1 (by show σ.2.2 (cix n r) < _; omega) hg0 dX0_takeFirst_8 ?_
  refine Zr_istore_n C dX0_takeFirst_9 (by decide) ?_
  refine Zr_aload_n C dX0_takeFirst_10 rfl ?_
  refine Zr_aload_n C dX0_takeFirst_11 rfl ?_
  refine Zr_iconst C (1) dX0_takeFirst_12 rfl ?_
  refine Zr_callV C cw_X0_15 (k_X0_placeOf (k := 1) (cm6 hr) rfl (cm7 hr) rfl e1 h1 (by show σ.2.2 (cix n r) ≤ _; omega) (by omega)) (cm6 hr) rfl rfl rfl (Nat.le_of_ble_eq_true rfl) (Nat.le_of_ble_eq_true rfl) rfl (Nat.le_of_ble_eq_true rfl) dX0_takeFirst_13 ⟨Nat.zero_le _, Nat.zero_le _⟩ ?_
  refine Zr_put C pf_X0_36 (cm6 hr) rfl rfl rfl (znI _) dX0_takeFirst_16 ?_
  refine Zr_aload_n C dX0_takeFirst_19 rfl ?_
  refine Zr_dup C dX0_takeFirst_20 rfl ?_
  refine Zr_getE C gf_X0_19 (cm6 hr) rfl rfl rfl (by simp [z3]; exact e2) dX0_takeFirst_21 ?_
  refine Zr_iconst C (1) dX0_takeFirst_24 rfl ?_
  refine Zr_isub C dX0_takeFirst_25 ?_
  refine Zr_topi (y := nI tl.length) (nI_pred _) ?_
  refine Zr_put C pf_X0_19 (cm6 hr) rfl rfl rfl (znI _) dX0_takeFirst_26 ?_
  refine Zr_aload_n C dX0_takeFirst_29 rfl ?_
  refine Zr_dup C dX0_takeFirst_30 rfl ?_
  refine Zr_getE C gf_X0_26 (cm6 hr) rfl rfl rfl (by simp [z3]; exact e3) dX0_takeFirst_31 ?_
  refine Zr_iload_n C dX0_takeFirst_34 rfl ?_
  refine Zr_callS C cw_X0_29 (k_X3_kindOf) rfl (Nat.le_of_ble_eq_true rfl) (Nat.le_of_ble_eq_true rfl) rfl (Nat.le_of_ble_eq_true rfl) dX0_takeFirst_35 ⟨Nat.zero_le _, Nat.zero_le _⟩ ?_
  refine Zr_topi (y := m0.1) ek ?_
  refine Zr_iconst C (1) dX0_takeFirst_38 rfl ?_
  refine Zr_icmp_ne C 46 dX0_takeFirst_39 (by decide) (fun h39 => ?_) (fun h39 => ?_)
  · refine Zr_iconst C (0) dX0_takeFirst_46 rfl ?_
    refine Zr_callS C cw_X0_32 (k_X3_oneIf) rfl (Nat.le_of_ble_eq_true rfl) (Nat.le_of_ble_eq_true rfl) rfl (Nat.le_of_ble_eq_true rfl) dX0_takeFirst_47 ⟨Nat.zero_le _, Nat.zero_le _⟩ ?_
    refine Zr_isub C dX0_takeFirst_50 ?_
    refine Zr_topi (y := nI (aOf 1 tl)) (by first | (rw [if_neg h39]; simp; done) | (rw [if_pos h39]; exact nI_pred _)) ?_
    refine Zr_put C pf_X0_26 (cm6 hr) rfl rfl rfl (znI _) dX0_takeFirst_51 ?_
    refine Zr_iload_n C dX0_takeFirst_54 rfl ?_
    exact Zr_iret C dX0_takeFirst_55 (Nat.zero_le _) (Nat.zero_le _) ⟨rfl, rfl, rfl, fin _ rfl⟩
  · refine Zr_iconst C (1) dX0_takeFirst_42 rfl ?_
    refine Zr_goto C 47 dX0_takeFirst_43 (by decide) ?_
    refine Zr_callS C cw_X0_32 (k_X3_oneIf) rfl (Nat.le_of_ble_eq_true rfl) (Nat.le_of_ble_eq_true rfl) rfl (Nat.le_of_ble_eq_true rfl) dX0_takeFirst_47 ⟨Nat.zero_le _, Nat.zero_le _⟩ ?_
    refine Zr_isub C dX0_takeFirst_50 ?_
    refine Zr_topi (y := nI (aOf 1 tl)) (by first | (rw [if_neg h39]; simp; done) | (rw [if_pos h39]; exact nI_pred _)) ?_
    refine Zr_put C pf_X0_26 (cm6 hr) rfl rfl rfl (znI _) dX0_takeFirst_51 ?_
    refine Zr_iload_n C dX0_takeFirst_54 rfl ?_
    exact Zr_iret C dX0_takeFirst_55 (Nat.zero_le _) (Nat.zero_le _) ⟨rfl, rfl, rfl, fin _ rfl⟩
end
section
set_option maxRecDepth 20000 in
theorem pf_X0_11r : zPutR RX0 11 0 0 false := zPutR.of (f := 0) (ref := "QuietWatch$Row") (T := TX0) (N := 4) (tys := tyX0) (ty := .array .int) rfl (by decide) inG0 tyX0_ok nmX0 (zg 115 rfl rfl) rfl rfl rfl (fun v => ⟨rfl, rfl⟩)
set_option maxRecDepth 20000 in
theorem wArrI : Cond.arrayClass .int ∈ zgw := (zg 104 rfl rfl)
set_option maxRecDepth 20000 in
theorem wArrZ : Cond.arrayClass .boolean ∈ zgw := (zg 488 rfl rfl)
theorem cEx8 {K : zKs} {n N : Nat} {cp : Nat → Nat} {ad : zAd} {S : zSt} {i : zI} (h : i ∈ cIL n) (q : Nat) : zpic (fun i => if i = (8, 0) then .inr (K.1, N, none) else cSh K n cp i) (fun i => if i = (8, 0) then q else ad i) (fun x y => if (x, y) = (8, 0) then fun _ => 0 else S x y) i = zpic (cSh K n cp) ad S i := by
  obtain ⟨a, b⟩ := i
  have h7 := (c8 h).1
  dsimp only at h7
  rcases (show a = 0 ∨ a = 1 ∨ a = 2 ∨ a = 3 ∨ a = 4 ∨ a = 5 ∨ a = 6 ∨ a = 7 by omega) with rfl | rfl | rfl | rfl | rfl | rfl | rfl | rfl <;> simp [zpic, cSh, zfl]
  · funext k
    split <;> simp
theorem ring_grow {f g f2 g2 : Nat → Int32} {cap : Nat} {l : List aM} (h : cRing f g cap l) (hc : cap ≤ 640) (e1 : f2 1 = 0) (e2 : f2 2 = f 2) (e3 : f2 3 = f 3) (hg : ∀ (k : Nat) (m : aM), l[k]? = some m → g2 k = cPack m) : cRing f2 g2 (2 * cap) l := by
  obtain ⟨b, h1, h2, h3, h4, h5, h6, h7, h8⟩ := h
  refine ⟨0, by omega, by omega, by omega, e1, by rw [e2]; exact h5, by omega, by rw [e3]; exact h7, fun k m hk => ?_⟩
  have hkl := (List.getElem?_eq_some_iff.mp hk).1
  rw [cAt_0 (by omega)]
  exact hg k m hk
set_option maxHeartbeats 1000000 in
set_option maxRecDepth 100000 in
theorem k_X0_grow {l : Launch} {D : va_G} {K : zKs} {n : Nat} {ad : zAd} {ca : Nat → Nat} {S : zSt} {σ : aS} {r : Nat} (hn : n ≤ 10) (hR : cRel n σ S) (hr : cRow n r) {F : Nat} (hF : aLam (aG σ (cix n r)) ≤ F) (hcap : σ.2.2 (cix n r) ≤ 640) : zMet l yX0_grow cX0_grow 3 none { frames := 1, cells := (F - aLam σ), slots := (2 * (F - aLam σ)), locals := 22 } D K (cIL n) (cSh K n (cpo n σ.2.2)) (zA ad ca) S [.ref (zA ad ca (6, r))] (cP K n ad none (aG σ (cix n r))) := by
  refine zEnter (own := RX0) (lv0 := [some (.ref (zA ad ca (6, r))), none, none]) (by decide) rfl (by simp [Value.category]) (Nat.le_of_ble_eq_true rfl) rfl ?_
  intro p e s m below meth c A C _ hnm
  obtain ⟨b, h1, h2, h3, e1, e2, h4, e3, hg⟩ := hR.r hr
  have hF2 : aLam (aG σ (cix n r)) = aLam σ + (σ.2.2 (cix n r)) := aLam_G (cix_lt hn hr)
  have hcl : (σ.2.2 (cix n r)) < 2 ^ 31 := by omega
  have fin : ∀ (q : Nat) (S8 : zSt), (∀ x y, (x, y) ≠ (8, 0) → S8 x y = S x y) → (∀ (k : Nat) (mm : aM), (σ.2.1 (cix n r))[k]? = some mm → S8 8 0 k = cPack mm) → Z p l e ({ frames := 1, cells := (F - aLam σ), slots := (2 * (F - aLam σ)), locals := 22 } : Room) s m ([.ref (zA ad ca (6, r))] : List Value).toArray below meth c D A 3 (MQ below (zQ (cP K n ad none (aG σ (cix n r))) (cIL n) D A) ([.ref (zA ad ca (6, r))] : List Value).toArray s (F - aLam σ) (2 * (F - aLam σ)) A) (cIL n ++ [(8, 0)]) 1 (2 * (σ.2.2 (cix n r))) (fun i : zI => if i = (8, 0) then (.inr (K.1, 2 * σ.2.2 (cix n r), none) : (Nat × List (Option zI)) ⊕ (ClassId × Nat × Option (Nat → Option zI))) else cSh K n (cpo n σ.2.2) i) (fun i : zI => if i = (8, 0) then q else zA ad ca i) S8 (39) ([some (.ref (zA ad ca (6, r))), some (.ref q), none]) ([]) := by
    intro q S8 hS8 hc8
    refine Zr_aload_n C dX0_grow_39 rfl ?_
    refine Zr_aload_n C dX0_grow_40 rfl ?_
    refine Zr_putR C (8, 0) pf_X0_11r (fun h => by cases h) (List.mem_append_left _ (cm6 hr)) rfl rfl (by simp) rfl (Nat.zero_lt_succ _) dX0_grow_41 ?_
    refine Zr_re (IL' := cIL n) (sh' := cSh K n (cpo n (aG σ (cix n r)).2.2)) (ad' := zA ad (fun x => if x = r then q else ca x)) (S' := fun x y => if (x, y) = (7, r) then S8 8 0 else S x y) (cIL_nodup n) (fun i => if i = (7, r) then (8, 0) else i) (fun i hi => ?_) (fun i hi j hj hij => ?_) (fun i hi => ?_) (fun i hi => ?_) ?_
    · by_cases h : i = (7, r)
      · simp [h]
      · simp [h, hi]
    · have h8 : ∀ i, i ∈ cIL n → i ≠ (8, 0) := fun i hi h => by have := (c8 hi).1; rw [h] at this; omega
      by_cases h : i = (7, r) <;> by_cases h' : j = (7, r)
      · rw [h, h']
      · simp [h, h'] at hij; exact absurd hij.symm (h8 j hj)
      · simp [h, h'] at hij; exact absurd hij (h8 i hi)
      · simpa [h, h'] using hij
    · obtain ⟨x, y⟩ := i
      have h8 : (x, y) ≠ (8, 0) := fun h => by have := (c8 hi).1; rw [h] at this; omega
      by_cases h : (x, y) = (7, r)
      · cases h; simp [zA]
      · simp only [h, h8, if_false]
        by_cases hx : x = 7
        · have hyr : ¬ y = r := fun hy => h (by rw [hx, hy])
          simp [zA, hx, hyr]
        · simp [zA, hx]
    · obtain ⟨x, y⟩ := i
      have h7 := (c8 hi).1
      dsimp only at h7
      have hxy : S8 x y = S x y := hS8 x y (fun h => by cases h; omega)
      rcases (show x = 0 ∨ x = 1 ∨ x = 2 ∨ x = 3 ∨ x = 4 ∨ x = 5 ∨ x = 6 ∨ x = 7 by omega) with rfl | rfl | rfl | rfl | rfl | rfl | rfl | rfl
      · simp [zpic, cSh, zfl, zA, hxy]
      · simp [zpic, cSh, zA]
      · simp only [zpic, cSh, zA]
        simp
        funext k
        split <;> simp [zA]
      · simp [zpic, cSh, zfl, hxy]
      · simp [zpic, cSh, zfl, zA, hxy]
      · simp [zpic, cSh, hxy]
      · by_cases hy : y = r
        · subst hy; simp [zpic, cSh, zfl, zA, hxy]
        · simp [zpic, cSh, zfl, zA, hy, hxy]
      · by_cases hy : y = r
        · subst hy; simp [zpic, cSh, cpo, aG]
        · have hne : ¬ cix n y = cix n r := fun hc => hy (cix_inj hn (c67 hi (Or.inr rfl)) hr hc)
          simp [zpic, cSh, cpo, aG, hy, hne, hxy]
    have hrel : cRel n (aG σ (cix n r)) (z3 (fun x y => if (x, y) = (7, r) then S8 8 0 else S x y) 6 r 1 0) := by
      have := cR_row (c' := 2 * (σ.2.2 (cix n r))) (l' := σ.2.1 (cix n r)) (S' := z3 (fun x y => if (x, y) = (7, r) then S8 8 0 else S x y) 6 r 1 0) hn hR hr (fun x y hx hy => by
        funext z
        have hne : ¬ ((x, y) = (7, r)) := fun h => hy (Prod.mk.inj h)
        simp only [z3]
        rw [if_neg (fun h => hx ⟨h.1, h.2.1⟩), if_neg hne]) (ring_grow (hR.r hr) hcap (by simp [z3]) (by simp [z3]) (by simp [z3]) (fun k mm hk => by simp [z3]; exact hc8 k mm hk))
      have e : aG σ (cix n r) = (σ.1, (fun x => if x = cix n r then σ.2.1 (cix n r) else σ.2.1 x), fun x => if x = cix n r then 2 * (σ.2.2 (cix n r)) else σ.2.2 x) := by
        simp only [aG, Prod.mk.injEq, true_and, and_true]
        funext x
        split
        · rename_i h; rw [h]
        · rfl
      rw [e]
      exact this
    refine Zr_aload_n C dX0_grow_44 rfl ?_
    refine Zr_iconst C (0) dX0_grow_45 rfl ?_
    refine Zr_put C pf_X0_36 (cm6 hr) rfl rfl rfl (znI _) dX0_grow_46 ?_
    exact Zr_vret C dX0_grow_49 (by omega) (by omega) ⟨rfl, rfl, ⟨_, rfl⟩, hrel⟩
  have key : ∀ (q d k : Nat) (S8 : zSt), k + d = (σ.2.1 (cix n r)).length → (∀ x y, (x, y) ≠ (8, 0) → S8 x y = S x y) → (∀ (j : Nat) (mm : aM), j < k → (σ.2.1 (cix n r))[j]? = some mm → S8 8 0 j = cPack mm) → Z p l e ({ frames := 1, cells := (F - aLam σ), slots := (2 * (F - aLam σ)), locals := 22 } : Room) s m ([.ref (zA ad ca (6, r))] : List Value).toArray below meth c D A 3 (MQ below (zQ (cP K n ad none (aG σ (cix n r))) (cIL n) D A) ([.ref (zA ad ca (6, r))] : List Value).toArray s (F - aLam σ) (2 * (F - aLam σ)) A) (cIL n ++ [(8, 0)]) 1 (2 * (σ.2.2 (cix n r))) (fun i : zI => if i = (8, 0) then (.inr (K.1, 2 * σ.2.2 (cix n r), none) : (Nat × List (Option zI)) ⊕ (ClassId × Nat × Option (Nat → Option zI))) else cSh K n (cpo n σ.2.2) i) (fun i : zI => if i = (8, 0) then q else zA ad ca i) S8 (12) ([some (.ref (zA ad ca (6, r))), some (.ref q), some (.int (nI k))]) ([]) := by
    intro q d
    induction d with
    | zero =>
      intro k S8 hk hS8 hc8
      have hS6 : S8 6 r = S 6 r := hS8 6 r (by simp)
      refine Zr_iload_n C dX0_grow_12 rfl ?_
      refine Zr_aload_n C dX0_grow_13 rfl ?_
      refine Zr_getE C gf_X0_19 (List.mem_append_left _ (cm6 hr)) rfl rfl rfl ((congrFun hS6 2).trans e2) dX0_grow_14 ?_
      refine Zr_icmp_ge C 39 dX0_grow_17 (by decide) (fun h17 => ?_) (fun h17 => absurd (nI_le (show (σ.2.1 (cix n r)).length ≤ k by omega) (by omega)) h17)
      exact Zr_forget 2 (fin q S8 hS8 (fun j mm hj => hc8 j mm (by have := (List.getElem?_eq_some_iff.mp hj).1; omega) hj))
    | succ d ih =>
      intro k S8 hk hS8 hc8
      have hS6 : S8 6 r = S 6 r := hS8 6 r (by simp)
      have hS7 : S8 7 r = S 7 r := hS8 7 r (by simp)
      obtain ⟨mm, hmm⟩ : ∃ mm, (σ.2.1 (cix n r))[k]? = some mm := ⟨_, List.getElem?_eq_getElem (by omega)⟩
      have hct := cAt_lt h1 (show k ≤ (σ.2.2 (cix n r)) by omega)
      refine Zr_iload_n C dX0_grow_12 rfl ?_
      refine Zr_aload_n C dX0_grow_13 rfl ?_
      refine Zr_getE C gf_X0_19 (List.mem_append_left _ (cm6 hr)) rfl rfl rfl ((congrFun hS6 2).trans e2) dX0_grow_14 ?_
      refine Zr_icmp_ge C 39 dX0_grow_17 (by decide) (fun h17 => absurd h17 (nI_ge (show k < (σ.2.1 (cix n r)).length by omega) (by omega))) (fun h17 => ?_)
      refine Zr_aload_n C dX0_grow_20 rfl ?_
      refine Zr_iload_n C dX0_grow_21 rfl ?_
      refine Zr_aload_n C dX0_grow_22 rfl ?_
      refine Zr_getR C gf_X0_11 (List.mem_append_left _ (cm6 hr)) rfl rfl rfl (by simp) dX0_grow_23 ?_
      refine Zr_aload_n C dX0_grow_26 rfl ?_
      refine Zr_iload_n C dX0_grow_27 rfl ?_
      refine Zr_callV C cw_X0_15 (k_X0_placeOf (b := b) (k := k) (List.mem_append_left _ (cm6 hr)) rfl (List.mem_append_left _ (cm7 hr)) rfl ((congrFun hS6 1).trans e1) h1 (by show (σ.2.2 (cix n r)) ≤ _; omega) (by omega)) (List.mem_append_left _ (cm6 hr)) rfl rfl rfl (Nat.le_of_ble_eq_true rfl) (Nat.le_of_ble_eq_true rfl) rfl (Nat.le_of_ble_eq_true rfl) dX0_grow_28 ⟨by show 1 ≤ F - aLam σ; omega, by show 2 * (σ.2.2 (cix n r)) ≤ 2 * (F - aLam σ); omega⟩ ?_
      refine Zr_ialdN C (List.mem_append_left _ (cm7 hr)) rfl rfl hct (by show σ.2.2 (cix n r) < 2 ^ 31; omega) ((congrFun hS7 _).trans (hg k mm hmm)) dX0_grow_31 ?_
      refine Zr_iastN (Rel := fun X => X = _) C (List.mem_append_right _ (List.mem_singleton.mpr rfl)) rfl rfl (show k < 2 * (σ.2.2 (cix n r)) by omega) (by show 2 * σ.2.2 (cix n r) < 2 ^ 31; omega) rfl dX0_grow_32 (fun S1 hS1 => ?_)
      subst hS1
      refine Zr_iincE C (1) (nI (k + 1)) dX0_grow_33 (by decide) rfl rfl (nI_1 _) ?_
      refine Zr_goto C 12 dX0_grow_36 (by decide) ?_
      exact ih (k + 1) _ (by omega) (fun x y hxy => by funext z; simp only [z3]; rw [if_neg (fun h => hxy (by rw [h.1, h.2.1])), hS8 x y hxy]) (fun j m2 hj hm2 => by by_cases hjk : j = k; (subst hjk; rw [hmm] at hm2; cases hm2; simp [z3]); simpa [z3, hjk] using hc8 j m2 (by omega) hm2)
  refine Zr_aload_n C dX0_grow_0 rfl ?_
  refine Zr_getR C gf_X0_11 (cm6 hr) rfl rfl rfl (by simp) dX0_grow_1 ?_
  refine Zr_alen C 0 (cm7 hr) rfl rfl rfl dX0_grow_4 ?_
  refine Zr_iconst C (2) dX0_grow_5 rfl ?_
  refine Zr_imul C dX0_grow_6 ?_
  refine Zr_topi (y := nI (2 * (σ.2.2 (cix n r)))) (by show nI (σ.2.2 (cix n r)) * nI 2 = _; rw [pk_mul, Nat.mul_comm]) ?_
  refine Zr_newa C (at' := .int) (ty := .int) (a := 8) (b := 0) (N := 2 * (σ.2.2 (cix n r))) 0 rfl rfl zra_int rfl wArrI (fun h => by have := (c8 h).1; omega) (fun i hi q => cEx8 hi q) (nI_pos (by omega)) (nI_clamp (by omega)) (by show 2 * (σ.2.2 (cix n r)) * 4 ≤ _; omega) (by show 0 + 1 ≤ F - aLam σ; omega) (by show 0 + 2 * (σ.2.2 (cix n r)) ≤ 2 * (F - aLam σ); omega) dX0_grow_7 (fun q => ?_)
  refine Zr_cs (Nat.zero_add _) (Nat.zero_add _) ?_
  refine Zr_astore_n C dX0_grow_9 (by decide) ?_
  refine Zr_iconst C (0) dX0_grow_10 rfl ?_
  refine Zr_istore_n C dX0_grow_11 (by decide) ?_
  exact key q (σ.2.1 (cix n r)).length 0 _ (by omega) (fun x y hxy => by simp only [if_neg hxy]) (fun j mm hj => absurd hj (Nat.not_lt_zero _))
end
section
set_option maxHeartbeats 1000000 in
set_option maxRecDepth 100000 in
theorem k_X0_append {l : Launch} {D : va_G} {K : zKs} {n : Nat} {ad : zAd} {ca : Nat → Nat} {S : zSt} {σ : aS} {r : Nat} (hn : n ≤ 10) (hR : cRel n σ S) (hr : cRow n r) {mm : aM} {F : Nat} (hw : aWM n mm) (hF : aLam (aPush σ (cix n r) mm) ≤ F) (hlen : (σ.2.1 (cix n r)).length < 640) : zMet l yX0_append cX0_append 2 none { frames := 2, cells := (F - aLam σ), slots := (2 * (F - aLam σ)), locals := 44 } D K (cIL n) (cSh K n (cpo n σ.2.2)) (zA ad ca) S [.ref (zA ad ca (6, r)), .int (cPack mm)] (cP K n ad none (aPush σ (cix n r) mm)) := by
  refine zEnter (own := RX0) (lv0 := [some (.ref (zA ad ca (6, r))), some (.int (cPack mm))]) (by decide) rfl (by simp [Value.category]) (Nat.le_of_ble_eq_true rfl) rfl ?_
  intro p e s m below meth c A C _ hnm
  obtain ⟨b0, h01, h02, h03, e01, e02, h04, e03, hg00⟩ := hR.r hr
  have ek := cPack_kind hn hw
  have hlp := aLam_push (σ := σ) (m := mm) (cix_lt hn hr)
  have tail : ∀ (cb : Nat → Nat) (S : zSt) (τ : aS) (cl sl : Nat), cRel n τ S → τ.2.1 = σ.2.1 → (aPush σ (cix n r) mm).2.2 = τ.2.2 → τ.1 = σ.1 → (σ.2.1 (cix n r)).length < τ.2.2 (cix n r) → cl ≤ F - aLam σ → sl ≤ 2 * (F - aLam σ) → Z p l e ({ frames := 2, cells := (F - aLam σ), slots := (2 * (F - aLam σ)), locals := 44 } : Room) s m ([.ref (zA ad ca (6, r)), .int (cPack mm)] : List Value).toArray below meth c D A 2 (MQ below (zQ (cP K n ad none (aPush σ (cix n r) mm)) (cIL n) D A) ([.ref (zA ad ca (6, r)), .int (cPack mm)] : List Value).toArray s (F - aLam σ) (2 * (F - aLam σ)) A) (cIL n) cl sl (cSh K n (cpo n τ.2.2)) (zA ad cb) S (16) ([some (.ref (zA ad ca (6, r))), some (.int (cPack mm))]) ([]) := by
    intro cb S τ cl sl hR hL hC hN hlt hcl hsl
    obtain ⟨b, h1, h2, h3, e1, e2, h4, e3, hg⟩ := hR.r hr
    rw [hL] at e2 h4 e3 hg
    have fin : ∀ v : Int32, v = nI (aOf 1 (σ.2.1 (cix n r)) + (if mm.1 = 1 then 1 else 0)) → cRel n (aPush σ (cix n r) mm) (z3 (z3 (z3 S 7 r (cAt b (τ.2.2 (cix n r)) (σ.2.1 (cix n r)).length) (cPack mm)) 6 r 2 (nI ((σ.2.1 (cix n r)).length + 1))) 6 r 3 v) := by
      intro v hv
      have := cR_row (c' := τ.2.2 (cix n r)) (l' := σ.2.1 (cix n r) ++ [mm]) (S' := z3 (z3 (z3 S 7 r (cAt b (τ.2.2 (cix n r)) (σ.2.1 (cix n r)).length) (cPack mm)) 6 r 2 (nI ((σ.2.1 (cix n r)).length + 1))) 6 r 3 v) hn hR hr (fun x y hx hy => by funext z; simp only [z3]; rw [if_neg (by omega), if_neg (by omega), if_neg (by omega)]) (ring_put h1 h2 h3 hlt hg (by simp [z3]; exact e1) (by simp [z3]) (by simp [z3, hv]) (by funext z; simp [z3]))
      have e : aPush σ (cix n r) mm = (τ.1, (fun x => if x = cix n r then σ.2.1 (cix n r) ++ [mm] else τ.2.1 x), fun x => if x = cix n r then τ.2.2 (cix n r) else τ.2.2 x) := by
        refine Prod.ext hN.symm (Prod.ext ?_ ?_)
        · simp only [hL]
          rfl
        · rw [hC]
          funext x
          show _ = if x = cix n r then τ.2.2 (cix n r) else τ.2.2 x
          split
          · rename_i h; rw [h]
          · rfl
      rw [e]
      exact this
    have q32 : (z3 S 7 r (cAt b (τ.2.2 (cix n r)) (σ.2.1 (cix n r)).length) (cPack mm)) 6 r 2 = nI (σ.2.1 (cix n r)).length := by simp [z3]; exact e2
    have q42 : (z3 (z3 S 7 r (cAt b (τ.2.2 (cix n r)) (σ.2.1 (cix n r)).length) (cPack mm)) 6 r 2 (nI ((σ.2.1 (cix n r)).length + 1))) 6 r 3 = nI (aOf 1 (σ.2.1 (cix n r))) := by simp [z3]; exact e3
    refine Zr_aload_n C dX0_append_16 rfl ?_
    refine Zr_getR C gf_X0_11 (cm6 hr) rfl rfl rfl (by simp) dX0_append_17 ?_
    refine Zr_aload_n C dX0_append_20 rfl ?_
    refine Zr_aload_n C dX0_append_21 rfl ?_
    refine Zr_getE C gf_X0_19 (cm6 hr) rfl rfl rfl e2 dX0_append_22 ?_
    refine Zr_callV C cw_X0_15 (k_X0_placeOf (k := (σ.2.1 (cix n r)).length) (cm6 hr) rfl (cm7 hr) rfl e1 h1 (by show τ.2.2 (cix n r) ≤ _; omega) (by omega)) (cm6 hr) rfl rfl rfl (Nat.le_of_ble_eq_true rfl) (Nat.le_of_ble_eq_true rfl) rfl (Nat.le_of_ble_eq_true rfl) dX0_append_25 ⟨hcl, hsl⟩ ?_
    refine Zr_iload_n C dX0_append_28 rfl ?_
    refine Zr_iastN (Rel := fun X => X = _) C (cm7 hr) rfl rfl (cAt_lt h1 (by show _ ≤ τ.2.2 (cix n r); omega)) (by show τ.2.2 (cix n r) < _; omega) rfl dX0_append_29 (fun S1 hS1 => ?_)
    subst hS1
    refine Zr_aload_n C dX0_append_30 rfl ?_
    refine Zr_dup C dX0_append_31 rfl ?_
    refine Zr_getE C gf_X0_19 (cm6 hr) rfl rfl rfl q32 dX0_append_32 ?_
    refine Zr_iconst C (1) dX0_append_35 rfl ?_
    refine Zr_iadd C dX0_append_36 ?_
    refine Zr_topi (y := nI ((σ.2.1 (cix n r)).length + 1)) (nI_1 _) ?_
    refine Zr_put C pf_X0_19 (cm6 hr) rfl rfl rfl (znI _) dX0_append_37 ?_
    refine Zr_aload_n C dX0_append_40 rfl ?_
    refine Zr_dup C dX0_append_41 rfl ?_
    refine Zr_getE C gf_X0_26 (cm6 hr) rfl rfl rfl q42 dX0_append_42 ?_
    refine Zr_iload_n C dX0_append_45 rfl ?_
    refine Zr_callS C cw_X0_29 (k_X3_kindOf) rfl (Nat.le_of_ble_eq_true rfl) (Nat.le_of_ble_eq_true rfl) rfl (Nat.le_of_ble_eq_true rfl) dX0_append_46 ⟨hcl, hsl⟩ ?_
    refine Zr_topi (y := mm.1) ek ?_
    refine Zr_iconst C (1) dX0_append_49 rfl ?_
    refine Zr_icmp_ne C 57 dX0_append_50 (by decide) (fun h50 => ?_) (fun h50 => ?_)
    · refine Zr_iconst C (0) dX0_append_57 rfl ?_
      refine Zr_callS C cw_X0_32 (k_X3_oneIf) rfl (Nat.le_of_ble_eq_true rfl) (Nat.le_of_ble_eq_true rfl) rfl (Nat.le_of_ble_eq_true rfl) dX0_append_58 ⟨hcl, hsl⟩ ?_
      refine Zr_iadd C dX0_append_61 ?_
      refine Zr_topi (y := nI (aOf 1 (σ.2.1 (cix n r)) + (if mm.1 = 1 then 1 else 0))) (by simp [h50, nI_1]) ?_
      refine Zr_put C pf_X0_26 (cm6 hr) rfl rfl rfl (znI _) dX0_append_62 ?_
      exact Zr_vret C dX0_append_65 hcl hsl ⟨rfl, by rw [hC], ⟨_, rfl⟩, fin _ rfl⟩
    · refine Zr_iconst C (1) dX0_append_53 rfl ?_
      refine Zr_goto C 58 dX0_append_54 (by decide) ?_
      refine Zr_callS C cw_X0_32 (k_X3_oneIf) rfl (Nat.le_of_ble_eq_true rfl) (Nat.le_of_ble_eq_true rfl) rfl (Nat.le_of_ble_eq_true rfl) dX0_append_58 ⟨hcl, hsl⟩ ?_
      refine Zr_iadd C dX0_append_61 ?_
      refine Zr_topi (y := nI (aOf 1 (σ.2.1 (cix n r)) + (if mm.1 = 1 then 1 else 0))) (by simp [h50, nI_1]) ?_
      refine Zr_put C pf_X0_26 (cm6 hr) rfl rfl rfl (znI _) dX0_append_62 ?_
      exact Zr_vret C dX0_append_65 hcl hsl ⟨rfl, by rw [hC], ⟨_, rfl⟩, fin _ rfl⟩
  by_cases hfull : (σ.2.1 (cix n r)).length = (σ.2.2 (cix n r))
  · have hC : (aPush σ (cix n r) mm).2.2 = (aG σ (cix n r)).2.2 := by
      simp only [aPush, aG, hfull, if_true]
    have hGF : aLam (aG σ (cix n r)) ≤ F := by
      have : aLam (aG σ (cix n r)) = aLam (aPush σ (cix n r) mm) := by simp only [aLam, hC]
      omega
    refine Zr_aload_n C dX0_append_0 rfl ?_
    refine Zr_getE C gf_X0_19 (cm6 hr) rfl rfl rfl e02 dX0_append_1 ?_
    refine Zr_aload_n C dX0_append_4 rfl ?_
    refine Zr_getR C gf_X0_11 (cm6 hr) rfl rfl rfl (by simp) dX0_append_5 ?_
    refine Zr_alen C 0 (cm7 hr) rfl rfl rfl dX0_append_8 ?_
    refine Zr_icmp_ne C 16 dX0_append_9 (by decide) (fun h9 => absurd (by rw [hfull]; rfl) h9) (fun h9 => ?_)
    refine Zr_aload_n C dX0_append_12 rfl ?_
    refine Zr_callVCv C cw_X0_23 (k_X0_grow hn hR hr hGF (by omega)) (cm6 hr) rfl rfl rfl (Nat.le_of_ble_eq_true rfl) (Nat.le_of_ble_eq_true rfl) rfl (Nat.le_of_ble_eq_true rfl) dX0_append_13 ⟨by show 0 + (F - aLam σ) ≤ F - aLam σ; omega, by show 0 + 2 * (F - aLam σ) ≤ 2 * (F - aLam σ); omega⟩ (fun ca S hR => ?_)
    exact Zr_cs (Nat.zero_add _) (Nat.zero_add _) (tail ca S (aG σ (cix n r)) _ _ hR rfl hC rfl (by show _ < if cix n r = cix n r then 2 * (σ.2.2 (cix n r)) else _; rw [if_pos rfl]; omega) (Nat.le_refl _) (Nat.le_refl _))
  · have hC : (aPush σ (cix n r) mm).2.2 = σ.2.2 := by
      simp only [aPush, hfull, if_false]
      funext x
      split
      · rename_i h; rw [h]
      · rfl
    refine Zr_aload_n C dX0_append_0 rfl ?_
    refine Zr_getE C gf_X0_19 (cm6 hr) rfl rfl rfl e02 dX0_append_1 ?_
    refine Zr_aload_n C dX0_append_4 rfl ?_
    refine Zr_getR C gf_X0_11 (cm6 hr) rfl rfl rfl (by simp) dX0_append_5 ?_
    refine Zr_alen C 0 (cm7 hr) rfl rfl rfl dX0_append_8 ?_
    refine Zr_icmp_ne C 16 dX0_append_9 (by decide) (fun h9 => ?_) (fun h9 => absurd ((nI_eq (by omega) (by show σ.2.2 (cix n r) < _; omega)).mp h9) hfull)
    exact tail ca S σ 0 0 hR rfl hC rfl (by omega) (Nat.zero_le _) (Nat.zero_le _)
end
section
section ZAA
variable {p : Program} {l : Launch} {e : Env} {R : Room} {s : State} {m : MethodId} {args : Array Value} {below : List Frame} {meth : Method} {c : Code} {Q : State → Prop} {cells slots : Nat}
variable {own : String} {cc : ByteArray} {nL : Nat} {ret : Option FieldType} {D : va_G} {K : zKs} {A : Nat → Prop} {IL : List zI} {sh : zSh} {ad : zAd} {S : zSt} {pc : Nat} {lv : List (Option Value)} {st : List Value}
theorem Zr_aaldS (C : zX p s m args meth c own cc nL ret D K A) {a b n x0 i : Nat} {cA : ClassId} {Cn : String} {f : Nat → Option zI} {j : zI} (t0 : Nat) (hm : (a, b) ∈ IL) (hx0 : x0 = ad (a, b)) (hs : sh (a, b) = .inr (cA, n, some f)) (ht : (ztys K)[t0]? = some (cA, .object Cn)) (hi : i < n) (hn : n < 2 ^ 31) (hf : f i = some j) (hd : decode cc pc = .ok (.aaload, 1)) (k : Z p l e R s m args below meth c D A nL Q IL cells slots sh ad S (pc + 1) lv (.ref (ad j) :: st)) : Z p l e R s m args below meth c D A nL Q IL cells slots sh ad S pc lv (.int (nI i) :: .ref x0 :: st) := by
  refine Zr_aald C t0 hm hx0 hs ht (vp_in_nI hi hn) hd ?_
  rw [nI_clamp (Nat.lt_trans hi hn), hf]
  exact k
theorem Zr_aaldZ (C : zX p s m args meth c own cc nL ret D K A) {a b n x0 i : Nat} {cA : ClassId} {Cn : String} {f : Nat → Option zI} (t0 : Nat) (hm : (a, b) ∈ IL) (hx0 : x0 = ad (a, b)) (hs : sh (a, b) = .inr (cA, n, some f)) (ht : (ztys K)[t0]? = some (cA, .object Cn)) (hi : i < n) (hn : n < 2 ^ 31) (hf : f i = none) (hd : decode cc pc = .ok (.aaload, 1)) (k : Z p l e R s m args below meth c D A nL Q IL cells slots sh ad S (pc + 1) lv (.null :: st)) : Z p l e R s m args below meth c D A nL Q IL cells slots sh ad S pc lv (.int (nI i) :: .ref x0 :: st) := by
  refine Zr_aald C t0 hm hx0 hs ht (vp_in_nI hi hn) hd ?_
  rw [nI_clamp (Nat.lt_trans hi hn), hf]
  exact k
end ZAA
theorem cDiv {n i j : Nat} (hj : j < n) : (i * n + j) / n = i ∧ (i * n + j) % n = j := by
  have h0 : 0 < n := by omega
  exact ⟨by rw [Nat.mul_comm, Nat.mul_add_div h0, Nat.div_eq_of_lt hj, Nat.add_zero], by rw [Nat.mul_comm, Nat.mul_add_mod, Nat.mod_eq_of_lt hj]⟩
theorem cLt {n i j : Nat} (hi : i < n) (hj : j < n) : i * n + j < n * n := by
  calc i * n + j < i * n + n := by omega
    _ = (i + 1) * n := by rw [Nat.succ_mul]
    _ ≤ n * n := Nat.mul_le_mul_right n hi
set_option maxHeartbeats 1000000 in
set_option maxRecDepth 100000 in
theorem k_X3_isProcess_t {l : Launch} {D : va_G} {K : zKs} {n : Nat} {ad : zAd} {ca : Nat → Nat} {S : zSt} {σ : aS} (hB : aB n σ) (hR : cRel n σ S) {i : Nat} (hi : i < n) : zMet l yX3_isProcess cX3_isProcess 2 (some .boolean) { frames := 0, cells := 0, slots := 0, locals := 0 } D K (cIL n) (cSh K n (cpo n σ.2.2)) (zA ad ca) S [.ref (zA ad ca (0, 0)), .int (nI i)] (zEq (some (.int 1)) (cSh K n (cpo n σ.2.2)) (zA ad ca) (S)) := by
  refine zEnter (own := RX3) (lv0 := [some (.ref (zA ad ca (0, 0))), some (.int (nI i))]) (by decide) rfl (by simp [Value.category]) (Nat.le_of_ble_eq_true rfl) rfl ?_
  intro p e s m below meth c A C _ hnm
  have hn := hB.2.2.1
  refine Zr_iload_n C dX3_isProcess_0 rfl ?_
  refine Zr_if_lt C 16 dX3_isProcess_1 (by decide) (fun h1 => absurd h1 (nI_pos (by omega))) (fun h1 => ?_)
  refine Zr_iload_n C dX3_isProcess_4 rfl ?_
  refine Zr_aload_n C dX3_isProcess_5 rfl ?_
  refine Zr_getE C gf_X3_18 cm0 rfl rfl rfl hR.1.1 dX3_isProcess_6 ?_
  refine Zr_icmp_ge C 16 dX3_isProcess_9 (by decide) (fun h9 => absurd h9 (by rw [hB.1]; exact nI_ge hi (by omega))) (fun h9 => ?_)
  refine Zr_iconst C (1) dX3_isProcess_12 rfl ?_
  refine Zr_goto C 17 dX3_isProcess_13 (by decide) ?_
  exact Zr_zret C dX3_isProcess_17 (Nat.zero_le _) (Nat.zero_le _) (by first | exact Or.inl rfl | exact Or.inr rfl | assumption) ⟨rfl, rfl, rfl, rfl⟩
set_option maxHeartbeats 1000000 in
set_option maxRecDepth 100000 in
theorem k_X3_isProcess_f {l : Launch} {D : va_G} {K : zKs} {n : Nat} {ad : zAd} {ca : Nat → Nat} {S : zSt} {σ : aS} (hB : aB n σ) (hR : cRel n σ S) {x : Int32} (hx : aBad n x) : zMet l yX3_isProcess cX3_isProcess 2 (some .boolean) { frames := 0, cells := 0, slots := 0, locals := 0 } D K (cIL n) (cSh K n (cpo n σ.2.2)) (zA ad ca) S [.ref (zA ad ca (0, 0)), .int x] (zEq (some (.int 0)) (cSh K n (cpo n σ.2.2)) (zA ad ca) (S)) := by
  refine zEnter (own := RX3) (lv0 := [some (.ref (zA ad ca (0, 0))), some (.int x)]) (by decide) rfl (by simp [Value.category]) (Nat.le_of_ble_eq_true rfl) rfl ?_
  intro p e s m below meth c A C _ hnm
  refine Zr_iload_n C dX3_isProcess_0 rfl ?_
  refine Zr_if_lt C 16 dX3_isProcess_1 (by decide) (fun h1 => ?_) (fun h1 => ?_)
  · refine Zr_iconst C (0) dX3_isProcess_16 rfl ?_
    exact Zr_zret C dX3_isProcess_17 (Nat.zero_le _) (Nat.zero_le _) (by first | exact Or.inl rfl | exact Or.inr rfl | assumption) ⟨rfl, rfl, rfl, rfl⟩
  · refine Zr_iload_n C dX3_isProcess_4 rfl ?_
    refine Zr_aload_n C dX3_isProcess_5 rfl ?_
    refine Zr_getE C gf_X3_18 cm0 rfl rfl rfl hR.1.1 dX3_isProcess_6 ?_
    refine Zr_icmp_ge C 16 dX3_isProcess_9 (by decide) (fun h9 => ?_) (fun h9 => absurd (hx.resolve_left h1) (by rw [← hB.1]; exact h9))
    refine Zr_iconst C (0) dX3_isProcess_16 rfl ?_
    exact Zr_zret C dX3_isProcess_17 (Nat.zero_le _) (Nat.zero_le _) (by first | exact Or.inl rfl | exact Or.inr rfl | assumption) ⟨rfl, rfl, rfl, rfl⟩
set_option maxHeartbeats 1000000 in
set_option maxRecDepth 100000 in
theorem k_X3_workerAt_t {l : Launch} {D : va_G} {K : zKs} {n : Nat} {ad : zAd} {ca : Nat → Nat} {S : zSt} {σ : aS} (hB : aB n σ) (hR : cRel n σ S) {i : Nat} (hi : i < n) : zMet l yX3_workerAt cX3_workerAt 2 (some (.object "QuietWatch$Worker")) { frames := 1, cells := 0, slots := 0, locals := 21 } D K (cIL n) (cSh K n (cpo n σ.2.2)) (zA ad ca) S [.ref (zA ad ca (0, 0)), .int (nI i)] (zEq (some (.ref (zA ad ca (4, i)))) (cSh K n (cpo n σ.2.2)) (zA ad ca) (S)) := by
  refine zEnter (own := RX3) (lv0 := [some (.ref (zA ad ca (0, 0))), some (.int (nI i))]) (by decide) rfl (by simp [Value.category]) (Nat.le_of_ble_eq_true rfl) rfl ?_
  intro p e s m below meth c A C _ hnm
  have hn := hB.2.2.1
  refine Zr_aload_n C dX3_workerAt_0 rfl ?_
  refine Zr_iload_n C dX3_workerAt_1 rfl ?_
  refine Zr_callV C cw_X3_230 (k_X3_isProcess_t hB hR hi) cm0 rfl rfl rfl (Nat.le_of_ble_eq_true rfl) (Nat.le_of_ble_eq_true rfl) rfl (Nat.le_of_ble_eq_true rfl) dX3_workerAt_2 ⟨Nat.zero_le _, Nat.zero_le _⟩ ?_
  refine Zr_if_eq C 17 dX3_workerAt_5 (by decide) (fun h5 => absurd h5 (by decide)) (fun h5 => ?_)
  refine Zr_aload_n C dX3_workerAt_8 rfl ?_
  refine Zr_getR C gf_X3_26 cm0 rfl rfl rfl (by simp) dX3_workerAt_9 ?_
  refine Zr_iload_n C dX3_workerAt_12 rfl ?_
  refine Zr_aaldS C 2 cm1 rfl rfl rfl hi (by omega) rfl dX3_workerAt_13 ?_
  refine Zr_goto C 18 dX3_workerAt_14 (by decide) ?_
  exact Zr_aret C (Or.inl ⟨_, rfl⟩) (Or.inr ⟨_, rfl⟩) dX3_workerAt_18 (Nat.zero_le _) (Nat.zero_le _) ⟨rfl, rfl, rfl, rfl⟩
set_option maxHeartbeats 1000000 in
set_option maxRecDepth 100000 in
theorem k_X3_workerAt_f {l : Launch} {D : va_G} {K : zKs} {n : Nat} {ad : zAd} {ca : Nat → Nat} {S : zSt} {σ : aS} (hB : aB n σ) (hR : cRel n σ S) {x : Int32} (hx : aBad n x) : zMet l yX3_workerAt cX3_workerAt 2 (some (.object "QuietWatch$Worker")) { frames := 1, cells := 0, slots := 0, locals := 21 } D K (cIL n) (cSh K n (cpo n σ.2.2)) (zA ad ca) S [.ref (zA ad ca (0, 0)), .int x] (zEq (some (.null)) (cSh K n (cpo n σ.2.2)) (zA ad ca) (S)) := by
  refine zEnter (own := RX3) (lv0 := [some (.ref (zA ad ca (0, 0))), some (.int x)]) (by decide) rfl (by simp [Value.category]) (Nat.le_of_ble_eq_true rfl) rfl ?_
  intro p e s m below meth c A C _ hnm
  refine Zr_aload_n C dX3_workerAt_0 rfl ?_
  refine Zr_iload_n C dX3_workerAt_1 rfl ?_
  refine Zr_callV C cw_X3_230 (k_X3_isProcess_f hB hR hx) cm0 rfl rfl rfl (Nat.le_of_ble_eq_true rfl) (Nat.le_of_ble_eq_true rfl) rfl (Nat.le_of_ble_eq_true rfl) dX3_workerAt_2 ⟨Nat.zero_le _, Nat.zero_le _⟩ ?_
  refine Zr_if_eq C 17 dX3_workerAt_5 (by decide) (fun h5 => ?_) (fun h5 => absurd rfl h5)
  refine Zr_null C dX3_workerAt_17 ?_
  exact Zr_aret C (Or.inl ⟨_, rfl⟩) (Or.inl rfl) dX3_workerAt_18 (Nat.zero_le _) (Nat.zero_le _) ⟨rfl, rfl, rfl, rfl⟩
set_option maxHeartbeats 1000000 in
set_option maxRecDepth 100000 in
theorem k_X3_rowBetween_t {l : Launch} {D : va_G} {K : zKs} {n : Nat} {ad : zAd} {ca : Nat → Nat} {S : zSt} {σ : aS} (hB : aB n σ) (hR : cRel n σ S) {i j : Nat} (hi : i < n) (hj : j < n) (hij : i ≠ j) : zMet l yX3_rowBetween cX3_rowBetween 3 (some (.object "QuietWatch$Row")) { frames := 1, cells := 0, slots := 0, locals := 21 } D K (cIL n) (cSh K n (cpo n σ.2.2)) (zA ad ca) S [.ref (zA ad ca (0, 0)), .int (nI i), .int (nI j)] (zEq (some (.ref (zA ad ca (6, i * n + j)))) (cSh K n (cpo n σ.2.2)) (zA ad ca) (S)) := by
  refine zEnter (own := RX3) (lv0 := [some (.ref (zA ad ca (0, 0))), some (.int (nI i)), some (.int (nI j))]) (by decide) rfl (by simp [Value.category]) (Nat.le_of_ble_eq_true rfl) rfl ?_
  intro p e s m below meth c A C _ hnm
  have hn := hB.2.2.1
  have hr := cRow_of hi hj hij
  have hlt := cLt hi hj
  have hnn := nn_le hn
  refine Zr_aload_n C dX3_rowBetween_0 rfl ?_
  refine Zr_iload_n C dX3_rowBetween_1 rfl ?_
  refine Zr_callV C cw_X3_230 (k_X3_isProcess_t hB hR hi) cm0 rfl rfl rfl (Nat.le_of_ble_eq_true rfl) (Nat.le_of_ble_eq_true rfl) rfl (Nat.le_of_ble_eq_true rfl) dX3_rowBetween_2 ⟨Nat.zero_le _, Nat.zero_le _⟩ ?_
  refine Zr_if_eq C 32 dX3_rowBetween_5 (by decide) (fun h5 => absurd h5 (by decide)) (fun h5 => ?_)
  refine Zr_aload_n C dX3_rowBetween_8 rfl ?_
  refine Zr_iload_n C dX3_rowBetween_9 rfl ?_
  refine Zr_callV C cw_X3_230 (k_X3_isProcess_t hB hR hj) cm0 rfl rfl rfl (Nat.le_of_ble_eq_true rfl) (Nat.le_of_ble_eq_true rfl) rfl (Nat.le_of_ble_eq_true rfl) dX3_rowBetween_10 ⟨Nat.zero_le _, Nat.zero_le _⟩ ?_
  refine Zr_if_eq C 32 dX3_rowBetween_13 (by decide) (fun h13 => absurd h13 (by decide)) (fun h13 => ?_)
  refine Zr_aload_n C dX3_rowBetween_16 rfl ?_
  refine Zr_getR C gf_X3_34 cm0 rfl rfl rfl (by simp) dX3_rowBetween_17 ?_
  refine Zr_iload_n C dX3_rowBetween_20 rfl ?_
  refine Zr_aload_n C dX3_rowBetween_21 rfl ?_
  refine Zr_getE C gf_X3_18 cm0 rfl rfl rfl hR.1.1 dX3_rowBetween_22 ?_
  refine Zr_imul C dX3_rowBetween_25 ?_
  refine Zr_topi (y := nI (i * n)) (by rw [hB.1, pk_mul]) ?_
  refine Zr_iload_n C dX3_rowBetween_26 rfl ?_
  refine Zr_iadd C dX3_rowBetween_27 ?_
  refine Zr_topi (y := nI (i * n + j)) (nI_add _ _) ?_
  refine Zr_aaldS C 3 cm2 rfl rfl rfl hlt (by omega) (if_neg (by rw [(cDiv hj).1, (cDiv hj).2]; exact hij)) dX3_rowBetween_28 ?_
  refine Zr_goto C 33 dX3_rowBetween_29 (by decide) ?_
  exact Zr_aret C (Or.inl ⟨_, rfl⟩) (Or.inr ⟨_, rfl⟩) dX3_rowBetween_33 (Nat.zero_le _) (Nat.zero_le _) ⟨rfl, rfl, rfl, rfl⟩
set_option maxHeartbeats 1000000 in
set_option maxRecDepth 100000 in
theorem k_X3_rowBetween_d {l : Launch} {D : va_G} {K : zKs} {n : Nat} {ad : zAd} {ca : Nat → Nat} {S : zSt} {σ : aS} (hB : aB n σ) (hR : cRel n σ S) {i : Nat} (hi : i < n) : zMet l yX3_rowBetween cX3_rowBetween 3 (some (.object "QuietWatch$Row")) { frames := 1, cells := 0, slots := 0, locals := 21 } D K (cIL n) (cSh K n (cpo n σ.2.2)) (zA ad ca) S [.ref (zA ad ca (0, 0)), .int (nI i), .int (nI i)] (zEq (some (.null)) (cSh K n (cpo n σ.2.2)) (zA ad ca) (S)) := by
  refine zEnter (own := RX3) (lv0 := [some (.ref (zA ad ca (0, 0))), some (.int (nI i)), some (.int (nI i))]) (by decide) rfl (by simp [Value.category]) (Nat.le_of_ble_eq_true rfl) rfl ?_
  intro p e s m below meth c A C _ hnm
  have hn := hB.2.2.1
  have hlt := cLt hi hi
  have hnn := nn_le hn
  refine Zr_aload_n C dX3_rowBetween_0 rfl ?_
  refine Zr_iload_n C dX3_rowBetween_1 rfl ?_
  refine Zr_callV C cw_X3_230 (k_X3_isProcess_t hB hR hi) cm0 rfl rfl rfl (Nat.le_of_ble_eq_true rfl) (Nat.le_of_ble_eq_true rfl) rfl (Nat.le_of_ble_eq_true rfl) dX3_rowBetween_2 ⟨Nat.zero_le _, Nat.zero_le _⟩ ?_
  refine Zr_if_eq C 32 dX3_rowBetween_5 (by decide) (fun h5 => absurd h5 (by decide)) (fun h5 => ?_)
  refine Zr_aload_n C dX3_rowBetween_8 rfl ?_
  refine Zr_iload_n C dX3_rowBetween_9 rfl ?_
  refine Zr_callV C cw_X3_230 (k_X3_isProcess_t hB hR hi) cm0 rfl rfl rfl (Nat.le_of_ble_eq_true rfl) (Nat.le_of_ble_eq_true rfl) rfl (Nat.le_of_ble_eq_true rfl) dX3_rowBetween_10 ⟨Nat.zero_le _, Nat.zero_le _⟩ ?_
  refine Zr_if_eq C 32 dX3_rowBetween_13 (by decide) (fun h13 => absurd h13 (by decide)) (fun h13 => ?_)
  refine Zr_aload_n C dX3_rowBetween_16 rfl ?_
  refine Zr_getR C gf_X3_34 cm0 rfl rfl rfl (by simp) dX3_rowBetween_17 ?_
  refine Zr_iload_n C dX3_rowBetween_20 rfl ?_
  refine Zr_aload_n C dX3_rowBetween_21 rfl ?_
  refine Zr_getE C gf_X3_18 cm0 rfl rfl rfl hR.1.1 dX3_rowBetween_22 ?_
  refine Zr_imul C dX3_rowBetween_25 ?_
  refine Zr_topi (y := nI (i * n)) (by rw [hB.1, pk_mul]) ?_
  refine Zr_iload_n C dX3_rowBetween_26 rfl ?_
  refine Zr_iadd C dX3_rowBetween_27 ?_
  refine Zr_topi (y := nI (i * n + i)) (nI_add _ _) ?_
  refine Zr_aaldZ C 3 cm2 rfl rfl rfl hlt (by omega) (if_pos (by rw [(cDiv hi).1, (cDiv hi).2])) dX3_rowBetween_28 ?_
  refine Zr_goto C 33 dX3_rowBetween_29 (by decide) ?_
  exact Zr_aret C (Or.inl ⟨_, rfl⟩) (Or.inl rfl) dX3_rowBetween_33 (Nat.zero_le _) (Nat.zero_le _) ⟨rfl, rfl, rfl, rfl⟩
set_option maxHeartbeats 1000000 in
set_option maxRecDepth 100000 in
theorem k_X3_rowBetween_f {l : Launch} {D : va_G} {K : zKs} {n : Nat} {ad : zAd} {ca : Nat → Nat} {S : zSt} {σ : aS} (hB : aB n σ) (hR : cRel n σ S) {x y : Int32} (hx : aBad n x ∨ aBad n y) : zMet l yX3_rowBetween cX3_rowBetween 3 (some (.object "QuietWatch$Row")) { frames := 1, cells := 0, slots := 0, locals := 21 } D K (cIL n) (cSh K n (cpo n σ.2.2)) (zA ad ca) S [.ref (zA ad ca (0, 0)), .int x, .int y] (zEq (some (.null)) (cSh K n (cpo n σ.2.2)) (zA ad ca) (S)) := by
  refine zEnter (own := RX3) (lv0 := [some (.ref (zA ad ca (0, 0))), some (.int x), some (.int y)]) (by decide) rfl (by simp [Value.category]) (Nat.le_of_ble_eq_true rfl) rfl ?_
  intro p e s m below meth c A C _ hnm
  have hn := hB.2.2.1
  rcases aIx n hn x with h | ⟨i, hi, rfl⟩
  · refine Zr_aload_n C dX3_rowBetween_0 rfl ?_
    refine Zr_iload_n C dX3_rowBetween_1 rfl ?_
    refine Zr_callV C cw_X3_230 (k_X3_isProcess_f hB hR h) cm0 rfl rfl rfl (Nat.le_of_ble_eq_true rfl) (Nat.le_of_ble_eq_true rfl) rfl (Nat.le_of_ble_eq_true rfl) dX3_rowBetween_2 ⟨Nat.zero_le _, Nat.zero_le _⟩ ?_
    refine Zr_if_eq C 32 dX3_rowBetween_5 (by decide) (fun h5 => ?_) (fun h5 => absurd rfl h5)
    refine Zr_null C dX3_rowBetween_32 ?_
    exact Zr_aret C (Or.inl ⟨_, rfl⟩) (Or.inl rfl) dX3_rowBetween_33 (Nat.zero_le _) (Nat.zero_le _) ⟨rfl, rfl, rfl, rfl⟩
  · refine Zr_aload_n C dX3_rowBetween_0 rfl ?_
    refine Zr_iload_n C dX3_rowBetween_1 rfl ?_
    refine Zr_callV C cw_X3_230 (k_X3_isProcess_t hB hR hi) cm0 rfl rfl rfl (Nat.le_of_ble_eq_true rfl) (Nat.le_of_ble_eq_true rfl) rfl (Nat.le_of_ble_eq_true rfl) dX3_rowBetween_2 ⟨Nat.zero_le _, Nat.zero_le _⟩ ?_
    refine Zr_if_eq C 32 dX3_rowBetween_5 (by decide) (fun h5 => absurd h5 (by decide)) (fun h5 => ?_)
    refine Zr_aload_n C dX3_rowBetween_8 rfl ?_
    refine Zr_iload_n C dX3_rowBetween_9 rfl ?_
    refine Zr_callV C cw_X3_230 (k_X3_isProcess_f hB hR (hx.resolve_left (aBad.of hi hn))) cm0 rfl rfl rfl (Nat.le_of_ble_eq_true rfl) (Nat.le_of_ble_eq_true rfl) rfl (Nat.le_of_ble_eq_true rfl) dX3_rowBetween_10 ⟨Nat.zero_le _, Nat.zero_le _⟩ ?_
    refine Zr_if_eq C 32 dX3_rowBetween_13 (by decide) (fun h13 => ?_) (fun h13 => absurd rfl h13)
    refine Zr_null C dX3_rowBetween_32 ?_
    exact Zr_aret C (Or.inl ⟨_, rfl⟩) (Or.inl rfl) dX3_rowBetween_33 (Nat.zero_le _) (Nat.zero_le _) ⟨rfl, rfl, rfl, rfl⟩
theorem k_app {l : Launch} {D : va_G} {K : zKs} {n : Nat} {ad : zAd} {ca : Nat → Nat} {S : zSt} {σ : aS} {i j : Nat} (hn : n ≤ 10) (hR : cRel n σ S) (hi : i < n) (hj : j < n) (hij : i ≠ j) {mm : aM} {F : Nat} (hw : aWM n mm) (hF : aLam (aPush σ (10 * i + j) mm) ≤ F) (hlen : (σ.2.1 (10 * i + j)).length < 640) : zMet l yX0_append cX0_append 2 none { frames := 2, cells := (F - aLam σ), slots := (2 * (F - aLam σ)), locals := 44 } D K (cIL n) (cSh K n (cpo n σ.2.2)) (zA ad ca) S [.ref (zA ad ca (6, i * n + j)), .int (cPack mm)] (cP K n ad none (aPush σ (10 * i + j) mm)) := by
  have h := cix_of (i := i) hj
  have := k_X0_append (l := l) (D := D) (K := K) (ad := ad) (ca := ca) (F := F) (mm := mm) hn hR (cRow_of hi hj hij) hw (by rw [h]; exact hF) (by rw [h]; exact hlen)
  rw [h] at this
  exact this
set_option maxHeartbeats 1000000 in
set_option maxRecDepth 100000 in
theorem k_X3_put {l : Launch} {D : va_G} {K : zKs} {n : Nat} {ad : zAd} {ca : Nat → Nat} {S : zSt} {σ : aS} (hB : aB n σ) (hR : cRel n σ S) {i j : Nat} (hi : i < n) (hj : j < n) (hij : i ≠ j) {mm : aM} {F : Nat} (hw : aWM n mm) (hF : aLam (aPush σ (10 * i + j) mm) ≤ F) (hlen : (σ.2.1 (10 * i + j)).length < 640) : zMet l yX3_put cX3_put 5 none { frames := 3, cells := (F - aLam σ), slots := (2 * (F - aLam σ)), locals := 65 } D K (cIL n) (cSh K n (cpo n σ.2.2)) (zA ad ca) S [.ref (zA ad ca (0, 0)), .int (nI i), .int (nI j), .int (cPack mm)] (cP K n ad none (aPush σ (10 * i + j) mm)) := by
  refine zEnter (own := RX3) (lv0 := [some (.ref (zA ad ca (0, 0))), some (.int (nI i)), some (.int (nI j)), some (.int (cPack mm)), none]) (by decide) rfl (by simp [Value.category]) (Nat.le_of_ble_eq_true rfl) rfl ?_
  intro p e s m below meth c A C _ hnm
  have hn := hB.2.2.1
  have hr := cRow_of hi hj hij
  refine Zr_aload_n C dX3_put_0 rfl ?_
  refine Zr_iload_n C dX3_put_1 rfl ?_
  refine Zr_iload_n C dX3_put_2 rfl ?_
  refine Zr_callV C cw_X3_58 (k_X3_rowBetween_t hB hR hi hj hij) cm0 rfl rfl rfl (Nat.le_of_ble_eq_true rfl) (Nat.le_of_ble_eq_true rfl) rfl (Nat.le_of_ble_eq_true rfl) dX3_put_3 ⟨Nat.zero_le _, Nat.zero_le _⟩ ?_
  refine Zr_astore C dX3_put_6 (by decide) ?_
  refine Zr_aload C dX3_put_8 rfl ?_
  refine Zr_ifnull C dX3_put_10 ?_
  refine Zr_aload C dX3_put_13 rfl ?_
  refine Zr_iload_n C dX3_put_15 rfl ?_
  refine Zr_callVCv C cw_X3_74 (k_app hn hR hi hj hij hw hF hlen) (cm6 hr) rfl rfl rfl (Nat.le_of_ble_eq_true rfl) (Nat.le_of_ble_eq_true rfl) rfl (Nat.le_of_ble_eq_true rfl) dX3_put_16 ⟨by show 0 + (F - aLam σ) ≤ F - aLam σ; omega, by show 0 + 2 * (F - aLam σ) ≤ 2 * (F - aLam σ); omega⟩ (fun ca S hR => ?_)
  exact Zr_vret C dX3_put_19 (by show 0 + (F - aLam σ) ≤ F - aLam σ; omega) (by show 0 + 2 * (F - aLam σ) ≤ 2 * (F - aLam σ); omega) ⟨rfl, rfl, ⟨_, rfl⟩, hR⟩
theorem aLam_all_s {σ : aS} {p k : Nat} {f : Nat → Bool} {m : aM} (hp : p < 10) (hk : k < 10) : aLam (aAll σ p f k m) ≤ aLam (aAll σ p f (k + 1) m) := by
  cases hf : f k with
  | false => rw [aAll_no hf]; exact Nat.le_refl _
  | true => rw [aAll_yes hk hf]; exact aLam_push_le (by omega)
theorem aLam_all {σ : aS} {p k n : Nat} {f : Nat → Bool} {m : aM} (hp : p < 10) (hn : n ≤ 10) (hk : k ≤ n) : aLam (aAll σ p f k m) ≤ aLam (aAll σ p f n m) := by
  induction n with
  | zero => have : k = 0 := by omega
            subst this; exact Nat.le_refl _
  | succ n ih =>
    by_cases h : k = n + 1
    · subst h; exact Nat.le_refl _
    · exact Nat.le_trans (ih (by omega) (by omega)) (aLam_all_s hp (by omega))
theorem aLam_all0 {σ : aS} {p n : Nat} {f : Nat → Bool} {m : aM} (hp : p < 10) (hn : n ≤ 10) : aLam σ ≤ aLam (aAll σ p f n m) := by
  have := aLam_all (σ := σ) (f := f) (m := m) (k := 0) hp hn (Nat.zero_le _)
  rwa [aAll_0] at this
set_option maxHeartbeats 1000000 in
set_option maxRecDepth 100000 in
theorem k_X3_putToEach {l : Launch} {D : va_G} {K : zKs} {n : Nat} {ad : zAd} {ca : Nat → Nat} {S : zSt} {σ : aS} (hB : aB n σ) (hR : cRel n σ S) {i x : Nat} {f : Nat → Bool} {mm : aM} {F : Nat} (hi : i < n) (hx : x < 1024) (hfi : f i = false) (hf : ∀ q, q < n → q ≠ i → x.testBit q = f q) (hw : aWM n mm) (hF : aLam (aAll σ i f n mm) ≤ F) (hlen : ∀ r, r < 100 → (σ.2.1 r).length < 640) : zMet l yX3_putToEach cX3_putToEach 6 none { frames := 3, cells := (F - aLam σ), slots := (2 * (F - aLam σ)), locals := 65 } D K (cIL n) (cSh K n (cpo n σ.2.2)) (zA ad ca) S [.ref (zA ad ca (0, 0)), .int (nI i), .int (nI x), .int (cPack mm)] (cP K n ad none (aAll σ i f n mm)) := by
  refine zEnter (own := RX3) (lv0 := [some (.ref (zA ad ca (0, 0))), some (.int (nI i)), some (.int (nI x)), some (.int (cPack mm)), none, none]) (by decide) rfl (by simp [Value.category]) (Nat.le_of_ble_eq_true rfl) rfl ?_
  intro p e s m below meth c A C _ hnm
  have hn := hB.2.2.1
  have hi10 : i < 10 := by omega
  have key : ∀ (d k : Nat) (cb : Nat → Nat) (S : zSt), k + d = n → cRel n (aAll σ i f k mm) S → Z p l e ({ frames := 3, cells := (F - aLam σ), slots := (2 * (F - aLam σ)), locals := 65 } : Room) s m ([.ref (zA ad ca (0, 0)), .int (nI i), .int (nI x), .int (cPack mm)] : List Value).toArray below meth c D A 6 (MQ below (zQ (cP K n ad none (aAll σ i f n mm)) (cIL n) D A) ([.ref (zA ad ca (0, 0)), .int (nI i), .int (nI x), .int (cPack mm)] : List Value).toArray s (F - aLam σ) (2 * (F - aLam σ)) A) (cIL n) (aLam (aAll σ i f k mm) - aLam σ) (2 * (aLam (aAll σ i f k mm) - aLam σ)) (cSh K n (cpo n (aAll σ i f k mm).2.2)) (zA ad cb) S (3) ([some (.ref (zA ad ca (0, 0))), some (.int (nI i)), some (.int (nI x)), some (.int (cPack mm)), some (.int (nI k)), none]) ([]) := by
    intro d
    induction d with
    | zero =>
      intro k cb S hk hR
      have hk : k = n := by omega
      subst hk
      refine Zr_iload C dX3_putToEach_3 rfl ?_
      refine Zr_aload_n C dX3_putToEach_5 rfl ?_
      refine Zr_getE C gf_X3_18 cm0 rfl rfl rfl hR.1.1 dX3_putToEach_6 ?_
      refine Zr_icmp_ge C 47 dX3_putToEach_9 (by decide) (fun h9 => ?_) (fun h9 => absurd (by rw [show (aAll σ i f k mm).1 0 0 0 = nI k from hB.1]; exact nI_le (Nat.le_refl _) (by omega)) h9)
      exact Zr_vret C dX3_putToEach_47 (by show aLam (aAll σ i f k mm) - aLam σ ≤ F - aLam σ; omega) (by show 2 * (aLam (aAll σ i f k mm) - aLam σ) ≤ 2 * (F - aLam σ); omega) ⟨rfl, rfl, ⟨_, rfl⟩, hR⟩
    | succ d ih =>
      intro k cb S hk hR
      have hkl : k < n := by omega
      have hBk : aB n (aAll σ i f k mm) := hB
      have m1 : aLam (aAll σ i f k mm) ≤ aLam (aAll σ i f (k + 1) mm) := aLam_all_s hi10 (by omega)
      have m0 : aLam σ ≤ aLam (aAll σ i f k mm) := aLam_all0 hi10 (by omega)
      have m2 : aLam (aAll σ i f (k + 1) mm) ≤ aLam (aAll σ i f n mm) := aLam_all hi10 hn (by omega)
      by_cases hki : k = i
      · subst hki
        have e1 : aAll σ k f (k + 1) mm = aAll σ k f k mm := aAll_no hfi
        refine Zr_iload C dX3_putToEach_3 rfl ?_
        refine Zr_aload_n C dX3_putToEach_5 rfl ?_
        refine Zr_getE C gf_X3_18 cm0 rfl rfl rfl hR.1.1 dX3_putToEach_6 ?_
        refine Zr_icmp_ge C 47 dX3_putToEach_9 (by decide) (fun h9 => absurd h9 (by rw [show (aAll σ k f k mm).1 0 0 0 = nI n from hB.1]; exact nI_ge hkl (by omega))) (fun h9 => ?_)
        refine Zr_aload_n C dX3_putToEach_12 rfl ?_
        refine Zr_iload_n C dX3_putToEach_13 rfl ?_
        refine Zr_iload C dX3_putToEach_14 rfl ?_
        refine Zr_callV C cw_X3_58 (k_X3_rowBetween_d hBk hR hi) cm0 rfl rfl rfl (Nat.le_of_ble_eq_true rfl) (Nat.le_of_ble_eq_true rfl) rfl (Nat.le_of_ble_eq_true rfl) dX3_putToEach_16 ⟨by show aLam (aAll σ k f k mm) - aLam σ ≤ F - aLam σ; omega, by show 2 * (aLam (aAll σ k f k mm) - aLam σ) ≤ 2 * (F - aLam σ); omega⟩ ?_
        refine Zr_astoreN C dX3_putToEach_19 (by decide) ?_
        refine Zr_aloadN C dX3_putToEach_21 rfl ?_
        refine Zr_ifnullN C 41 dX3_putToEach_23 (by decide) ?_
        refine Zr_iincE C (1) (nI (k + 1)) dX3_putToEach_41 (by decide) rfl rfl (nI_1 _) ?_
        refine Zr_goto C 3 dX3_putToEach_44 (by decide) ?_
        exact Zr_forget 5 (e1 ▸ ih (k + 1) cb S (by omega) (by rw [e1]; exact hR))
      · have hr := cRow_of hi hkl (fun h => hki h.symm)
        have hb := hf k hkl hki
        by_cases hbk : x.testBit k = true
        · have e1 : aAll σ i f (k + 1) mm = aPush (aAll σ i f k mm) (10 * i + k) mm := aAll_yes (by omega) (by rw [← hb]; exact hbk)
          have hFk : aLam (aPush (aAll σ i f k mm) (10 * i + k) mm) ≤ aLam (aAll σ i f (k + 1) mm) := by rw [e1]; exact Nat.le_refl _
          refine Zr_iload C dX3_putToEach_3 rfl ?_
          refine Zr_aload_n C dX3_putToEach_5 rfl ?_
          refine Zr_getE C gf_X3_18 cm0 rfl rfl rfl hR.1.1 dX3_putToEach_6 ?_
          refine Zr_icmp_ge C 47 dX3_putToEach_9 (by decide) (fun h9 => absurd h9 (by rw [show (aAll σ i f k mm).1 0 0 0 = nI n from hB.1]; exact nI_ge hkl (by omega))) (fun h9 => ?_)
          refine Zr_aload_n C dX3_putToEach_12 rfl ?_
          refine Zr_iload_n C dX3_putToEach_13 rfl ?_
          refine Zr_iload C dX3_putToEach_14 rfl ?_
          refine Zr_callV C cw_X3_58 (k_X3_rowBetween_t hBk hR hi hkl (fun h => hki h.symm)) cm0 rfl rfl rfl (Nat.le_of_ble_eq_true rfl) (Nat.le_of_ble_eq_true rfl) rfl (Nat.le_of_ble_eq_true rfl) dX3_putToEach_16 ⟨by show aLam (aAll σ i f k mm) - aLam σ ≤ F - aLam σ; omega, by show 2 * (aLam (aAll σ i f k mm) - aLam σ) ≤ 2 * (F - aLam σ); omega⟩ ?_
          refine Zr_astore C dX3_putToEach_19 (by decide) ?_
          refine Zr_aload C dX3_putToEach_21 rfl ?_
          refine Zr_ifnull C dX3_putToEach_23 ?_
          refine Zr_iload_n C dX3_putToEach_26 rfl ?_
          refine Zr_iload C dX3_putToEach_27 rfl ?_
          refine Zr_callS C cw_X3_110 (k_X3_holds hx (by omega)) rfl (Nat.le_of_ble_eq_true rfl) (Nat.le_of_ble_eq_true rfl) rfl (Nat.le_of_ble_eq_true rfl) dX3_putToEach_29 ⟨by show aLam (aAll σ i f k mm) - aLam σ ≤ F - aLam σ; omega, by show 2 * (aLam (aAll σ i f k mm) - aLam σ) ≤ 2 * (F - aLam σ); omega⟩ ?_
          refine Zr_topi (y := 1) (if_pos hbk) ?_
          refine Zr_if_eq C 41 dX3_putToEach_32 (by decide) (fun h32 => absurd h32 (by decide)) (fun h32 => ?_)
          refine Zr_aload C dX3_putToEach_35 rfl ?_
          refine Zr_iload_n C dX3_putToEach_37 rfl ?_
          refine Zr_callVCv C cw_X3_74 (k_app hn hR hi hkl (fun h => hki h.symm) hw hFk (by rw [aAll_at (by omega)]; exact hlen _ (by omega))) (cm6 hr) rfl rfl rfl (Nat.le_of_ble_eq_true rfl) (Nat.le_of_ble_eq_true rfl) rfl (Nat.le_of_ble_eq_true rfl) dX3_putToEach_38 ⟨by show aLam (aAll σ i f k mm) - aLam σ + (aLam (aAll σ i f (k + 1) mm) - aLam (aAll σ i f k mm)) ≤ F - aLam σ; omega, by show 2 * (aLam (aAll σ i f k mm) - aLam σ) + 2 * (aLam (aAll σ i f (k + 1) mm) - aLam (aAll σ i f k mm)) ≤ 2 * (F - aLam σ); omega⟩ (fun ca S hR => ?_)
          refine Zr_iincE C (1) (nI (k + 1)) dX3_putToEach_41 (by decide) rfl rfl (nI_1 _) ?_
          refine Zr_goto C 3 dX3_putToEach_44 (by decide) ?_
          exact Zr_forget 5 (Zr_cs (cells' := aLam (aPush (aAll σ i f k mm) (10 * i + k) mm) - aLam σ) (slots' := 2 * (aLam (aPush (aAll σ i f k mm) (10 * i + k) mm) - aLam σ)) (by rw [← e1]; omega) (by rw [← e1]; omega) (by have := ih (k + 1) ca S (by omega) (by rw [e1]; exact hR); rw [e1] at this; exact this))
        · have e1 : aAll σ i f (k + 1) mm = aAll σ i f k mm := aAll_no (by rw [← hb]; exact (Bool.not_eq_true _).mp hbk)
          refine Zr_iload C dX3_putToEach_3 rfl ?_
          refine Zr_aload_n C dX3_putToEach_5 rfl ?_
          refine Zr_getE C gf_X3_18 cm0 rfl rfl rfl hR.1.1 dX3_putToEach_6 ?_
          refine Zr_icmp_ge C 47 dX3_putToEach_9 (by decide) (fun h9 => absurd h9 (by rw [show (aAll σ i f k mm).1 0 0 0 = nI n from hB.1]; exact nI_ge hkl (by omega))) (fun h9 => ?_)
          refine Zr_aload_n C dX3_putToEach_12 rfl ?_
          refine Zr_iload_n C dX3_putToEach_13 rfl ?_
          refine Zr_iload C dX3_putToEach_14 rfl ?_
          refine Zr_callV C cw_X3_58 (k_X3_rowBetween_t hBk hR hi hkl (fun h => hki h.symm)) cm0 rfl rfl rfl (Nat.le_of_ble_eq_true rfl) (Nat.le_of_ble_eq_true rfl) rfl (Nat.le_of_ble_eq_true rfl) dX3_putToEach_16 ⟨by show aLam (aAll σ i f k mm) - aLam σ ≤ F - aLam σ; omega, by show 2 * (aLam (aAll σ i f k mm) - aLam σ) ≤ 2 * (F - aLam σ); omega⟩ ?_
          refine Zr_astore C dX3_putToEach_19 (by decide) ?_
          refine Zr_aload C dX3_putToEach_21 rfl ?_
          refine Zr_ifnull C dX3_putToEach_23 ?_
          refine Zr_iload_n C dX3_putToEach_26 rfl ?_
          refine Zr_iload C dX3_putToEach_27 rfl ?_
          refine Zr_callS C cw_X3_110 (k_X3_holds hx (by omega)) rfl (Nat.le_of_ble_eq_true rfl) (Nat.le_of_ble_eq_true rfl) rfl (Nat.le_of_ble_eq_true rfl) dX3_putToEach_29 ⟨by show aLam (aAll σ i f k mm) - aLam σ ≤ F - aLam σ; omega, by show 2 * (aLam (aAll σ i f k mm) - aLam σ) ≤ 2 * (F - aLam σ); omega⟩ ?_
          refine Zr_topi (y := 0) (if_neg hbk) ?_
          refine Zr_if_eq C 41 dX3_putToEach_32 (by decide) (fun h32 => ?_) (fun h32 => absurd rfl h32)
          refine Zr_iincE C (1) (nI (k + 1)) dX3_putToEach_41 (by decide) rfl rfl (nI_1 _) ?_
          refine Zr_goto C 3 dX3_putToEach_44 (by decide) ?_
          exact Zr_forget 5 (e1 ▸ ih (k + 1) cb S (by omega) (by rw [e1]; exact hR))
  refine Zr_iconst C (0) dX3_putToEach_0 rfl ?_
  refine Zr_istore C dX3_putToEach_1 (by decide) ?_
  exact Zr_cs (cells' := aLam (aAll σ i f 0 mm) - aLam σ) (slots' := 2 * (aLam (aAll σ i f 0 mm) - aLam σ)) (by rw [aAll_0]; omega) (by rw [aAll_0]; omega) (by have := key n 0 ca S (by omega) (by rw [aAll_0]; exact hR); rw [aAll_0] at this ⊢; exact this)
end
section
theorem aSum_zero {f : Nat → Nat} : ∀ {n : Nat}, aSum f n = 0 ↔ ∀ k, k < n → f k = 0
  | 0 => by simp [aSum]
  | n + 1 => by
    have ih := aSum_zero (f := f) (n := n)
    simp only [aSum]
    constructor
    · intro h k hk
      by_cases hkn : k = n
      · subst hkn; omega
      · exact ih.mp (by omega) k (by omega)
    · intro h
      rw [ih.mpr (fun k hk => h k (by omega)), h n (by omega)]
theorem aSum_le {f : Nat → Nat} {b : Nat} : ∀ {n : Nat}, (∀ k, k < n → f k ≤ b) → aSum f n ≤ n * b
  | 0, _ => by simp [aSum]
  | n + 1, h => by
    have ih := aSum_le (f := f) (b := b) (n := n) (fun k hk => h k (by omega))
    have := h n (by omega)
    simp only [aSum]
    rw [Nat.succ_mul]
    omega
/-- a sum over the rows of the class -/
def cSm (n : Nat) (f : Nat → Nat) (k : Nat) : Nat := aSum (fun r => if r / n = r % n then 0 else f (cix n r)) k
set_option maxHeartbeats 1000000 in
set_option maxRecDepth 100000 in
theorem k_X3_worksUnderWay {l : Launch} {D : va_G} {K : zKs} {n : Nat} {ad : zAd} {ca : Nat → Nat} {S : zSt} {σ : aS} (hB : aB n σ) (hR : cRel n σ S) : zMet l yX3_worksUnderWay cX3_worksUnderWay 6 (some .int) { frames := 0, cells := 0, slots := 0, locals := 0 } D K (cIL n) (cSh K n (cpo n σ.2.2)) (zA ad ca) S [.ref (zA ad ca (0, 0))] (zEq (some (.int (nI (cSm n (fun x => aOf 1 (σ.2.1 x)) (n * n))))) (cSh K n (cpo n σ.2.2)) (zA ad ca) (S)) := by
  refine zEnter (own := RX3) (lv0 := [some (.ref (zA ad ca (0, 0))), none, none, none, none, none]) (by decide) rfl (by simp [Value.category]) (Nat.le_of_ble_eq_true rfl) rfl ?_
  intro p e s m below meth c A C _ hnm
  have hn := hB.2.2.1
  have hnn := nn_le hn
  have key : ∀ (d k : Nat), k + d = n * n → Z p l e ({ frames := 0, cells := 0, slots := 0, locals := 0 } : Room) s m ([.ref (zA ad ca (0, 0))] : List Value).toArray below meth c D A 6 (MQ below (zQ (zEq (some (.int (nI (cSm n (fun x => aOf 1 (σ.2.1 x)) (n * n))))) (cSh K n (cpo n σ.2.2)) (zA ad ca) (S)) (cIL n) D A) ([.ref (zA ad ca (0, 0))] : List Value).toArray s 0 0 A) (cIL n) 0 0 (cSh K n (cpo n σ.2.2)) (zA ad ca) S (13) ([some (.ref (zA ad ca (0, 0))), some (.int (nI (cSm n (fun x => aOf 1 (σ.2.1 x)) k))), some (.ref (zA ad ca (2, 0))), some (.int (nI (n * n))), some (.int (nI k)), none]) ([]) := by
    intro d
    induction d with
    | zero =>
      intro k hk
      have hk : k = n * n := by omega
      subst hk
      refine Zr_iload C dX3_worksUnderWay_13 rfl ?_
      refine Zr_iload_n C dX3_worksUnderWay_15 rfl ?_
      refine Zr_icmp_ge C 48 dX3_worksUnderWay_16 (by decide) (fun h16 => ?_) (fun h16 => absurd (nI_le (Nat.le_refl _) (by omega)) h16)
      refine Zr_iload_n C dX3_worksUnderWay_48 rfl ?_
      exact Zr_iret C dX3_worksUnderWay_49 (Nat.zero_le _) (Nat.zero_le _) ⟨rfl, rfl, rfl, rfl⟩
    | succ d ih =>
      intro k hk
      have hkl : k < n * n := by omega
      by_cases hd : k / n = k % n
      · have e1 : cSm n (fun x => aOf 1 (σ.2.1 x)) (k + 1) = cSm n (fun x => aOf 1 (σ.2.1 x)) k := by simp only [cSm, aSum, if_pos hd]; omega
        refine Zr_iload C dX3_worksUnderWay_13 rfl ?_
        refine Zr_iload_n C dX3_worksUnderWay_15 rfl ?_
        refine Zr_icmp_ge C 48 dX3_worksUnderWay_16 (by decide) (fun h16 => absurd h16 (nI_ge hkl (by omega))) (fun h16 => ?_)
        refine Zr_aload_n C dX3_worksUnderWay_19 rfl ?_
        refine Zr_iload C dX3_worksUnderWay_20 rfl ?_
        refine Zr_aaldZ C 3 cm2 rfl rfl rfl hkl (by omega) (if_pos hd) dX3_worksUnderWay_22 ?_
        refine Zr_astoreN C dX3_worksUnderWay_23 (by decide) ?_
        refine Zr_iload_n C dX3_worksUnderWay_25 rfl ?_
        refine Zr_aloadN C dX3_worksUnderWay_26 rfl ?_
        refine Zr_ifnonnullN C dX3_worksUnderWay_28 ?_
        refine Zr_iconst C (0) dX3_worksUnderWay_31 rfl ?_
        refine Zr_goto C 40 dX3_worksUnderWay_32 (by decide) ?_
        refine Zr_iadd C dX3_worksUnderWay_40 ?_
        refine Zr_topi (y := nI (cSm n (fun x => aOf 1 (σ.2.1 x)) (k + 1))) (by rw [e1]; exact Int32.add_zero _) ?_
        refine Zr_istore_n C dX3_worksUnderWay_41 (by decide) ?_
        refine Zr_iincE C (1) (nI (k + 1)) dX3_worksUnderWay_42 (by decide) rfl rfl (nI_1 _) ?_
        refine Zr_goto C 13 dX3_worksUnderWay_45 (by decide) ?_
        exact Zr_forget 5 (ih (k + 1) (by omega))
      · have hr : cRow n k := ⟨hkl, hd⟩
        obtain ⟨b, hring⟩ := hR.r hr
        have hv : S 6 k 3 = nI (aOf 1 (σ.2.1 (cix n k))) := hring.2.2.2.2.2.2.1
        have e1 : cSm n (fun x => aOf 1 (σ.2.1 x)) (k + 1) = cSm n (fun x => aOf 1 (σ.2.1 x)) k + aOf 1 (σ.2.1 (cix n k)) := by simp only [cSm, aSum, if_neg hd]
        refine Zr_iload C dX3_worksUnderWay_13 rfl ?_
        refine Zr_iload_n C dX3_worksUnderWay_15 rfl ?_
        refine Zr_icmp_ge C 48 dX3_worksUnderWay_16 (by decide) (fun h16 => absurd h16 (nI_ge hkl (by omega))) (fun h16 => ?_)
        refine Zr_aload_n C dX3_worksUnderWay_19 rfl ?_
        refine Zr_iload C dX3_worksUnderWay_20 rfl ?_
        refine Zr_aaldS C 3 cm2 rfl rfl rfl hkl (by omega) (if_neg hd) dX3_worksUnderWay_22 ?_
        refine Zr_astore C dX3_worksUnderWay_23 (by decide) ?_
        refine Zr_iload_n C dX3_worksUnderWay_25 rfl ?_
        refine Zr_aload C dX3_worksUnderWay_26 rfl ?_
        refine Zr_ifnonnull C 35 dX3_worksUnderWay_28 (by decide) ?_
        refine Zr_aload C dX3_worksUnderWay_35 rfl ?_
        refine Zr_getE C gf_X3_66 (cm6 hr) rfl rfl rfl hv dX3_worksUnderWay_37 ?_
        refine Zr_iadd C dX3_worksUnderWay_40 ?_
        refine Zr_topi (y := nI (cSm n (fun x => aOf 1 (σ.2.1 x)) (k + 1))) (by rw [e1]; exact nI_add _ _) ?_
        refine Zr_istore_n C dX3_worksUnderWay_41 (by decide) ?_
        refine Zr_iincE C (1) (nI (k + 1)) dX3_worksUnderWay_42 (by decide) rfl rfl (nI_1 _) ?_
        refine Zr_goto C 13 dX3_worksUnderWay_45 (by decide) ?_
        exact Zr_forget 5 (ih (k + 1) (by omega))
  refine Zr_iconst C (0) dX3_worksUnderWay_0 rfl ?_
  refine Zr_istore_n C dX3_worksUnderWay_1 (by decide) ?_
  refine Zr_aload_n C dX3_worksUnderWay_2 rfl ?_
  refine Zr_getR C gf_X3_34 cm0 rfl rfl rfl (by simp) dX3_worksUnderWay_3 ?_
  refine Zr_astore_n C dX3_worksUnderWay_6 (by decide) ?_
  refine Zr_aload_n C dX3_worksUnderWay_7 rfl ?_
  refine Zr_alen C 3 cm2 rfl rfl rfl dX3_worksUnderWay_8 ?_
  refine Zr_istore_n C dX3_worksUnderWay_9 (by decide) ?_
  refine Zr_iconst C (0) dX3_worksUnderWay_10 rfl ?_
  refine Zr_istore C dX3_worksUnderWay_11 (by decide) ?_
  exact key (n * n) 0 (by omega)
set_option maxHeartbeats 1000000 in
set_option maxRecDepth 100000 in
theorem k_X3_messagesUnderWay {l : Launch} {D : va_G} {K : zKs} {n : Nat} {ad : zAd} {ca : Nat → Nat} {S : zSt} {σ : aS} (hB : aB n σ) (hR : cRel n σ S) : zMet l yX3_messagesUnderWay cX3_messagesUnderWay 6 (some .int) { frames := 0, cells := 0, slots := 0, locals := 0 } D K (cIL n) (cSh K n (cpo n σ.2.2)) (zA ad ca) S [.ref (zA ad ca (0, 0))] (zEq (some (.int (nI (cSm n (fun x => (σ.2.1 x).length) (n * n))))) (cSh K n (cpo n σ.2.2)) (zA ad ca) (S)) := by
  refine zEnter (own := RX3) (lv0 := [some (.ref (zA ad ca (0, 0))), none, none, none, none, none]) (by decide) rfl (by simp [Value.category]) (Nat.le_of_ble_eq_true rfl) rfl ?_
  intro p e s m below meth c A C _ hnm
  have hn := hB.2.2.1
  have hnn := nn_le hn
  have key : ∀ (d k : Nat), k + d = n * n → Z p l e ({ frames := 0, cells := 0, slots := 0, locals := 0 } : Room) s m ([.ref (zA ad ca (0, 0))] : List Value).toArray below meth c D A 6 (MQ below (zQ (zEq (some (.int (nI (cSm n (fun x => (σ.2.1 x).length) (n * n))))) (cSh K n (cpo n σ.2.2)) (zA ad ca) (S)) (cIL n) D A) ([.ref (zA ad ca (0, 0))] : List Value).toArray s 0 0 A) (cIL n) 0 0 (cSh K n (cpo n σ.2.2)) (zA ad ca) S (13) ([some (.ref (zA ad ca (0, 0))), some (.int (nI (cSm n (fun x => (σ.2.1 x).length) k))), some (.ref (zA ad ca (2, 0))), some (.int (nI (n * n))), some (.int (nI k)), none]) ([]) := by
    intro d
    induction d with
    | zero =>
      intro k hk
      have hk : k = n * n := by omega
      subst hk
      refine Zr_iload C dX3_messagesUnderWay_13 rfl ?_
      refine Zr_iload_n C dX3_messagesUnderWay_15 rfl ?_
      refine Zr_icmp_ge C 48 dX3_messagesUnderWay_16 (by decide) (fun h16 => ?_) (fun h16 => absurd (nI_le (Nat.le_refl _) (by omega)) h16)
      refine Zr_iload_n C dX3_messagesUnderWay_48 rfl ?_
      exact Zr_iret C dX3_messagesUnderWay_49 (Nat.zero_le _) (Nat.zero_le _) ⟨rfl, rfl, rfl, rfl⟩
    | succ d ih =>
      intro k hk
      have hkl : k < n * n := by omega
      by_cases hd : k / n = k % n
      · have e1 : cSm n (fun x => (σ.2.1 x).length) (k + 1) = cSm n (fun x => (σ.2.1 x).length) k := by simp only [cSm, aSum, if_pos hd]; omega
        refine Zr_iload C dX3_messagesUnderWay_13 rfl ?_
        refine Zr_iload_n C dX3_messagesUnderWay_15 rfl ?_
        refine Zr_icmp_ge C 48 dX3_messagesUnderWay_16 (by decide) (fun h16 => absurd h16 (nI_ge hkl (by omega))) (fun h16 => ?_)
        refine Zr_aload_n C dX3_messagesUnderWay_19 rfl ?_
        refine Zr_iload C dX3_messagesUnderWay_20 rfl ?_
        refine Zr_aaldZ C 3 cm2 rfl rfl rfl hkl (by omega) (if_pos hd) dX3_messagesUnderWay_22 ?_
        refine Zr_astoreN C dX3_messagesUnderWay_23 (by decide) ?_
        refine Zr_iload_n C dX3_messagesUnderWay_25 rfl ?_
        refine Zr_aloadN C dX3_messagesUnderWay_26 rfl ?_
        refine Zr_ifnonnullN C dX3_messagesUnderWay_28 ?_
        refine Zr_iconst C (0) dX3_messagesUnderWay_31 rfl ?_
        refine Zr_goto C 40 dX3_messagesUnderWay_32 (by decide) ?_
        refine Zr_iadd C dX3_messagesUnderWay_40 ?_
        refine Zr_topi (y := nI (cSm n (fun x => (σ.2.1 x).length) (k + 1))) (by rw [e1]; exact Int32.add_zero _) ?_
        refine Zr_istore_n C dX3_messagesUnderWay_41 (by decide) ?_
        refine Zr_iincE C (1) (nI (k + 1)) dX3_messagesUnderWay_42 (by decide) rfl rfl (nI_1 _) ?_
        refine Zr_goto C 13 dX3_messagesUnderWay_45 (by decide) ?_
        exact Zr_forget 5 (ih (k + 1) (by omega))
      · have hr : cRow n k := ⟨hkl, hd⟩
        obtain ⟨b, hring⟩ := hR.r hr
        have hv : S 6 k 2 = nI ((σ.2.1 (cix n k)).length) := hring.2.2.2.2.1
        have e1 : cSm n (fun x => (σ.2.1 x).length) (k + 1) = cSm n (fun x => (σ.2.1 x).length) k + (σ.2.1 (cix n k)).length := by simp only [cSm, aSum, if_neg hd]
        refine Zr_iload C dX3_messagesUnderWay_13 rfl ?_
        refine Zr_iload_n C dX3_messagesUnderWay_15 rfl ?_
        refine Zr_icmp_ge C 48 dX3_messagesUnderWay_16 (by decide) (fun h16 => absurd h16 (nI_ge hkl (by omega))) (fun h16 => ?_)
        refine Zr_aload_n C dX3_messagesUnderWay_19 rfl ?_
        refine Zr_iload C dX3_messagesUnderWay_20 rfl ?_
        refine Zr_aaldS C 3 cm2 rfl rfl rfl hkl (by omega) (if_neg hd) dX3_messagesUnderWay_22 ?_
        refine Zr_astore C dX3_messagesUnderWay_23 (by decide) ?_
        refine Zr_iload_n C dX3_messagesUnderWay_25 rfl ?_
        refine Zr_aload C dX3_messagesUnderWay_26 rfl ?_
        refine Zr_ifnonnull C 35 dX3_messagesUnderWay_28 (by decide) ?_
        refine Zr_aload C dX3_messagesUnderWay_35 rfl ?_
        refine Zr_getE C gf_X3_153 (cm6 hr) rfl rfl rfl hv dX3_messagesUnderWay_37 ?_
        refine Zr_iadd C dX3_messagesUnderWay_40 ?_
        refine Zr_topi (y := nI (cSm n (fun x => (σ.2.1 x).length) (k + 1))) (by rw [e1]; exact nI_add _ _) ?_
        refine Zr_istore_n C dX3_messagesUnderWay_41 (by decide) ?_
        refine Zr_iincE C (1) (nI (k + 1)) dX3_messagesUnderWay_42 (by decide) rfl rfl (nI_1 _) ?_
        refine Zr_goto C 13 dX3_messagesUnderWay_45 (by decide) ?_
        exact Zr_forget 5 (ih (k + 1) (by omega))
  refine Zr_iconst C (0) dX3_messagesUnderWay_0 rfl ?_
  refine Zr_istore_n C dX3_messagesUnderWay_1 (by decide) ?_
  refine Zr_aload_n C dX3_messagesUnderWay_2 rfl ?_
  refine Zr_getR C gf_X3_34 cm0 rfl rfl rfl (by simp) dX3_messagesUnderWay_3 ?_
  refine Zr_astore_n C dX3_messagesUnderWay_6 (by decide) ?_
  refine Zr_aload_n C dX3_messagesUnderWay_7 rfl ?_
  refine Zr_alen C 3 cm2 rfl rfl rfl dX3_messagesUnderWay_8 ?_
  refine Zr_istore_n C dX3_messagesUnderWay_9 (by decide) ?_
  refine Zr_iconst C (0) dX3_messagesUnderWay_10 rfl ?_
  refine Zr_istore C dX3_messagesUnderWay_11 (by decide) ?_
  exact key (n * n) 0 (by omega)
theorem cSm_zero {σ : aS} {n : Nat} (hn2 : 2 ≤ n) (hD : ∀ i, i < n → aOf 1 (σ.2.1 (10 * i + i)) = 0) : cSm n (fun x => aOf 1 (σ.2.1 x)) (n * n) = 0 ↔ ∀ i, i < n → ∀ j, j < n → aOf 1 (σ.2.1 (10 * i + j)) = 0 := by
  rw [cSm, aSum_zero]
  constructor
  · intro h i hi j hj
    by_cases hij : i = j
    · subst hij; exact hD i hi
    · have := h (i * n + j) (cLt hi hj)
      rw [if_neg (by rw [(cDiv hj).1, (cDiv hj).2]; exact hij), cix_of hj] at this
      exact this
  · intro h k hk
    split
    · rfl
    · exact h _ (Nat.div_lt_of_lt_mul hk) _ (Nat.mod_lt _ (by omega))
theorem cSm_lt {σ : aS} {n : Nat} (hn : n ≤ 10) (hL : ∀ r, r < 100 → (σ.2.1 r).length < 640) : cSm n (fun x => aOf 1 (σ.2.1 x)) (n * n) < 2 ^ 31 := by
  have h1 : cSm n (fun x => aOf 1 (σ.2.1 x)) (n * n) ≤ n * n * 640 := aSum_le (fun k hk => by
    split
    · omega
    · rename_i hne
      have := hL _ (cix_lt hn ⟨hk, hne⟩)
      exact Nat.le_trans aOf_le (by omega))
  have := nn_le hn
  omega
/-- what the class's quiet counts on -/
def cQ (n : Nat) (σ : aS) : Prop := (∀ i, i < n → aOf 1 (σ.2.1 (10 * i + i)) = 0) ∧ ∀ r, r < 100 → (σ.2.1 r).length < 640
set_option maxHeartbeats 1000000 in
set_option maxRecDepth 100000 in
theorem k_X3_quiet {l : Launch} {D : va_G} {K : zKs} {n : Nat} {ad : zAd} {ca : Nat → Nat} {S : zSt} {σ : aS} (hB : aB n σ) (hR : cRel n σ S) (hQ : cQ n σ) : zMet l yX3_quiet cX3_quiet 2 (some .boolean) { frames := 1, cells := 0, slots := 0, locals := 25 } D K (cIL n) (cSh K n (cpo n σ.2.2)) (zA ad ca) S [.ref (zA ad ca (0, 0))] (zEq (some (.int (if aQuiet σ n = true then 1 else 0))) (cSh K n (cpo n σ.2.2)) (zA ad ca) (S)) := by
  refine zEnter (own := RX3) (lv0 := [some (.ref (zA ad ca (0, 0))), none]) (by decide) rfl (by simp [Value.category]) (Nat.le_of_ble_eq_true rfl) rfl ?_
  intro p e s m below meth c A C _ hnm
  have hn := hB.2.2.1
  have hlt := cSm_lt hn hQ.2
  have hz := cSm_zero hB.2.1 hQ.1
  have key : ∀ (d i : Nat), i + d = n → (∀ j, j < i → σ.1 1 8 j = 0) → Z p l e ({ frames := 1, cells := 0, slots := 0, locals := 25 } : Room) s m ([.ref (zA ad ca (0, 0))] : List Value).toArray below meth c D A 2 (MQ below (zQ (zEq (some (.int (if aQuiet σ n = true then 1 else 0))) (cSh K n (cpo n σ.2.2)) (zA ad ca) (S)) (cIL n) D A) ([.ref (zA ad ca (0, 0))] : List Value).toArray s 0 0 A) (cIL n) 0 0 (cSh K n (cpo n σ.2.2)) (zA ad ca) S (2) ([some (.ref (zA ad ca (0, 0))), some (.int (nI i))]) ([]) := by
    intro d
    induction d with
    | zero =>
      intro i hi hok
      have hi : i = n := by omega
      subst hi
      by_cases hc : cSm i (fun x => aOf 1 (σ.2.1 x)) (i * i) = 0
      · refine Zr_iload_n C dX3_quiet_2 rfl ?_
        refine Zr_aload_n C dX3_quiet_3 rfl ?_
        refine Zr_getE C gf_X3_18 cm0 rfl rfl rfl hR.1.1 dX3_quiet_4 ?_
        refine Zr_icmp_ge C 30 dX3_quiet_7 (by decide) (fun h7 => ?_) (fun h7 => absurd (by rw [hB.1]; exact nI_le (Nat.le_refl _) (by omega)) h7)
        refine Zr_aload_n C dX3_quiet_30 rfl ?_
        refine Zr_callV C cw_X3_204 (k_X3_worksUnderWay hB hR) cm0 rfl rfl rfl (Nat.le_of_ble_eq_true rfl) (Nat.le_of_ble_eq_true rfl) rfl (Nat.le_of_ble_eq_true rfl) dX3_quiet_31 ⟨Nat.zero_le _, Nat.zero_le _⟩ ?_
        refine Zr_if_ne C 41 dX3_quiet_34 (by decide) (fun h34 => absurd (by rw [hc]; rfl) h34) (fun h34 => ?_)
        refine Zr_iconst C (1) dX3_quiet_37 rfl ?_
        refine Zr_goto C 42 dX3_quiet_38 (by decide) ?_
        exact Zr_zret C dX3_quiet_42 (Nat.zero_le _) (Nat.zero_le _) (by first | exact Or.inl rfl | exact Or.inr rfl | assumption) ⟨by rw [if_pos (aQuiet_iff.mpr (fun j hj => ⟨hok j hj, fun q hq => hz.mp hc j hj q hq⟩))], rfl, rfl, rfl⟩
      · refine Zr_iload_n C dX3_quiet_2 rfl ?_
        refine Zr_aload_n C dX3_quiet_3 rfl ?_
        refine Zr_getE C gf_X3_18 cm0 rfl rfl rfl hR.1.1 dX3_quiet_4 ?_
        refine Zr_icmp_ge C 30 dX3_quiet_7 (by decide) (fun h7 => ?_) (fun h7 => absurd (by rw [hB.1]; exact nI_le (Nat.le_refl _) (by omega)) h7)
        refine Zr_aload_n C dX3_quiet_30 rfl ?_
        refine Zr_callV C cw_X3_204 (k_X3_worksUnderWay hB hR) cm0 rfl rfl rfl (Nat.le_of_ble_eq_true rfl) (Nat.le_of_ble_eq_true rfl) rfl (Nat.le_of_ble_eq_true rfl) dX3_quiet_31 ⟨Nat.zero_le _, Nat.zero_le _⟩ ?_
        refine Zr_if_ne C 41 dX3_quiet_34 (by decide) (fun h34 => ?_) (fun h34 => absurd ((nI_eq hlt (by decide)).mp h34) hc)
        refine Zr_iconst C (0) dX3_quiet_41 rfl ?_
        exact Zr_zret C dX3_quiet_42 (Nat.zero_le _) (Nat.zero_le _) (by first | exact Or.inl rfl | exact Or.inr rfl | assumption) ⟨by rw [if_neg (fun h => hc (hz.mpr (fun j hj q hq => (aQuiet_iff.mp h j hj).2 q hq)))], rfl, rfl, rfl⟩
    | succ d ih =>
      intro i hi hok
      have hil : i < n := by omega
      refine Zr_iload_n C dX3_quiet_2 rfl ?_
      refine Zr_aload_n C dX3_quiet_3 rfl ?_
      refine Zr_getE C gf_X3_18 cm0 rfl rfl rfl hR.1.1 dX3_quiet_4 ?_
      refine Zr_icmp_ge C 30 dX3_quiet_7 (by decide) (fun h7 => absurd h7 (by rw [hB.1]; exact nI_ge hil (by omega))) (fun h7 => ?_)
      refine Zr_aload_n C dX3_quiet_10 rfl ?_
      refine Zr_getR C gf_X3_26 cm0 rfl rfl rfl (by simp) dX3_quiet_11 ?_
      refine Zr_iload_n C dX3_quiet_14 rfl ?_
      refine Zr_aaldS C 2 cm1 rfl rfl rfl hil (by omega) rfl dX3_quiet_15 ?_
      refine Zr_getE C gf_X3_49 (cm4 hil) rfl rfl rfl (hR.w hil).1 dX3_quiet_16 ?_
      refine Zr_if_eq C 24 dX3_quiet_19 (by decide) (fun h19 => ?_) (fun h19 => ?_)
      · refine Zr_iincE C (1) (nI (i + 1)) dX3_quiet_24 (by decide) rfl rfl (nI_1 _) ?_
        refine Zr_goto C 2 dX3_quiet_27 (by decide) ?_
        exact ih (i + 1) (by omega) (fun j hj => if hji : j = i then by rw [hji]; exact h19 else hok j (by omega))
      · refine Zr_iconst C (0) dX3_quiet_22 rfl ?_
        exact Zr_zret C dX3_quiet_23 (Nat.zero_le _) (Nat.zero_le _) (by first | exact Or.inl rfl | exact Or.inr rfl | assumption) ⟨by rw [if_neg (fun h => h19 (aQuiet_iff.mp h i hil).1)], rfl, rfl, rfl⟩
  refine Zr_iconst C (0) dX3_quiet_0 rfl ?_
  refine Zr_istore_n C dX3_quiet_1 (by decide) ?_
  exact key n 0 (by omega) (fun j hj => absurd hj (Nat.not_lt_zero _))
set_option maxHeartbeats 1000000 in
set_option maxRecDepth 100000 in
theorem k_X3_judgeEnd {l : Launch} {D : va_G} {K : zKs} {n : Nat} {ad : zAd} {ca : Nat → Nat} {S : zSt} {σ : aS} (hB : aB n σ) (hR : cRel n σ S) (hQ : cQ n σ) : zMet l yX3_judgeEnd cX3_judgeEnd 1 none { frames := 2, cells := 0, slots := 0, locals := 46 } D K (cIL n) (cSh K n (cpo n σ.2.2)) (zA ad ca) S [.ref (zA ad ca (0, 0))] (zR none (cSh K n (cpo n σ.2.2)) (zA ad ca) (cRel n (aJudge n σ))) := by
  refine zEnter (own := RX3) (lv0 := [some (.ref (zA ad ca (0, 0)))]) (by decide) rfl (by simp [Value.category]) (Nat.le_of_ble_eq_true rfl) rfl ?_
  intro p e s m below meth c A C _ hnm
  by_cases h : aQuiet σ n = true
  · refine Zr_aload_n C dX3_judgeEnd_0 rfl ?_
    refine Zr_callV C cw_X3_234 (k_X3_quiet hB hR hQ) cm0 rfl rfl rfl (Nat.le_of_ble_eq_true rfl) (Nat.le_of_ble_eq_true rfl) rfl (Nat.le_of_ble_eq_true rfl) dX3_judgeEnd_1 ⟨Nat.zero_le _, Nat.zero_le _⟩ ?_
    refine Zr_topi (y := 1) (if_pos h) ?_
    refine Zr_if_ne C 17 dX3_judgeEnd_4 (by decide) (fun h4 => ?_) (fun h4 => absurd h4 (by decide))
    exact Zr_vret C dX3_judgeEnd_17 (Nat.zero_le _) (Nat.zero_le _) ⟨rfl, rfl, rfl, by rw [aJudge, if_pos h]; exact hR⟩
  · refine Zr_aload_n C dX3_judgeEnd_0 rfl ?_
    refine Zr_callV C cw_X3_234 (k_X3_quiet hB hR hQ) cm0 rfl rfl rfl (Nat.le_of_ble_eq_true rfl) (Nat.le_of_ble_eq_true rfl) rfl (Nat.le_of_ble_eq_true rfl) dX3_judgeEnd_1 ⟨Nat.zero_le _, Nat.zero_le _⟩ ?_
    refine Zr_topi (y := 0) (if_neg h) ?_
    refine Zr_if_ne C 17 dX3_judgeEnd_4 (by decide) (fun h4 => absurd rfl h4) (fun h4 => ?_)
    refine Zr_aload_n C dX3_judgeEnd_7 rfl ?_
    refine Zr_dup C dX3_judgeEnd_8 rfl ?_
    refine Zr_getE C gf_X3_207 cm0 rfl rfl rfl hR.1.2.2.2.2.1 dX3_judgeEnd_9 ?_
    refine Zr_iconst C (1) dX3_judgeEnd_12 rfl ?_
    refine Zr_iadd C dX3_judgeEnd_13 ?_
    refine Zr_putE C pf_X3_207 cm0 rfl rfl rfl (znI _) (cRm7 hR) dX3_judgeEnd_14 (fun S hR => ?_)
    exact Zr_vret C dX3_judgeEnd_17 (Nat.zero_le _) (Nat.zero_le _) ⟨rfl, rfl, rfl, by rw [aJudge, if_neg h]; exact hR⟩
set_option maxHeartbeats 1000000 in
set_option maxRecDepth 100000 in
theorem k_X3_isInTree {l : Launch} {D : va_G} {K : zKs} {n : Nat} {ad : zAd} {ca : Nat → Nat} {S : zSt} {σ : aS} (hB : aB n σ) (hR : cRel n σ S) {i : Nat} (hi : i < n) : zMet l yX3_isInTree cX3_isInTree 3 (some .boolean) { frames := 0, cells := 0, slots := 0, locals := 0 } D K (cIL n) (cSh K n (cpo n σ.2.2)) (zA ad ca) S [.ref (zA ad ca (0, 0)), .int (nI i), .ref (zA ad ca (4, i))] (zEq (some (.int (if aTree σ i = true then 1 else 0))) (cSh K n (cpo n σ.2.2)) (zA ad ca) (S)) := by
  refine zEnter (own := RX3) (lv0 := [some (.ref (zA ad ca (0, 0))), some (.int (nI i)), some (.ref (zA ad ca (4, i)))]) (by decide) rfl (by simp [Value.category]) (Nat.le_of_ble_eq_true rfl) rfl ?_
  intro p e s m below meth c A C _ hnm
  have hn := hB.2.2.1
  rcases Nat.eq_zero_or_pos i with rfl | hz
  · refine Zr_iload_n C dX3_isInTree_0 rfl ?_
    refine Zr_if_ne C 26 dX3_isInTree_1 (by decide) (fun h1 => absurd rfl h1) (fun h1 => ?_)
    refine Zr_aload_n C dX3_isInTree_4 rfl ?_
    refine Zr_getE C gf_X3_45 cm0 rfl rfl rfl hR.1.2.1 dX3_isInTree_5 ?_
    refine Zr_if_eq C 22 dX3_isInTree_8 (by decide) (fun h8 => ?_) (fun h8 => ?_)
    · refine Zr_iconst C (0) dX3_isInTree_22 rfl ?_
      refine Zr_goto C 39 dX3_isInTree_23 (by decide) ?_
      exact Zr_zret C dX3_isInTree_39 (Nat.zero_le _) (Nat.zero_le _) (by first | exact Or.inl rfl | exact Or.inr rfl | assumption) ⟨by simp [*, aTree], rfl, rfl, rfl⟩
    · refine Zr_aload_n C dX3_isInTree_11 rfl ?_
      refine Zr_getE C gf_X3_213 cm0 rfl rfl rfl hR.1.2.2.1 dX3_isInTree_12 ?_
      refine Zr_if_ne C 22 dX3_isInTree_15 (by decide) (fun h15 => ?_) (fun h15 => ?_)
      · refine Zr_iconst C (0) dX3_isInTree_22 rfl ?_
        refine Zr_goto C 39 dX3_isInTree_23 (by decide) ?_
        exact Zr_zret C dX3_isInTree_39 (Nat.zero_le _) (Nat.zero_le _) (by first | exact Or.inl rfl | exact Or.inr rfl | assumption) ⟨by simp [*, aTree], rfl, rfl, rfl⟩
      · refine Zr_iconst C (1) dX3_isInTree_18 rfl ?_
        refine Zr_goto C 39 dX3_isInTree_19 (by decide) ?_
        exact Zr_zret C dX3_isInTree_39 (Nat.zero_le _) (Nat.zero_le _) (by first | exact Or.inl rfl | exact Or.inr rfl | assumption) ⟨by simp [*, aTree], rfl, rfl, rfl⟩
  · have hz2 : ¬ i = 0 := by omega
    refine Zr_iload_n C dX3_isInTree_0 rfl ?_
    refine Zr_if_ne C 26 dX3_isInTree_1 (by decide) (fun h1 => ?_) (fun h1 => absurd h1 (nI_ne0 hz (by omega)))
    refine Zr_aload_n C dX3_isInTree_26 rfl ?_
    refine Zr_getE C gf_X3_189 (cm4 hi) rfl rfl rfl (hR.w hi).2.2.1 dX3_isInTree_27 ?_
    refine Zr_iconst C (-1) dX3_isInTree_30 rfl ?_
    refine Zr_icmp_eq C 38 dX3_isInTree_31 (by decide) (fun h31 => ?_) (fun h31 => ?_)
    · refine Zr_iconst C (0) dX3_isInTree_38 rfl ?_
      exact Zr_zret C dX3_isInTree_39 (Nat.zero_le _) (Nat.zero_le _) (by first | exact Or.inl rfl | exact Or.inr rfl | assumption) ⟨by simp [*, aTree], rfl, rfl, rfl⟩
    · refine Zr_iconst C (1) dX3_isInTree_34 rfl ?_
      refine Zr_goto C 39 dX3_isInTree_35 (by decide) ?_
      exact Zr_zret C dX3_isInTree_39 (Nat.zero_le _) (Nat.zero_le _) (by first | exact Or.inl rfl | exact Or.inr rfl | assumption) ⟨by simp [*, aTree], rfl, rfl, rfl⟩
theorem aJudge_2 {n : Nat} {σ : aS} : (aJudge n σ).2 = σ.2 := by
  unfold aJudge
  split <;> rfl
theorem wm1 {n : Nat} : aWM n (1, -1, -1) := Or.inl ⟨Or.inl rfl, rfl⟩
theorem wm2 {n : Nat} : aWM n (2, -1, -1) := Or.inl ⟨Or.inr (Or.inl rfl), rfl⟩
theorem wm3 {n : Nat} : aWM n (3, -1, -1) := Or.inl ⟨Or.inr (Or.inr (Or.inl rfl)), rfl⟩
theorem wm4 {n : Nat} : aWM n (4, -1, -1) := Or.inl ⟨Or.inr (Or.inr (Or.inr (Or.inl rfl))), rfl⟩
theorem wm5 {n : Nat} : aWM n (5, -1, -1) := Or.inl ⟨Or.inr (Or.inr (Or.inr (Or.inr rfl))), rfl⟩
theorem aN_sw (σ : aS) (j : Nat) (v w : Int32) : aN (aN σ 1 11 j v) 1 12 j w = aN (aN σ 1 12 j w) 1 11 j v := by
  refine Prod.ext ?_ rfl
  funext a b k
  simp only [aN, z3]
  by_cases h : a = 1 ∧ b = 12 ∧ k = j
  · rw [if_pos h, if_neg (fun h2 => by omega), if_pos h]
  · rw [if_neg h]
    by_cases h2 : a = 1 ∧ b = 11 ∧ k = j
    · rw [if_pos h2, if_pos h2]
    · rw [if_neg h2, if_neg h2, if_neg h]
set_option maxHeartbeats 1000000 in
set_option maxRecDepth 100000 in
theorem k_X3_leaveTreeIfDone {l : Launch} {D : va_G} {K : zKs} {n : Nat} {ad : zAd} {ca : Nat → Nat} {S : zSt} {σ : aS} (hB : aB n σ) (hR : cRel n σ S) {i F : Nat} (hi : i < n) (hQ : cQ n σ) (h0 : ¬ σ.1 1 10 i < 0) (hpar : aQual σ i = true → i ≠ 0 → ∃ j, j < n ∧ j ≠ i ∧ σ.1 1 9 i = nI j) (hF : aLam (aLeave n σ i) ≤ F) : zMet l yX3_leaveTreeIfDone cX3_leaveTreeIfDone 3 none { frames := 4, cells := (F - aLam σ), slots := (2 * (F - aLam σ)), locals := 89 } D K (cIL n) (cSh K n (cpo n σ.2.2)) (zA ad ca) S [.ref (zA ad ca (0, 0)), .int (nI i), .ref (zA ad ca (4, i))] (cP K n ad none (aLeave n σ i)) := by
  refine zEnter (own := RX3) (lv0 := [some (.ref (zA ad ca (0, 0))), some (.int (nI i)), some (.ref (zA ad ca (4, i)))]) (by decide) rfl (by simp [Value.category]) (Nat.le_of_ble_eq_true rfl) rfl ?_
  intro p e s m below meth c A C _ hnm
  have hn := hB.2.2.1
  have zz : 0 ≤ F - aLam σ ∧ 0 ≤ 2 * (F - aLam σ) := ⟨Nat.zero_le _, Nat.zero_le _⟩
  by_cases hq : aQual σ i = true
  · have hq3 := aQual_iff.mp hq
    have ho : σ.1 1 10 i = 0 := by
      exact Int32.le_antisymm (Int32.not_lt.mp hq3.2.2) (Int32.not_lt.mp h0)
    rcases Nat.eq_zero_or_pos i with rfl | hz
    · have hl : aLeave n σ 0 = aJudge n (aN σ 0 0 2 1) := by rw [aLeave, if_pos hq, if_pos rfl]
      have hB2 : aB n (aN σ 0 0 2 1) := hB.g (by decide) (fun _ => Or.inr rfl)
      refine Zr_aload_n C dX3_leaveTreeIfDone_0 rfl ?_
      refine Zr_getE C gf_X3_49 (cm4 hi) rfl rfl rfl (hR.w hi).1 dX3_leaveTreeIfDone_1 ?_
      refine Zr_if_ne C 23 dX3_leaveTreeIfDone_4 (by decide) (fun h4 => absurd hq3.2.1 h4) (fun h4 => ?_)
      refine Zr_aload_n C dX3_leaveTreeIfDone_7 rfl ?_
      refine Zr_getE C gf_X3_71 (cm4 hi) rfl rfl rfl (hR.w hi).2.2.2.1 dX3_leaveTreeIfDone_8 ?_
      refine Zr_if_ne C 23 dX3_leaveTreeIfDone_11 (by decide) (fun h11 => absurd ho h11) (fun h11 => ?_)
      refine Zr_aload_n C dX3_leaveTreeIfDone_14 rfl ?_
      refine Zr_iload_n C dX3_leaveTreeIfDone_15 rfl ?_
      refine Zr_aload_n C dX3_leaveTreeIfDone_16 rfl ?_
      refine Zr_callV C cw_X3_185 (k_X3_isInTree hB hR hi) cm0 rfl rfl rfl (Nat.le_of_ble_eq_true rfl) (Nat.le_of_ble_eq_true rfl) rfl (Nat.le_of_ble_eq_true rfl) dX3_leaveTreeIfDone_17 ⟨Nat.zero_le _, Nat.zero_le _⟩ ?_
      refine Zr_topi (y := 1) (if_pos hq3.1) ?_
      refine Zr_if_ne C 24 dX3_leaveTreeIfDone_20 (by decide) (fun h20 => ?_) (fun h20 => absurd h20 (by decide))
      refine Zr_iload_n C dX3_leaveTreeIfDone_24 rfl ?_
      refine Zr_if_ne C 40 dX3_leaveTreeIfDone_25 (by decide) (fun h25 => absurd rfl h25) (fun h25 => ?_)
      refine Zr_aload_n C dX3_leaveTreeIfDone_28 rfl ?_
      refine Zr_iconst C (1) dX3_leaveTreeIfDone_29 rfl ?_
      refine Zr_putE C pf_X3_213 cm0 rfl rfl rfl (znZ (by first | exact Or.inl rfl | exact Or.inr rfl | assumption)) (cRm5 hR) dX3_leaveTreeIfDone_30 (fun S hR => ?_)
      refine Zr_aload_n C dX3_leaveTreeIfDone_33 rfl ?_
      refine Zr_callVRv C cw_X3_144 (k_X3_judgeEnd (σ := aN σ 0 0 2 1) hB2 hR hQ) cm0 rfl rfl rfl (Nat.le_of_ble_eq_true rfl) (Nat.le_of_ble_eq_true rfl) rfl (Nat.le_of_ble_eq_true rfl) dX3_leaveTreeIfDone_34 ⟨Nat.zero_le _, Nat.zero_le _⟩ (fun S hR => ?_)
      refine Zr_goto C 55 dX3_leaveTreeIfDone_37 (by decide) ?_
      exact Zr_vret C dX3_leaveTreeIfDone_55 (Nat.zero_le _) (Nat.zero_le _) ⟨rfl, by rw [hl, aJudge_2]; rfl, ⟨_, rfl⟩, by rw [hl]; exact hR⟩
    · obtain ⟨j, hj, hji, hj2⟩ := hpar hq (by omega)
      have hl : aLeave n σ i = aN (aPush σ (10 * i + j) (2, -1, -1)) 1 9 i (-1) := by rw [aLeave, if_pos hq, if_neg (by omega), hj2, nI_clamp (by omega)]
      refine Zr_aload_n C dX3_leaveTreeIfDone_0 rfl ?_
      refine Zr_getE C gf_X3_49 (cm4 hi) rfl rfl rfl (hR.w hi).1 dX3_leaveTreeIfDone_1 ?_
      refine Zr_if_ne C 23 dX3_leaveTreeIfDone_4 (by decide) (fun h4 => absurd hq3.2.1 h4) (fun h4 => ?_)
      refine Zr_aload_n C dX3_leaveTreeIfDone_7 rfl ?_
      refine Zr_getE C gf_X3_71 (cm4 hi) rfl rfl rfl (hR.w hi).2.2.2.1 dX3_leaveTreeIfDone_8 ?_
      refine Zr_if_ne C 23 dX3_leaveTreeIfDone_11 (by decide) (fun h11 => absurd ho h11) (fun h11 => ?_)
      refine Zr_aload_n C dX3_leaveTreeIfDone_14 rfl ?_
      refine Zr_iload_n C dX3_leaveTreeIfDone_15 rfl ?_
      refine Zr_aload_n C dX3_leaveTreeIfDone_16 rfl ?_
      refine Zr_callV C cw_X3_185 (k_X3_isInTree hB hR hi) cm0 rfl rfl rfl (Nat.le_of_ble_eq_true rfl) (Nat.le_of_ble_eq_true rfl) rfl (Nat.le_of_ble_eq_true rfl) dX3_leaveTreeIfDone_17 ⟨Nat.zero_le _, Nat.zero_le _⟩ ?_
      refine Zr_topi (y := 1) (if_pos hq3.1) ?_
      refine Zr_if_ne C 24 dX3_leaveTreeIfDone_20 (by decide) (fun h20 => ?_) (fun h20 => absurd h20 (by decide))
      refine Zr_iload_n C dX3_leaveTreeIfDone_24 rfl ?_
      refine Zr_if_ne C 40 dX3_leaveTreeIfDone_25 (by decide) (fun h25 => ?_) (fun h25 => absurd h25 (nI_ne0 hz (by omega)))
      refine Zr_aload_n C dX3_leaveTreeIfDone_40 rfl ?_
      refine Zr_iload_n C dX3_leaveTreeIfDone_41 rfl ?_
      refine Zr_aload_n C dX3_leaveTreeIfDone_42 rfl ?_
      refine Zr_getE C gf_X3_189 (cm4 hi) rfl rfl rfl ((hR.w hi).2.2.1.trans hj2) dX3_leaveTreeIfDone_43 ?_
      refine Zr_iconst C (2) dX3_leaveTreeIfDone_46 rfl ?_
      refine Zr_topi (y := cPack (2, -1, -1)) (by decide) ?_
      refine Zr_callVCv C cw_X3_117 (k_X3_put hB hR hi hj (fun h => hji h.symm) wm2 (by rw [hl] at hF; exact hF) (hQ.2 _ (by omega))) cm0 rfl rfl rfl (Nat.le_of_ble_eq_true rfl) (Nat.le_of_ble_eq_true rfl) rfl (Nat.le_of_ble_eq_true rfl) dX3_leaveTreeIfDone_47 ⟨by show 0 + (F - aLam σ) ≤ F - aLam σ; omega, by show 0 + 2 * (F - aLam σ) ≤ 2 * (F - aLam σ); omega⟩ (fun ca S hR => ?_)
      refine Zr_aload_n C dX3_leaveTreeIfDone_50 rfl ?_
      refine Zr_iconst C (-1) dX3_leaveTreeIfDone_51 rfl ?_
      refine Zr_putE C pf_X3_189 (cm4 hi) rfl rfl rfl (znI _) (cRw3 hR) dX3_leaveTreeIfDone_52 (fun S hR => ?_)
      exact Zr_vret C dX3_leaveTreeIfDone_55 (by show 0 + (F - aLam σ) ≤ F - aLam σ; omega) (by show 0 + 2 * (F - aLam σ) ≤ 2 * (F - aLam σ); omega) ⟨rfl, by rw [hl]; rfl, ⟨_, rfl⟩, by rw [hl]; exact hR⟩
  · have hl : aLeave n σ i = σ := if_neg hq
    by_cases ht : aTree σ i = true
    · refine Zr_aload_n C dX3_leaveTreeIfDone_0 rfl ?_
      refine Zr_getE C gf_X3_49 (cm4 hi) rfl rfl rfl (hR.w hi).1 dX3_leaveTreeIfDone_1 ?_
      refine Zr_if_ne C 23 dX3_leaveTreeIfDone_4 (by decide) (fun h4 => ?_) (fun h4 => ?_)
      · exact Zr_vret C dX3_leaveTreeIfDone_23 (Nat.zero_le _) (Nat.zero_le _) ⟨rfl, by rw [hl], ⟨_, rfl⟩, by rw [hl]; exact hR⟩
      · refine Zr_aload_n C dX3_leaveTreeIfDone_7 rfl ?_
        refine Zr_getE C gf_X3_71 (cm4 hi) rfl rfl rfl (hR.w hi).2.2.2.1 dX3_leaveTreeIfDone_8 ?_
        refine Zr_if_ne C 23 dX3_leaveTreeIfDone_11 (by decide) (fun h11 => ?_) (fun h11 => absurd (aQual_iff.mpr ⟨ht, h4, by rw [h11]; decide⟩) hq)
        exact Zr_vret C dX3_leaveTreeIfDone_23 (Nat.zero_le _) (Nat.zero_le _) ⟨rfl, by rw [hl], ⟨_, rfl⟩, by rw [hl]; exact hR⟩
    · refine Zr_aload_n C dX3_leaveTreeIfDone_0 rfl ?_
      refine Zr_getE C gf_X3_49 (cm4 hi) rfl rfl rfl (hR.w hi).1 dX3_leaveTreeIfDone_1 ?_
      refine Zr_if_ne C 23 dX3_leaveTreeIfDone_4 (by decide) (fun h4 => ?_) (fun h4 => ?_)
      · exact Zr_vret C dX3_leaveTreeIfDone_23 (Nat.zero_le _) (Nat.zero_le _) ⟨rfl, by rw [hl], ⟨_, rfl⟩, by rw [hl]; exact hR⟩
      · refine Zr_aload_n C dX3_leaveTreeIfDone_7 rfl ?_
        refine Zr_getE C gf_X3_71 (cm4 hi) rfl rfl rfl (hR.w hi).2.2.2.1 dX3_leaveTreeIfDone_8 ?_
        refine Zr_if_ne C 23 dX3_leaveTreeIfDone_11 (by decide) (fun h11 => ?_) (fun h11 => ?_)
        · exact Zr_vret C dX3_leaveTreeIfDone_23 (Nat.zero_le _) (Nat.zero_le _) ⟨rfl, by rw [hl], ⟨_, rfl⟩, by rw [hl]; exact hR⟩
        · refine Zr_aload_n C dX3_leaveTreeIfDone_14 rfl ?_
          refine Zr_iload_n C dX3_leaveTreeIfDone_15 rfl ?_
          refine Zr_aload_n C dX3_leaveTreeIfDone_16 rfl ?_
          refine Zr_callV C cw_X3_185 (k_X3_isInTree hB hR hi) cm0 rfl rfl rfl (Nat.le_of_ble_eq_true rfl) (Nat.le_of_ble_eq_true rfl) rfl (Nat.le_of_ble_eq_true rfl) dX3_leaveTreeIfDone_17 ⟨Nat.zero_le _, Nat.zero_le _⟩ ?_
          refine Zr_topi (y := 0) (if_neg ht) ?_
          refine Zr_if_ne C 24 dX3_leaveTreeIfDone_20 (by decide) (fun h20 => absurd rfl h20) (fun h20 => ?_)
          exact Zr_vret C dX3_leaveTreeIfDone_23 (Nat.zero_le _) (Nat.zero_le _) ⟨rfl, by rw [hl], ⟨_, rfl⟩, by rw [hl]; exact hR⟩
set_option maxHeartbeats 1000000 in
set_option maxRecDepth 100000 in
theorem k_X3_takeWork {l : Launch} {D : va_G} {K : zKs} {n : Nat} {ad : zAd} {ca : Nat → Nat} {S : zSt} {σ : aS} (hB : aB n σ) (hR : cRel n σ S) {i j F : Nat} (hi : i < n) (hj : j < n) (hij : i ≠ j) (hlen : (σ.2.1 (10 * j + i)).length < 640) (hroot : j = 0 → aTree (aN (aN (aN σ 1 8 j 1) 1 12 j 1) 1 11 j (σ.1 1 11 j - 1)) 0 = true) (hF : aLam (aWork σ i j) ≤ F) : zMet l yX3_takeWork cX3_takeWork 4 none { frames := 4, cells := (F - aLam σ), slots := (2 * (F - aLam σ)), locals := 89 } D K (cIL n) (cSh K n (cpo n σ.2.2)) (zA ad ca) S [.ref (zA ad ca (0, 0)), .int (nI i), .int (nI j), .ref (zA ad ca (4, j))] (cP K n ad none (aWork σ i j)) := by
  refine zEnter (own := RX3) (lv0 := [some (.ref (zA ad ca (0, 0))), some (.int (nI i)), some (.int (nI j)), some (.ref (zA ad ca (4, j)))]) (by decide) rfl (by simp [Value.category]) (Nat.le_of_ble_eq_true rfl) rfl ?_
  intro p e s m below meth c A C _ hnm
  have hn := hB.2.2.1
  have hB2 : aB n (aN (aN (aN σ 1 8 j 1) 1 12 j 1) 1 11 j (σ.1 1 11 j - 1)) := ((hB.a (fun _ => Or.inr rfl)).a (fun _ => Or.inr rfl)).a (fun h => by omega)
  by_cases ht : aTree (aN (aN (aN σ 1 8 j 1) 1 12 j 1) 1 11 j (σ.1 1 11 j - 1)) j = true
  · have ew : aWork σ i j = aPush (aN (aN (aN σ 1 8 j 1) 1 12 j 1) 1 11 j (σ.1 1 11 j - 1)) (10 * j + i) (2, -1, -1) := if_pos ht
    have hF2 : aLam (aPush (aN (aN (aN σ 1 8 j 1) 1 12 j 1) 1 11 j (σ.1 1 11 j - 1)) (10 * j + i) (2, -1, -1)) ≤ F := by rw [← ew]; exact hF
    rcases Nat.eq_zero_or_pos j with h0 | hz
    · refine Zr_aload_n C dX3_takeWork_0 rfl ?_
      refine Zr_iconst C (1) dX3_takeWork_1 rfl ?_
      refine Zr_putE C pf_X3_49 (cm4 hj) rfl rfl rfl (znZ (by first | exact Or.inl rfl | exact Or.inr rfl | assumption)) (cRw1 hR) dX3_takeWork_2 (fun S hR => ?_)
      refine Zr_aload_n C dX3_takeWork_5 rfl ?_
      refine Zr_dup C dX3_takeWork_6 rfl ?_
      refine Zr_getE C gf_X3_78 (cm4 hj) rfl rfl rfl (hR.w hj).2.2.2.2.1 dX3_takeWork_7 ?_
      refine Zr_iconst C (1) dX3_takeWork_10 rfl ?_
      refine Zr_isub C dX3_takeWork_11 ?_
      refine Zr_putE C pf_X3_78 (cm4 hj) rfl rfl rfl (znI _) (cRw5 hR) dX3_takeWork_12 (fun S hR => ?_)
      refine Zr_aload_n C dX3_takeWork_15 rfl ?_
      refine Zr_iconst C (1) dX3_takeWork_16 rfl ?_
      refine Zr_putE C pf_X3_150 (cm4 hj) rfl rfl rfl (znZ (by first | exact Or.inl rfl | exact Or.inr rfl | assumption)) (cRw2 hR) dX3_takeWork_17 (fun S hR => ?_)
      have hR : cRel n (aN (aN (aN σ 1 8 j 1) 1 12 j 1) 1 11 j (σ.1 1 11 j - 1)) S := by have h := hR; rw [aN_sw] at h; exact h
      refine Zr_iload_n C dX3_takeWork_20 rfl ?_
      refine Zr_if_eq C 33 dX3_takeWork_21 (by decide) (fun h21 => ?_) (fun h21 => absurd (by rw [h0]; rfl) h21)
      refine Zr_aload_n C dX3_takeWork_33 rfl ?_
      refine Zr_iload_n C dX3_takeWork_34 rfl ?_
      refine Zr_iload_n C dX3_takeWork_35 rfl ?_
      refine Zr_iconst C (2) dX3_takeWork_36 rfl ?_
      refine Zr_topi (y := cPack (2, -1, -1)) (by decide) ?_
      refine Zr_callVCv C cw_X3_117 (k_X3_put hB2 hR hj hi (fun h => hij h.symm) wm2 hF2 hlen) cm0 rfl rfl rfl (Nat.le_of_ble_eq_true rfl) (Nat.le_of_ble_eq_true rfl) rfl (Nat.le_of_ble_eq_true rfl) dX3_takeWork_37 ⟨by show 0 + (F - aLam σ) ≤ F - aLam σ; omega, by show 0 + 2 * (F - aLam σ) ≤ 2 * (F - aLam σ); omega⟩ (fun ca S hR => ?_)
      refine Zr_goto C 48 dX3_takeWork_40 (by decide) ?_
      exact Zr_vret C dX3_takeWork_48 (by show 0 + (F - aLam σ) ≤ F - aLam σ; omega) (by show 0 + 2 * (F - aLam σ) ≤ 2 * (F - aLam σ); omega) ⟨rfl, by rw [ew], ⟨_, rfl⟩, by rw [ew]; exact hR⟩
    · refine Zr_aload_n C dX3_takeWork_0 rfl ?_
      refine Zr_iconst C (1) dX3_takeWork_1 rfl ?_
      refine Zr_putE C pf_X3_49 (cm4 hj) rfl rfl rfl (znZ (by first | exact Or.inl rfl | exact Or.inr rfl | assumption)) (cRw1 hR) dX3_takeWork_2 (fun S hR => ?_)
      refine Zr_aload_n C dX3_takeWork_5 rfl ?_
      refine Zr_dup C dX3_takeWork_6 rfl ?_
      refine Zr_getE C gf_X3_78 (cm4 hj) rfl rfl rfl (hR.w hj).2.2.2.2.1 dX3_takeWork_7 ?_
      refine Zr_iconst C (1) dX3_takeWork_10 rfl ?_
      refine Zr_isub C dX3_takeWork_11 ?_
      refine Zr_putE C pf_X3_78 (cm4 hj) rfl rfl rfl (znI _) (cRw5 hR) dX3_takeWork_12 (fun S hR => ?_)
      refine Zr_aload_n C dX3_takeWork_15 rfl ?_
      refine Zr_iconst C (1) dX3_takeWork_16 rfl ?_
      refine Zr_putE C pf_X3_150 (cm4 hj) rfl rfl rfl (znZ (by first | exact Or.inl rfl | exact Or.inr rfl | assumption)) (cRw2 hR) dX3_takeWork_17 (fun S hR => ?_)
      have hR : cRel n (aN (aN (aN σ 1 8 j 1) 1 12 j 1) 1 11 j (σ.1 1 11 j - 1)) S := by have h := hR; rw [aN_sw] at h; exact h
      refine Zr_iload_n C dX3_takeWork_20 rfl ?_
      refine Zr_if_eq C 33 dX3_takeWork_21 (by decide) (fun h21 => absurd h21 (nI_ne0 hz (by omega))) (fun h21 => ?_)
      refine Zr_aload_n C dX3_takeWork_24 rfl ?_
      refine Zr_iload_n C dX3_takeWork_25 rfl ?_
      refine Zr_aload_n C dX3_takeWork_26 rfl ?_
      refine Zr_callV C cw_X3_185 (k_X3_isInTree hB2 hR hj) cm0 rfl rfl rfl (Nat.le_of_ble_eq_true rfl) (Nat.le_of_ble_eq_true rfl) rfl (Nat.le_of_ble_eq_true rfl) dX3_takeWork_27 ⟨Nat.zero_le _, Nat.zero_le _⟩ ?_
      refine Zr_topi (y := 1) (if_pos ht) ?_
      refine Zr_if_eq C 43 dX3_takeWork_30 (by decide) (fun h30 => absurd h30 (by decide)) (fun h30 => ?_)
      refine Zr_aload_n C dX3_takeWork_33 rfl ?_
      refine Zr_iload_n C dX3_takeWork_34 rfl ?_
      refine Zr_iload_n C dX3_takeWork_35 rfl ?_
      refine Zr_iconst C (2) dX3_takeWork_36 rfl ?_
      refine Zr_topi (y := cPack (2, -1, -1)) (by decide) ?_
      refine Zr_callVCv C cw_X3_117 (k_X3_put hB2 hR hj hi (fun h => hij h.symm) wm2 hF2 hlen) cm0 rfl rfl rfl (Nat.le_of_ble_eq_true rfl) (Nat.le_of_ble_eq_true rfl) rfl (Nat.le_of_ble_eq_true rfl) dX3_takeWork_37 ⟨by show 0 + (F - aLam σ) ≤ F - aLam σ; omega, by show 0 + 2 * (F - aLam σ) ≤ 2 * (F - aLam σ); omega⟩ (fun ca S hR => ?_)
      refine Zr_goto C 48 dX3_takeWork_40 (by decide) ?_
      exact Zr_vret C dX3_takeWork_48 (by show 0 + (F - aLam σ) ≤ F - aLam σ; omega) (by show 0 + 2 * (F - aLam σ) ≤ 2 * (F - aLam σ); omega) ⟨rfl, by rw [ew], ⟨_, rfl⟩, by rw [ew]; exact hR⟩
  · have ew : aWork σ i j = aN (aN (aN (aN σ 1 8 j 1) 1 12 j 1) 1 11 j (σ.1 1 11 j - 1)) 1 9 j (nI i) := if_neg ht
    have hz : 0 < j := by
      rcases Nat.eq_zero_or_pos j with h0 | hz
      · exact absurd (by have := hroot h0; rw [h0] at this ⊢; exact this) ht
      · exact hz
    refine Zr_aload_n C dX3_takeWork_0 rfl ?_
    refine Zr_iconst C (1) dX3_takeWork_1 rfl ?_
    refine Zr_putE C pf_X3_49 (cm4 hj) rfl rfl rfl (znZ (by first | exact Or.inl rfl | exact Or.inr rfl | assumption)) (cRw1 hR) dX3_takeWork_2 (fun S hR => ?_)
    refine Zr_aload_n C dX3_takeWork_5 rfl ?_
    refine Zr_dup C dX3_takeWork_6 rfl ?_
    refine Zr_getE C gf_X3_78 (cm4 hj) rfl rfl rfl (hR.w hj).2.2.2.2.1 dX3_takeWork_7 ?_
    refine Zr_iconst C (1) dX3_takeWork_10 rfl ?_
    refine Zr_isub C dX3_takeWork_11 ?_
    refine Zr_putE C pf_X3_78 (cm4 hj) rfl rfl rfl (znI _) (cRw5 hR) dX3_takeWork_12 (fun S hR => ?_)
    refine Zr_aload_n C dX3_takeWork_15 rfl ?_
    refine Zr_iconst C (1) dX3_takeWork_16 rfl ?_
    refine Zr_putE C pf_X3_150 (cm4 hj) rfl rfl rfl (znZ (by first | exact Or.inl rfl | exact Or.inr rfl | assumption)) (cRw2 hR) dX3_takeWork_17 (fun S hR => ?_)
    have hR : cRel n (aN (aN (aN σ 1 8 j 1) 1 12 j 1) 1 11 j (σ.1 1 11 j - 1)) S := by have h := hR; rw [aN_sw] at h; exact h
    refine Zr_iload_n C dX3_takeWork_20 rfl ?_
    refine Zr_if_eq C 33 dX3_takeWork_21 (by decide) (fun h21 => absurd h21 (nI_ne0 hz (by omega))) (fun h21 => ?_)
    refine Zr_aload_n C dX3_takeWork_24 rfl ?_
    refine Zr_iload_n C dX3_takeWork_25 rfl ?_
    refine Zr_aload_n C dX3_takeWork_26 rfl ?_
    refine Zr_callV C cw_X3_185 (k_X3_isInTree hB2 hR hj) cm0 rfl rfl rfl (Nat.le_of_ble_eq_true rfl) (Nat.le_of_ble_eq_true rfl) rfl (Nat.le_of_ble_eq_true rfl) dX3_takeWork_27 ⟨Nat.zero_le _, Nat.zero_le _⟩ ?_
    refine Zr_topi (y := 0) (if_neg ht) ?_
    refine Zr_if_eq C 43 dX3_takeWork_30 (by decide) (fun h30 => ?_) (fun h30 => absurd rfl h30)
    refine Zr_aload_n C dX3_takeWork_43 rfl ?_
    refine Zr_iload_n C dX3_takeWork_44 rfl ?_
    refine Zr_putE C pf_X3_189 (cm4 hj) rfl rfl rfl (znI _) (cRw3 hR) dX3_takeWork_45 (fun S hR => ?_)
    exact Zr_vret C dX3_takeWork_48 (Nat.zero_le _) (Nat.zero_le _) ⟨rfl, by rw [ew]; rfl, ⟨_, rfl⟩, by rw [ew]; exact hR⟩
set_option maxHeartbeats 1000000 in
set_option maxRecDepth 100000 in
theorem k_X3_giveToken {l : Launch} {D : va_G} {K : zKs} {n : Nat} {ad : zAd} {ca : Nat → Nat} {S : zSt} {σ : aS} (hB : aB n σ) (hR : cRel n σ S) {i j F : Nat} (hi : i < n) (hj : j < n) (hij : i ≠ j) (hh : S 3 0 0 = nI i) (hlen : (σ.2.1 (10 * i + j)).length < 640) (hF : aLam (aPush (aN σ 1 13 i 0) (10 * i + j) (3, -1, -1)) ≤ F) : zMet l yX3_giveToken cX3_giveToken 3 none { frames := 4, cells := (F - aLam σ), slots := (2 * (F - aLam σ)), locals := 89 } D K (cIL n) (cSh K n (cpo n σ.2.2)) (zA ad ca) S [.ref (zA ad ca (0, 0)), .int (nI i), .int (nI j)] (cP K n ad none (aPush (aN σ 1 13 i 0) (10 * i + j) (3, -1, -1))) := by
  refine zEnter (own := RX3) (lv0 := [some (.ref (zA ad ca (0, 0))), some (.int (nI i)), some (.int (nI j))]) (by decide) rfl (by simp [Value.category]) (Nat.le_of_ble_eq_true rfl) rfl ?_
  intro p e s m below meth c A C _ hnm
  have hn := hB.2.2.1
  have hB2 : aB n (aN σ 1 13 i 0) := hB.a (fun _ => Or.inl rfl)
  refine Zr_aload_n C dX3_giveToken_0 rfl ?_
  refine Zr_getR C gf_X3_41 cm0 rfl rfl rfl (by simp) dX3_giveToken_1 ?_
  refine Zr_iconst C (-1) dX3_giveToken_4 rfl ?_
  refine Zr_putE C pf_X3_126 cm3 rfl rfl rfl (znI _) (cRh0 hR hn hi hh) dX3_giveToken_5 (fun S hR => ?_)
  refine Zr_aload_n C dX3_giveToken_8 rfl ?_
  refine Zr_iload_n C dX3_giveToken_9 rfl ?_
  refine Zr_iload_n C dX3_giveToken_10 rfl ?_
  refine Zr_iconst C (3) dX3_giveToken_11 rfl ?_
  refine Zr_topi (y := cPack (3, -1, -1)) (by decide) ?_
  refine Zr_callVCv C cw_X3_117 (k_X3_put hB2 hR hi hj hij wm3 hF hlen) cm0 rfl rfl rfl (Nat.le_of_ble_eq_true rfl) (Nat.le_of_ble_eq_true rfl) rfl (Nat.le_of_ble_eq_true rfl) dX3_giveToken_12 ⟨by show 0 + (F - aLam σ) ≤ F - aLam σ; omega, by show 0 + 2 * (F - aLam σ) ≤ 2 * (F - aLam σ); omega⟩ (fun ca S hR => ?_)
  exact Zr_vret C dX3_giveToken_15 (by show 0 + (F - aLam σ) ≤ F - aLam σ; omega) (by show 0 + 2 * (F - aLam σ) ≤ 2 * (F - aLam σ); omega) ⟨rfl, rfl, ⟨_, rfl⟩, hR⟩
end
section
def cHg (σ : aS) (a : Nat) : Nat → Bool := fun q => σ.1 1 16 (10 * a + q) != 0 && !(σ.1 1 30 (10 * a + q) != 0)
theorem aBits_or {f g : Nat → Bool} {n : Nat} : aBits f n ||| aBits g n = aBits (fun q => f q || g q) n := by
  apply Nat.eq_of_testBit_eq
  intro i
  rw [Nat.testBit_or, aBits_bit, aBits_bit, aBits_bit]
  cases decide (i < n) <;> simp
theorem c_hang {f g : Nat → Bool} {n : Nat} (hn : n ≤ 10) : nI (aBits f n) &&& (nI (aBits g n) ^^^ (-1)) = nI (aBits (fun q => f q && !g q) n) := by
  have h1 := aBits_10 (f := f) hn
  have h2 := aBits_10 (f := g) hn
  apply Int32.toBitVec_inj.1
  rw [Int32.toBitVec_and, Int32.toBitVec_xor]
  show BitVec.ofNat 32 (aBits f n) &&& (BitVec.ofNat 32 (aBits g n) ^^^ (-1 : Int32).toBitVec) = BitVec.ofNat 32 _
  apply BitVec.eq_of_getLsbD_eq
  intro i hi
  have hm : ((-1 : Int32).toBitVec).getLsbD i = true := (by decide +kernel : ∀ i, i < 32 → ((-1 : Int32).toBitVec).getLsbD i = true) i hi
  rw [BitVec.getLsbD_and, BitVec.getLsbD_xor, hm, BitVec.getLsbD_ofNat, BitVec.getLsbD_ofNat, BitVec.getLsbD_ofNat, aBits_bit, aBits_bit, aBits_bit]
  simp [hi]
  cases decide (i < n) <;> simp
/-- the replies that are noted are those under way -/
def cRp (n : Nat) (σ : aS) : Prop := ∀ a, a < n → ∀ q, q < n → (σ.1 1 30 (10 * a + q) ≠ 0 ↔ aOf 5 (σ.2.1 (10 * q + a)) ≠ 0)
theorem cHg_iff {n : Nat} {σ : aS} (h : cRp n σ) {a q : Nat} (ha : a < n) (hq : q < n) : cHg σ a q = true ↔ aHangs σ a q := by
  have := h a ha q hq
  simp only [cHg, aHangs, Bool.and_eq_true, bne_iff_ne, ne_eq, Bool.not_eq_true', bne_eq_false_iff_eq]
  constructor
  · rintro ⟨h1, h2⟩
    exact ⟨h1, Classical.byContradiction (fun h3 => this.mpr h3 h2)⟩
  · rintro ⟨h1, h2⟩
    exact ⟨h1, Classical.byContradiction (fun h3 => this.mp h3 h2)⟩
/-- what is reached: those that i hangs on; none that a closed set must not hold -/
def cMk (σ : aS) (n i : Nat) (X : Nat → Bool) : Prop := (∀ q, q < n → aHangs σ i q → X q = true) ∧ ∀ T : Nat → Prop, (∀ q, q < n → aHangs σ i q → T q) → (∀ a b, a < n → b < n → T a → aHangs σ a b → T b) → ∀ q, q < n → X q = true → T q
theorem cMk_yes {σ : aS} {n i : Nat} {X : Nat → Bool} (h : cMk σ n i X) (hi : i < n) (hx : X i = true) : aRing σ n i = 1 := by
  unfold aRing
  rw [if_pos]
  intro T h1 h2
  exact h.2 T h1 h2 i hi hx
theorem cMk_no {σ : aS} {n i : Nat} {X : Nat → Bool} (h : cMk σ n i X) (hi : i < n) (hx : X i = false) (hc : ∀ a b, a < n → b < n → X a = true → aHangs σ a b → X b = true) : aRing σ n i = 0 := by
  unfold aRing
  rw [if_neg]
  intro hr
  have := hr (fun q => q < n ∧ X q = true) (fun q hq hh => ⟨hq, h.1 q hq hh⟩) (fun a b ha hb hT hh => ⟨hb, hc a b ha hb hT.2 hh⟩)
  rw [hx] at this
  exact absurd this.2 (by decide)
theorem cMk_add {σ : aS} {n i a : Nat} {X : Nat → Bool} (hp : cRp n σ) (h : cMk σ n i X) (ha : a < n) (hx : X a = true) : cMk σ n i (fun q => X q || cHg σ a q) := by
  refine ⟨fun q hq hh => by simp [h.1 q hq hh], fun T h1 h2 q hq hX => ?_⟩
  rcases (Bool.or_eq_true _ _).mp hX with hX | hX
  · exact h.2 T h1 h2 q hq hX
  · exact h2 a q ha hq (h.2 T h1 h2 a ha hx) ((cHg_iff hp ha hq).mp hX)
theorem aCnt_mono {f g : Nat → Bool} : ∀ {n : Nat}, (∀ k, k < n → f k = true → g k = true) → aCnt f n ≤ aCnt g n
  | 0, _ => Nat.le_refl _
  | n + 1, h => by
    have ih := aCnt_mono (f := f) (g := g) (n := n) (fun k hk => h k (by omega))
    have hn := h n (by omega)
    simp only [aCnt]
    cases hf : f n with
    | false => simp; omega
    | true => rw [hn hf]; simp; omega
theorem aCnt_lt {f g : Nat → Bool} {x : Nat} : ∀ {n : Nat}, (∀ k, k < n → f k = true → g k = true) → x < n → f x = false → g x = true → aCnt f n < aCnt g n
  | 0, _, hx, _, _ => absurd hx (Nat.not_lt_zero _)
  | n + 1, h, hx, hf, hg => by
    simp only [aCnt]
    by_cases hxn : x = n
    · subst hxn
      have := aCnt_mono (f := f) (g := g) (n := x) (fun k hk => h k (by omega))
      rw [hf, hg]
      simp
      omega
    · have ih := aCnt_lt (f := f) (g := g) (x := x) (n := n) (fun k hk => h k (by omega)) (by omega) hf hg
      have hn := h n (by omega)
      cases hfn : f n with
      | false => simp; omega
      | true => rw [hn hfn]; simp; omega
theorem aCnt_full {f : Nat → Bool} : ∀ {n : Nat}, aCnt f n = n → ∀ k, k < n → f k = true
  | 0, _, k, hk => absurd hk (Nat.not_lt_zero _)
  | n + 1, h, k, hk => by
    have hle := aCnt_le f n
    simp only [aCnt] at h
    cases hf : f n with
    | false => rw [hf] at h; simp at h; omega
    | true =>
      rw [hf] at h
      simp at h
      by_cases hkn : k = n
      · rw [hkn]; exact hf
      · exact aCnt_full h k (by omega)
set_option maxHeartbeats 1000000 in
set_option maxRecDepth 100000 in
theorem k_X3_isInRing {l : Launch} {D : va_G} {K : zKs} {n : Nat} {ad : zAd} {ca : Nat → Nat} {S : zSt} {σ : aS} (hB : aB n σ) (hR : cRel n σ S) {i : Nat} (hi : i < n) (hp : cRp n σ) : zMet l yX3_isInRing cX3_isInRing 5 (some .boolean) { frames := 2, cells := 0, slots := 0, locals := 41 } D K (cIL n) (cSh K n (cpo n σ.2.2)) (zA ad ca) S [.ref (zA ad ca (0, 0)), .int (nI i)] (zEq (some (.int (aRing σ n i))) (cSh K n (cpo n σ.2.2)) (zA ad ca) (S)) := by
  refine zEnter (own := RX3) (lv0 := [some (.ref (zA ad ca (0, 0))), some (.int (nI i)), none, none, none]) (by decide) rfl (by simp [Value.category]) (Nat.le_of_ble_eq_true rfl) rfl ?_
  intro p e s m below meth c A C _ hnm
  have hn := hB.2.2.1
  have hx10 : ∀ X : Nat → Bool, aBits X n < 1024 := fun X => aBits_10 hn
  have hbit : ∀ (X : Nat → Bool) (q : Nat), q < n → (aBits X n).testBit q = X q := fun X q hq => by rw [aBits_bit]; simp [hq]
  have ehang : ∀ a, nI (aBits (fun q => σ.1 1 16 (10 * a + q) != 0) n) &&& (nI (aBits (fun q => σ.1 1 30 (10 * a + q) != 0) n) ^^^ (-1)) = nI (aBits (cHg σ a) n) := fun a => c_hang hn
  have exitY : ∀ (X : Nat → Bool), cMk σ n i X → (X i = true ∨ ∀ a b, a < n → b < n → X a = true → aHangs σ a b → X b = true) → Z p l e ({ frames := 2, cells := 0, slots := 0, locals := 41 } : Room) s m ([.ref (zA ad ca (0, 0)), .int (nI i)] : List Value).toArray below meth c D A 5 (MQ below (zQ (zEq (some (.int (aRing σ n i))) (cSh K n (cpo n σ.2.2)) (zA ad ca) (S)) (cIL n) D A) ([.ref (zA ad ca (0, 0)), .int (nI i)] : List Value).toArray s 0 0 A) (cIL n) 0 0 (cSh K n (cpo n σ.2.2)) (zA ad ca) S (74) ([some (.ref (zA ad ca (0, 0))), some (.int (nI i)), some (.int (nI (aBits X n))), none, none]) ([]) := by
    intro X hM hor
    cases hXi : X i with
    | true =>
      have er := cMk_yes hM hi hXi
      refine Zr_iload_n C dX3_isInRing_74 rfl ?_
      refine Zr_iload_n C dX3_isInRing_75 rfl ?_
      refine Zr_callS C cw_X3_110 (k_X3_holds (hx10 X) (by omega)) rfl (Nat.le_of_ble_eq_true rfl) (Nat.le_of_ble_eq_true rfl) rfl (Nat.le_of_ble_eq_true rfl) dX3_isInRing_76 ⟨Nat.zero_le _, Nat.zero_le _⟩ ?_
      refine Zr_topi (y := 1) (if_pos (by rw [hbit X i hi]; exact hXi)) ?_
      exact Zr_zret C dX3_isInRing_79 (Nat.zero_le _) (Nat.zero_le _) (by first | exact Or.inl rfl | exact Or.inr rfl | assumption) ⟨by rw [er], rfl, rfl, rfl⟩
    | false =>
      have er := cMk_no hM hi hXi (hor.resolve_left (fun h => by rw [h] at hXi; cases hXi))
      refine Zr_iload_n C dX3_isInRing_74 rfl ?_
      refine Zr_iload_n C dX3_isInRing_75 rfl ?_
      refine Zr_callS C cw_X3_110 (k_X3_holds (hx10 X) (by omega)) rfl (Nat.le_of_ble_eq_true rfl) (Nat.le_of_ble_eq_true rfl) rfl (Nat.le_of_ble_eq_true rfl) dX3_isInRing_76 ⟨Nat.zero_le _, Nat.zero_le _⟩ ?_
      refine Zr_topi (y := 0) (if_neg (by rw [hbit X i hi, hXi]; decide)) ?_
      exact Zr_zret C dX3_isInRing_79 (Nat.zero_le _) (Nat.zero_le _) (by first | exact Or.inl rfl | exact Or.inr rfl | assumption) ⟨by rw [er], rfl, rfl, rfl⟩
  have keyT : ∀ (d t : Nat) (X : Nat → Bool), t + d = n → cMk σ n i X → ((∀ a b, a < n → b < n → X a = true → aHangs σ a b → X b = true) ∨ t ≤ aCnt X n) → Z p l e ({ frames := 2, cells := 0, slots := 0, locals := 41 } : Room) s m ([.ref (zA ad ca (0, 0)), .int (nI i)] : List Value).toArray below meth c D A 5 (MQ below (zQ (zEq (some (.int (aRing σ n i))) (cSh K n (cpo n σ.2.2)) (zA ad ca) (S)) (cIL n) D A) ([.ref (zA ad ca (0, 0)), .int (nI i)] : List Value).toArray s 0 0 A) (cIL n) 0 0 (cSh K n (cpo n σ.2.2)) (zA ad ca) S (12) ([some (.ref (zA ad ca (0, 0))), some (.int (nI i)), some (.int (nI (aBits X n))), some (.int (nI t)), none]) ([]) := by
    intro d
    induction d with
    | zero =>
      intro t X ht hM hor
      have ht : t = n := by omega
      subst ht
      refine Zr_iload_n C dX3_isInRing_12 rfl ?_
      refine Zr_aload_n C dX3_isInRing_13 rfl ?_
      refine Zr_getE C gf_X3_18 cm0 rfl rfl rfl hR.1.1 dX3_isInRing_14 ?_
      refine Zr_icmp_ge C 74 dX3_isInRing_17 (by decide) (fun h17 => ?_) (fun h17 => absurd (by rw [hB.1]; exact nI_le (Nat.le_refl _) (by omega)) h17)
      exact Zr_forget 3 (exitY X hM (hor.elim Or.inr (fun h => Or.inl (aCnt_full (Nat.le_antisymm (aCnt_le X _) h) i hi))))
    | succ d ih =>
      intro t X0 ht hM0 hor
      have htl : t < n := by omega
      cases hXi : X0 i with
      | true =>
        refine Zr_iload_n C dX3_isInRing_12 rfl ?_
        refine Zr_aload_n C dX3_isInRing_13 rfl ?_
        refine Zr_getE C gf_X3_18 cm0 rfl rfl rfl hR.1.1 dX3_isInRing_14 ?_
        refine Zr_icmp_ge C 74 dX3_isInRing_17 (by decide) (fun h17 => absurd h17 (by rw [hB.1]; exact nI_ge htl (by omega))) (fun h17 => ?_)
        refine Zr_iload_n C dX3_isInRing_20 rfl ?_
        refine Zr_iload_n C dX3_isInRing_21 rfl ?_
        refine Zr_callS C cw_X3_110 (k_X3_holds (hx10 X0) (by omega)) rfl (Nat.le_of_ble_eq_true rfl) (Nat.le_of_ble_eq_true rfl) rfl (Nat.le_of_ble_eq_true rfl) dX3_isInRing_22 ⟨Nat.zero_le _, Nat.zero_le _⟩ ?_
        refine Zr_topi (y := 1) (if_pos (by rw [hbit X0 i hi]; exact hXi)) ?_
        refine Zr_if_ne C 74 dX3_isInRing_25 (by decide) (fun h25 => ?_) (fun h25 => absurd h25 (by decide))
        exact Zr_forget 3 (exitY X0 hM0 (Or.inl hXi))
      | false =>
        have keyQ : ∀ (d2 q : Nat) (X : Nat → Bool), q + d2 = n → cMk σ n i X → (∀ k, k < n → X0 k = true → X k = true) → (∀ a b, a < q → b < n → X0 a = true → aHangs σ a b → X b = true) → Z p l e ({ frames := 2, cells := 0, slots := 0, locals := 41 } : Room) s m ([.ref (zA ad ca (0, 0)), .int (nI i)] : List Value).toArray below meth c D A 5 (MQ below (zQ (zEq (some (.int (aRing σ n i))) (cSh K n (cpo n σ.2.2)) (zA ad ca) (S)) (cIL n) D A) ([.ref (zA ad ca (0, 0)), .int (nI i)] : List Value).toArray s 0 0 A) (cIL n) 0 0 (cSh K n (cpo n σ.2.2)) (zA ad ca) S (31) ([some (.ref (zA ad ca (0, 0))), some (.int (nI i)), some (.int (nI (aBits X n))), some (.int (nI t)), some (.int (nI q))]) ([]) := by
          intro d2
          induction d2 with
          | zero =>
            intro q X hq hM hsub hcl
            have hq : q = n := by omega
            subst hq
            have hnext : (∀ a b, a < q → b < q → X a = true → aHangs σ a b → X b = true) ∨ t + 1 ≤ aCnt X q := by
              by_cases hsame : ∀ k, k < q → X k = true → X0 k = true
              · left
                intro a b ha hb hXa hh
                exact hcl a b ha hb (hsame a ha hXa) hh
              · right
                obtain ⟨k, hk⟩ := Classical.not_forall.mp hsame
                simp only [Classical.not_imp] at hk
                obtain ⟨hk1, hk2, hk3⟩ := hk
                have hlt := aCnt_lt (f := X0) (g := X) hsub hk1 (by simpa using hk3) hk2
                rcases hor with hc | hc
                · exfalso
                  have hXk : X0 k = true := hM.2 (fun z => X0 z = true) (fun z hz hh => hM0.1 z hz hh) (fun a b ha hb hT hh => hc a b ha hb hT hh) k hk1 hk2
                  exact hk3 hXk
                · omega
            refine Zr_iload C dX3_isInRing_31 rfl ?_
            refine Zr_aload_n C dX3_isInRing_33 rfl ?_
            refine Zr_getE C gf_X3_18 cm0 rfl rfl rfl hR.1.1 dX3_isInRing_34 ?_
            refine Zr_icmp_ge C 68 dX3_isInRing_37 (by decide) (fun h37 => ?_) (fun h37 => absurd (by rw [hB.1]; exact nI_le (Nat.le_refl _) (by omega)) h37)
            refine Zr_iincE C (1) (nI (t + 1)) dX3_isInRing_68 (by decide) rfl rfl (nI_1 _) ?_
            refine Zr_goto C 12 dX3_isInRing_71 (by decide) ?_
            exact Zr_forget 4 (ih (t + 1) X (by omega) hM hnext)
          | succ d2 ih2 =>
            intro q X hq hM hsub hcl
            have hql : q < n := by omega
            cases hXq : X q with
            | true =>
              have hM2 := cMk_add hp hM hql hXq
              refine Zr_iload C dX3_isInRing_31 rfl ?_
              refine Zr_aload_n C dX3_isInRing_33 rfl ?_
              refine Zr_getE C gf_X3_18 cm0 rfl rfl rfl hR.1.1 dX3_isInRing_34 ?_
              refine Zr_icmp_ge C 68 dX3_isInRing_37 (by decide) (fun h37 => absurd h37 (by rw [hB.1]; exact nI_ge hql (by omega))) (fun h37 => ?_)
              refine Zr_iload_n C dX3_isInRing_40 rfl ?_
              refine Zr_iload C dX3_isInRing_41 rfl ?_
              refine Zr_callS C cw_X3_110 (k_X3_holds (hx10 X) (by omega)) rfl (Nat.le_of_ble_eq_true rfl) (Nat.le_of_ble_eq_true rfl) rfl (Nat.le_of_ble_eq_true rfl) dX3_isInRing_43 ⟨Nat.zero_le _, Nat.zero_le _⟩ ?_
              refine Zr_topi (y := 1) (if_pos (by rw [hbit X q hql]; exact hXq)) ?_
              refine Zr_if_eq C 62 dX3_isInRing_46 (by decide) (fun h46 => absurd h46 (by decide)) (fun h46 => ?_)
              refine Zr_iload_n C dX3_isInRing_49 rfl ?_
              refine Zr_aload_n C dX3_isInRing_50 rfl ?_
              refine Zr_getR C gf_X3_26 cm0 rfl rfl rfl (by simp) dX3_isInRing_51 ?_
              refine Zr_iload C dX3_isInRing_54 rfl ?_
              refine Zr_aaldS C 2 cm1 rfl rfl rfl hql (by omega) rfl dX3_isInRing_56 ?_
              refine Zr_callV C cw_X3_246 (k_X2_hangsOn hn hR hql) (cm4 hql) rfl rfl rfl (Nat.le_of_ble_eq_true rfl) (Nat.le_of_ble_eq_true rfl) rfl (Nat.le_of_ble_eq_true rfl) dX3_isInRing_57 ⟨Nat.zero_le _, Nat.zero_le _⟩ ?_
              refine Zr_topi (y := nI (aBits (cHg σ q) n)) (ehang q) ?_
              refine Zr_ior C dX3_isInRing_60 ?_
              refine Zr_topi (y := nI (aBits (fun z => X z || cHg σ q z) n)) (by rw [c_lor, aBits_or]) ?_
              refine Zr_istore_n C dX3_isInRing_61 (by decide) ?_
              refine Zr_iincE C (1) (nI (q + 1)) dX3_isInRing_62 (by decide) rfl rfl (nI_1 _) ?_
              refine Zr_goto C 31 dX3_isInRing_65 (by decide) ?_
              exact ih2 (q + 1) (fun z => X z || cHg σ q z) (by omega) hM2 (fun k hk h => by simp [hsub k hk h]) (fun a b ha hb h1 h2 => by by_cases haq : a = q; (rw [haq] at h2; simp [(cHg_iff hp hql hb).mpr h2]); simp [hcl a b (by omega) hb h1 h2])
            | false =>
              refine Zr_iload C dX3_isInRing_31 rfl ?_
              refine Zr_aload_n C dX3_isInRing_33 rfl ?_
              refine Zr_getE C gf_X3_18 cm0 rfl rfl rfl hR.1.1 dX3_isInRing_34 ?_
              refine Zr_icmp_ge C 68 dX3_isInRing_37 (by decide) (fun h37 => absurd h37 (by rw [hB.1]; exact nI_ge hql (by omega))) (fun h37 => ?_)
              refine Zr_iload_n C dX3_isInRing_40 rfl ?_
              refine Zr_iload C dX3_isInRing_41 rfl ?_
              refine Zr_callS C cw_X3_110 (k_X3_holds (hx10 X) (by omega)) rfl (Nat.le_of_ble_eq_true rfl) (Nat.le_of_ble_eq_true rfl) rfl (Nat.le_of_ble_eq_true rfl) dX3_isInRing_43 ⟨Nat.zero_le _, Nat.zero_le _⟩ ?_
              refine Zr_topi (y := 0) (if_neg (by rw [hbit X q hql, hXq]; decide)) ?_
              refine Zr_if_eq C 62 dX3_isInRing_46 (by decide) (fun h46 => ?_) (fun h46 => absurd rfl h46)
              refine Zr_iincE C (1) (nI (q + 1)) dX3_isInRing_62 (by decide) rfl rfl (nI_1 _) ?_
              refine Zr_goto C 31 dX3_isInRing_65 (by decide) ?_
              exact ih2 (q + 1) X (by omega) hM hsub (fun a b ha hb h1 h2 => by by_cases haq : a = q; (rw [haq] at h1; rw [hsub q hql h1] at hXq; cases hXq); exact hcl a b (by omega) hb h1 h2)
        refine Zr_iload_n C dX3_isInRing_12 rfl ?_
        refine Zr_aload_n C dX3_isInRing_13 rfl ?_
        refine Zr_getE C gf_X3_18 cm0 rfl rfl rfl hR.1.1 dX3_isInRing_14 ?_
        refine Zr_icmp_ge C 74 dX3_isInRing_17 (by decide) (fun h17 => absurd h17 (by rw [hB.1]; exact nI_ge htl (by omega))) (fun h17 => ?_)
        refine Zr_iload_n C dX3_isInRing_20 rfl ?_
        refine Zr_iload_n C dX3_isInRing_21 rfl ?_
        refine Zr_callS C cw_X3_110 (k_X3_holds (hx10 X0) (by omega)) rfl (Nat.le_of_ble_eq_true rfl) (Nat.le_of_ble_eq_true rfl) rfl (Nat.le_of_ble_eq_true rfl) dX3_isInRing_22 ⟨Nat.zero_le _, Nat.zero_le _⟩ ?_
        refine Zr_topi (y := 0) (if_neg (by rw [hbit X0 i hi, hXi]; decide)) ?_
        refine Zr_if_ne C 74 dX3_isInRing_25 (by decide) (fun h25 => absurd rfl h25) (fun h25 => ?_)
        refine Zr_iconst C (0) dX3_isInRing_28 rfl ?_
        refine Zr_istore C dX3_isInRing_29 (by decide) ?_
        exact keyQ n 0 X0 (by omega) hM0 (fun k hk h => h) (fun a b ha => absurd ha (Nat.not_lt_zero _))
  refine Zr_aload_n C dX3_isInRing_0 rfl ?_
  refine Zr_getR C gf_X3_26 cm0 rfl rfl rfl (by simp) dX3_isInRing_1 ?_
  refine Zr_iload_n C dX3_isInRing_4 rfl ?_
  refine Zr_aaldS C 2 cm1 rfl rfl rfl hi (by omega) rfl dX3_isInRing_5 ?_
  refine Zr_callV C cw_X3_246 (k_X2_hangsOn hn hR hi) (cm4 hi) rfl rfl rfl (Nat.le_of_ble_eq_true rfl) (Nat.le_of_ble_eq_true rfl) rfl (Nat.le_of_ble_eq_true rfl) dX3_isInRing_6 ⟨Nat.zero_le _, Nat.zero_le _⟩ ?_
  refine Zr_topi (y := nI (aBits (cHg σ i) n)) (ehang i) ?_
  refine Zr_istore_n C dX3_isInRing_9 (by decide) ?_
  refine Zr_iconst C (0) dX3_isInRing_10 rfl ?_
  refine Zr_istore_n C dX3_isInRing_11 (by decide) ?_
  exact keyT n 0 (cHg σ i) (by omega) ⟨fun q hq hh => (cHg_iff hp hi hq).mpr hh, fun T h1 h2 q hq hX => h1 q hq ((cHg_iff hp hi hq).mp hX)⟩ (Or.inr (Nat.zero_le _))
set_option maxHeartbeats 1000000 in
set_option maxRecDepth 100000 in
theorem k_X3_tellDead {l : Launch} {D : va_G} {K : zKs} {n : Nat} {ad : zAd} {ca : Nat → Nat} {S : zSt} {σ : aS} (hB : aB n σ) (hR : cRel n σ S) {i : Nat} (hi : i < n) (hp : cRp n σ) : zMet l yX3_tellDead cX3_tellDead 3 none { frames := 3, cells := 0, slots := 0, locals := 65 } D K (cIL n) (cSh K n (cpo n σ.2.2)) (zA ad ca) S [.ref (zA ad ca (0, 0)), .int (nI i), .ref (zA ad ca (4, i))] (zR none (cSh K n (cpo n σ.2.2)) (zA ad ca) (cRel n (aDead n σ i))) := by
  refine zEnter (own := RX3) (lv0 := [some (.ref (zA ad ca (0, 0))), some (.int (nI i)), some (.ref (zA ad ca (4, i)))]) (by decide) rfl (by simp [Value.category]) (Nat.le_of_ble_eq_true rfl) rfl ?_
  intro p e s m below meth c A C _ hnm
  have hB2 : aB n (aN (aN σ 1 14 i (σ.1 1 14 i + 1)) 0 0 7 (σ.1 0 0 7 + 1)) := (hB.a (fun h => by omega)).g (by decide) (fun h => by omega)
  refine Zr_aload_n C dX3_tellDead_0 rfl ?_
  refine Zr_dup C dX3_tellDead_1 rfl ?_
  refine Zr_getE C gf_X3_192 (cm4 hi) rfl rfl rfl (hR.w hi).2.2.2.2.2.2.2.2.1 dX3_tellDead_2 ?_
  refine Zr_iconst C (1) dX3_tellDead_5 rfl ?_
  refine Zr_iadd C dX3_tellDead_6 ?_
  refine Zr_putE C pf_X3_192 (cm4 hi) rfl rfl rfl (znI _) (cRw9 hR) dX3_tellDead_7 (fun S hR => ?_)
  refine Zr_aload_n C dX3_tellDead_10 rfl ?_
  refine Zr_dup C dX3_tellDead_11 rfl ?_
  refine Zr_getE C gf_X3_226 cm0 rfl rfl rfl hR.1.2.2.2.2.2.2.1 dX3_tellDead_12 ?_
  refine Zr_iconst C (1) dX3_tellDead_15 rfl ?_
  refine Zr_iadd C dX3_tellDead_16 ?_
  refine Zr_putE C pf_X3_226 cm0 rfl rfl rfl (znI _) (cRm9 hR) dX3_tellDead_17 (fun S hR => ?_)
  refine Zr_aload_n C dX3_tellDead_20 rfl ?_
  refine Zr_iload_n C dX3_tellDead_21 rfl ?_
  refine Zr_callV C cw_X3_243 (k_X3_isInRing (σ := (aN (aN σ 1 14 i (σ.1 1 14 i + 1)) 0 0 7 (σ.1 0 0 7 + 1))) hB2 hR hi hp) cm0 rfl rfl rfl (Nat.le_of_ble_eq_true rfl) (Nat.le_of_ble_eq_true rfl) rfl (Nat.le_of_ble_eq_true rfl) dX3_tellDead_22 ⟨Nat.zero_le _, Nat.zero_le _⟩ ?_
  refine Zr_if_ne C 38 dX3_tellDead_25 (by decide) (fun h25 => ?_) (fun h25 => ?_)
  · exact Zr_vret C dX3_tellDead_38 (Nat.zero_le _) (Nat.zero_le _) ⟨rfl, rfl, rfl, by rw [aDead]; first | (rw [if_neg h25]; exact hR) | (rw [if_pos h25]; exact hR)⟩
  · refine Zr_aload_n C dX3_tellDead_28 rfl ?_
    refine Zr_dup C dX3_tellDead_29 rfl ?_
    refine Zr_getE C gf_X3_210 cm0 rfl rfl rfl hR.1.2.2.2.2.2.1 dX3_tellDead_30 ?_
    refine Zr_iconst C (1) dX3_tellDead_33 rfl ?_
    refine Zr_iadd C dX3_tellDead_34 ?_
    refine Zr_putE C pf_X3_210 cm0 rfl rfl rfl (znI _) (cRm8 hR) dX3_tellDead_35 (fun S hR => ?_)
    exact Zr_vret C dX3_tellDead_38 (Nat.zero_le _) (Nat.zero_le _) ⟨rfl, rfl, rfl, by rw [aDead]; first | (rw [if_neg h25]; exact hR) | (rw [if_pos h25]; exact hR)⟩
theorem aDead_2 {n : Nat} {σ : aS} {i : Nat} : (aDead n σ i).2 = σ.2 := by
  unfold aDead
  dsimp only
  split <;> rfl
set_option maxHeartbeats 1000000 in
set_option maxRecDepth 100000 in
theorem k_X3_takeProbe {l : Launch} {D : va_G} {K : zKs} {n : Nat} {ad : zAd} {ca : Nat → Nat} {S : zSt} {σ : aS} (hB : aB n σ) (hR : cRel n σ S) {j k i u F : Nat} (hj : j < n) (hk : k < n) (hi : i < n) (hu : u < 51) (hp : cRp n σ) (hdw : σ.1 1 16 (10 * k + k) = 0) (hlen : ∀ r, r < 100 → (σ.2.1 r).length < 640) (hF : aLam (aProbed n σ j k i (nI u)) ≤ F) : zMet l yX3_takeProbe cX3_takeProbe 6 none { frames := 4, cells := (F - aLam σ), slots := (2 * (F - aLam σ)), locals := 90 } D K (cIL n) (cSh K n (cpo n σ.2.2)) (zA ad ca) S [.ref (zA ad ca (0, 0)), .int (nI j), .int (nI k), .ref (zA ad ca (4, k)), .int (cPack (6, nI i, nI u))] (cP K n ad none (aProbed n σ j k i (nI u))) := by
  refine zEnter (own := RX3) (lv0 := [some (.ref (zA ad ca (0, 0))), some (.int (nI j)), some (.int (nI k)), some (.ref (zA ad ca (4, k))), some (.int (cPack (6, nI i, nI u))), none]) (by decide) rfl (by simp [Value.category]) (Nat.le_of_ble_eq_true rfl) rfl ?_
  intro p e s m below meth c A C _ hnm
  have hn := hB.2.2.1
  have hpb := aBits_10 (f := fun q => σ.1 1 17 (10 * k + q) != 0) hn
  have hpt : (aBits (fun q => σ.1 1 17 (10 * k + q) != 0) n).testBit j = (σ.1 1 17 (10 * k + j) != 0) := by rw [aBits_bit]; simp [hj]
  obtain ⟨c1, c2, c3⟩ := cPk i (by omega) u hu
  have hwm : aWM n (6, nI i, nI u) := Or.inr ⟨rfl, i, hi, rfl, u, hu, rfl⟩
  by_cases hw : aWf σ n k = 0
  · have hl : aProbed n σ j k i (nI u) = σ := by rw [aProbed, if_pos (Or.inl hw)]
    refine Zr_aload_n C dX3_takeProbe_0 rfl ?_
    refine Zr_callV C cw_X3_104 (k_X2_isBlocked hn hR hk) (cm4 hk) rfl rfl rfl (Nat.le_of_ble_eq_true rfl) (Nat.le_of_ble_eq_true rfl) rfl (Nat.le_of_ble_eq_true rfl) dX3_takeProbe_1 ⟨Nat.zero_le _, Nat.zero_le _⟩ ?_
    refine Zr_topi (y := 0) (if_pos hw) ?_
    refine Zr_if_eq C 18 dX3_takeProbe_4 (by decide) (fun h4 => ?_) (fun h4 => absurd rfl h4)
    exact Zr_vret C dX3_takeProbe_18 (Nat.zero_le _) (Nat.zero_le _) ⟨rfl, by rw [hl], ⟨_, rfl⟩, by rw [hl]; exact hR⟩
  · by_cases hpd : σ.1 1 17 (10 * k + j) = 0
    · have hl : aProbed n σ j k i (nI u) = σ := by rw [aProbed, if_pos (Or.inr hpd)]
      refine Zr_aload_n C dX3_takeProbe_0 rfl ?_
      refine Zr_callV C cw_X3_104 (k_X2_isBlocked hn hR hk) (cm4 hk) rfl rfl rfl (Nat.le_of_ble_eq_true rfl) (Nat.le_of_ble_eq_true rfl) rfl (Nat.le_of_ble_eq_true rfl) dX3_takeProbe_1 ⟨Nat.zero_le _, Nat.zero_le _⟩ ?_
      refine Zr_topi (y := 1) (if_neg hw) ?_
      refine Zr_if_eq C 18 dX3_takeProbe_4 (by decide) (fun h4 => absurd h4 (by decide)) (fun h4 => ?_)
      refine Zr_aload_n C dX3_takeProbe_7 rfl ?_
      refine Zr_getE C gf_X3_107 (cm4 hk) rfl rfl rfl (hR.w hk).2.2.2.2.2.2.2.1 dX3_takeProbe_8 ?_
      refine Zr_iload_n C dX3_takeProbe_11 rfl ?_
      refine Zr_callS C cw_X3_110 (k_X3_holds hpb (by omega)) rfl (Nat.le_of_ble_eq_true rfl) (Nat.le_of_ble_eq_true rfl) rfl (Nat.le_of_ble_eq_true rfl) dX3_takeProbe_12 ⟨Nat.zero_le _, Nat.zero_le _⟩ ?_
      refine Zr_topi (y := 0) (if_neg (by rw [hpt]; simp [hpd])) ?_
      refine Zr_if_ne C 19 dX3_takeProbe_15 (by decide) (fun h15 => absurd rfl h15) (fun h15 => ?_)
      exact Zr_vret C dX3_takeProbe_18 (Nat.zero_le _) (Nat.zero_le _) ⟨rfl, by rw [hl], ⟨_, rfl⟩, by rw [hl]; exact hR⟩
    · have hnb : ¬ (aWf σ n k = 0 ∨ σ.1 1 17 (10 * k + j) = 0) := fun h => h.elim hw hpd
      by_cases hki : k = i
      · have hl : aProbed n σ j k i (nI u) = aDead n σ k := by rw [aProbed, if_neg hnb, if_pos hki, hki]
        refine Zr_aload_n C dX3_takeProbe_0 rfl ?_
        refine Zr_callV C cw_X3_104 (k_X2_isBlocked hn hR hk) (cm4 hk) rfl rfl rfl (Nat.le_of_ble_eq_true rfl) (Nat.le_of_ble_eq_true rfl) rfl (Nat.le_of_ble_eq_true rfl) dX3_takeProbe_1 ⟨Nat.zero_le _, Nat.zero_le _⟩ ?_
        refine Zr_topi (y := 1) (if_neg hw) ?_
        refine Zr_if_eq C 18 dX3_takeProbe_4 (by decide) (fun h4 => absurd h4 (by decide)) (fun h4 => ?_)
        refine Zr_aload_n C dX3_takeProbe_7 rfl ?_
        refine Zr_getE C gf_X3_107 (cm4 hk) rfl rfl rfl (hR.w hk).2.2.2.2.2.2.2.1 dX3_takeProbe_8 ?_
        refine Zr_iload_n C dX3_takeProbe_11 rfl ?_
        refine Zr_callS C cw_X3_110 (k_X3_holds hpb (by omega)) rfl (Nat.le_of_ble_eq_true rfl) (Nat.le_of_ble_eq_true rfl) rfl (Nat.le_of_ble_eq_true rfl) dX3_takeProbe_12 ⟨Nat.zero_le _, Nat.zero_le _⟩ ?_
        refine Zr_topi (y := 1) (if_pos (by rw [hpt]; simp [hpd])) ?_
        refine Zr_if_ne C 19 dX3_takeProbe_15 (by decide) (fun h15 => ?_) (fun h15 => absurd h15 (by decide))
        refine Zr_iload C dX3_takeProbe_19 rfl ?_
        refine Zr_callS C cw_X3_198 (k_X3_beginnerOf) rfl (Nat.le_of_ble_eq_true rfl) (Nat.le_of_ble_eq_true rfl) rfl (Nat.le_of_ble_eq_true rfl) dX3_takeProbe_21 ⟨Nat.zero_le _, Nat.zero_le _⟩ ?_
        refine Zr_topi (y := nI i) c2 ?_
        refine Zr_istore C dX3_takeProbe_24 (by decide) ?_
        refine Zr_iload C dX3_takeProbe_26 rfl ?_
        refine Zr_iload_n C dX3_takeProbe_28 rfl ?_
        refine Zr_icmp_ne C 41 dX3_takeProbe_29 (by decide) (fun h29 => absurd (by rw [hki]) h29) (fun h29 => ?_)
        refine Zr_aload_n C dX3_takeProbe_32 rfl ?_
        refine Zr_iload_n C dX3_takeProbe_33 rfl ?_
        refine Zr_aload_n C dX3_takeProbe_34 rfl ?_
        refine Zr_callVRv C cw_X3_237 (k_X3_tellDead hB hR hk hp) cm0 rfl rfl rfl (Nat.le_of_ble_eq_true rfl) (Nat.le_of_ble_eq_true rfl) rfl (Nat.le_of_ble_eq_true rfl) dX3_takeProbe_35 ⟨Nat.zero_le _, Nat.zero_le _⟩ (fun S hR => ?_)
        refine Zr_goto C 66 dX3_takeProbe_38 (by decide) ?_
        exact Zr_vret C dX3_takeProbe_66 (Nat.zero_le _) (Nat.zero_le _) ⟨rfl, by rw [hl, aDead_2], ⟨_, rfl⟩, by rw [hl]; exact hR⟩
      · by_cases hmt : σ.1 1 18 (10 * k + i) < nI u
        · have hl : aProbed n σ j k i (nI u) = aAll (aN σ 1 18 (10 * k + i) (nI u)) k (aWaits σ k) n (6, nI i, nI u) := by rw [aProbed, if_neg hnb, if_neg hki, if_pos hmt]
          have hB2 : aB n (aN σ 1 18 (10 * k + i) (nI u)) := hB.a (fun h => by omega)
          have hF2 : aLam (aAll (aN σ 1 18 (10 * k + i) (nI u)) k (aWaits σ k) n (6, nI i, nI u)) ≤ F := by rw [← hl]; exact hF
          refine Zr_aload_n C dX3_takeProbe_0 rfl ?_
          refine Zr_callV C cw_X3_104 (k_X2_isBlocked hn hR hk) (cm4 hk) rfl rfl rfl (Nat.le_of_ble_eq_true rfl) (Nat.le_of_ble_eq_true rfl) rfl (Nat.le_of_ble_eq_true rfl) dX3_takeProbe_1 ⟨Nat.zero_le _, Nat.zero_le _⟩ ?_
          refine Zr_topi (y := 1) (if_neg hw) ?_
          refine Zr_if_eq C 18 dX3_takeProbe_4 (by decide) (fun h4 => absurd h4 (by decide)) (fun h4 => ?_)
          refine Zr_aload_n C dX3_takeProbe_7 rfl ?_
          refine Zr_getE C gf_X3_107 (cm4 hk) rfl rfl rfl (hR.w hk).2.2.2.2.2.2.2.1 dX3_takeProbe_8 ?_
          refine Zr_iload_n C dX3_takeProbe_11 rfl ?_
          refine Zr_callS C cw_X3_110 (k_X3_holds hpb (by omega)) rfl (Nat.le_of_ble_eq_true rfl) (Nat.le_of_ble_eq_true rfl) rfl (Nat.le_of_ble_eq_true rfl) dX3_takeProbe_12 ⟨Nat.zero_le _, Nat.zero_le _⟩ ?_
          refine Zr_topi (y := 1) (if_pos (by rw [hpt]; simp [hpd])) ?_
          refine Zr_if_ne C 19 dX3_takeProbe_15 (by decide) (fun h15 => ?_) (fun h15 => absurd h15 (by decide))
          refine Zr_iload C dX3_takeProbe_19 rfl ?_
          refine Zr_callS C cw_X3_198 (k_X3_beginnerOf) rfl (Nat.le_of_ble_eq_true rfl) (Nat.le_of_ble_eq_true rfl) rfl (Nat.le_of_ble_eq_true rfl) dX3_takeProbe_21 ⟨Nat.zero_le _, Nat.zero_le _⟩ ?_
          refine Zr_topi (y := nI i) c2 ?_
          refine Zr_istore C dX3_takeProbe_24 (by decide) ?_
          refine Zr_iload C dX3_takeProbe_26 rfl ?_
          refine Zr_iload_n C dX3_takeProbe_28 rfl ?_
          refine Zr_icmp_ne C 41 dX3_takeProbe_29 (by decide) (fun h29 => ?_) (fun h29 => absurd ((nI_eq (by omega) (by omega)).mp h29).symm hki)
          refine Zr_aload_n C dX3_takeProbe_41 rfl ?_
          refine Zr_iload C dX3_takeProbe_42 rfl ?_
          refine Zr_iload C dX3_takeProbe_44 rfl ?_
          refine Zr_callS C cw_X3_201 (k_X3_numberOf) rfl (Nat.le_of_ble_eq_true rfl) (Nat.le_of_ble_eq_true rfl) rfl (Nat.le_of_ble_eq_true rfl) dX3_takeProbe_46 ⟨Nat.zero_le _, Nat.zero_le _⟩ ?_
          refine Zr_topi (y := nI u) c3 ?_
          refine Zr_callVR C cw_X3_240 (k_X2_noteIfNewer_t hn hR hk hi hmt) (cm4 hk) rfl rfl rfl (Nat.le_of_ble_eq_true rfl) (Nat.le_of_ble_eq_true rfl) rfl (Nat.le_of_ble_eq_true rfl) dX3_takeProbe_49 ⟨Nat.zero_le _, Nat.zero_le _⟩ (fun S hR => ?_)
          refine Zr_if_eq C 66 dX3_takeProbe_52 (by decide) (fun h52 => absurd h52 (by decide)) (fun h52 => ?_)
          refine Zr_aload_n C dX3_takeProbe_55 rfl ?_
          refine Zr_iload_n C dX3_takeProbe_56 rfl ?_
          refine Zr_aload_n C dX3_takeProbe_57 rfl ?_
          refine Zr_getE C gf_X3_92 (cm4 hk) rfl rfl rfl (hR.w hk).2.2.2.2.2.1 dX3_takeProbe_58 ?_
          refine Zr_iload C dX3_takeProbe_61 rfl ?_
          refine Zr_callVCv C cw_X3_95 (k_X3_putToEach (σ := aN σ 1 18 (10 * k + i) (nI u)) (f := aWaits σ k) hB2 hR hk (aBits_10 hn) (by simp [aWaits, hdw]) (fun q hq _ => by rw [aBits_bit]; simp [hq, aWaits, aN, z3]) hwm hF2 hlen) cm0 rfl rfl rfl (Nat.le_of_ble_eq_true rfl) (Nat.le_of_ble_eq_true rfl) rfl (Nat.le_of_ble_eq_true rfl) dX3_takeProbe_63 ⟨by show 0 + (F - aLam σ) ≤ F - aLam σ; omega, by show 0 + 2 * (F - aLam σ) ≤ 2 * (F - aLam σ); omega⟩ (fun ca S hR => ?_)
          exact Zr_vret C dX3_takeProbe_66 (by show 0 + (F - aLam σ) ≤ F - aLam σ; omega) (by show 0 + 2 * (F - aLam σ) ≤ 2 * (F - aLam σ); omega) ⟨rfl, by rw [hl], ⟨_, rfl⟩, by rw [hl]; exact hR⟩
        · have hl : aProbed n σ j k i (nI u) = σ := by rw [aProbed, if_neg hnb, if_neg hki, if_neg hmt]
          refine Zr_aload_n C dX3_takeProbe_0 rfl ?_
          refine Zr_callV C cw_X3_104 (k_X2_isBlocked hn hR hk) (cm4 hk) rfl rfl rfl (Nat.le_of_ble_eq_true rfl) (Nat.le_of_ble_eq_true rfl) rfl (Nat.le_of_ble_eq_true rfl) dX3_takeProbe_1 ⟨Nat.zero_le _, Nat.zero_le _⟩ ?_
          refine Zr_topi (y := 1) (if_neg hw) ?_
          refine Zr_if_eq C 18 dX3_takeProbe_4 (by decide) (fun h4 => absurd h4 (by decide)) (fun h4 => ?_)
          refine Zr_aload_n C dX3_takeProbe_7 rfl ?_
          refine Zr_getE C gf_X3_107 (cm4 hk) rfl rfl rfl (hR.w hk).2.2.2.2.2.2.2.1 dX3_takeProbe_8 ?_
          refine Zr_iload_n C dX3_takeProbe_11 rfl ?_
          refine Zr_callS C cw_X3_110 (k_X3_holds hpb (by omega)) rfl (Nat.le_of_ble_eq_true rfl) (Nat.le_of_ble_eq_true rfl) rfl (Nat.le_of_ble_eq_true rfl) dX3_takeProbe_12 ⟨Nat.zero_le _, Nat.zero_le _⟩ ?_
          refine Zr_topi (y := 1) (if_pos (by rw [hpt]; simp [hpd])) ?_
          refine Zr_if_ne C 19 dX3_takeProbe_15 (by decide) (fun h15 => ?_) (fun h15 => absurd h15 (by decide))
          refine Zr_iload C dX3_takeProbe_19 rfl ?_
          refine Zr_callS C cw_X3_198 (k_X3_beginnerOf) rfl (Nat.le_of_ble_eq_true rfl) (Nat.le_of_ble_eq_true rfl) rfl (Nat.le_of_ble_eq_true rfl) dX3_takeProbe_21 ⟨Nat.zero_le _, Nat.zero_le _⟩ ?_
          refine Zr_topi (y := nI i) c2 ?_
          refine Zr_istore C dX3_takeProbe_24 (by decide) ?_
          refine Zr_iload C dX3_takeProbe_26 rfl ?_
          refine Zr_iload_n C dX3_takeProbe_28 rfl ?_
          refine Zr_icmp_ne C 41 dX3_takeProbe_29 (by decide) (fun h29 => ?_) (fun h29 => absurd ((nI_eq (by omega) (by omega)).mp h29).symm hki)
          refine Zr_aload_n C dX3_takeProbe_41 rfl ?_
          refine Zr_iload C dX3_takeProbe_42 rfl ?_
          refine Zr_iload C dX3_takeProbe_44 rfl ?_
          refine Zr_callS C cw_X3_201 (k_X3_numberOf) rfl (Nat.le_of_ble_eq_true rfl) (Nat.le_of_ble_eq_true rfl) rfl (Nat.le_of_ble_eq_true rfl) dX3_takeProbe_46 ⟨Nat.zero_le _, Nat.zero_le _⟩ ?_
          refine Zr_topi (y := nI u) c3 ?_
          refine Zr_callV C cw_X3_240 (k_X2_noteIfNewer_f hn hR hk hi hmt) (cm4 hk) rfl rfl rfl (Nat.le_of_ble_eq_true rfl) (Nat.le_of_ble_eq_true rfl) rfl (Nat.le_of_ble_eq_true rfl) dX3_takeProbe_49 ⟨Nat.zero_le _, Nat.zero_le _⟩ ?_
          refine Zr_if_eq C 66 dX3_takeProbe_52 (by decide) (fun h52 => ?_) (fun h52 => absurd rfl h52)
          exact Zr_vret C dX3_takeProbe_66 (Nat.zero_le _) (Nat.zero_le _) ⟨rfl, by rw [hl], ⟨_, rfl⟩, by rw [hl]; exact hR⟩
end
