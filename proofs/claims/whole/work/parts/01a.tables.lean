-- ===== PART A: goes FIRST, ahead of the names: the tables' words, and 'selects' of the private methods out of them =====
/-- a private method of a class that the tables say can be made, by its rows of tables_1 -/
def lw_okq (q : MethodName × Nat) : Prop := (q.1.cls ≠ "java/lang/invoke/MethodHandle" ∧ q.1.cls ≠ "java/lang/invoke/VarHandle") ∧ Cond.instantiable q.1.cls q.2 ∈ tables_1 ∧ Cond.privateMethod q.1 ∈ tables_1 ∧ Cond.instanceMethod q.1 ∈ tables_1
theorem lw_p0 : lw_okq (⟨"QuietWatch", "workerAt", "(I)LQuietWatch$Worker;"⟩, 11) := ⟨⟨by decide +kernel, by decide +kernel⟩, List.mem_of_getElem? (i := 9) (by decide +kernel), List.mem_of_getElem? (i := 164) (by decide +kernel), List.mem_of_getElem? (i := 165) (by decide +kernel)⟩
theorem lw_p1 : lw_okq (⟨"QuietWatch", "isProcess", "(I)Z"⟩, 11) := ⟨⟨by decide +kernel, by decide +kernel⟩, List.mem_of_getElem? (i := 9) (by decide +kernel), List.mem_of_getElem? (i := 168) (by decide +kernel), List.mem_of_getElem? (i := 169) (by decide +kernel)⟩
theorem lw_p2 : lw_okq (⟨"QuietWatch", "rowBetween", "(II)LQuietWatch$Row;"⟩, 11) := ⟨⟨by decide +kernel, by decide +kernel⟩, List.mem_of_getElem? (i := 9) (by decide +kernel), List.mem_of_getElem? (i := 172) (by decide +kernel), List.mem_of_getElem? (i := 173) (by decide +kernel)⟩
theorem lw_p3 : lw_okq (⟨"QuietWatch$Row", "grow", "()V"⟩, 4) := ⟨⟨by decide +kernel, by decide +kernel⟩, List.mem_of_getElem? (i := 78) (by decide +kernel), List.mem_of_getElem? (i := 188) (by decide +kernel), List.mem_of_getElem? (i := 189) (by decide +kernel)⟩
theorem lw_p4 : lw_okq (⟨"QuietWatch$Row", "placeOf", "(I)I"⟩, 4) := ⟨⟨by decide +kernel, by decide +kernel⟩, List.mem_of_getElem? (i := 78) (by decide +kernel), List.mem_of_getElem? (i := 192) (by decide +kernel), List.mem_of_getElem? (i := 193) (by decide +kernel)⟩
theorem lw_p5 : lw_okq (⟨"QuietWatch", "leaveTreeIfDone", "(ILQuietWatch$Worker;)V"⟩, 11) := ⟨⟨by decide +kernel, by decide +kernel⟩, List.mem_of_getElem? (i := 9) (by decide +kernel), List.mem_of_getElem? (i := 206) (by decide +kernel), List.mem_of_getElem? (i := 207) (by decide +kernel)⟩
theorem lw_p6 : lw_okq (⟨"QuietWatch", "isInTree", "(ILQuietWatch$Worker;)Z"⟩, 11) := ⟨⟨by decide +kernel, by decide +kernel⟩, List.mem_of_getElem? (i := 9) (by decide +kernel), List.mem_of_getElem? (i := 210) (by decide +kernel), List.mem_of_getElem? (i := 211) (by decide +kernel)⟩
theorem lw_p7 : lw_okq (⟨"QuietWatch", "judgeEnd", "()V"⟩, 11) := ⟨⟨by decide +kernel, by decide +kernel⟩, List.mem_of_getElem? (i := 9) (by decide +kernel), List.mem_of_getElem? (i := 214) (by decide +kernel), List.mem_of_getElem? (i := 215) (by decide +kernel)⟩
theorem lw_p8 : lw_okq (⟨"QuietWatch", "worksUnderWay", "()I"⟩, 11) := ⟨⟨by decide +kernel, by decide +kernel⟩, List.mem_of_getElem? (i := 9) (by decide +kernel), List.mem_of_getElem? (i := 222) (by decide +kernel), List.mem_of_getElem? (i := 223) (by decide +kernel)⟩
theorem lw_p9 : lw_okq (⟨"QuietWatch", "put", "(III)V"⟩, 11) := ⟨⟨by decide +kernel, by decide +kernel⟩, List.mem_of_getElem? (i := 9) (by decide +kernel), List.mem_of_getElem? (i := 226) (by decide +kernel), List.mem_of_getElem? (i := 227) (by decide +kernel)⟩
theorem lw_p10 : lw_okq (⟨"QuietWatch", "putToEach", "(III)V"⟩, 11) := ⟨⟨by decide +kernel, by decide +kernel⟩, List.mem_of_getElem? (i := 9) (by decide +kernel), List.mem_of_getElem? (i := 240) (by decide +kernel), List.mem_of_getElem? (i := 241) (by decide +kernel)⟩
theorem lw_p11 : lw_okq (⟨"QuietWatch", "giveToken", "(II)V"⟩, 11) := ⟨⟨by decide +kernel, by decide +kernel⟩, List.mem_of_getElem? (i := 9) (by decide +kernel), List.mem_of_getElem? (i := 273) (by decide +kernel), List.mem_of_getElem? (i := 274) (by decide +kernel)⟩
theorem lw_p12 : lw_okq (⟨"QuietWatch", "takeWork", "(IILQuietWatch$Worker;)V"⟩, 11) := ⟨⟨by decide +kernel, by decide +kernel⟩, List.mem_of_getElem? (i := 9) (by decide +kernel), List.mem_of_getElem? (i := 294) (by decide +kernel), List.mem_of_getElem? (i := 295) (by decide +kernel)⟩
theorem lw_p13 : lw_okq (⟨"QuietWatch", "takeProbe", "(IILQuietWatch$Worker;I)V"⟩, 11) := ⟨⟨by decide +kernel, by decide +kernel⟩, List.mem_of_getElem? (i := 9) (by decide +kernel), List.mem_of_getElem? (i := 298) (by decide +kernel), List.mem_of_getElem? (i := 299) (by decide +kernel)⟩
theorem lw_p14 : lw_okq (⟨"QuietWatch", "tellDead", "(ILQuietWatch$Worker;)V"⟩, 11) := ⟨⟨by decide +kernel, by decide +kernel⟩, List.mem_of_getElem? (i := 9) (by decide +kernel), List.mem_of_getElem? (i := 305) (by decide +kernel), List.mem_of_getElem? (i := 306) (by decide +kernel)⟩
theorem lw_p15 : lw_okq (⟨"QuietWatch", "isInRing", "(I)Z"⟩, 11) := ⟨⟨by decide +kernel, by decide +kernel⟩, List.mem_of_getElem? (i := 9) (by decide +kernel), List.mem_of_getElem? (i := 309) (by decide +kernel), List.mem_of_getElem? (i := 310) (by decide +kernel)⟩
def lw_privs_1 : List (MethodName × Nat) := [(⟨"QuietWatch", "workerAt", "(I)LQuietWatch$Worker;"⟩, 11), (⟨"QuietWatch", "isProcess", "(I)Z"⟩, 11), (⟨"QuietWatch", "rowBetween", "(II)LQuietWatch$Row;"⟩, 11), (⟨"QuietWatch$Row", "grow", "()V"⟩, 4), (⟨"QuietWatch$Row", "placeOf", "(I)I"⟩, 4), (⟨"QuietWatch", "leaveTreeIfDone", "(ILQuietWatch$Worker;)V"⟩, 11), (⟨"QuietWatch", "isInTree", "(ILQuietWatch$Worker;)Z"⟩, 11), (⟨"QuietWatch", "judgeEnd", "()V"⟩, 11), (⟨"QuietWatch", "worksUnderWay", "()I"⟩, 11), (⟨"QuietWatch", "put", "(III)V"⟩, 11), (⟨"QuietWatch", "putToEach", "(III)V"⟩, 11), (⟨"QuietWatch", "giveToken", "(II)V"⟩, 11), (⟨"QuietWatch", "takeWork", "(IILQuietWatch$Worker;)V"⟩, 11), (⟨"QuietWatch", "takeProbe", "(IILQuietWatch$Worker;I)V"⟩, 11), (⟨"QuietWatch", "tellDead", "(ILQuietWatch$Worker;)V"⟩, 11), (⟨"QuietWatch", "isInRing", "(I)Z"⟩, 11)]
theorem lw_r1 : ∀ q ∈ lw_privs_1, lw_okq q := List.forall_mem_cons.mpr ⟨lw_p0, List.forall_mem_cons.mpr ⟨lw_p1, List.forall_mem_cons.mpr ⟨lw_p2, List.forall_mem_cons.mpr ⟨lw_p3, List.forall_mem_cons.mpr ⟨lw_p4, List.forall_mem_cons.mpr ⟨lw_p5, List.forall_mem_cons.mpr ⟨lw_p6, List.forall_mem_cons.mpr ⟨lw_p7, List.forall_mem_cons.mpr ⟨lw_p8, List.forall_mem_cons.mpr ⟨lw_p9, List.forall_mem_cons.mpr ⟨lw_p10, List.forall_mem_cons.mpr ⟨lw_p11, List.forall_mem_cons.mpr ⟨lw_p12, List.forall_mem_cons.mpr ⟨lw_p13, List.forall_mem_cons.mpr ⟨lw_p14, List.forall_mem_cons.mpr ⟨lw_p15, fun _ h => absurd h List.not_mem_nil⟩⟩⟩⟩⟩⟩⟩⟩⟩⟩⟩⟩⟩⟩⟩⟩
theorem lw_p16 : lw_okq (⟨"QuietWatch", "messagesUnderWay", "()I"⟩, 11) := ⟨⟨by decide +kernel, by decide +kernel⟩, List.mem_of_getElem? (i := 9) (by decide +kernel), List.mem_of_getElem? (i := 361) (by decide +kernel), List.mem_of_getElem? (i := 362) (by decide +kernel)⟩
theorem lw_p17 : lw_okq (⟨"QuietWatchModel", "counted", "(II)I"⟩, 27) := ⟨⟨by decide +kernel, by decide +kernel⟩, List.mem_of_getElem? (i := 368) (by decide +kernel), List.mem_of_getElem? (i := 465) (by decide +kernel), List.mem_of_getElem? (i := 466) (by decide +kernel)⟩
theorem lw_p18 : lw_okq (⟨"QuietWatchModel", "isRow", "(II)Z"⟩, 27) := ⟨⟨by decide +kernel, by decide +kernel⟩, List.mem_of_getElem? (i := 368) (by decide +kernel), List.mem_of_getElem? (i := 477) (by decide +kernel), List.mem_of_getElem? (i := 478) (by decide +kernel)⟩
theorem lw_p19 : lw_okq (⟨"QuietWatchModel", "isOne", "(I)Z"⟩, 27) := ⟨⟨by decide +kernel, by decide +kernel⟩, List.mem_of_getElem? (i := 368) (by decide +kernel), List.mem_of_getElem? (i := 481) (by decide +kernel), List.mem_of_getElem? (i := 482) (by decide +kernel)⟩
theorem lw_p20 : lw_okq (⟨"QuietWatchModel", "isFree", "(I)Z"⟩, 27) := ⟨⟨by decide +kernel, by decide +kernel⟩, List.mem_of_getElem? (i := 368) (by decide +kernel), List.mem_of_getElem? (i := 485) (by decide +kernel), List.mem_of_getElem? (i := 486) (by decide +kernel)⟩
theorem lw_p21 : lw_okq (⟨"QuietWatchModel", "isBlocked", "(I)Z"⟩, 27) := ⟨⟨by decide +kernel, by decide +kernel⟩, List.mem_of_getElem? (i := 368) (by decide +kernel), List.mem_of_getElem? (i := 489) (by decide +kernel), List.mem_of_getElem? (i := 490) (by decide +kernel)⟩
theorem lw_p22 : lw_okq (⟨"QuietWatchModel", "waitsFor", "(I)I"⟩, 27) := ⟨⟨by decide +kernel, by decide +kernel⟩, List.mem_of_getElem? (i := 368) (by decide +kernel), List.mem_of_getElem? (i := 493) (by decide +kernel), List.mem_of_getElem? (i := 494) (by decide +kernel)⟩
theorem lw_p23 : lw_okq (⟨"QuietWatchModel", "sends", "(IIIII)V"⟩, 27) := ⟨⟨by decide +kernel, by decide +kernel⟩, List.mem_of_getElem? (i := 368) (by decide +kernel), List.mem_of_getElem? (i := 497) (by decide +kernel), List.mem_of_getElem? (i := 498) (by decide +kernel)⟩
theorem lw_p24 : lw_okq (⟨"QuietWatchModel", "settles", "()V"⟩, 27) := ⟨⟨by decide +kernel, by decide +kernel⟩, List.mem_of_getElem? (i := 368) (by decide +kernel), List.mem_of_getElem? (i := 505) (by decide +kernel), List.mem_of_getElem? (i := 506) (by decide +kernel)⟩
theorem lw_p25 : lw_okq (⟨"QuietWatchModel", "isInTree", "(I)Z"⟩, 27) := ⟨⟨by decide +kernel, by decide +kernel⟩, List.mem_of_getElem? (i := 368) (by decide +kernel), List.mem_of_getElem? (i := 509) (by decide +kernel), List.mem_of_getElem? (i := 510) (by decide +kernel)⟩
theorem lw_p26 : lw_okq (⟨"QuietWatchModel", "probes", "(III)V"⟩, 27) := ⟨⟨by decide +kernel, by decide +kernel⟩, List.mem_of_getElem? (i := 368) (by decide +kernel), List.mem_of_getElem? (i := 526) (by decide +kernel), List.mem_of_getElem? (i := 527) (by decide +kernel)⟩
theorem lw_p27 : lw_okq (⟨"QuietWatchModel", "work", "(II)V"⟩, 27) := ⟨⟨by decide +kernel, by decide +kernel⟩, List.mem_of_getElem? (i := 368) (by decide +kernel), List.mem_of_getElem? (i := 538) (by decide +kernel), List.mem_of_getElem? (i := 539) (by decide +kernel)⟩
theorem lw_p28 : lw_okq (⟨"QuietWatchModel", "probed", "(IIII)V"⟩, 27) := ⟨⟨by decide +kernel, by decide +kernel⟩, List.mem_of_getElem? (i := 368) (by decide +kernel), List.mem_of_getElem? (i := 542) (by decide +kernel), List.mem_of_getElem? (i := 543) (by decide +kernel)⟩
theorem lw_p29 : lw_okq (⟨"QuietWatchModel", "isInRing", "(I)Z"⟩, 27) := ⟨⟨by decide +kernel, by decide +kernel⟩, List.mem_of_getElem? (i := 368) (by decide +kernel), List.mem_of_getElem? (i := 546) (by decide +kernel), List.mem_of_getElem? (i := 547) (by decide +kernel)⟩
theorem lw_p30 : lw_okq (⟨"QuietWatchModel", "hangs", "(II)Z"⟩, 27) := ⟨⟨by decide +kernel, by decide +kernel⟩, List.mem_of_getElem? (i := 368) (by decide +kernel), List.mem_of_getElem? (i := 550) (by decide +kernel), List.mem_of_getElem? (i := 551) (by decide +kernel)⟩
theorem lw_p31 : lw_okq (⟨"QuietWatchModel", "pendingAt", "(I)I"⟩, 27) := ⟨⟨by decide +kernel, by decide +kernel⟩, List.mem_of_getElem? (i := 368) (by decide +kernel), List.mem_of_getElem? (i := 568) (by decide +kernel), List.mem_of_getElem? (i := 569) (by decide +kernel)⟩
def lw_privs_2 : List (MethodName × Nat) := [(⟨"QuietWatch", "messagesUnderWay", "()I"⟩, 11), (⟨"QuietWatchModel", "counted", "(II)I"⟩, 27), (⟨"QuietWatchModel", "isRow", "(II)Z"⟩, 27), (⟨"QuietWatchModel", "isOne", "(I)Z"⟩, 27), (⟨"QuietWatchModel", "isFree", "(I)Z"⟩, 27), (⟨"QuietWatchModel", "isBlocked", "(I)Z"⟩, 27), (⟨"QuietWatchModel", "waitsFor", "(I)I"⟩, 27), (⟨"QuietWatchModel", "sends", "(IIIII)V"⟩, 27), (⟨"QuietWatchModel", "settles", "()V"⟩, 27), (⟨"QuietWatchModel", "isInTree", "(I)Z"⟩, 27), (⟨"QuietWatchModel", "probes", "(III)V"⟩, 27), (⟨"QuietWatchModel", "work", "(II)V"⟩, 27), (⟨"QuietWatchModel", "probed", "(IIII)V"⟩, 27), (⟨"QuietWatchModel", "isInRing", "(I)Z"⟩, 27), (⟨"QuietWatchModel", "hangs", "(II)Z"⟩, 27), (⟨"QuietWatchModel", "pendingAt", "(I)I"⟩, 27)]
theorem lw_r2 : ∀ q ∈ lw_privs_2, lw_okq q := List.forall_mem_cons.mpr ⟨lw_p16, List.forall_mem_cons.mpr ⟨lw_p17, List.forall_mem_cons.mpr ⟨lw_p18, List.forall_mem_cons.mpr ⟨lw_p19, List.forall_mem_cons.mpr ⟨lw_p20, List.forall_mem_cons.mpr ⟨lw_p21, List.forall_mem_cons.mpr ⟨lw_p22, List.forall_mem_cons.mpr ⟨lw_p23, List.forall_mem_cons.mpr ⟨lw_p24, List.forall_mem_cons.mpr ⟨lw_p25, List.forall_mem_cons.mpr ⟨lw_p26, List.forall_mem_cons.mpr ⟨lw_p27, List.forall_mem_cons.mpr ⟨lw_p28, List.forall_mem_cons.mpr ⟨lw_p29, List.forall_mem_cons.mpr ⟨lw_p30, List.forall_mem_cons.mpr ⟨lw_p31, fun _ h => absurd h List.not_mem_nil⟩⟩⟩⟩⟩⟩⟩⟩⟩⟩⟩⟩⟩⟩⟩⟩
def lw_privs : List (MethodName × Nat) := lw_privs_1 ++ (lw_privs_2)
def lw_tbl : List Cond := k2_sels lw_privs ++ tables_1
theorem lw_privs_ok : ∀ q ∈ lw_privs, lw_okq q := by
  show ∀ q ∈ lw_privs_1 ++ (lw_privs_2), lw_okq q
  exact List.forall_mem_append.mpr ⟨lw_r1, lw_r2⟩
def RX0 : String := "QuietWatch$Row"
def TX0 : u_T := fun k => match k with
  | 0 => ("QuietWatch$Row", "cells", "[I", false)
  | 1 => ("QuietWatch$Row", "first", "I", false)
  | 2 => ("QuietWatch$Row", "size", "I", false)
  | _ => ("QuietWatch$Row", "works", "I", false)
def tyX0 : Nat → FieldType := fun k => match k with
  | 0 => .array .int
  | 1 => .int
  | 2 => .int
  | _ => .int
abbrev wsX00 : List Cond := u_ws RX0 TX0 4
theorem nmX0 : ∀ a, a < 4 → ∀ b, b < 4 → a ≠ b → (TX0 a).2.1 ≠ (TX0 b).2.1 := by decide +kernel
theorem tyX0_ok : ∀ k, k < 4 → parseFieldDescriptor (TX0 k).2.2.1 = some (tyX0 k) := by decide +kernel
abbrev cX0_init : ByteArray := prog_2_method_1_code
def yX0_init : MethodName := ⟨RX0, "<init>", "()V"⟩
abbrev cX0_at : ByteArray := prog_2_method_2_code
def yX0_at : MethodName := ⟨RX0, "at", "(I)I"⟩
abbrev cX0_append : ByteArray := prog_2_method_3_code
def yX0_append : MethodName := ⟨RX0, "append", "(I)V"⟩
abbrev cX0_takeFirst : ByteArray := prog_2_method_4_code
def yX0_takeFirst : MethodName := ⟨RX0, "takeFirst", "()I"⟩
abbrev cX0_placeOf : ByteArray := prog_2_method_5_code
def yX0_placeOf : MethodName := ⟨RX0, "placeOf", "(I)I"⟩
abbrev cX0_grow : ByteArray := prog_2_method_6_code
def yX0_grow : MethodName := ⟨RX0, "grow", "()V"⟩
def RX1 : String := "QuietWatch$Token"
def TX1 : u_T := fun k => match k with
  | 0 => ("QuietWatch$Token", "holder", "I", false)
  | 1 => ("QuietWatch$Token", "sum", "I", false)
  | 2 => ("QuietWatch$Token", "black", "Z", false)
  | _ => ("QuietWatch$Token", "round", "I", false)
def tyX1 : Nat → FieldType := fun k => match k with
  | 0 => .int
  | 1 => .int
  | 2 => .boolean
  | _ => .int
abbrev wsX10 : List Cond := u_ws RX1 TX1 4
theorem nmX1 : ∀ a, a < 4 → ∀ b, b < 4 → a ≠ b → (TX1 a).2.1 ≠ (TX1 b).2.1 := by decide +kernel
theorem tyX1_ok : ∀ k, k < 4 → parseFieldDescriptor (TX1 k).2.2.1 = some (tyX1 k) := by decide +kernel
abbrev cX1_init : ByteArray := prog_3_method_1_code
def yX1_init : MethodName := ⟨RX1, "<init>", "()V"⟩
abbrev cX1_showsEndTo : ByteArray := prog_3_method_2_code
def yX1_showsEndTo : MethodName := ⟨RX1, "showsEndTo", "(LQuietWatch$Worker;)Z"⟩
abbrev cX1_beginRound : ByteArray := prog_3_method_3_code
def yX1_beginRound : MethodName := ⟨RX1, "beginRound", "()V"⟩
abbrev cX1_collect : ByteArray := prog_3_method_4_code
def yX1_collect : MethodName := ⟨RX1, "collect", "(LQuietWatch$Worker;)V"⟩
def RX2 : String := "QuietWatch$Worker"
def TX2 : u_T := fun k => match k with
  | 0 => ("QuietWatch$Worker", "latestProbe", "[I", true)
  | 1 => ("QuietWatch$Worker", "active", "Z", false)
  | 2 => ("QuietWatch$Worker", "black", "Z", false)
  | 3 => ("QuietWatch$Worker", "parent", "I", false)
  | 4 => ("QuietWatch$Worker", "owed", "I", false)
  | 5 => ("QuietWatch$Worker", "balance", "I", false)
  | 6 => ("QuietWatch$Worker", "waitsFor", "I", false)
  | 7 => ("QuietWatch$Worker", "repliesComing", "I", false)
  | 8 => ("QuietWatch$Worker", "pending", "I", false)
  | 9 => ("QuietWatch$Worker", "deaths", "I", false)
  | _ => ("QuietWatch$Worker", "probings", "I", false)
def tyX2 : Nat → FieldType := fun k => match k with
  | 0 => .array .int
  | 1 => .boolean
  | 2 => .boolean
  | 3 => .int
  | 4 => .int
  | 5 => .int
  | 6 => .int
  | 7 => .int
  | 8 => .int
  | 9 => .int
  | _ => .int
abbrev wsX20 : List Cond := u_ws RX2 TX2 11
theorem nmX2 : ∀ a, a < 11 → ∀ b, b < 11 → a ≠ b → (TX2 a).2.1 ≠ (TX2 b).2.1 := by decide +kernel
theorem tyX2_ok : ∀ k, k < 11 → parseFieldDescriptor (TX2 k).2.2.1 = some (tyX2 k) := by decide +kernel
abbrev cX2_init : ByteArray := prog_4_method_1_code
def yX2_init : MethodName := ⟨RX2, "<init>", "(I)V"⟩
abbrev cX2_isBlocked : ByteArray := prog_4_method_2_code
def yX2_isBlocked : MethodName := ⟨RX2, "isBlocked", "()Z"⟩
abbrev cX2_isFree : ByteArray := prog_4_method_3_code
def yX2_isFree : MethodName := ⟨RX2, "isFree", "()Z"⟩
abbrev cX2_hangsOn : ByteArray := prog_4_method_4_code
def yX2_hangsOn : MethodName := ⟨RX2, "hangsOn", "()I"⟩
abbrev cX2_noteIfNewer : ByteArray := prog_4_method_5_code
def yX2_noteIfNewer : MethodName := ⟨RX2, "noteIfNewer", "(II)Z"⟩
def RX3 : String := "QuietWatch"
def TX3 : u_T := fun k => match k with
  | 0 => ("QuietWatch", "processes", "I", true)
  | 1 => ("QuietWatch", "workers", "[LQuietWatch$Worker;", true)
  | 2 => ("QuietWatch", "rows", "[LQuietWatch$Row;", true)
  | 3 => ("QuietWatch", "token", "LQuietWatch$Token;", true)
  | 4 => ("QuietWatch", "started", "Z", false)
  | 5 => ("QuietWatch", "treeTold", "Z", false)
  | 6 => ("QuietWatch", "ringTold", "Z", false)
  | 7 => ("QuietWatch", "wrongEnds", "I", false)
  | 8 => ("QuietWatch", "falseDeaths", "I", false)
  | 9 => ("QuietWatch", "deaths", "I", false)
  | _ => ("QuietWatch", "received", "I", false)
def tyX3 : Nat → FieldType := fun k => match k with
  | 0 => .int
  | 1 => .array (.object "QuietWatch$Worker")
  | 2 => .array (.object "QuietWatch$Row")
  | 3 => .object "QuietWatch$Token"
  | 4 => .boolean
  | 5 => .boolean
  | 6 => .boolean
  | 7 => .int
  | 8 => .int
  | 9 => .int
  | _ => .int
abbrev wsX30 : List Cond := u_ws RX3 TX3 11
theorem nmX3 : ∀ a, a < 11 → ∀ b, b < 11 → a ≠ b → (TX3 a).2.1 ≠ (TX3 b).2.1 := by decide +kernel
theorem tyX3_ok : ∀ k, k < 11 → parseFieldDescriptor (TX3 k).2.2.1 = some (tyX3 k) := by decide +kernel
abbrev cX3_init : ByteArray := prog_1_method_1_code
def yX3_init : MethodName := ⟨RX3, "<init>", "(I)V"⟩
abbrev cX3_start : ByteArray := prog_1_method_2_code
def yX3_start : MethodName := ⟨RX3, "start", "()Z"⟩
abbrev cX3_send : ByteArray := prog_1_method_3_code
def yX3_send : MethodName := ⟨RX3, "send", "(II)Z"⟩
abbrev cX3_rest : ByteArray := prog_1_method_4_code
def yX3_rest : MethodName := ⟨RX3, "rest", "(I)Z"⟩
abbrev cX3_ask : ByteArray := prog_1_method_5_code
def yX3_ask : MethodName := ⟨RX3, "ask", "(II)I"⟩
abbrev cX3_answer : ByteArray := prog_1_method_6_code
def yX3_answer : MethodName := ⟨RX3, "answer", "(II)Z"⟩
abbrev cX3_probe : ByteArray := prog_1_method_7_code
def yX3_probe : MethodName := ⟨RX3, "probe", "(I)I"⟩
abbrev cX3_pass : ByteArray := prog_1_method_8_code
def yX3_pass : MethodName := ⟨RX3, "pass", "(I)I"⟩
abbrev cX3_receive : ByteArray := prog_1_method_9_code
def yX3_receive : MethodName := ⟨RX3, "receive", "(II)I"⟩
abbrev cX3_run : ByteArray := prog_1_method_10_code
def yX3_run : MethodName := ⟨RX3, "run", "(II)I"⟩
abbrev cX3_told : ByteArray := prog_1_method_11_code
def yX3_told : MethodName := ⟨RX3, "told", "(II)I"⟩
abbrev cX3_waits : ByteArray := prog_1_method_12_code
def yX3_waits : MethodName := ⟨RX3, "waits", "(II)Z"⟩
abbrev cX3_message : ByteArray := prog_1_method_13_code
def yX3_message : MethodName := ⟨RX3, "message", "(IIII)I"⟩
abbrev cX3_quiet : ByteArray := prog_1_method_14_code
def yX3_quiet : MethodName := ⟨RX3, "quiet", "()Z"⟩
abbrev cX3_wrong : ByteArray := prog_1_method_15_code
def yX3_wrong : MethodName := ⟨RX3, "wrong", "()I"⟩
abbrev cX3_falsely : ByteArray := prog_1_method_16_code
def yX3_falsely : MethodName := ⟨RX3, "falsely", "()I"⟩
abbrev cX3_count : ByteArray := prog_1_method_17_code
def yX3_count : MethodName := ⟨RX3, "count", "(I)I"⟩
abbrev cX3_newWorkers : ByteArray := prog_1_method_18_code
def yX3_newWorkers : MethodName := ⟨RX3, "newWorkers", "(I)[LQuietWatch$Worker;"⟩
abbrev cX3_newRows : ByteArray := prog_1_method_19_code
def yX3_newRows : MethodName := ⟨RX3, "newRows", "(I)[LQuietWatch$Row;"⟩
abbrev cX3_oneIf : ByteArray := prog_1_method_20_code
def yX3_oneIf : MethodName := ⟨RX3, "oneIf", "(Z)I"⟩
abbrev cX3_bitOf : ByteArray := prog_1_method_21_code
def yX3_bitOf : MethodName := ⟨RX3, "bitOf", "(I)I"⟩
abbrev cX3_allOf : ByteArray := prog_1_method_22_code
def yX3_allOf : MethodName := ⟨RX3, "allOf", "(I)I"⟩
abbrev cX3_holds : ByteArray := prog_1_method_23_code
def yX3_holds : MethodName := ⟨RX3, "holds", "(II)Z"⟩
abbrev cX3_probeOf : ByteArray := prog_1_method_24_code
def yX3_probeOf : MethodName := ⟨RX3, "probeOf", "(II)I"⟩
abbrev cX3_kindOf : ByteArray := prog_1_method_25_code
def yX3_kindOf : MethodName := ⟨RX3, "kindOf", "(I)I"⟩
abbrev cX3_beginnerOf : ByteArray := prog_1_method_26_code
def yX3_beginnerOf : MethodName := ⟨RX3, "beginnerOf", "(I)I"⟩
abbrev cX3_numberOf : ByteArray := prog_1_method_27_code
def yX3_numberOf : MethodName := ⟨RX3, "numberOf", "(I)I"⟩
abbrev cX3_isProcess : ByteArray := prog_1_method_28_code
def yX3_isProcess : MethodName := ⟨RX3, "isProcess", "(I)Z"⟩
abbrev cX3_workerAt : ByteArray := prog_1_method_29_code
def yX3_workerAt : MethodName := ⟨RX3, "workerAt", "(I)LQuietWatch$Worker;"⟩
abbrev cX3_rowBetween : ByteArray := prog_1_method_30_code
def yX3_rowBetween : MethodName := ⟨RX3, "rowBetween", "(II)LQuietWatch$Row;"⟩
abbrev cX3_put : ByteArray := prog_1_method_31_code
def yX3_put : MethodName := ⟨RX3, "put", "(III)V"⟩
abbrev cX3_putToEach : ByteArray := prog_1_method_32_code
def yX3_putToEach : MethodName := ⟨RX3, "putToEach", "(III)V"⟩
abbrev cX3_giveToken : ByteArray := prog_1_method_33_code
def yX3_giveToken : MethodName := ⟨RX3, "giveToken", "(II)V"⟩
abbrev cX3_isInTree : ByteArray := prog_1_method_34_code
def yX3_isInTree : MethodName := ⟨RX3, "isInTree", "(ILQuietWatch$Worker;)Z"⟩
abbrev cX3_takeWork : ByteArray := prog_1_method_35_code
def yX3_takeWork : MethodName := ⟨RX3, "takeWork", "(IILQuietWatch$Worker;)V"⟩
abbrev cX3_leaveTreeIfDone : ByteArray := prog_1_method_36_code
def yX3_leaveTreeIfDone : MethodName := ⟨RX3, "leaveTreeIfDone", "(ILQuietWatch$Worker;)V"⟩
abbrev cX3_judgeEnd : ByteArray := prog_1_method_37_code
def yX3_judgeEnd : MethodName := ⟨RX3, "judgeEnd", "()V"⟩
abbrev cX3_takeProbe : ByteArray := prog_1_method_38_code
def yX3_takeProbe : MethodName := ⟨RX3, "takeProbe", "(IILQuietWatch$Worker;I)V"⟩
abbrev cX3_tellDead : ByteArray := prog_1_method_39_code
def yX3_tellDead : MethodName := ⟨RX3, "tellDead", "(ILQuietWatch$Worker;)V"⟩
abbrev cX3_isInRing : ByteArray := prog_1_method_40_code
def yX3_isInRing : MethodName := ⟨RX3, "isInRing", "(I)Z"⟩
abbrev cX3_messagesUnderWay : ByteArray := prog_1_method_41_code
def yX3_messagesUnderWay : MethodName := ⟨RX3, "messagesUnderWay", "()I"⟩
abbrev cX3_worksUnderWay : ByteArray := prog_1_method_42_code
def yX3_worksUnderWay : MethodName := ⟨RX3, "worksUnderWay", "()I"⟩
def RX4 : String := "QuietWatchModel"
def TX4 : u_T := fun k => match k with
  | 0 => ("QuietWatchModel", "many", "I", true)
  | 1 => ("QuietWatchModel", "isStarted", "Z", false)
  | 2 => ("QuietWatchModel", "treeTold", "Z", false)
  | 3 => ("QuietWatchModel", "ringTold", "Z", false)
  | 4 => ("QuietWatchModel", "wrongs", "I", false)
  | 5 => ("QuietWatchModel", "falses", "I", false)
  | 6 => ("QuietWatchModel", "received", "I", false)
  | 7 => ("QuietWatchModel", "deadAll", "I", false)
  | 8 => ("QuietWatchModel", "active", "[Z", true)
  | 9 => ("QuietWatchModel", "parent", "[I", true)
  | 10 => ("QuietWatchModel", "owed", "[I", true)
  | 11 => ("QuietWatchModel", "works", "[I", true)
  | 12 => ("QuietWatchModel", "black", "[Z", true)
  | 13 => ("QuietWatchModel", "has", "[Z", true)
  | 14 => ("QuietWatchModel", "dead", "[I", true)
  | 15 => ("QuietWatchModel", "probings", "[I", true)
  | 16 => ("QuietWatchModel", "waits", "[Z", true)
  | 17 => ("QuietWatchModel", "pending", "[Z", true)
  | 18 => ("QuietWatchModel", "mattered", "[I", true)
  | 19 => ("QuietWatchModel", "round", "I", false)
  | 20 => ("QuietWatchModel", "sum", "I", false)
  | 21 => ("QuietWatchModel", "isBlack", "Z", false)
  | 22 => ("QuietWatchModel", "rowMany", "[I", true)
  | 23 => ("QuietWatchModel", "rowKind", "[I", true)
  | 24 => ("QuietWatchModel", "rowWho", "[I", true)
  | 25 => ("QuietWatchModel", "rowNumber", "[I", true)
  | _ => ("QuietWatchModel", "reached", "[Z", true)
def tyX4 : Nat → FieldType := fun k => match k with
  | 0 => .int
  | 1 => .boolean
  | 2 => .boolean
  | 3 => .boolean
  | 4 => .int
  | 5 => .int
  | 6 => .int
  | 7 => .int
  | 8 => .array .boolean
  | 9 => .array .int
  | 10 => .array .int
  | 11 => .array .int
  | 12 => .array .boolean
  | 13 => .array .boolean
  | 14 => .array .int
  | 15 => .array .int
  | 16 => .array .boolean
  | 17 => .array .boolean
  | 18 => .array .int
  | 19 => .int
  | 20 => .int
  | 21 => .boolean
  | 22 => .array .int
  | 23 => .array .int
  | 24 => .array .int
  | 25 => .array .int
  | _ => .array .boolean
abbrev wsX40 : List Cond := u_ws RX4 TX4 27
theorem nmX4 : ∀ a, a < 27 → ∀ b, b < 27 → a ≠ b → (TX4 a).2.1 ≠ (TX4 b).2.1 := by decide +kernel
theorem tyX4_ok : ∀ k, k < 27 → parseFieldDescriptor (TX4 k).2.2.1 = some (tyX4 k) := by decide +kernel
abbrev cX4_init : ByteArray := prog_6_method_1_code
def yX4_init : MethodName := ⟨RX4, "<init>", "(I)V"⟩
abbrev cX4_isOne : ByteArray := prog_6_method_2_code
def yX4_isOne : MethodName := ⟨RX4, "isOne", "(I)Z"⟩
abbrev cX4_isRow : ByteArray := prog_6_method_3_code
def yX4_isRow : MethodName := ⟨RX4, "isRow", "(II)Z"⟩
abbrev cX4_row : ByteArray := prog_6_method_4_code
def yX4_row : MethodName := ⟨RX4, "row", "(II)I"⟩
abbrev cX4_sends : ByteArray := prog_6_method_5_code
def yX4_sends : MethodName := ⟨RX4, "sends", "(IIIII)V"⟩
abbrev cX4_counted : ByteArray := prog_6_method_6_code
def yX4_counted : MethodName := ⟨RX4, "counted", "(II)I"⟩
abbrev cX4_waitsFor : ByteArray := prog_6_method_7_code
def yX4_waitsFor : MethodName := ⟨RX4, "waitsFor", "(I)I"⟩
abbrev cX4_isBlocked : ByteArray := prog_6_method_8_code
def yX4_isBlocked : MethodName := ⟨RX4, "isBlocked", "(I)Z"⟩
abbrev cX4_isFree : ByteArray := prog_6_method_9_code
def yX4_isFree : MethodName := ⟨RX4, "isFree", "(I)Z"⟩
abbrev cX4_isInTree : ByteArray := prog_6_method_10_code
def yX4_isInTree : MethodName := ⟨RX4, "isInTree", "(I)Z"⟩
abbrev cX4_quiet : ByteArray := prog_6_method_11_code
def yX4_quiet : MethodName := ⟨RX4, "quiet", "()Z"⟩
abbrev cX4_settles : ByteArray := prog_6_method_12_code
def yX4_settles : MethodName := ⟨RX4, "settles", "()V"⟩
abbrev cX4_start : ByteArray := prog_6_method_13_code
def yX4_start : MethodName := ⟨RX4, "start", "()Z"⟩
abbrev cX4_send : ByteArray := prog_6_method_14_code
def yX4_send : MethodName := ⟨RX4, "send", "(II)Z"⟩
abbrev cX4_rest : ByteArray := prog_6_method_15_code
def yX4_rest : MethodName := ⟨RX4, "rest", "(I)Z"⟩
abbrev cX4_ask : ByteArray := prog_6_method_16_code
def yX4_ask : MethodName := ⟨RX4, "ask", "(II)I"⟩
abbrev cX4_answer : ByteArray := prog_6_method_17_code
def yX4_answer : MethodName := ⟨RX4, "answer", "(II)Z"⟩
abbrev cX4_probes : ByteArray := prog_6_method_18_code
def yX4_probes : MethodName := ⟨RX4, "probes", "(III)V"⟩
abbrev cX4_probe : ByteArray := prog_6_method_19_code
def yX4_probe : MethodName := ⟨RX4, "probe", "(I)I"⟩
abbrev cX4_pass : ByteArray := prog_6_method_20_code
def yX4_pass : MethodName := ⟨RX4, "pass", "(I)I"⟩
abbrev cX4_hangs : ByteArray := prog_6_method_21_code
def yX4_hangs : MethodName := ⟨RX4, "hangs", "(II)Z"⟩
abbrev cX4_isInRing : ByteArray := prog_6_method_22_code
def yX4_isInRing : MethodName := ⟨RX4, "isInRing", "(I)Z"⟩
abbrev cX4_work : ByteArray := prog_6_method_23_code
def yX4_work : MethodName := ⟨RX4, "work", "(II)V"⟩
abbrev cX4_probed : ByteArray := prog_6_method_24_code
def yX4_probed : MethodName := ⟨RX4, "probed", "(IIII)V"⟩
abbrev cX4_receive : ByteArray := prog_6_method_25_code
def yX4_receive : MethodName := ⟨RX4, "receive", "(II)I"⟩
abbrev cX4_run : ByteArray := prog_6_method_26_code
def yX4_run : MethodName := ⟨RX4, "run", "(II)I"⟩
abbrev cX4_pendingAt : ByteArray := prog_6_method_27_code
def yX4_pendingAt : MethodName := ⟨RX4, "pendingAt", "(I)I"⟩
abbrev cX4_toInt : ByteArray := prog_6_method_28_code
def yX4_toInt : MethodName := ⟨RX4, "toInt", "(Z)I"⟩
abbrev cX4_told : ByteArray := prog_6_method_29_code
def yX4_told : MethodName := ⟨RX4, "told", "(II)I"⟩
abbrev cX4_waits : ByteArray := prog_6_method_30_code
def yX4_waits : MethodName := ⟨RX4, "waits", "(II)Z"⟩
abbrev cX4_message : ByteArray := prog_6_method_31_code
def yX4_message : MethodName := ⟨RX4, "message", "(IIII)I"⟩
abbrev cX4_wrong : ByteArray := prog_6_method_32_code
def yX4_wrong : MethodName := ⟨RX4, "wrong", "()I"⟩
abbrev cX4_falsely : ByteArray := prog_6_method_33_code
def yX4_falsely : MethodName := ⟨RX4, "falsely", "()I"⟩
abbrev cX4_count : ByteArray := prog_6_method_34_code
def yX4_count : MethodName := ⟨RX4, "count", "(I)I"⟩
def RJ6 : String := "java/lang/Integer"
abbrev cJ6_bitCount_0f7a4 : ByteArray := prog_7_method_49_code
def yJ6_bitCount_0f7a4 : MethodName := ⟨RJ6, "bitCount", "(I)I"⟩
def RJ9 : String := "java/lang/Math"
abbrev cJ9_max_7cf53 : ByteArray := prog_8_method_65_code
def yJ9_max_7cf53 : MethodName := ⟨RJ9, "max", "(II)I"⟩
abbrev cJ9_min_7cf53 : ByteArray := prog_8_method_69_code
def yJ9_min_7cf53 : MethodName := ⟨RJ9, "min", "(II)I"⟩
def RL : String := "QuietWatchLaw"
abbrev cL_cell : ByteArray := method_2_code
def yL_cell : MethodName := ⟨RL, "cell", "([II)I"⟩
abbrev cL_law : ByteArray := code
def yL_law : MethodName := ⟨RL, "law", "([I)Z"⟩
abbrev vwCl : List vw_C := [(RX0, TX0, 4), (RX1, TX1, 4), (RX2, TX2, 11), (RX3, TX3, 11), (RX4, TX4, 27)]
theorem inX0 : ∀ w ∈ wsX00, w ∈ lw_tbl := by decide +kernel
theorem inX1 : ∀ w ∈ wsX10, w ∈ lw_tbl := by decide +kernel
theorem inX2 : ∀ w ∈ wsX20, w ∈ lw_tbl := by decide +kernel
theorem inX3 : ∀ w ∈ wsX30, w ∈ lw_tbl := by decide +kernel
theorem inX4 : ∀ w ∈ wsX40, w ∈ lw_tbl := by decide +kernel
