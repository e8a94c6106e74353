-- ===== PART A: goes FIRST, ahead of the names: the tables' words, and 'selects' of the private methods out of them =====
/-- a private method of a class that the tables say can be made, by its rows of tables_1 -/
def lw_okq (q : MethodName × Nat) : Prop := (q.1.cls ≠ "java/lang/invoke/MethodHandle" ∧ q.1.cls ≠ "java/lang/invoke/VarHandle") ∧ Cond.instantiable q.1.cls q.2 ∈ tables_1 ∧ Cond.privateMethod q.1 ∈ tables_1 ∧ Cond.instanceMethod q.1 ∈ tables_1
theorem lw_p0 : lw_okq (⟨"SightBlocks$Floor", "usableInRow", "(LSightBlocks$Block;II)I"⟩, 6) := ⟨⟨by decide +kernel, by decide +kernel⟩, List.mem_of_getElem? (i := 26) (by decide +kernel), List.mem_of_getElem? (i := 253) (by decide +kernel), List.mem_of_getElem? (i := 254) (by decide +kernel)⟩
theorem lw_p1 : lw_okq (⟨"SightBlocks$Floor", "chairsThatAre", "(II)I"⟩, 6) := ⟨⟨by decide +kernel, by decide +kernel⟩, List.mem_of_getElem? (i := 26) (by decide +kernel), List.mem_of_getElem? (i := 271) (by decide +kernel), List.mem_of_getElem? (i := 272) (by decide +kernel)⟩
theorem lw_p2 : lw_okq (⟨"SightBlocks$Floor", "usableIn", "(I)I"⟩, 6) := ⟨⟨by decide +kernel, by decide +kernel⟩, List.mem_of_getElem? (i := 26) (by decide +kernel), List.mem_of_getElem? (i := 275) (by decide +kernel), List.mem_of_getElem? (i := 276) (by decide +kernel)⟩
theorem lw_p3 : lw_okq (⟨"SightBlocks$Floor", "isChair", "(I)Z"⟩, 6) := ⟨⟨by decide +kernel, by decide +kernel⟩, List.mem_of_getElem? (i := 26) (by decide +kernel), List.mem_of_getElem? (i := 308) (by decide +kernel), List.mem_of_getElem? (i := 309) (by decide +kernel)⟩
theorem lw_p4 : lw_okq (⟨"SightBlocks$Stadium", "holdAt", "(I)LSightBlocks$Hold;"⟩, 10) := ⟨⟨by decide +kernel, by decide +kernel⟩, List.mem_of_getElem? (i := 20) (by decide +kernel), List.mem_of_getElem? (i := 323) (by decide +kernel), List.mem_of_getElem? (i := 324) (by decide +kernel)⟩
theorem lw_p5 : lw_okq (⟨"SightBlocks$Stadium", "openHolds", "()I"⟩, 10) := ⟨⟨by decide +kernel, by decide +kernel⟩, List.mem_of_getElem? (i := 20) (by decide +kernel), List.mem_of_getElem? (i := 351) (by decide +kernel), List.mem_of_getElem? (i := 352) (by decide +kernel)⟩
theorem lw_p6 : lw_okq (⟨"SightBlocks$Stadium", "ticketsThatAre", "(I)I"⟩, 10) := ⟨⟨by decide +kernel, by decide +kernel⟩, List.mem_of_getElem? (i := 20) (by decide +kernel), List.mem_of_getElem? (i := 355) (by decide +kernel), List.mem_of_getElem? (i := 356) (by decide +kernel)⟩
theorem lw_p7 : lw_okq (⟨"SightBlocks", "recorded", "(I)I"⟩, 4) := ⟨⟨by decide +kernel, by decide +kernel⟩, List.mem_of_getElem? (i := 12) (by decide +kernel), List.mem_of_getElem? (i := 397) (by decide +kernel), List.mem_of_getElem? (i := 398) (by decide +kernel)⟩
theorem lw_p8 : lw_okq (⟨"SightBlocks$Floor", "isStage", "(I)Z"⟩, 6) := ⟨⟨by decide +kernel, by decide +kernel⟩, List.mem_of_getElem? (i := 26) (by decide +kernel), List.mem_of_getElem? (i := 424) (by decide +kernel), List.mem_of_getElem? (i := 425) (by decide +kernel)⟩
theorem lw_p9 : lw_okq (⟨"SightBlocks$Floor", "isPiece", "(II)Z"⟩, 6) := ⟨⟨by decide +kernel, by decide +kernel⟩, List.mem_of_getElem? (i := 26) (by decide +kernel), List.mem_of_getElem? (i := 428) (by decide +kernel), List.mem_of_getElem? (i := 429) (by decide +kernel)⟩
theorem lw_p10 : lw_okq (⟨"SightBlocks$Floor", "isUp", "(I)Z"⟩, 6) := ⟨⟨by decide +kernel, by decide +kernel⟩, List.mem_of_getElem? (i := 26) (by decide +kernel), List.mem_of_getElem? (i := 432) (by decide +kernel), List.mem_of_getElem? (i := 433) (by decide +kernel)⟩
theorem lw_p11 : lw_okq (⟨"SightBlocks$Floor", "chairsUnder", "(I)I"⟩, 6) := ⟨⟨by decide +kernel, by decide +kernel⟩, List.mem_of_getElem? (i := 26) (by decide +kernel), List.mem_of_getElem? (i := 436) (by decide +kernel), List.mem_of_getElem? (i := 437) (by decide +kernel)⟩
theorem lw_p12 : lw_okq (⟨"SightBlocks$Floor", "hasTakenChairUnder", "(I)Z"⟩, 6) := ⟨⟨by decide +kernel, by decide +kernel⟩, List.mem_of_getElem? (i := 26) (by decide +kernel), List.mem_of_getElem? (i := 448) (by decide +kernel), List.mem_of_getElem? (i := 449) (by decide +kernel)⟩
theorem lw_p13 : lw_okq (⟨"SightBlocks$Stadium", "moveTicket", "(II)I"⟩, 10) := ⟨⟨by decide +kernel, by decide +kernel⟩, List.mem_of_getElem? (i := 20) (by decide +kernel), List.mem_of_getElem? (i := 557) (by decide +kernel), List.mem_of_getElem? (i := 558) (by decide +kernel)⟩
theorem lw_p14 : lw_okq (⟨"SightBlocks$Stadium", "nextMover", "(I)I"⟩, 10) := ⟨⟨by decide +kernel, by decide +kernel⟩, List.mem_of_getElem? (i := 20) (by decide +kernel), List.mem_of_getElem? (i := 561) (by decide +kernel), List.mem_of_getElem? (i := 562) (by decide +kernel)⟩
def lw_privs_1 : List (MethodName × Nat) := [(⟨"SightBlocks$Floor", "usableInRow", "(LSightBlocks$Block;II)I"⟩, 6), (⟨"SightBlocks$Floor", "chairsThatAre", "(II)I"⟩, 6), (⟨"SightBlocks$Floor", "usableIn", "(I)I"⟩, 6), (⟨"SightBlocks$Floor", "isChair", "(I)Z"⟩, 6), (⟨"SightBlocks$Stadium", "holdAt", "(I)LSightBlocks$Hold;"⟩, 10), (⟨"SightBlocks$Stadium", "openHolds", "()I"⟩, 10), (⟨"SightBlocks$Stadium", "ticketsThatAre", "(I)I"⟩, 10), (⟨"SightBlocks", "recorded", "(I)I"⟩, 4), (⟨"SightBlocks$Floor", "isStage", "(I)Z"⟩, 6), (⟨"SightBlocks$Floor", "isPiece", "(II)Z"⟩, 6), (⟨"SightBlocks$Floor", "isUp", "(I)Z"⟩, 6), (⟨"SightBlocks$Floor", "chairsUnder", "(I)I"⟩, 6), (⟨"SightBlocks$Floor", "hasTakenChairUnder", "(I)Z"⟩, 6), (⟨"SightBlocks$Stadium", "moveTicket", "(II)I"⟩, 10), (⟨"SightBlocks$Stadium", "nextMover", "(I)I"⟩, 10)]
theorem lw_r1 : ∀ q ∈ lw_privs_1, lw_okq q := List.forall_mem_cons.mpr ⟨lw_p0, List.forall_mem_cons.mpr ⟨lw_p1, List.forall_mem_cons.mpr ⟨lw_p2, List.forall_mem_cons.mpr ⟨lw_p3, List.forall_mem_cons.mpr ⟨lw_p4, List.forall_mem_cons.mpr ⟨lw_p5, List.forall_mem_cons.mpr ⟨lw_p6, List.forall_mem_cons.mpr ⟨lw_p7, List.forall_mem_cons.mpr ⟨lw_p8, List.forall_mem_cons.mpr ⟨lw_p9, List.forall_mem_cons.mpr ⟨lw_p10, List.forall_mem_cons.mpr ⟨lw_p11, List.forall_mem_cons.mpr ⟨lw_p12, List.forall_mem_cons.mpr ⟨lw_p13, List.forall_mem_cons.mpr ⟨lw_p14, fun _ h => absurd h List.not_mem_nil⟩⟩⟩⟩⟩⟩⟩⟩⟩⟩⟩⟩⟩⟩⟩
def lw_privs : List (MethodName × Nat) := lw_privs_1
def lw_tbl : List Cond := k2_sels lw_privs ++ tables_1
theorem lw_privs_ok : ∀ q ∈ lw_privs, lw_okq q := lw_r1
def RX0 : String := "SightBlocks$Block"
def TX0 : u_T := fun k => match k with
  | 0 => ("SightBlocks$Block", "rows", "I", false)
  | 1 => ("SightBlocks$Block", "chairs", "I", false)
  | _ => ("SightBlocks$Block", "price", "I", false)
def tyX0 : Nat → FieldType := fun k => match k with
  | 0 => .int
  | 1 => .int
  | _ => .int
abbrev wsX00 : List Cond := u_ws RX0 TX0 3
theorem nmX0 : ∀ a, a < 3 → ∀ b, b < 3 → a ≠ b → (TX0 a).2.1 ≠ (TX0 b).2.1 := by decide +kernel
theorem tyX0_ok : ∀ k, k < 3 → parseFieldDescriptor (TX0 k).2.2.1 = some (tyX0 k) := by decide +kernel
abbrev cX0_init : ByteArray := prog_2_method_1_code
def yX0_init : MethodName := ⟨RX0, "<init>", "()V"⟩
abbrev cX0_copyFrom : ByteArray := prog_2_method_2_code
def yX0_copyFrom : MethodName := ⟨RX0, "copyFrom", "(LSightBlocks$Block;)V"⟩
def RX1 : String := "SightBlocks$Floor"
def TX1 : u_T := fun k => match k with
  | 0 => ("SightBlocks$Floor", "blocks", "[LSightBlocks$Block;", true)
  | 1 => ("SightBlocks$Floor", "taken", "[I", true)
  | 2 => ("SightBlocks$Floor", "stagesOver", "[I", true)
  | 3 => ("SightBlocks$Floor", "blockCount", "I", false)
  | 4 => ("SightBlocks$Floor", "stageCount", "I", false)
  | _ => ("SightBlocks$Floor", "stagesUp", "I", false)
def tyX1 : Nat → FieldType := fun k => match k with
  | 0 => .array (.object "SightBlocks$Block")
  | 1 => .array .int
  | 2 => .array .int
  | 3 => .int
  | 4 => .int
  | _ => .int
abbrev wsX10 : List Cond := u_ws RX1 TX1 6
theorem nmX1 : ∀ a, a < 6 → ∀ b, b < 6 → a ≠ b → (TX1 a).2.1 ≠ (TX1 b).2.1 := by decide +kernel
theorem tyX1_ok : ∀ k, k < 6 → parseFieldDescriptor (TX1 k).2.2.1 = some (tyX1 k) := by decide +kernel
abbrev cX1_init : ByteArray := prog_3_method_1_code
def yX1_init : MethodName := ⟨RX1, "<init>", "()V"⟩
abbrev cX1_copyFrom : ByteArray := prog_3_method_2_code
def yX1_copyFrom : MethodName := ⟨RX1, "copyFrom", "(LSightBlocks$Floor;)V"⟩
abbrev cX1_makeBlock : ByteArray := prog_3_method_3_code
def yX1_makeBlock : MethodName := ⟨RX1, "makeBlock", "(III)I"⟩
abbrev cX1_makeStage : ByteArray := prog_3_method_4_code
def yX1_makeStage : MethodName := ⟨RX1, "makeStage", "()I"⟩
abbrev cX1_makePiece : ByteArray := prog_3_method_5_code
def yX1_makePiece : MethodName := ⟨RX1, "makePiece", "(III)I"⟩
abbrev cX1_raiseStage : ByteArray := prog_3_method_6_code
def yX1_raiseStage : MethodName := ⟨RX1, "raiseStage", "(I)I"⟩
abbrev cX1_lowerStage : ByteArray := prog_3_method_7_code
def yX1_lowerStage : MethodName := ⟨RX1, "lowerStage", "(I)I"⟩
abbrev cX1_newlyKilled : ByteArray := prog_3_method_8_code
def yX1_newlyKilled : MethodName := ⟨RX1, "newlyKilled", "(I)I"⟩
abbrev cX1_stagesThatAreUp : ByteArray := prog_3_method_9_code
def yX1_stagesThatAreUp : MethodName := ⟨RX1, "stagesThatAreUp", "()I"⟩
abbrev cX1_blockAt : ByteArray := prog_3_method_10_code
def yX1_blockAt : MethodName := ⟨RX1, "blockAt", "(I)LSightBlocks$Block;"⟩
abbrev cX1_rankOf : ByteArray := prog_3_method_11_code
def yX1_rankOf : MethodName := ⟨RX1, "rankOf", "(I)I"⟩
abbrev cX1_priceOf : ByteArray := prog_3_method_12_code
def yX1_priceOf : MethodName := ⟨RX1, "priceOf", "(I)I"⟩
abbrev cX1_chairFigure : ByteArray := prog_3_method_13_code
def yX1_chairFigure : MethodName := ⟨RX1, "chairFigure", "(I)I"⟩
abbrev cX1_blockFigure : ByteArray := prog_3_method_14_code
def yX1_blockFigure : MethodName := ⟨RX1, "blockFigure", "(II)I"⟩
abbrev cX1_chairsIn : ByteArray := prog_3_method_15_code
def yX1_chairsIn : MethodName := ⟨RX1, "chairsIn", "()I"⟩
abbrev cX1_mark : ByteArray := prog_3_method_16_code
def yX1_mark : MethodName := ⟨RX1, "mark", "(III)V"⟩
abbrev cX1_findPlace : ByteArray := prog_3_method_17_code
def yX1_findPlace : MethodName := ⟨RX1, "findPlace", "(II)I"⟩
abbrev cX1_greatestGroup : ByteArray := prog_3_method_18_code
def yX1_greatestGroup : MethodName := ⟨RX1, "greatestGroup", "(I)I"⟩
abbrev cX1_upgradeFor : ByteArray := prog_3_method_20_code
def yX1_upgradeFor : MethodName := ⟨RX1, "upgradeFor", "(II)I"⟩
abbrev cX1_isGroup : ByteArray := prog_3_method_21_code
def yX1_isGroup : MethodName := ⟨RX1, "isGroup", "(I)Z"⟩
abbrev cX1_isStage : ByteArray := prog_3_method_22_code
def yX1_isStage : MethodName := ⟨RX1, "isStage", "(I)Z"⟩
abbrev cX1_isUp : ByteArray := prog_3_method_23_code
def yX1_isUp : MethodName := ⟨RX1, "isUp", "(I)Z"⟩
abbrev cX1_isChair : ByteArray := prog_3_method_24_code
def yX1_isChair : MethodName := ⟨RX1, "isChair", "(I)Z"⟩
abbrev cX1_isPiece : ByteArray := prog_3_method_25_code
def yX1_isPiece : MethodName := ⟨RX1, "isPiece", "(II)Z"⟩
abbrev cX1_chairsUnder : ByteArray := prog_3_method_26_code
def yX1_chairsUnder : MethodName := ⟨RX1, "chairsUnder", "(I)I"⟩
abbrev cX1_hasTakenChairUnder : ByteArray := prog_3_method_27_code
def yX1_hasTakenChairUnder : MethodName := ⟨RX1, "hasTakenChairUnder", "(I)Z"⟩
abbrev cX1_chairsThatAre : ByteArray := prog_3_method_28_code
def yX1_chairsThatAre : MethodName := ⟨RX1, "chairsThatAre", "(II)I"⟩
abbrev cX1_usableIn : ByteArray := prog_3_method_29_code
def yX1_usableIn : MethodName := ⟨RX1, "usableIn", "(I)I"⟩
abbrev cX1_usableInRow : ByteArray := prog_3_method_30_code
def yX1_usableInRow : MethodName := ⟨RX1, "usableInRow", "(LSightBlocks$Block;II)I"⟩
abbrev cX1_hasRoom : ByteArray := prog_3_method_31_code
def yX1_hasRoom : MethodName := ⟨RX1, "hasRoom", "(III)Z"⟩
abbrev cX1_leftAlone : ByteArray := prog_3_method_32_code
def yX1_leftAlone : MethodName := ⟨RX1, "leftAlone", "(III)I"⟩
def RX2 : String := "SightBlocks$History"
def TX2 : u_T := fun k => match k with
  | 0 => ("SightBlocks$History", "ring", "[LSightBlocks$Stadium;", true)
  | 1 => ("SightBlocks$History", "oldest", "I", false)
  | _ => ("SightBlocks$History", "size", "I", false)
def tyX2 : Nat → FieldType := fun k => match k with
  | 0 => .array (.object "SightBlocks$Stadium")
  | 1 => .int
  | _ => .int
abbrev wsX20 : List Cond := u_ws RX2 TX2 3
theorem nmX2 : ∀ a, a < 3 → ∀ b, b < 3 → a ≠ b → (TX2 a).2.1 ≠ (TX2 b).2.1 := by decide +kernel
theorem tyX2_ok : ∀ k, k < 3 → parseFieldDescriptor (TX2 k).2.2.1 = some (tyX2 k) := by decide +kernel
abbrev cX2_init : ByteArray := prog_4_method_1_code
def yX2_init : MethodName := ⟨RX2, "<init>", "()V"⟩
abbrev cX2_prepare : ByteArray := prog_4_method_2_code
def yX2_prepare : MethodName := ⟨RX2, "prepare", "(LSightBlocks$Stadium;)V"⟩
abbrev cX2_keepPrepared : ByteArray := prog_4_method_3_code
def yX2_keepPrepared : MethodName := ⟨RX2, "keepPrepared", "()V"⟩
def RX3 : String := "SightBlocks$Hold"
def TX3 : u_T := fun k => match k with
  | 0 => ("SightBlocks$Hold", "state", "I", false)
  | 1 => ("SightBlocks$Hold", "first", "I", false)
  | 2 => ("SightBlocks$Hold", "many", "I", false)
  | 3 => ("SightBlocks$Hold", "expiry", "I", false)
  | _ => ("SightBlocks$Hold", "ticket", "I", false)
def tyX3 : Nat → FieldType := fun k => match k with
  | 0 => .int
  | 1 => .int
  | 2 => .int
  | 3 => .int
  | _ => .int
abbrev wsX30 : List Cond := u_ws RX3 TX3 5
theorem nmX3 : ∀ a, a < 5 → ∀ b, b < 5 → a ≠ b → (TX3 a).2.1 ≠ (TX3 b).2.1 := by decide +kernel
theorem tyX3_ok : ∀ k, k < 5 → parseFieldDescriptor (TX3 k).2.2.1 = some (tyX3 k) := by decide +kernel
abbrev cX3_init : ByteArray := prog_5_method_1_code
def yX3_init : MethodName := ⟨RX3, "<init>", "()V"⟩
abbrev cX3_copyFrom : ByteArray := prog_5_method_2_code
def yX3_copyFrom : MethodName := ⟨RX3, "copyFrom", "(LSightBlocks$Hold;)V"⟩
def RX4 : String := "SightBlocks$Program"
def TX4 : u_T := fun k => match k with
  | 0 => ("SightBlocks$Program", "text", "[C", true)
  | 1 => ("SightBlocks$Program", "numbers", "[I", true)
  | 2 => ("SightBlocks$Program", "length", "I", false)
  | 3 => ("SightBlocks$Program", "tokenStart", "I", false)
  | _ => ("SightBlocks$Program", "tokenEnd", "I", false)
def tyX4 : Nat → FieldType := fun k => match k with
  | 0 => .array .char
  | 1 => .array .int
  | 2 => .int
  | 3 => .int
  | _ => .int
abbrev wsX40 : List Cond := u_ws RX4 TX4 5
theorem nmX4 : ∀ a, a < 5 → ∀ b, b < 5 → a ≠ b → (TX4 a).2.1 ≠ (TX4 b).2.1 := by decide +kernel
theorem tyX4_ok : ∀ k, k < 5 → parseFieldDescriptor (TX4 k).2.2.1 = some (tyX4 k) := by decide +kernel
abbrev cX4_init : ByteArray := prog_6_method_1_code
def yX4_init : MethodName := ⟨RX4, "<init>", "()V"⟩
def RX5 : String := "SightBlocks$Stadium"
def TX5 : u_T := fun k => match k with
  | 0 => ("SightBlocks$Stadium", "floor", "LSightBlocks$Floor;", true)
  | 1 => ("SightBlocks$Stadium", "holds", "[LSightBlocks$Hold;", true)
  | 2 => ("SightBlocks$Stadium", "tickets", "[LSightBlocks$Ticket;", true)
  | 3 => ("SightBlocks$Stadium", "holdCount", "I", false)
  | 4 => ("SightBlocks$Stadium", "ticketCount", "I", false)
  | 5 => ("SightBlocks$Stadium", "minute", "I", false)
  | 6 => ("SightBlocks$Stadium", "closed", "Z", false)
  | 7 => ("SightBlocks$Stadium", "paid", "I", false)
  | 8 => ("SightBlocks$Stadium", "paidBack", "I", false)
  | _ => ("SightBlocks$Stadium", "moves", "I", false)
def tyX5 : Nat → FieldType := fun k => match k with
  | 0 => .object "SightBlocks$Floor"
  | 1 => .array (.object "SightBlocks$Hold")
  | 2 => .array (.object "SightBlocks$Ticket")
  | 3 => .int
  | 4 => .int
  | 5 => .int
  | 6 => .boolean
  | 7 => .int
  | 8 => .int
  | _ => .int
abbrev wsX50 : List Cond := u_ws RX5 TX5 10
theorem nmX5 : ∀ a, a < 10 → ∀ b, b < 10 → a ≠ b → (TX5 a).2.1 ≠ (TX5 b).2.1 := by decide +kernel
theorem tyX5_ok : ∀ k, k < 10 → parseFieldDescriptor (TX5 k).2.2.1 = some (tyX5 k) := by decide +kernel
abbrev cX5_init : ByteArray := prog_7_method_1_code
def yX5_init : MethodName := ⟨RX5, "<init>", "()V"⟩
abbrev cX5_copyFrom : ByteArray := prog_7_method_2_code
def yX5_copyFrom : MethodName := ⟨RX5, "copyFrom", "(LSightBlocks$Stadium;)V"⟩
abbrev cX5_makeHold : ByteArray := prog_7_method_3_code
def yX5_makeHold : MethodName := ⟨RX5, "makeHold", "(III)I"⟩
abbrev cX5_buyHold : ByteArray := prog_7_method_4_code
def yX5_buyHold : MethodName := ⟨RX5, "buyHold", "(I)I"⟩
abbrev cX5_dropHold : ByteArray := prog_7_method_5_code
def yX5_dropHold : MethodName := ⟨RX5, "dropHold", "(I)I"⟩
abbrev cX5_returnTicket : ByteArray := prog_7_method_6_code
def yX5_returnTicket : MethodName := ⟨RX5, "returnTicket", "(I)I"⟩
abbrev cX5_admit : ByteArray := prog_7_method_7_code
/-- this method as the tables name it: its own word is one that rows may not hold -/
def yX5_admit : MethodName := match (tables_1_3[53]? : Option Cond) with
  | some (Cond.instanceMethod m) => m
  | _ => ⟨RX5, "", "(I)I"⟩
abbrev cX5_upgradeTicket : ByteArray := prog_7_method_8_code
def yX5_upgradeTicket : MethodName := ⟨RX5, "upgradeTicket", "(I)I"⟩
abbrev cX5_moveChain : ByteArray := prog_7_method_9_code
def yX5_moveChain : MethodName := ⟨RX5, "moveChain", "(I)I"⟩
abbrev cX5_letPass : ByteArray := prog_7_method_10_code
def yX5_letPass : MethodName := ⟨RX5, "letPass", "(I)I"⟩
abbrev cX5_shutDoors : ByteArray := prog_7_method_11_code
def yX5_shutDoors : MethodName := ⟨RX5, "shutDoors", "()I"⟩
abbrev cX5_numberOf : ByteArray := prog_7_method_12_code
def yX5_numberOf : MethodName := ⟨RX5, "numberOf", "(I)I"⟩
abbrev cX5_holdFigure : ByteArray := prog_7_method_13_code
def yX5_holdFigure : MethodName := ⟨RX5, "holdFigure", "(II)I"⟩
abbrev cX5_ticketFigure : ByteArray := prog_7_method_14_code
def yX5_ticketFigure : MethodName := ⟨RX5, "ticketFigure", "(II)I"⟩
abbrev cX5_minutesToExpiry : ByteArray := prog_7_method_15_code
def yX5_minutesToExpiry : MethodName := ⟨RX5, "minutesToExpiry", "()I"⟩
abbrev cX5_ticketAt : ByteArray := prog_7_method_16_code
def yX5_ticketAt : MethodName := ⟨RX5, "ticketAt", "(I)LSightBlocks$Ticket;"⟩
abbrev cX5_holdAt : ByteArray := prog_7_method_17_code
def yX5_holdAt : MethodName := ⟨RX5, "holdAt", "(I)LSightBlocks$Hold;"⟩
abbrev cX5_moveTicket : ByteArray := prog_7_method_18_code
def yX5_moveTicket : MethodName := ⟨RX5, "moveTicket", "(II)I"⟩
abbrev cX5_nextMover : ByteArray := prog_7_method_19_code
def yX5_nextMover : MethodName := ⟨RX5, "nextMover", "(I)I"⟩
abbrev cX5_isWait : ByteArray := prog_7_method_20_code
def yX5_isWait : MethodName := ⟨RX5, "isWait", "(I)Z"⟩
abbrev cX5_openHolds : ByteArray := prog_7_method_21_code
def yX5_openHolds : MethodName := ⟨RX5, "openHolds", "()I"⟩
abbrev cX5_ticketsThatAre : ByteArray := prog_7_method_22_code
def yX5_ticketsThatAre : MethodName := ⟨RX5, "ticketsThatAre", "(I)I"⟩
def RX6 : String := "SightBlocks$Ticket"
def TX6 : u_T := fun k => match k with
  | 0 => ("SightBlocks$Ticket", "state", "I", false)
  | 1 => ("SightBlocks$Ticket", "first", "I", false)
  | 2 => ("SightBlocks$Ticket", "many", "I", false)
  | 3 => ("SightBlocks$Ticket", "paid", "I", false)
  | _ => ("SightBlocks$Ticket", "moves", "I", false)
def tyX6 : Nat → FieldType := fun k => match k with
  | 0 => .int
  | 1 => .int
  | 2 => .int
  | 3 => .int
  | _ => .int
abbrev wsX60 : List Cond := u_ws RX6 TX6 5
theorem nmX6 : ∀ a, a < 5 → ∀ b, b < 5 → a ≠ b → (TX6 a).2.1 ≠ (TX6 b).2.1 := by decide +kernel
theorem tyX6_ok : ∀ k, k < 5 → parseFieldDescriptor (TX6 k).2.2.1 = some (tyX6 k) := by decide +kernel
abbrev cX6_init : ByteArray := prog_8_method_1_code
def yX6_init : MethodName := ⟨RX6, "<init>", "()V"⟩
abbrev cX6_copyFrom : ByteArray := prog_8_method_2_code
def yX6_copyFrom : MethodName := ⟨RX6, "copyFrom", "(LSightBlocks$Ticket;)V"⟩
def RX7 : String := "SightBlocks"
def TX7 : u_T := fun k => match k with
  | 0 => ("SightBlocks", "stadium", "LSightBlocks$Stadium;", true)
  | 1 => ("SightBlocks", "trial", "LSightBlocks$Stadium;", true)
  | 2 => ("SightBlocks", "history", "LSightBlocks$History;", true)
  | _ => ("SightBlocks", "program", "LSightBlocks$Program;", true)
def tyX7 : Nat → FieldType := fun k => match k with
  | 0 => .object "SightBlocks$Stadium"
  | 1 => .object "SightBlocks$Stadium"
  | 2 => .object "SightBlocks$History"
  | _ => .object "SightBlocks$Program"
abbrev wsX70 : List Cond := u_ws RX7 TX7 4
theorem nmX7 : ∀ a, a < 4 → ∀ b, b < 4 → a ≠ b → (TX7 a).2.1 ≠ (TX7 b).2.1 := by decide +kernel
theorem tyX7_ok : ∀ k, k < 4 → parseFieldDescriptor (TX7 k).2.2.1 = some (tyX7 k) := by decide +kernel
abbrev cX7_init : ByteArray := prog_1_method_1_code
def yX7_init : MethodName := ⟨RX7, "<init>", "()V"⟩
abbrev cX7_addBlock : ByteArray := prog_1_method_2_code
def yX7_addBlock : MethodName := ⟨RX7, "addBlock", "(III)I"⟩
abbrev cX7_addStage : ByteArray := prog_1_method_3_code
def yX7_addStage : MethodName := ⟨RX7, "addStage", "()I"⟩
abbrev cX7_addPiece : ByteArray := prog_1_method_4_code
def yX7_addPiece : MethodName := ⟨RX7, "addPiece", "(III)I"⟩
abbrev cX7_putUp : ByteArray := prog_1_method_5_code
def yX7_putUp : MethodName := ⟨RX7, "putUp", "(I)I"⟩
abbrev cX7_takeDown : ByteArray := prog_1_method_6_code
def yX7_takeDown : MethodName := ⟨RX7, "takeDown", "(I)I"⟩
abbrev cX7_hold : ByteArray := prog_1_method_7_code
def yX7_hold : MethodName := ⟨RX7, "hold", "(III)I"⟩
abbrev cX7_buy : ByteArray := prog_1_method_8_code
def yX7_buy : MethodName := ⟨RX7, "buy", "(I)I"⟩
abbrev cX7_drop : ByteArray := prog_1_method_9_code
def yX7_drop : MethodName := ⟨RX7, "drop", "(I)I"⟩
abbrev cX7_giveBack : ByteArray := prog_1_method_10_code
def yX7_giveBack : MethodName := ⟨RX7, "giveBack", "(I)I"⟩
abbrev cX7_comeIn : ByteArray := prog_1_method_11_code
def yX7_comeIn : MethodName := ⟨RX7, "comeIn", "(I)I"⟩
abbrev cX7_upgrade : ByteArray := prog_1_method_12_code
def yX7_upgrade : MethodName := ⟨RX7, "upgrade", "(I)I"⟩
abbrev cX7_pass : ByteArray := prog_1_method_13_code
def yX7_pass : MethodName := ⟨RX7, "pass", "(I)I"⟩
abbrev cX7_closeDoors : ByteArray := prog_1_method_14_code
def yX7_closeDoors : MethodName := ⟨RX7, "closeDoors", "()I"⟩
abbrev cX7_count : ByteArray := prog_1_method_19_code
def yX7_count : MethodName := ⟨RX7, "count", "(I)I"⟩
abbrev cX7_block : ByteArray := prog_1_method_20_code
def yX7_block : MethodName := ⟨RX7, "block", "(II)I"⟩
abbrev cX7_chair : ByteArray := prog_1_method_21_code
def yX7_chair : MethodName := ⟨RX7, "chair", "(I)I"⟩
abbrev cX7_holdOf : ByteArray := prog_1_method_22_code
def yX7_holdOf : MethodName := ⟨RX7, "holdOf", "(II)I"⟩
abbrev cX7_ticket : ByteArray := prog_1_method_23_code
def yX7_ticket : MethodName := ⟨RX7, "ticket", "(II)I"⟩
abbrev cX7_place : ByteArray := prog_1_method_24_code
def yX7_place : MethodName := ⟨RX7, "place", "(II)I"⟩
abbrev cX7_wouldKill : ByteArray := prog_1_method_25_code
def yX7_wouldKill : MethodName := ⟨RX7, "wouldKill", "(I)I"⟩
abbrev cX7_chain : ByteArray := prog_1_method_26_code
def yX7_chain : MethodName := ⟨RX7, "chain", "(I)I"⟩
abbrev cX7_nextExpiry : ByteArray := prog_1_method_28_code
def yX7_nextExpiry : MethodName := ⟨RX7, "nextExpiry", "()I"⟩
abbrev cX7_recorded : ByteArray := prog_1_method_29_code
def yX7_recorded : MethodName := ⟨RX7, "recorded", "(I)I"⟩
def RX8 : String := "SightBlocksModel"
def TX8 : u_T := fun k => match k with
  | _ => ("", "", "", false)
def tyX8 : Nat → FieldType := fun k => match k with
  | _ => .int
abbrev wsX80 : List Cond := u_ws RX8 TX8 0
theorem nmX8 : ∀ a, a < 0 → ∀ b, b < 0 → a ≠ b → (TX8 a).2.1 ≠ (TX8 b).2.1 := by decide +kernel
theorem tyX8_ok : ∀ k, k < 0 → parseFieldDescriptor (TX8 k).2.2.1 = some (tyX8 k) := by decide +kernel
def RJ6 : String := "java/lang/Integer"
abbrev cJ6_bitCount_0f7a4 : ByteArray := prog_11_method_49_code
def yJ6_bitCount_0f7a4 : MethodName := ⟨RJ6, "bitCount", "(I)I"⟩
def RJ10 : String := "java/lang/System"
def RL : String := "SightBlocksLaw"
abbrev cL_cell : ByteArray := method_2_code
def yL_cell : MethodName := ⟨RL, "cell", "([II)I"⟩
abbrev cL_low : ByteArray := method_3_code
def yL_low : MethodName := ⟨RL, "low", "(II)I"⟩
abbrev cL_at : ByteArray := method_4_code
def yL_at : MethodName := ⟨RL, "at", "(I)I"⟩
abbrev cL_isChair : ByteArray := method_5_code
def yL_isChair : MethodName := ⟨RL, "isChair", "([I[IIII)Z"⟩
abbrev cL_isOpen : ByteArray := method_6_code
def yL_isOpen : MethodName := ⟨RL, "isOpen", "([I[I[IIII)Z"⟩
abbrev cL_place : ByteArray := method_7_code
def yL_place : MethodName := ⟨RL, "place", "([I[I[III)I"⟩
abbrev cL_become : ByteArray := method_8_code
def yL_become : MethodName := ⟨RL, "become", "([IIII)V"⟩
abbrev cL_rank : ByteArray := method_9_code
def yL_rank : MethodName := ⟨RL, "rank", "([I[II)I"⟩
abbrev cL_counted : ByteArray := method_10_code
def yL_counted : MethodName := ⟨RL, "counted", "([I[I[III)I"⟩
abbrev cL_areBlocks : ByteArray := method_11_code
def yL_areBlocks : MethodName := ⟨RL, "areBlocks", "(LSightBlocks;[I[I[I)Z"⟩
abbrev cL_areHolds : ByteArray := method_12_code
def yL_areHolds : MethodName := ⟨RL, "areHolds", "(LSightBlocks;[I[I[I)Z"⟩
abbrev cL_isBuilt : ByteArray := method_13_code
def yL_isBuilt : MethodName := ⟨RL, "isBuilt", "(LSightBlocks;[I[II)Z"⟩
abbrev cL_isStaged : ByteArray := method_14_code
def yL_isStaged : MethodName := ⟨RL, "isStaged", "(LSightBlocks;[I[I[II)Z"⟩
abbrev cL_isHeld : ByteArray := method_15_code
def yL_isHeld : MethodName := ⟨RL, "isHeld", "(LSightBlocks;[I[I[I[II)Z"⟩
abbrev cL_isBought : ByteArray := method_16_code
def yL_isBought : MethodName := ⟨RL, "isBought", "(LSightBlocks;[I[I[I[I[II)Z"⟩
abbrev cL_isCome : ByteArray := method_17_code
def yL_isCome : MethodName := ⟨RL, "isCome", "(LSightBlocks;[I[I[I[II)Z"⟩
abbrev cL_moves : ByteArray := method_18_code
def yL_moves : MethodName := ⟨RL, "moves", "([I[I[I[III)V"⟩
abbrev cL_isUpgraded : ByteArray := method_19_code
def yL_isUpgraded : MethodName := ⟨RL, "isUpgraded", "(LSightBlocks;[I[I[I[II)Z"⟩
abbrev cL_isPassed : ByteArray := method_20_code
def yL_isPassed : MethodName := ⟨RL, "isPassed", "(LSightBlocks;[I[I[I[II)Z"⟩
abbrev cL_law : ByteArray := code
def yL_law : MethodName := ⟨RL, "law", "([I)Z"⟩
abbrev vwCl : List vw_C := [(RX0, TX0, 3), (RX1, TX1, 6), (RX2, TX2, 3), (RX3, TX3, 5), (RX4, TX4, 5), (RX5, TX5, 10), (RX6, TX6, 5), (RX7, TX7, 4)]
