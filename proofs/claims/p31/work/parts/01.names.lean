-- ===== PART A: goes FIRST, ahead of the names: the tables' words, and 'selects' of the private methods out of them =====
/-- a private method of a class that the tables say can be made, by its rows of tables_1 -/
def lw_okq (q : MethodName × Nat) : Prop := (q.1.cls ≠ "java/lang/invoke/MethodHandle" ∧ q.1.cls ≠ "java/lang/invoke/VarHandle") ∧ Cond.instantiable q.1.cls q.2 ∈ tables_1 ∧ Cond.privateMethod q.1 ∈ tables_1 ∧ Cond.instanceMethod q.1 ∈ tables_1
theorem lw_p0 : lw_okq (⟨"BarterRings$History", "rowAt", "(I)LBarterRings$Market;"⟩, 3) := ⟨⟨by decide +kernel, by decide +kernel⟩, List.mem_of_getElem? (i := 104) (by decide +kernel), List.mem_of_getElem? (i := 228) (by decide +kernel), List.mem_of_getElem? (i := 229) (by decide +kernel)⟩
theorem lw_p1 : lw_okq (⟨"BarterRings$Market", "wantsWareOf", "(II)Z"⟩, 18) := ⟨⟨by decide +kernel, by decide +kernel⟩, List.mem_of_getElem? (i := 20) (by decide +kernel), List.mem_of_getElem? (i := 315) (by decide +kernel), List.mem_of_getElem? (i := 316) (by decide +kernel)⟩
theorem lw_p2 : lw_okq (⟨"BarterRings$Market", "makeWare", "(I)V"⟩, 18) := ⟨⟨by decide +kernel, by decide +kernel⟩, List.mem_of_getElem? (i := 20) (by decide +kernel), List.mem_of_getElem? (i := 337) (by decide +kernel), List.mem_of_getElem? (i := 338) (by decide +kernel)⟩
theorem lw_p3 : lw_okq (⟨"BarterRings", "bestGiver", "(I)I"⟩, 10) := ⟨⟨by decide +kernel, by decide +kernel⟩, List.mem_of_getElem? (i := 12) (by decide +kernel), List.mem_of_getElem? (i := 357) (by decide +kernel), List.mem_of_getElem? (i := 358) (by decide +kernel)⟩
theorem lw_p4 : lw_okq (⟨"BarterRings$TakerSearch", "chooseGiver", "(III)V"⟩, 6) := ⟨⟨by decide +kernel, by decide +kernel⟩, List.mem_of_getElem? (i := 164) (by decide +kernel), List.mem_of_getElem? (i := 370) (by decide +kernel), List.mem_of_getElem? (i := 371) (by decide +kernel)⟩
theorem lw_p5 : lw_okq (⟨"BarterRings$TakerSearch", "fitsInCircle", "(II)Z"⟩, 6) := ⟨⟨by decide +kernel, by decide +kernel⟩, List.mem_of_getElem? (i := 164) (by decide +kernel), List.mem_of_getElem? (i := 376) (by decide +kernel), List.mem_of_getElem? (i := 377) (by decide +kernel)⟩
theorem lw_p6 : lw_okq (⟨"BarterRings$TakerSearch", "goOn", "(IIII)V"⟩, 6) := ⟨⟨by decide +kernel, by decide +kernel⟩, List.mem_of_getElem? (i := 164) (by decide +kernel), List.mem_of_getElem? (i := 381) (by decide +kernel), List.mem_of_getElem? (i := 382) (by decide +kernel)⟩
theorem lw_p7 : lw_okq (⟨"BarterRings$Market", "keepWares", "()V"⟩, 18) := ⟨⟨by decide +kernel, by decide +kernel⟩, List.mem_of_getElem? (i := 20) (by decide +kernel), List.mem_of_getElem? (i := 456) (by decide +kernel), List.mem_of_getElem? (i := 457) (by decide +kernel)⟩
theorem lw_p8 : lw_okq (⟨"BarterRings$Market", "takeWare", "(II)V"⟩, 18) := ⟨⟨by decide +kernel, by decide +kernel⟩, List.mem_of_getElem? (i := 20) (by decide +kernel), List.mem_of_getElem? (i := 460) (by decide +kernel), List.mem_of_getElem? (i := 461) (by decide +kernel)⟩
theorem lw_p9 : lw_okq (⟨"BarterRings$CircleSets", "readTakers", "(LBarterRings$Market;)V"⟩, 6) := ⟨⟨by decide +kernel, by decide +kernel⟩, List.mem_of_getElem? (i := 138) (by decide +kernel), List.mem_of_getElem? (i := 472) (by decide +kernel), List.mem_of_getElem? (i := 473) (by decide +kernel)⟩
theorem lw_p10 : lw_okq (⟨"BarterRings$CircleSets", "findChains", "()V"⟩, 6) := ⟨⟨by decide +kernel, by decide +kernel⟩, List.mem_of_getElem? (i := 138) (by decide +kernel), List.mem_of_getElem? (i := 482) (by decide +kernel), List.mem_of_getElem? (i := 483) (by decide +kernel)⟩
theorem lw_p11 : lw_okq (⟨"BarterRings$CircleSets", "findCircles", "(I)V"⟩, 6) := ⟨⟨by decide +kernel, by decide +kernel⟩, List.mem_of_getElem? (i := 138) (by decide +kernel), List.mem_of_getElem? (i := 489) (by decide +kernel), List.mem_of_getElem? (i := 490) (by decide +kernel)⟩
theorem lw_p12 : lw_okq (⟨"BarterRings$CircleSets", "findBarters", "()I"⟩, 6) := ⟨⟨by decide +kernel, by decide +kernel⟩, List.mem_of_getElem? (i := 138) (by decide +kernel), List.mem_of_getElem? (i := 494) (by decide +kernel), List.mem_of_getElem? (i := 495) (by decide +kernel)⟩
theorem lw_p13 : lw_okq (⟨"BarterRings$CircleSets", "isMadeOfCircles", "(I)Z"⟩, 6) := ⟨⟨by decide +kernel, by decide +kernel⟩, List.mem_of_getElem? (i := 138) (by decide +kernel), List.mem_of_getElem? (i := 498) (by decide +kernel), List.mem_of_getElem? (i := 499) (by decide +kernel)⟩
theorem lw_p14 : lw_okq (⟨"BarterRings", "callMarket", "(LBarterRings$Market;)I"⟩, 10) := ⟨⟨by decide +kernel, by decide +kernel⟩, List.mem_of_getElem? (i := 12) (by decide +kernel), List.mem_of_getElem? (i := 506) (by decide +kernel), List.mem_of_getElem? (i := 507) (by decide +kernel)⟩
theorem lw_p15 : lw_okq (⟨"BarterRings$Market", "renewWare", "(I)V"⟩, 18) := ⟨⟨by decide +kernel, by decide +kernel⟩, List.mem_of_getElem? (i := 20) (by decide +kernel), List.mem_of_getElem? (i := 522) (by decide +kernel), List.mem_of_getElem? (i := 523) (by decide +kernel)⟩
def lw_privs_1 : List (MethodName × Nat) := [(⟨"BarterRings$History", "rowAt", "(I)LBarterRings$Market;"⟩, 3), (⟨"BarterRings$Market", "wantsWareOf", "(II)Z"⟩, 18), (⟨"BarterRings$Market", "makeWare", "(I)V"⟩, 18), (⟨"BarterRings", "bestGiver", "(I)I"⟩, 10), (⟨"BarterRings$TakerSearch", "chooseGiver", "(III)V"⟩, 6), (⟨"BarterRings$TakerSearch", "fitsInCircle", "(II)Z"⟩, 6), (⟨"BarterRings$TakerSearch", "goOn", "(IIII)V"⟩, 6), (⟨"BarterRings$Market", "keepWares", "()V"⟩, 18), (⟨"BarterRings$Market", "takeWare", "(II)V"⟩, 18), (⟨"BarterRings$CircleSets", "readTakers", "(LBarterRings$Market;)V"⟩, 6), (⟨"BarterRings$CircleSets", "findChains", "()V"⟩, 6), (⟨"BarterRings$CircleSets", "findCircles", "(I)V"⟩, 6), (⟨"BarterRings$CircleSets", "findBarters", "()I"⟩, 6), (⟨"BarterRings$CircleSets", "isMadeOfCircles", "(I)Z"⟩, 6), (⟨"BarterRings", "callMarket", "(LBarterRings$Market;)I"⟩, 10), (⟨"BarterRings$Market", "renewWare", "(I)V"⟩, 18)]
theorem lw_r1 : ∀ q ∈ lw_privs_1, lw_okq q := List.forall_mem_cons.mpr ⟨lw_p0, List.forall_mem_cons.mpr ⟨lw_p1, List.forall_mem_cons.mpr ⟨lw_p2, List.forall_mem_cons.mpr ⟨lw_p3, List.forall_mem_cons.mpr ⟨lw_p4, List.forall_mem_cons.mpr ⟨lw_p5, List.forall_mem_cons.mpr ⟨lw_p6, List.forall_mem_cons.mpr ⟨lw_p7, List.forall_mem_cons.mpr ⟨lw_p8, List.forall_mem_cons.mpr ⟨lw_p9, List.forall_mem_cons.mpr ⟨lw_p10, List.forall_mem_cons.mpr ⟨lw_p11, List.forall_mem_cons.mpr ⟨lw_p12, List.forall_mem_cons.mpr ⟨lw_p13, List.forall_mem_cons.mpr ⟨lw_p14, List.forall_mem_cons.mpr ⟨lw_p15, fun _ h => absurd h List.not_mem_nil⟩⟩⟩⟩⟩⟩⟩⟩⟩⟩⟩⟩⟩⟩⟩⟩
theorem lw_p16 : lw_okq (⟨"BarterRings$Market", "drawLot", "()V"⟩, 18) := ⟨⟨by decide +kernel, by decide +kernel⟩, List.mem_of_getElem? (i := 20) (by decide +kernel), List.mem_of_getElem? (i := 526) (by decide +kernel), List.mem_of_getElem? (i := 527) (by decide +kernel)⟩
def lw_privs_2 : List (MethodName × Nat) := [(⟨"BarterRings$Market", "drawLot", "()V"⟩, 18)]
theorem lw_r2 : ∀ q ∈ lw_privs_2, lw_okq q := List.forall_mem_cons.mpr ⟨lw_p16, fun _ h => absurd h List.not_mem_nil⟩
def lw_privs : List (MethodName × Nat) := lw_privs_1 ++ (lw_privs_2)
def lw_tbl : List Cond := k2_sels lw_privs ++ tables_1
theorem lw_privs_ok : ∀ q ∈ lw_privs, lw_okq q := by
  show ∀ q ∈ lw_privs_1 ++ (lw_privs_2), lw_okq q
  exact List.forall_mem_append.mpr ⟨lw_r1, lw_r2⟩
-- ===== end of PART A =====
def RX0 : String := "BarterRings$CircleSets"
def TX0 : u_T := fun k => match k with
  | 0 => ("BarterRings$CircleSets", "takersOf", "[I", true)
  | 1 => ("BarterRings$CircleSets", "lastOnes", "[I", true)
  | 2 => ("BarterRings$CircleSets", "isCircle", "[Z", true)
  | 3 => ("BarterRings$CircleSets", "isBarter", "[Z", true)
  | 4 => ("BarterRings$CircleSets", "size", "I", false)
  | _ => ("BarterRings$CircleSets", "sets", "I", false)
def tyX0 : Nat → FieldType := fun k => match k with
  | 0 => .array .int
  | 1 => .array .int
  | 2 => .array .boolean
  | 3 => .array .boolean
  | 4 => .int
  | _ => .int
theorem nmX0 : ∀ a, a < 6 → ∀ b, b < 6 → a ≠ b → (TX0 a).2.1 ≠ (TX0 b).2.1 := by decide +kernel
theorem tyX0_ok : ∀ k, k < 6 → parseFieldDescriptor (TX0 k).2.2.1 = some (tyX0 k) := by decide +kernel
abbrev cX0_init : ByteArray := prog_2_method_1_code
def yX0_init : MethodName := ⟨RX0, "<init>", "()V"⟩
abbrev cX0_mostTraders : ByteArray := prog_2_method_2_code
def yX0_mostTraders : MethodName := ⟨RX0, "mostTraders", "(LBarterRings$Market;I)I"⟩
abbrev cX0_readTakers : ByteArray := prog_2_method_3_code
def yX0_readTakers : MethodName := ⟨RX0, "readTakers", "(LBarterRings$Market;)V"⟩
abbrev cX0_findChains : ByteArray := prog_2_method_4_code
def yX0_findChains : MethodName := ⟨RX0, "findChains", "()V"⟩
abbrev cX0_findCircles : ByteArray := prog_2_method_5_code
def yX0_findCircles : MethodName := ⟨RX0, "findCircles", "(I)V"⟩
abbrev cX0_findBarters : ByteArray := prog_2_method_6_code
def yX0_findBarters : MethodName := ⟨RX0, "findBarters", "()I"⟩
abbrev cX0_isMadeOfCircles : ByteArray := prog_2_method_7_code
def yX0_isMadeOfCircles : MethodName := ⟨RX0, "isMadeOfCircles", "(I)Z"⟩
abbrev cX0_leastOf : ByteArray := prog_2_method_8_code
def yX0_leastOf : MethodName := ⟨RX0, "leastOf", "(I)I"⟩
def RX1 : String := "BarterRings$History"
def TX1 : u_T := fun k => match k with
  | 0 => ("BarterRings$History", "held", "I", false)
  | 1 => ("BarterRings$History", "rows", "[LBarterRings$Market;", true)
  | _ => ("BarterRings$History", "newest", "I", false)
def tyX1 : Nat → FieldType := fun k => match k with
  | 0 => .int
  | 1 => .array (.object "BarterRings$Market")
  | _ => .int
theorem nmX1 : ∀ a, a < 3 → ∀ b, b < 3 → a ≠ b → (TX1 a).2.1 ≠ (TX1 b).2.1 := by decide +kernel
theorem tyX1_ok : ∀ k, k < 3 → parseFieldDescriptor (TX1 k).2.2.1 = some (tyX1 k) := by decide +kernel
abbrev cX1_init : ByteArray := prog_3_method_1_code
def yX1_init : MethodName := ⟨RX1, "<init>", "()V"⟩
abbrev cX1_record : ByteArray := prog_3_method_2_code
def yX1_record : MethodName := ⟨RX1, "record", "(LBarterRings$Market;)V"⟩
abbrev cX1_takeBack : ByteArray := prog_3_method_3_code
def yX1_takeBack : MethodName := ⟨RX1, "takeBack", "(LBarterRings$Market;)V"⟩
abbrev cX1_rowAt : ByteArray := prog_3_method_4_code
def yX1_rowAt : MethodName := ⟨RX1, "rowAt", "(I)LBarterRings$Market;"⟩
def RX2 : String := "BarterRings$Market"
def TX2 : u_T := fun k => match k with
  | 0 => ("BarterRings$Market", "makes", "[I", true)
  | 1 => ("BarterRings$Market", "wants", "[I", true)
  | 2 => ("BarterRings$Market", "ware", "[I", true)
  | 3 => ("BarterRings$Market", "age", "[I", true)
  | 4 => ("BarterRings$Market", "met", "[I", true)
  | 5 => ("BarterRings$Market", "life", "[I", true)
  | 6 => ("BarterRings$Market", "metOfKind", "[I", true)
  | 7 => ("BarterRings$Market", "size", "I", false)
  | 8 => ("BarterRings$Market", "longestCircle", "I", false)
  | 9 => ("BarterRings$Market", "day", "I", false)
  | 10 => ("BarterRings$Market", "lot", "I", false)
  | 11 => ("BarterRings$Market", "shut", "I", false)
  | 12 => ("BarterRings$Market", "thrownAway", "I", false)
  | 13 => ("BarterRings$Market", "made", "I", false)
  | 14 => ("BarterRings$Market", "calls", "I", false)
  | 15 => ("BarterRings$Market", "refused", "I", false)
  | 16 => ("BarterRings$Market", "wareBefore", "[I", true)
  | _ => ("BarterRings$Market", "ageBefore", "[I", true)
def tyX2 : Nat → FieldType := fun k => match k with
  | 0 => .array .int
  | 1 => .array .int
  | 2 => .array .int
  | 3 => .array .int
  | 4 => .array .int
  | 5 => .array .int
  | 6 => .array .int
  | 7 => .int
  | 8 => .int
  | 9 => .int
  | 10 => .int
  | 11 => .int
  | 12 => .int
  | 13 => .int
  | 14 => .int
  | 15 => .int
  | 16 => .array .int
  | _ => .array .int
theorem nmX2 : ∀ a, a < 18 → ∀ b, b < 18 → a ≠ b → (TX2 a).2.1 ≠ (TX2 b).2.1 := by decide +kernel
theorem tyX2_ok : ∀ k, k < 18 → parseFieldDescriptor (TX2 k).2.2.1 = some (tyX2 k) := by decide +kernel
abbrev cX2_init : ByteArray := prog_4_method_1_code
def yX2_init : MethodName := ⟨RX2, "<init>", "()V"⟩
abbrev cX2_copyFrom : ByteArray := prog_4_method_2_code
def yX2_copyFrom : MethodName := ⟨RX2, "copyFrom", "(LBarterRings$Market;)V"⟩
abbrev cX2_has : ByteArray := prog_4_method_3_code
def yX2_has : MethodName := ⟨RX2, "has", "(I)Z"⟩
abbrev cX2_hasBoth : ByteArray := prog_4_method_4_code
def yX2_hasBoth : MethodName := ⟨RX2, "hasBoth", "(II)Z"⟩
abbrev cX2_add : ByteArray := prog_4_method_5_code
def yX2_add : MethodName := ⟨RX2, "add", "(II)V"⟩
abbrev cX2_remove : ByteArray := prog_4_method_6_code
def yX2_remove : MethodName := ⟨RX2, "remove", "(I)V"⟩
abbrev cX2_makeWare : ByteArray := prog_4_method_7_code
def yX2_makeWare : MethodName := ⟨RX2, "makeWare", "(I)V"⟩
abbrev cX2_hasWare : ByteArray := prog_4_method_8_code
def yX2_hasWare : MethodName := ⟨RX2, "hasWare", "(I)Z"⟩
abbrev cX2_hasSoundWare : ByteArray := prog_4_method_9_code
def yX2_hasSoundWare : MethodName := ⟨RX2, "hasSoundWare", "(I)Z"⟩
abbrev cX2_daysLeft : ByteArray := prog_4_method_10_code
def yX2_daysLeft : MethodName := ⟨RX2, "daysLeft", "(I)I"⟩
abbrev cX2_wantsWareOf : ByteArray := prog_4_method_11_code
def yX2_wantsWareOf : MethodName := ⟨RX2, "wantsWareOf", "(II)Z"⟩
abbrev cX2_canTake : ByteArray := prog_4_method_12_code
def yX2_canTake : MethodName := ⟨RX2, "canTake", "(II)Z"⟩
abbrev cX2_giversOf : ByteArray := prog_4_method_13_code
def yX2_giversOf : MethodName := ⟨RX2, "giversOf", "(I)I"⟩
abbrev cX2_numberOfTakers : ByteArray := prog_4_method_14_code
def yX2_numberOfTakers : MethodName := ⟨RX2, "numberOfTakers", "(I)I"⟩
abbrev cX2_refusal : ByteArray := prog_4_method_15_code
def yX2_refusal : MethodName := ⟨RX2, "refusal", "(II)I"⟩
abbrev cX2_barterByHand : ByteArray := prog_4_method_16_code
def yX2_barterByHand : MethodName := ⟨RX2, "barterByHand", "(II)I"⟩
abbrev cX2_doBarter : ByteArray := prog_4_method_17_code
def yX2_doBarter : MethodName := ⟨RX2, "doBarter", "([I)V"⟩
abbrev cX2_keepWares : ByteArray := prog_4_method_18_code
def yX2_keepWares : MethodName := ⟨RX2, "keepWares", "()V"⟩
abbrev cX2_takeWare : ByteArray := prog_4_method_19_code
def yX2_takeWare : MethodName := ⟨RX2, "takeWare", "(II)V"⟩
abbrev cX2_passDay : ByteArray := prog_4_method_20_code
def yX2_passDay : MethodName := ⟨RX2, "passDay", "()I"⟩
abbrev cX2_renewWare : ByteArray := prog_4_method_21_code
def yX2_renewWare : MethodName := ⟨RX2, "renewWare", "(I)V"⟩
abbrev cX2_drawLot : ByteArray := prog_4_method_22_code
def yX2_drawLot : MethodName := ⟨RX2, "drawLot", "()V"⟩
abbrev cX2_needs : ByteArray := prog_4_method_23_code
def yX2_needs : MethodName := ⟨RX2, "needs", "()I"⟩
abbrev cX2_needsMet : ByteArray := prog_4_method_24_code
def yX2_needsMet : MethodName := ⟨RX2, "needsMet", "()I"⟩
abbrev cX2_waresOfKind : ByteArray := prog_4_method_25_code
def yX2_waresOfKind : MethodName := ⟨RX2, "waresOfKind", "(I)I"⟩
abbrev cX2_soundWaresOfKind : ByteArray := prog_4_method_26_code
def yX2_soundWaresOfKind : MethodName := ⟨RX2, "soundWaresOfKind", "(I)I"⟩
abbrev cX2_soundWares : ByteArray := prog_4_method_27_code
def yX2_soundWares : MethodName := ⟨RX2, "soundWares", "()I"⟩
abbrev cX2_spoiltWares : ByteArray := prog_4_method_28_code
def yX2_spoiltWares : MethodName := ⟨RX2, "spoiltWares", "()I"⟩
abbrev cX2_daysLeftOfAll : ByteArray := prog_4_method_29_code
def yX2_daysLeftOfAll : MethodName := ⟨RX2, "daysLeftOfAll", "()I"⟩
abbrev cX2_tradersWhoWant : ByteArray := prog_4_method_30_code
def yX2_tradersWhoWant : MethodName := ⟨RX2, "tradersWhoWant", "(I)I"⟩
abbrev cX2_tradersWhoMake : ByteArray := prog_4_method_31_code
def yX2_tradersWhoMake : MethodName := ⟨RX2, "tradersWhoMake", "(I)I"⟩
abbrev cX2_stuckTraders : ByteArray := prog_4_method_32_code
def yX2_stuckTraders : MethodName := ⟨RX2, "stuckTraders", "()I"⟩
def RX3 : String := "BarterRings$Pad"
def TX3 : u_T := fun k => match k with
  | 0 => ("BarterRings$Pad", "length", "I", false)
  | _ => ("BarterRings$Pad", "signs", "[C", true)
def tyX3 : Nat → FieldType := fun k => match k with
  | 0 => .int
  | _ => .array .char
theorem nmX3 : ∀ a, a < 2 → ∀ b, b < 2 → a ≠ b → (TX3 a).2.1 ≠ (TX3 b).2.1 := by decide +kernel
theorem tyX3_ok : ∀ k, k < 2 → parseFieldDescriptor (TX3 k).2.2.1 = some (tyX3 k) := by decide +kernel
abbrev cX3_init : ByteArray := prog_5_method_1_code
def yX3_init : MethodName := ⟨RX3, "<init>", "()V"⟩
def RX4 : String := "BarterRings$TakerSearch"
def TX4 : u_T := fun k => match k with
  | 0 => ("BarterRings$TakerSearch", "bestGiverOf", "[I", true)
  | 1 => ("BarterRings$TakerSearch", "giversOf", "[I", true)
  | 2 => ("BarterRings$TakerSearch", "giverOf", "[I", true)
  | 3 => ("BarterRings$TakerSearch", "size", "I", false)
  | 4 => ("BarterRings$TakerSearch", "longestCircle", "I", false)
  | _ => ("BarterRings$TakerSearch", "most", "I", false)
def tyX4 : Nat → FieldType := fun k => match k with
  | 0 => .array .int
  | 1 => .array .int
  | 2 => .array .int
  | 3 => .int
  | 4 => .int
  | _ => .int
theorem nmX4 : ∀ a, a < 6 → ∀ b, b < 6 → a ≠ b → (TX4 a).2.1 ≠ (TX4 b).2.1 := by decide +kernel
theorem tyX4_ok : ∀ k, k < 6 → parseFieldDescriptor (TX4 k).2.2.1 = some (tyX4 k) := by decide +kernel
abbrev cX4_init : ByteArray := prog_6_method_1_code
def yX4_init : MethodName := ⟨RX4, "<init>", "()V"⟩
abbrev cX4_findBest : ByteArray := prog_6_method_2_code
def yX4_findBest : MethodName := ⟨RX4, "findBest", "(LBarterRings$Market;)I"⟩
abbrev cX4_chooseGiver : ByteArray := prog_6_method_3_code
def yX4_chooseGiver : MethodName := ⟨RX4, "chooseGiver", "(III)V"⟩
abbrev cX4_goOn : ByteArray := prog_6_method_4_code
def yX4_goOn : MethodName := ⟨RX4, "goOn", "(IIII)V"⟩
abbrev cX4_fitsInCircle : ByteArray := prog_6_method_5_code
def yX4_fitsInCircle : MethodName := ⟨RX4, "fitsInCircle", "(II)Z"⟩
def RX5 : String := "BarterRings"
def TX5 : u_T := fun k => match k with
  | 0 => ("BarterRings", "market", "LBarterRings$Market;", true)
  | 1 => ("BarterRings", "trial", "LBarterRings$Market;", true)
  | 2 => ("BarterRings", "snapshot", "LBarterRings$Market;", true)
  | 3 => ("BarterRings", "history", "LBarterRings$History;", true)
  | 4 => ("BarterRings", "pad", "LBarterRings$Pad;", true)
  | 5 => ("BarterRings", "circleSets", "LBarterRings$CircleSets;", true)
  | 6 => ("BarterRings", "takerSearch", "LBarterRings$TakerSearch;", true)
  | 7 => ("BarterRings", "hasSnapshot", "Z", false)
  | 8 => ("BarterRings", "stopReason", "I", false)
  | _ => ("BarterRings", "stopPlace", "I", false)
def tyX5 : Nat → FieldType := fun k => match k with
  | 0 => .object "BarterRings$Market"
  | 1 => .object "BarterRings$Market"
  | 2 => .object "BarterRings$Market"
  | 3 => .object "BarterRings$History"
  | 4 => .object "BarterRings$Pad"
  | 5 => .object "BarterRings$CircleSets"
  | 6 => .object "BarterRings$TakerSearch"
  | 7 => .boolean
  | 8 => .int
  | _ => .int
theorem nmX5 : ∀ a, a < 10 → ∀ b, b < 10 → a ≠ b → (TX5 a).2.1 ≠ (TX5 b).2.1 := by decide +kernel
theorem tyX5_ok : ∀ k, k < 10 → parseFieldDescriptor (TX5 k).2.2.1 = some (tyX5 k) := by decide +kernel
abbrev cX5_init : ByteArray := prog_1_method_1_code
def yX5_init : MethodName := ⟨RX5, "<init>", "()V"⟩
abbrev cX5_come : ByteArray := prog_1_method_2_code
def yX5_come : MethodName := ⟨RX5, "come", "(II)I"⟩
abbrev cX5_go : ByteArray := prog_1_method_3_code
def yX5_go : MethodName := ⟨RX5, "go", "(I)I"⟩
abbrev cX5_want : ByteArray := prog_1_method_4_code
def yX5_want : MethodName := ⟨RX5, "want", "(II)I"⟩
abbrev cX5_life : ByteArray := prog_1_method_5_code
def yX5_life : MethodName := ⟨RX5, "life", "(II)I"⟩
abbrev cX5_circle : ByteArray := prog_1_method_6_code
def yX5_circle : MethodName := ⟨RX5, "circle", "(I)I"⟩
abbrev cX5_lot : ByteArray := prog_1_method_7_code
def yX5_lot : MethodName := ⟨RX5, "lot", "(I)I"⟩
abbrev cX5_barter : ByteArray := prog_1_method_8_code
def yX5_barter : MethodName := ⟨RX5, "barter", "(II)I"⟩
abbrev cX5_call : ByteArray := prog_1_method_9_code
def yX5_call : MethodName := ⟨RX5, "call", "()I"⟩
abbrev cX5_day : ByteArray := prog_1_method_10_code
def yX5_day : MethodName := ⟨RX5, "day", "()I"⟩
abbrev cX5_trader : ByteArray := prog_1_method_17_code
def yX5_trader : MethodName := ⟨RX5, "trader", "(II)I"⟩
abbrev cX5_can : ByteArray := prog_1_method_18_code
def yX5_can : MethodName := ⟨RX5, "can", "(II)I"⟩
abbrev cX5_whyNot : ByteArray := prog_1_method_19_code
def yX5_whyNot : MethodName := ⟨RX5, "whyNot", "(II)I"⟩
abbrev cX5_most : ByteArray := prog_1_method_20_code
def yX5_most : MethodName := ⟨RX5, "most", "(I)I"⟩
abbrev cX5_kind : ByteArray := prog_1_method_21_code
def yX5_kind : MethodName := ⟨RX5, "kind", "(II)I"⟩
abbrev cX5_count : ByteArray := prog_1_method_22_code
def yX5_count : MethodName := ⟨RX5, "count", "(I)I"⟩
abbrev cX5_freshness : ByteArray := prog_1_method_23_code
def yX5_freshness : MethodName := ⟨RX5, "freshness", "()D"⟩
abbrev cX5_ifCircle : ByteArray := prog_1_method_24_code
def yX5_ifCircle : MethodName := ⟨RX5, "ifCircle", "(I)I"⟩
abbrev cX5_ifDays : ByteArray := prog_1_method_25_code
def yX5_ifDays : MethodName := ⟨RX5, "ifDays", "(II)I"⟩
abbrev cX5_bestWant : ByteArray := prog_1_method_26_code
def yX5_bestWant : MethodName := ⟨RX5, "bestWant", "(I)I"⟩
abbrev cX5_undo : ByteArray := prog_1_method_27_code
def yX5_undo : MethodName := ⟨RX5, "undo", "()I"⟩
abbrev cX5_restore : ByteArray := prog_1_method_29_code
def yX5_restore : MethodName := ⟨RX5, "restore", "()I"⟩
abbrev cX5_isKind : ByteArray := prog_1_method_30_code
def yX5_isKind : MethodName := ⟨RX5, "isKind", "(I)Z"⟩
abbrev cX5_isSetOfKinds : ByteArray := prog_1_method_31_code
def yX5_isSetOfKinds : MethodName := ⟨RX5, "isSetOfKinds", "(I)Z"⟩
abbrev cX5_isCircleLength : ByteArray := prog_1_method_32_code
def yX5_isCircleLength : MethodName := ⟨RX5, "isCircleLength", "(I)Z"⟩
abbrev cX5_holds : ByteArray := prog_1_method_33_code
def yX5_holds : MethodName := ⟨RX5, "holds", "(II)Z"⟩
abbrev cX5_with : ByteArray := prog_1_method_34_code
def yX5_with : MethodName := ⟨RX5, "with", "(II)I"⟩
abbrev cX5_callMarket : ByteArray := prog_1_method_35_code
def yX5_callMarket : MethodName := ⟨RX5, "callMarket", "(LBarterRings$Market;)I"⟩
abbrev cX5_bestGiver : ByteArray := prog_1_method_36_code
def yX5_bestGiver : MethodName := ⟨RX5, "bestGiver", "(I)I"⟩
def RX6 : String := "BarterRingsModel"
def TX6 : u_T := fun k => match k with
  | _ => ("", "", "", false)
def tyX6 : Nat → FieldType := fun k => match k with
  | _ => .int
theorem nmX6 : ∀ a, a < 0 → ∀ b, b < 0 → a ≠ b → (TX6 a).2.1 ≠ (TX6 b).2.1 := by decide +kernel
theorem tyX6_ok : ∀ k, k < 0 → parseFieldDescriptor (TX6 k).2.2.1 = some (tyX6 k) := by decide +kernel
def RJ6 : String := "java/lang/Integer"
abbrev cJ6_bitCount_0f7a4 : ByteArray := prog_9_method_49_code
def yJ6_bitCount_0f7a4 : MethodName := ⟨RJ6, "bitCount", "(I)I"⟩
def RJ9 : String := "java/lang/Math"
abbrev cJ9_max_7cf53 : ByteArray := prog_10_method_65_code
def yJ9_max_7cf53 : MethodName := ⟨RJ9, "max", "(II)I"⟩
abbrev cJ9_min_7cf53 : ByteArray := prog_10_method_69_code
def yJ9_min_7cf53 : MethodName := ⟨RJ9, "min", "(II)I"⟩
def RJ10 : String := "java/lang/System"
def RJ7 : String := "java/util/Arrays"
abbrev cJ7_fill_53178 : ByteArray := prog_12_method_103_code
def yJ7_fill_53178 : MethodName := ⟨RJ7, "fill", "([II)V"⟩
def RL : String := "BarterRingsLaw"
abbrev cL_cell : ByteArray := method_2_code
def yL_cell : MethodName := ⟨RL, "cell", "([II)I"⟩
abbrev cL_low : ByteArray := method_3_code
def yL_low : MethodName := ⟨RL, "low", "(II)I"⟩
abbrev cL_change : ByteArray := method_4_code
def yL_change : MethodName := ⟨RL, "change", "(LBarterRings;III)Z"⟩
abbrev cL_barters : ByteArray := method_5_code
def yL_barters : MethodName := ⟨RL, "barters", "(LBarterRings;II)Z"⟩
abbrev cL_isTrader : ByteArray := method_6_code
def yL_isTrader : MethodName := ⟨RL, "isTrader", "(LBarterRings;I)Z"⟩
abbrev cL_isBest : ByteArray := method_7_code
def yL_isBest : MethodName := ⟨RL, "isBest", "(LBarterRings;)Z"⟩
abbrev cL_holds : ByteArray := method_8_code
def yL_holds : MethodName := ⟨RL, "holds", "(LBarterRings;)Z"⟩
abbrev cL_tries : ByteArray := method_9_code
def yL_tries : MethodName := ⟨RL, "tries", "(LBarterRings;I)Z"⟩
abbrev cL_law : ByteArray := code
def yL_law : MethodName := ⟨RL, "law", "([I)Z"⟩
abbrev vwCl : List vw_C := [(RX0, TX0, 6), (RX1, TX1, 3), (RX2, TX2, 18), (RX3, TX3, 2), (RX4, TX4, 6), (RX5, TX5, 10)]
