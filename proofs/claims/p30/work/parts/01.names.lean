-- ===== PART A: goes FIRST, ahead of the names: the tables' words, and 'selects' of the private methods out of them =====
/-- a private method of a class that the tables say can be made, by its rows of tables_1 -/
def lw_okq (q : MethodName × Nat) : Prop := (q.1.cls ≠ "java/lang/invoke/MethodHandle" ∧ q.1.cls ≠ "java/lang/invoke/VarHandle") ∧ Cond.instantiable q.1.cls q.2 ∈ tables_1 ∧ Cond.privateMethod q.1 ∈ tables_1 ∧ Cond.instanceMethod q.1 ∈ tables_1
theorem lw_p0 : lw_okq (⟨"RightsDesk$State", "passOneDay", "()I"⟩, 12) := ⟨⟨by decide +kernel, by decide +kernel⟩, List.mem_of_getElem? (i := 18) (by decide +kernel), List.mem_of_getElem? (i := 306) (by decide +kernel), List.mem_of_getElem? (i := 307) (by decide +kernel)⟩
theorem lw_p1 : lw_okq (⟨"RightsDesk$State", "endDate", "(LRightsDesk$DateRow;)I"⟩, 12) := ⟨⟨by decide +kernel, by decide +kernel⟩, List.mem_of_getElem? (i := 18) (by decide +kernel), List.mem_of_getElem? (i := 314) (by decide +kernel), List.mem_of_getElem? (i := 315) (by decide +kernel)⟩
theorem lw_p2 : lw_okq (⟨"RightsDesk$State", "log", "(ILRightsDesk$RightRow;I)V"⟩, 12) := ⟨⟨by decide +kernel, by decide +kernel⟩, List.mem_of_getElem? (i := 18) (by decide +kernel), List.mem_of_getElem? (i := 326) (by decide +kernel), List.mem_of_getElem? (i := 327) (by decide +kernel)⟩
theorem lw_p3 : lw_okq (⟨"RightsDesk$State", "nextToCover", "(LRightsDesk$DateRow;)LRightsDesk$RightRow;"⟩, 12) := ⟨⟨by decide +kernel, by decide +kernel⟩, List.mem_of_getElem? (i := 18) (by decide +kernel), List.mem_of_getElem? (i := 339) (by decide +kernel), List.mem_of_getElem? (i := 340) (by decide +kernel)⟩
theorem lw_p4 : lw_okq (⟨"RightsDesk$State", "cheapestOffered", "(LRightsDesk$DateRow;)LRightsDesk$RightRow;"⟩, 12) := ⟨⟨by decide +kernel, by decide +kernel⟩, List.mem_of_getElem? (i := 18) (by decide +kernel), List.mem_of_getElem? (i := 343) (by decide +kernel), List.mem_of_getElem? (i := 344) (by decide +kernel)⟩
theorem lw_p5 : lw_okq (⟨"RightsDesk$State", "cheapestHeld", "(LRightsDesk$DateRow;)LRightsDesk$RightRow;"⟩, 12) := ⟨⟨by decide +kernel, by decide +kernel⟩, List.mem_of_getElem? (i := 18) (by decide +kernel), List.mem_of_getElem? (i := 347) (by decide +kernel), List.mem_of_getElem? (i := 348) (by decide +kernel)⟩
theorem lw_p6 : lw_okq (⟨"RightsDesk$State", "coverOne", "(LRightsDesk$RightRow;)I"⟩, 12) := ⟨⟨by decide +kernel, by decide +kernel⟩, List.mem_of_getElem? (i := 18) (by decide +kernel), List.mem_of_getElem? (i := 351) (by decide +kernel), List.mem_of_getElem? (i := 352) (by decide +kernel)⟩
theorem lw_p7 : lw_okq (⟨"RightsDesk$State", "give", "(II)V"⟩, 12) := ⟨⟨by decide +kernel, by decide +kernel⟩, List.mem_of_getElem? (i := 18) (by decide +kernel), List.mem_of_getElem? (i := 355) (by decide +kernel), List.mem_of_getElem? (i := 356) (by decide +kernel)⟩
theorem lw_p8 : lw_okq (⟨"RightsDesk$State", "isOpen", "(LRightsDesk$DateRow;)Z"⟩, 12) := ⟨⟨by decide +kernel, by decide +kernel⟩, List.mem_of_getElem? (i := 18) (by decide +kernel), List.mem_of_getElem? (i := 362) (by decide +kernel), List.mem_of_getElem? (i := 363) (by decide +kernel)⟩
theorem lw_p9 : lw_okq (⟨"RightsDesk$State", "letListBuy", "(LRightsDesk$DateRow;)V"⟩, 12) := ⟨⟨by decide +kernel, by decide +kernel⟩, List.mem_of_getElem? (i := 18) (by decide +kernel), List.mem_of_getElem? (i := 366) (by decide +kernel), List.mem_of_getElem? (i := 367) (by decide +kernel)⟩
theorem lw_p10 : lw_okq (⟨"RightsDesk$State", "sell", "(ILRightsDesk$DateRow;)I"⟩, 12) := ⟨⟨by decide +kernel, by decide +kernel⟩, List.mem_of_getElem? (i := 18) (by decide +kernel), List.mem_of_getElem? (i := 374) (by decide +kernel), List.mem_of_getElem? (i := 375) (by decide +kernel)⟩
theorem lw_p11 : lw_okq (⟨"RightsDesk$State", "sellable", "(LRightsDesk$DateRow;)I"⟩, 12) := ⟨⟨by decide +kernel, by decide +kernel⟩, List.mem_of_getElem? (i := 18) (by decide +kernel), List.mem_of_getElem? (i := 378) (by decide +kernel), List.mem_of_getElem? (i := 379) (by decide +kernel)⟩
theorem lw_p12 : lw_okq (⟨"RightsDesk$State", "priceNow", "(LRightsDesk$DateRow;)I"⟩, 12) := ⟨⟨by decide +kernel, by decide +kernel⟩, List.mem_of_getElem? (i := 18) (by decide +kernel), List.mem_of_getElem? (i := 385) (by decide +kernel), List.mem_of_getElem? (i := 386) (by decide +kernel)⟩
theorem lw_p13 : lw_okq (⟨"RightsDesk$OrderText", "here", "()C"⟩, 6) := ⟨⟨by decide +kernel, by decide +kernel⟩, List.mem_of_getElem? (i := 201) (by decide +kernel), List.mem_of_getElem? (i := 413) (by decide +kernel), List.mem_of_getElem? (i := 414) (by decide +kernel)⟩
theorem lw_p14 : lw_okq (⟨"RightsDesk$OrderText", "readHolderAndDate", "()Z"⟩, 6) := ⟨⟨by decide +kernel, by decide +kernel⟩, List.mem_of_getElem? (i := 201) (by decide +kernel), List.mem_of_getElem? (i := 421) (by decide +kernel), List.mem_of_getElem? (i := 422) (by decide +kernel)⟩
theorem lw_p15 : lw_okq (⟨"RightsDesk$OrderText", "isDigitHere", "()Z"⟩, 6) := ⟨⟨by decide +kernel, by decide +kernel⟩, List.mem_of_getElem? (i := 201) (by decide +kernel), List.mem_of_getElem? (i := 425) (by decide +kernel), List.mem_of_getElem? (i := 426) (by decide +kernel)⟩
def lw_privs_1 : List (MethodName × Nat) := [(⟨"RightsDesk$State", "passOneDay", "()I"⟩, 12), (⟨"RightsDesk$State", "endDate", "(LRightsDesk$DateRow;)I"⟩, 12), (⟨"RightsDesk$State", "log", "(ILRightsDesk$RightRow;I)V"⟩, 12), (⟨"RightsDesk$State", "nextToCover", "(LRightsDesk$DateRow;)LRightsDesk$RightRow;"⟩, 12), (⟨"RightsDesk$State", "cheapestOffered", "(LRightsDesk$DateRow;)LRightsDesk$RightRow;"⟩, 12), (⟨"RightsDesk$State", "cheapestHeld", "(LRightsDesk$DateRow;)LRightsDesk$RightRow;"⟩, 12), (⟨"RightsDesk$State", "coverOne", "(LRightsDesk$RightRow;)I"⟩, 12), (⟨"RightsDesk$State", "give", "(II)V"⟩, 12), (⟨"RightsDesk$State", "isOpen", "(LRightsDesk$DateRow;)Z"⟩, 12), (⟨"RightsDesk$State", "letListBuy", "(LRightsDesk$DateRow;)V"⟩, 12), (⟨"RightsDesk$State", "sell", "(ILRightsDesk$DateRow;)I"⟩, 12), (⟨"RightsDesk$State", "sellable", "(LRightsDesk$DateRow;)I"⟩, 12), (⟨"RightsDesk$State", "priceNow", "(LRightsDesk$DateRow;)I"⟩, 12), (⟨"RightsDesk$OrderText", "here", "()C"⟩, 6), (⟨"RightsDesk$OrderText", "readHolderAndDate", "()Z"⟩, 6), (⟨"RightsDesk$OrderText", "isDigitHere", "()Z"⟩, 6)]
theorem lw_r1 : ∀ q ∈ lw_privs_1, lw_okq q := List.forall_mem_cons.mpr ⟨lw_p0, List.forall_mem_cons.mpr ⟨lw_p1, List.forall_mem_cons.mpr ⟨lw_p2, List.forall_mem_cons.mpr ⟨lw_p3, List.forall_mem_cons.mpr ⟨lw_p4, List.forall_mem_cons.mpr ⟨lw_p5, List.forall_mem_cons.mpr ⟨lw_p6, List.forall_mem_cons.mpr ⟨lw_p7, List.forall_mem_cons.mpr ⟨lw_p8, List.forall_mem_cons.mpr ⟨lw_p9, List.forall_mem_cons.mpr ⟨lw_p10, List.forall_mem_cons.mpr ⟨lw_p11, List.forall_mem_cons.mpr ⟨lw_p12, List.forall_mem_cons.mpr ⟨lw_p13, List.forall_mem_cons.mpr ⟨lw_p14, List.forall_mem_cons.mpr ⟨lw_p15, fun _ h => absurd h List.not_mem_nil⟩⟩⟩⟩⟩⟩⟩⟩⟩⟩⟩⟩⟩⟩⟩⟩
theorem lw_p16 : lw_okq (⟨"RightsDesk$OrderText", "takeDigit", "()I"⟩, 6) := ⟨⟨by decide +kernel, by decide +kernel⟩, List.mem_of_getElem? (i := 201) (by decide +kernel), List.mem_of_getElem? (i := 429) (by decide +kernel), List.mem_of_getElem? (i := 430) (by decide +kernel)⟩
theorem lw_p17 : lw_okq (⟨"RightsDesk$OrderText", "readRight", "()Z"⟩, 6) := ⟨⟨by decide +kernel, by decide +kernel⟩, List.mem_of_getElem? (i := 201) (by decide +kernel), List.mem_of_getElem? (i := 433) (by decide +kernel), List.mem_of_getElem? (i := 434) (by decide +kernel)⟩
theorem lw_p18 : lw_okq (⟨"RightsDesk$OrderText", "readPrice", "()Z"⟩, 6) := ⟨⟨by decide +kernel, by decide +kernel⟩, List.mem_of_getElem? (i := 201) (by decide +kernel), List.mem_of_getElem? (i := 437) (by decide +kernel), List.mem_of_getElem? (i := 438) (by decide +kernel)⟩
theorem lw_p19 : lw_okq (⟨"RightsDesk", "performNext", "()I"⟩, 5) := ⟨⟨by decide +kernel, by decide +kernel⟩, List.mem_of_getElem? (i := 10) (by decide +kernel), List.mem_of_getElem? (i := 442) (by decide +kernel), List.mem_of_getElem? (i := 443) (by decide +kernel)⟩
theorem lw_p20 : lw_okq (⟨"RightsDesk$State", "refund", "(LRightsDesk$RightRow;)I"⟩, 12) := ⟨⟨by decide +kernel, by decide +kernel⟩, List.mem_of_getElem? (i := 18) (by decide +kernel), List.mem_of_getElem? (i := 468) (by decide +kernel), List.mem_of_getElem? (i := 469) (by decide +kernel)⟩
theorem lw_p21 : lw_okq (⟨"RightsDesk$State", "stageOf", "(LRightsDesk$DateRow;)I"⟩, 12) := ⟨⟨by decide +kernel, by decide +kernel⟩, List.mem_of_getElem? (i := 18) (by decide +kernel), List.mem_of_getElem? (i := 472) (by decide +kernel), List.mem_of_getElem? (i := 473) (by decide +kernel)⟩
theorem lw_p22 : lw_okq (⟨"RightsDesk$State", "isStage", "(I)Z"⟩, 12) := ⟨⟨by decide +kernel, by decide +kernel⟩, List.mem_of_getElem? (i := 18) (by decide +kernel), List.mem_of_getElem? (i := 476) (by decide +kernel), List.mem_of_getElem? (i := 477) (by decide +kernel)⟩
theorem lw_p23 : lw_okq (⟨"RightsDesk$State", "canBeExercised", "(LRightsDesk$RightRow;LRightsDesk$DateRow;)Z"⟩, 12) := ⟨⟨by decide +kernel, by decide +kernel⟩, List.mem_of_getElem? (i := 18) (by decide +kernel), List.mem_of_getElem? (i := 484) (by decide +kernel), List.mem_of_getElem? (i := 485) (by decide +kernel)⟩
theorem lw_p24 : lw_okq (⟨"RightsDesk$State", "rightsIn", "(LRightsDesk$DateRow;I)I"⟩, 12) := ⟨⟨by decide +kernel, by decide +kernel⟩, List.mem_of_getElem? (i := 18) (by decide +kernel), List.mem_of_getElem? (i := 488) (by decide +kernel), List.mem_of_getElem? (i := 489) (by decide +kernel)⟩
theorem lw_p25 : lw_okq (⟨"RightsDesk$State", "rightsInAll", "(I)I"⟩, 12) := ⟨⟨by decide +kernel, by decide +kernel⟩, List.mem_of_getElem? (i := 18) (by decide +kernel), List.mem_of_getElem? (i := 521) (by decide +kernel), List.mem_of_getElem? (i := 522) (by decide +kernel)⟩
theorem lw_p26 : lw_okq (⟨"RightsDesk$State", "rightsOfHolder", "(II)I"⟩, 12) := ⟨⟨by decide +kernel, by decide +kernel⟩, List.mem_of_getElem? (i := 18) (by decide +kernel), List.mem_of_getElem? (i := 547) (by decide +kernel), List.mem_of_getElem? (i := 548) (by decide +kernel)⟩
theorem lw_p27 : lw_okq (⟨"RightsDesk$State", "listsWith", "(I)I"⟩, 12) := ⟨⟨by decide +kernel, by decide +kernel⟩, List.mem_of_getElem? (i := 18) (by decide +kernel), List.mem_of_getElem? (i := 551) (by decide +kernel), List.mem_of_getElem? (i := 552) (by decide +kernel)⟩
theorem lw_p28 : lw_okq (⟨"RightsDesk$State", "lowestAsking", "(LRightsDesk$DateRow;)I"⟩, 12) := ⟨⟨by decide +kernel, by decide +kernel⟩, List.mem_of_getElem? (i := 18) (by decide +kernel), List.mem_of_getElem? (i := 568) (by decide +kernel), List.mem_of_getElem? (i := 569) (by decide +kernel)⟩
theorem lw_p29 : lw_okq (⟨"RightsDesk$State", "tellExercisable", "(LRightsDesk$RightRow;)I"⟩, 12) := ⟨⟨by decide +kernel, by decide +kernel⟩, List.mem_of_getElem? (i := 18) (by decide +kernel), List.mem_of_getElem? (i := 584) (by decide +kernel), List.mem_of_getElem? (i := 585) (by decide +kernel)⟩
theorem lw_p30 : lw_okq (⟨"RightsDesk$State", "fitsStage", "(II)Z"⟩, 12) := ⟨⟨by decide +kernel, by decide +kernel⟩, List.mem_of_getElem? (i := 18) (by decide +kernel), List.mem_of_getElem? (i := 687) (by decide +kernel), List.mem_of_getElem? (i := 688) (by decide +kernel)⟩
def lw_privs_2 : List (MethodName × Nat) := [(⟨"RightsDesk$OrderText", "takeDigit", "()I"⟩, 6), (⟨"RightsDesk$OrderText", "readRight", "()Z"⟩, 6), (⟨"RightsDesk$OrderText", "readPrice", "()Z"⟩, 6), (⟨"RightsDesk", "performNext", "()I"⟩, 5), (⟨"RightsDesk$State", "refund", "(LRightsDesk$RightRow;)I"⟩, 12), (⟨"RightsDesk$State", "stageOf", "(LRightsDesk$DateRow;)I"⟩, 12), (⟨"RightsDesk$State", "isStage", "(I)Z"⟩, 12), (⟨"RightsDesk$State", "canBeExercised", "(LRightsDesk$RightRow;LRightsDesk$DateRow;)Z"⟩, 12), (⟨"RightsDesk$State", "rightsIn", "(LRightsDesk$DateRow;I)I"⟩, 12), (⟨"RightsDesk$State", "rightsInAll", "(I)I"⟩, 12), (⟨"RightsDesk$State", "rightsOfHolder", "(II)I"⟩, 12), (⟨"RightsDesk$State", "listsWith", "(I)I"⟩, 12), (⟨"RightsDesk$State", "lowestAsking", "(LRightsDesk$DateRow;)I"⟩, 12), (⟨"RightsDesk$State", "tellExercisable", "(LRightsDesk$RightRow;)I"⟩, 12), (⟨"RightsDesk$State", "fitsStage", "(II)Z"⟩, 12)]
theorem lw_r2 : ∀ q ∈ lw_privs_2, lw_okq q := List.forall_mem_cons.mpr ⟨lw_p16, List.forall_mem_cons.mpr ⟨lw_p17, List.forall_mem_cons.mpr ⟨lw_p18, List.forall_mem_cons.mpr ⟨lw_p19, List.forall_mem_cons.mpr ⟨lw_p20, List.forall_mem_cons.mpr ⟨lw_p21, List.forall_mem_cons.mpr ⟨lw_p22, List.forall_mem_cons.mpr ⟨lw_p23, List.forall_mem_cons.mpr ⟨lw_p24, List.forall_mem_cons.mpr ⟨lw_p25, List.forall_mem_cons.mpr ⟨lw_p26, List.forall_mem_cons.mpr ⟨lw_p27, List.forall_mem_cons.mpr ⟨lw_p28, List.forall_mem_cons.mpr ⟨lw_p29, List.forall_mem_cons.mpr ⟨lw_p30, fun _ h => absurd h List.not_mem_nil⟩⟩⟩⟩⟩⟩⟩⟩⟩⟩⟩⟩⟩⟩⟩
def lw_privs : List (MethodName × Nat) := lw_privs_1 ++ (lw_privs_2)
def lw_tbl : List Cond := k2_sels lw_privs ++ tables_1
theorem lw_privs_ok : ∀ q ∈ lw_privs, lw_okq q := by
  show ∀ q ∈ lw_privs_1 ++ (lw_privs_2), lw_okq q
  exact List.forall_mem_append.mpr ⟨lw_r1, lw_r2⟩
def RX0 : String := "RightsDesk$DateRow"
def TX0 : u_T := fun k => match k with
  | 0 => ("RightsDesk$DateRow", "number", "I", true)
  | 1 => ("RightsDesk$DateRow", "day", "I", false)
  | 2 => ("RightsDesk$DateRow", "places", "I", false)
  | 3 => ("RightsDesk$DateRow", "surplus", "I", false)
  | 4 => ("RightsDesk$DateRow", "base", "I", false)
  | 5 => ("RightsDesk$DateRow", "rule", "I", false)
  | 6 => ("RightsDesk$DateRow", "list", "[I", true)
  | _ => ("RightsDesk$DateRow", "listLength", "I", false)
def tyX0 : Nat → FieldType := fun k => match k with
  | 0 => .int
  | 1 => .int
  | 2 => .int
  | 3 => .int
  | 4 => .int
  | 5 => .int
  | 6 => .array .int
  | _ => .int
abbrev wsX00 : List Cond := u_ws RX0 TX0 8
theorem nmX0 : ∀ a, a < 8 → ∀ b, b < 8 → a ≠ b → (TX0 a).2.1 ≠ (TX0 b).2.1 := by decide +kernel
theorem tyX0_ok : ∀ k, k < 8 → parseFieldDescriptor (TX0 k).2.2.1 = some (tyX0 k) := by decide +kernel
abbrev cX0_init : ByteArray := prog_2_method_1_code
def yX0_init : MethodName := ⟨RX0, "<init>", "(I)V"⟩
abbrev cX0_copyFrom : ByteArray := prog_2_method_2_code
def yX0_copyFrom : MethodName := ⟨RX0, "copyFrom", "(LRightsDesk$DateRow;)V"⟩
abbrev cX0_priceFor : ByteArray := prog_2_method_3_code
def yX0_priceFor : MethodName := ⟨RX0, "priceFor", "(II)I"⟩
abbrev cX0_waitingAt : ByteArray := prog_2_method_4_code
def yX0_waitingAt : MethodName := ⟨RX0, "waitingAt", "(I)I"⟩
abbrev cX0_placeOf : ByteArray := prog_2_method_5_code
def yX0_placeOf : MethodName := ⟨RX0, "placeOf", "(I)I"⟩
abbrev cX0_appendToList : ByteArray := prog_2_method_6_code
def yX0_appendToList : MethodName := ⟨RX0, "appendToList", "(I)I"⟩
abbrev cX0_removeFromList : ByteArray := prog_2_method_7_code
def yX0_removeFromList : MethodName := ⟨RX0, "removeFromList", "(I)V"⟩
def RX1 : String := "RightsDesk$EventRow"
def TX1 : u_T := fun k => match k with
  | 0 => ("RightsDesk$EventRow", "kind", "I", false)
  | 1 => ("RightsDesk$EventRow", "right", "I", false)
  | 2 => ("RightsDesk$EventRow", "cents", "I", false)
  | _ => ("RightsDesk$EventRow", "day", "I", false)
def tyX1 : Nat → FieldType := fun k => match k with
  | 0 => .int
  | 1 => .int
  | 2 => .int
  | _ => .int
abbrev wsX10 : List Cond := u_ws RX1 TX1 4
theorem nmX1 : ∀ a, a < 4 → ∀ b, b < 4 → a ≠ b → (TX1 a).2.1 ≠ (TX1 b).2.1 := by decide +kernel
theorem tyX1_ok : ∀ k, k < 4 → parseFieldDescriptor (TX1 k).2.2.1 = some (tyX1 k) := by decide +kernel
abbrev cX1_init : ByteArray := prog_3_method_1_code
def yX1_init : MethodName := ⟨RX1, "<init>", "()V"⟩
abbrev cX1_copyFrom : ByteArray := prog_3_method_2_code
def yX1_copyFrom : MethodName := ⟨RX1, "copyFrom", "(LRightsDesk$EventRow;)V"⟩
abbrev cX1_tell : ByteArray := prog_3_method_3_code
def yX1_tell : MethodName := ⟨RX1, "tell", "(I)I"⟩
def RX2 : String := "RightsDesk$History"
def TX2 : u_T := fun k => match k with
  | 0 => ("RightsDesk$History", "past", "[LRightsDesk$State;", true)
  | 1 => ("RightsDesk$History", "count", "I", false)
  | _ => ("RightsDesk$History", "prepared", "LRightsDesk$State;", false)
def tyX2 : Nat → FieldType := fun k => match k with
  | 0 => .array (.object "RightsDesk$State")
  | 1 => .int
  | _ => .object "RightsDesk$State"
abbrev wsX20 : List Cond := u_ws RX2 TX2 3
theorem nmX2 : ∀ a, a < 3 → ∀ b, b < 3 → a ≠ b → (TX2 a).2.1 ≠ (TX2 b).2.1 := by decide +kernel
theorem tyX2_ok : ∀ k, k < 3 → parseFieldDescriptor (TX2 k).2.2.1 = some (tyX2 k) := by decide +kernel
abbrev cX2_init : ByteArray := prog_4_method_1_code
def yX2_init : MethodName := ⟨RX2, "<init>", "()V"⟩
abbrev cX2_prepare : ByteArray := prog_4_method_2_code
def yX2_prepare : MethodName := ⟨RX2, "prepare", "(LRightsDesk$State;)V"⟩
abbrev cX2_settle : ByteArray := prog_4_method_3_code
def yX2_settle : MethodName := ⟨RX2, "settle", "(I)I"⟩
abbrev cX2_takeLatest : ByteArray := prog_4_method_4_code
def yX2_takeLatest : MethodName := ⟨RX2, "takeLatest", "()LRightsDesk$State;"⟩
def RX3 : String := "RightsDesk$OrderText"
def TX3 : u_T := fun k => match k with
  | 0 => ("RightsDesk$OrderText", "signs", "[C", true)
  | 1 => ("RightsDesk$OrderText", "length", "I", false)
  | 2 => ("RightsDesk$OrderText", "at", "I", false)
  | 3 => ("RightsDesk$OrderText", "kind", "I", false)
  | 4 => ("RightsDesk$OrderText", "first", "I", false)
  | _ => ("RightsDesk$OrderText", "second", "I", false)
def tyX3 : Nat → FieldType := fun k => match k with
  | 0 => .array .char
  | 1 => .int
  | 2 => .int
  | 3 => .int
  | 4 => .int
  | _ => .int
abbrev wsX30 : List Cond := u_ws RX3 TX3 6
theorem nmX3 : ∀ a, a < 6 → ∀ b, b < 6 → a ≠ b → (TX3 a).2.1 ≠ (TX3 b).2.1 := by decide +kernel
theorem tyX3_ok : ∀ k, k < 6 → parseFieldDescriptor (TX3 k).2.2.1 = some (tyX3 k) := by decide +kernel
abbrev cX3_init : ByteArray := prog_5_method_1_code
def yX3_init : MethodName := ⟨RX3, "<init>", "()V"⟩
abbrev cX3_countOrders : ByteArray := prog_5_method_4_code
def yX3_countOrders : MethodName := ⟨RX3, "countOrders", "()I"⟩
abbrev cX3_goToStart : ByteArray := prog_5_method_5_code
def yX3_goToStart : MethodName := ⟨RX3, "goToStart", "()V"⟩
abbrev cX3_readOrder : ByteArray := prog_5_method_6_code
def yX3_readOrder : MethodName := ⟨RX3, "readOrder", "()Z"⟩
abbrev cX3_skip : ByteArray := prog_5_method_7_code
def yX3_skip : MethodName := ⟨RX3, "skip", "(C)Z"⟩
abbrev cX3_readHolderAndDate : ByteArray := prog_5_method_8_code
def yX3_readHolderAndDate : MethodName := ⟨RX3, "readHolderAndDate", "()Z"⟩
abbrev cX3_readRight : ByteArray := prog_5_method_9_code
def yX3_readRight : MethodName := ⟨RX3, "readRight", "()Z"⟩
abbrev cX3_readPrice : ByteArray := prog_5_method_10_code
def yX3_readPrice : MethodName := ⟨RX3, "readPrice", "()Z"⟩
abbrev cX3_isDigitHere : ByteArray := prog_5_method_11_code
def yX3_isDigitHere : MethodName := ⟨RX3, "isDigitHere", "()Z"⟩
abbrev cX3_takeDigit : ByteArray := prog_5_method_12_code
def yX3_takeDigit : MethodName := ⟨RX3, "takeDigit", "()I"⟩
abbrev cX3_here : ByteArray := prog_5_method_13_code
def yX3_here : MethodName := ⟨RX3, "here", "()C"⟩
def RX4 : String := "RightsDesk$RightRow"
def TX4 : u_T := fun k => match k with
  | 0 => ("RightsDesk$RightRow", "number", "I", true)
  | 1 => ("RightsDesk$RightRow", "date", "I", false)
  | 2 => ("RightsDesk$RightRow", "holder", "I", false)
  | 3 => ("RightsDesk$RightRow", "cost", "I", false)
  | 4 => ("RightsDesk$RightRow", "state", "I", false)
  | 5 => ("RightsDesk$RightRow", "asking", "I", false)
  | 6 => ("RightsDesk$RightRow", "soldOn", "I", false)
  | _ => ("RightsDesk$RightRow", "resold", "I", false)
def tyX4 : Nat → FieldType := fun k => match k with
  | 0 => .int
  | 1 => .int
  | 2 => .int
  | 3 => .int
  | 4 => .int
  | 5 => .int
  | 6 => .int
  | _ => .int
abbrev wsX40 : List Cond := u_ws RX4 TX4 8
theorem nmX4 : ∀ a, a < 8 → ∀ b, b < 8 → a ≠ b → (TX4 a).2.1 ≠ (TX4 b).2.1 := by decide +kernel
theorem tyX4_ok : ∀ k, k < 8 → parseFieldDescriptor (TX4 k).2.2.1 = some (tyX4 k) := by decide +kernel
abbrev cX4_init : ByteArray := prog_6_method_1_code
def yX4_init : MethodName := ⟨RX4, "<init>", "(I)V"⟩
abbrev cX4_copyFrom : ByteArray := prog_6_method_2_code
def yX4_copyFrom : MethodName := ⟨RX4, "copyFrom", "(LRightsDesk$RightRow;)V"⟩
abbrev cX4_isHeldOrOffered : ByteArray := prog_6_method_3_code
def yX4_isHeldOrOffered : MethodName := ⟨RX4, "isHeldOrOffered", "()Z"⟩
abbrev cX4_turnTo : ByteArray := prog_6_method_4_code
def yX4_turnTo : MethodName := ⟨RX4, "turnTo", "(II)V"⟩
def RX5 : String := "RightsDesk$State"
def TX5 : u_T := fun k => match k with
  | 0 => ("RightsDesk$State", "day", "I", false)
  | 1 => ("RightsDesk$State", "numbers", "[I", true)
  | 2 => ("RightsDesk$State", "stageDays", "[I", true)
  | 3 => ("RightsDesk$State", "stageFees", "[I", true)
  | 4 => ("RightsDesk$State", "dateCount", "I", false)
  | 5 => ("RightsDesk$State", "dates", "[LRightsDesk$DateRow;", true)
  | 6 => ("RightsDesk$State", "rightCount", "I", false)
  | 7 => ("RightsDesk$State", "rights", "[LRightsDesk$RightRow;", true)
  | 8 => ("RightsDesk$State", "accounts", "[I", true)
  | 9 => ("RightsDesk$State", "provider", "I", false)
  | 10 => ("RightsDesk$State", "eventCount", "I", false)
  | _ => ("RightsDesk$State", "events", "[LRightsDesk$EventRow;", true)
def tyX5 : Nat → FieldType := fun k => match k with
  | 0 => .int
  | 1 => .array .int
  | 2 => .array .int
  | 3 => .array .int
  | 4 => .int
  | 5 => .array (.object "RightsDesk$DateRow")
  | 6 => .int
  | 7 => .array (.object "RightsDesk$RightRow")
  | 8 => .array .int
  | 9 => .int
  | 10 => .int
  | _ => .array (.object "RightsDesk$EventRow")
abbrev wsX50 : List Cond := u_ws RX5 TX5 12
theorem nmX5 : ∀ a, a < 12 → ∀ b, b < 12 → a ≠ b → (TX5 a).2.1 ≠ (TX5 b).2.1 := by decide +kernel
theorem tyX5_ok : ∀ k, k < 12 → parseFieldDescriptor (TX5 k).2.2.1 = some (tyX5 k) := by decide +kernel
abbrev cX5_init : ByteArray := prog_7_method_1_code
def yX5_init : MethodName := ⟨RX5, "<init>", "()V"⟩
abbrev cX5_copyFrom : ByteArray := prog_7_method_2_code
def yX5_copyFrom : MethodName := ⟨RX5, "copyFrom", "(LRightsDesk$State;)V"⟩
abbrev cX5_dateRow : ByteArray := prog_7_method_3_code
def yX5_dateRow : MethodName := ⟨RX5, "dateRow", "(I)LRightsDesk$DateRow;"⟩
abbrev cX5_rightRow : ByteArray := prog_7_method_4_code
def yX5_rightRow : MethodName := ⟨RX5, "rightRow", "(I)LRightsDesk$RightRow;"⟩
abbrev cX5_eventRow : ByteArray := prog_7_method_5_code
def yX5_eventRow : MethodName := ⟨RX5, "eventRow", "(I)LRightsDesk$EventRow;"⟩
abbrev cX5_openDate : ByteArray := prog_7_method_6_code
def yX5_openDate : MethodName := ⟨RX5, "openDate", "(IIIII)I"⟩
abbrev cX5_changeStage : ByteArray := prog_7_method_7_code
def yX5_changeStage : MethodName := ⟨RX5, "changeStage", "(III)I"⟩
abbrev cX5_isStage : ByteArray := prog_7_method_8_code
def yX5_isStage : MethodName := ⟨RX5, "isStage", "(I)Z"⟩
abbrev cX5_fitsStage : ByteArray := prog_7_method_9_code
def yX5_fitsStage : MethodName := ⟨RX5, "fitsStage", "(II)Z"⟩
abbrev cX5_changeNumber : ByteArray := prog_7_method_10_code
def yX5_changeNumber : MethodName := ⟨RX5, "changeNumber", "(II)I"⟩
abbrev cX5_sellTo : ByteArray := prog_7_method_11_code
def yX5_sellTo : MethodName := ⟨RX5, "sellTo", "(II)I"⟩
abbrev cX5_resellTo : ByteArray := prog_7_method_12_code
def yX5_resellTo : MethodName := ⟨RX5, "resellTo", "(II)I"⟩
abbrev cX5_cancelRight : ByteArray := prog_7_method_13_code
def yX5_cancelRight : MethodName := ⟨RX5, "cancelRight", "(I)I"⟩
abbrev cX5_offerRight : ByteArray := prog_7_method_14_code
def yX5_offerRight : MethodName := ⟨RX5, "offerRight", "(II)I"⟩
abbrev cX5_withdrawOffer : ByteArray := prog_7_method_15_code
def yX5_withdrawOffer : MethodName := ⟨RX5, "withdrawOffer", "(I)I"⟩
abbrev cX5_exerciseRight : ByteArray := prog_7_method_16_code
def yX5_exerciseRight : MethodName := ⟨RX5, "exerciseRight", "(I)I"⟩
abbrev cX5_joinList : ByteArray := prog_7_method_17_code
def yX5_joinList : MethodName := ⟨RX5, "joinList", "(II)I"⟩
abbrev cX5_quitList : ByteArray := prog_7_method_18_code
def yX5_quitList : MethodName := ⟨RX5, "quitList", "(II)I"⟩
abbrev cX5_passDays : ByteArray := prog_7_method_19_code
def yX5_passDays : MethodName := ⟨RX5, "passDays", "(I)I"⟩
abbrev cX5_passOneDay : ByteArray := prog_7_method_20_code
def yX5_passOneDay : MethodName := ⟨RX5, "passOneDay", "()I"⟩
abbrev cX5_endDate : ByteArray := prog_7_method_21_code
def yX5_endDate : MethodName := ⟨RX5, "endDate", "(LRightsDesk$DateRow;)I"⟩
abbrev cX5_coverRightsOf : ByteArray := prog_7_method_22_code
def yX5_coverRightsOf : MethodName := ⟨RX5, "coverRightsOf", "(LRightsDesk$DateRow;)I"⟩
abbrev cX5_coverOne : ByteArray := prog_7_method_23_code
def yX5_coverOne : MethodName := ⟨RX5, "coverOne", "(LRightsDesk$RightRow;)I"⟩
abbrev cX5_nextToCover : ByteArray := prog_7_method_24_code
def yX5_nextToCover : MethodName := ⟨RX5, "nextToCover", "(LRightsDesk$DateRow;)LRightsDesk$RightRow;"⟩
abbrev cX5_letListBuy : ByteArray := prog_7_method_25_code
def yX5_letListBuy : MethodName := ⟨RX5, "letListBuy", "(LRightsDesk$DateRow;)V"⟩
abbrev cX5_sell : ByteArray := prog_7_method_26_code
def yX5_sell : MethodName := ⟨RX5, "sell", "(ILRightsDesk$DateRow;)I"⟩
abbrev cX5_sellable : ByteArray := prog_7_method_27_code
def yX5_sellable : MethodName := ⟨RX5, "sellable", "(LRightsDesk$DateRow;)I"⟩
abbrev cX5_priceNow : ByteArray := prog_7_method_28_code
def yX5_priceNow : MethodName := ⟨RX5, "priceNow", "(LRightsDesk$DateRow;)I"⟩
abbrev cX5_give : ByteArray := prog_7_method_29_code
def yX5_give : MethodName := ⟨RX5, "give", "(II)V"⟩
abbrev cX5_log : ByteArray := prog_7_method_30_code
def yX5_log : MethodName := ⟨RX5, "log", "(ILRightsDesk$RightRow;I)V"⟩
abbrev cX5_daysLeft : ByteArray := prog_7_method_31_code
def yX5_daysLeft : MethodName := ⟨RX5, "daysLeft", "(LRightsDesk$DateRow;)I"⟩
abbrev cX5_isOpen : ByteArray := prog_7_method_32_code
def yX5_isOpen : MethodName := ⟨RX5, "isOpen", "(LRightsDesk$DateRow;)Z"⟩
abbrev cX5_rightsOut : ByteArray := prog_7_method_33_code
def yX5_rightsOut : MethodName := ⟨RX5, "rightsOut", "(LRightsDesk$DateRow;)I"⟩
abbrev cX5_rightsIn : ByteArray := prog_7_method_34_code
def yX5_rightsIn : MethodName := ⟨RX5, "rightsIn", "(LRightsDesk$DateRow;I)I"⟩
abbrev cX5_rightsInAll : ByteArray := prog_7_method_35_code
def yX5_rightsInAll : MethodName := ⟨RX5, "rightsInAll", "(I)I"⟩
abbrev cX5_cheapestOffered : ByteArray := prog_7_method_36_code
def yX5_cheapestOffered : MethodName := ⟨RX5, "cheapestOffered", "(LRightsDesk$DateRow;)LRightsDesk$RightRow;"⟩
abbrev cX5_cheapestHeld : ByteArray := prog_7_method_37_code
def yX5_cheapestHeld : MethodName := ⟨RX5, "cheapestHeld", "(LRightsDesk$DateRow;)LRightsDesk$RightRow;"⟩
abbrev cX5_stageOf : ByteArray := prog_7_method_38_code
def yX5_stageOf : MethodName := ⟨RX5, "stageOf", "(LRightsDesk$DateRow;)I"⟩
abbrev cX5_refund : ByteArray := prog_7_method_39_code
def yX5_refund : MethodName := ⟨RX5, "refund", "(LRightsDesk$RightRow;)I"⟩
abbrev cX5_canBeExercised : ByteArray := prog_7_method_40_code
def yX5_canBeExercised : MethodName := ⟨RX5, "canBeExercised", "(LRightsDesk$RightRow;LRightsDesk$DateRow;)Z"⟩
abbrev cX5_tellOfDate : ByteArray := prog_7_method_41_code
def yX5_tellOfDate : MethodName := ⟨RX5, "tellOfDate", "(LRightsDesk$DateRow;I)I"⟩
abbrev cX5_lowestAsking : ByteArray := prog_7_method_42_code
def yX5_lowestAsking : MethodName := ⟨RX5, "lowestAsking", "(LRightsDesk$DateRow;)I"⟩
abbrev cX5_tellOfRight : ByteArray := prog_7_method_43_code
def yX5_tellOfRight : MethodName := ⟨RX5, "tellOfRight", "(LRightsDesk$RightRow;I)I"⟩
abbrev cX5_tellExercisable : ByteArray := prog_7_method_44_code
def yX5_tellExercisable : MethodName := ⟨RX5, "tellExercisable", "(LRightsDesk$RightRow;)I"⟩
abbrev cX5_tellOfHolder : ByteArray := prog_7_method_45_code
def yX5_tellOfHolder : MethodName := ⟨RX5, "tellOfHolder", "(II)I"⟩
abbrev cX5_rightsOfHolder : ByteArray := prog_7_method_46_code
def yX5_rightsOfHolder : MethodName := ⟨RX5, "rightsOfHolder", "(II)I"⟩
abbrev cX5_listsWith : ByteArray := prog_7_method_47_code
def yX5_listsWith : MethodName := ⟨RX5, "listsWith", "(I)I"⟩
abbrev cX5_tellOfStage : ByteArray := prog_7_method_48_code
def yX5_tellOfStage : MethodName := ⟨RX5, "tellOfStage", "(II)I"⟩
abbrev cX5_tellCount : ByteArray := prog_7_method_49_code
def yX5_tellCount : MethodName := ⟨RX5, "tellCount", "(I)I"⟩
def RX6 : String := "RightsDesk"
def TX6 : u_T := fun k => match k with
  | 0 => ("RightsDesk", "now", "LRightsDesk$State;", true)
  | 1 => ("RightsDesk", "kept", "LRightsDesk$State;", true)
  | 2 => ("RightsDesk", "hasKept", "Z", false)
  | 3 => ("RightsDesk", "history", "LRightsDesk$History;", true)
  | _ => ("RightsDesk", "text", "LRightsDesk$OrderText;", true)
def tyX6 : Nat → FieldType := fun k => match k with
  | 0 => .object "RightsDesk$State"
  | 1 => .object "RightsDesk$State"
  | 2 => .boolean
  | 3 => .object "RightsDesk$History"
  | _ => .object "RightsDesk$OrderText"
abbrev wsX60 : List Cond := u_ws RX6 TX6 5
theorem nmX6 : ∀ a, a < 5 → ∀ b, b < 5 → a ≠ b → (TX6 a).2.1 ≠ (TX6 b).2.1 := by decide +kernel
theorem tyX6_ok : ∀ k, k < 5 → parseFieldDescriptor (TX6 k).2.2.1 = some (tyX6 k) := by decide +kernel
abbrev cX6_init : ByteArray := prog_1_method_1_code
def yX6_init : MethodName := ⟨RX6, "<init>", "()V"⟩
abbrev cX6_addDate : ByteArray := prog_1_method_2_code
def yX6_addDate : MethodName := ⟨RX6, "addDate", "(IIIII)I"⟩
abbrev cX6_setStage : ByteArray := prog_1_method_3_code
def yX6_setStage : MethodName := ⟨RX6, "setStage", "(III)I"⟩
abbrev cX6_set : ByteArray := prog_1_method_4_code
def yX6_set : MethodName := ⟨RX6, "set", "(II)I"⟩
abbrev cX6_buy : ByteArray := prog_1_method_5_code
def yX6_buy : MethodName := ⟨RX6, "buy", "(II)I"⟩
abbrev cX6_buyOffered : ByteArray := prog_1_method_6_code
def yX6_buyOffered : MethodName := ⟨RX6, "buyOffered", "(II)I"⟩
abbrev cX6_cancel : ByteArray := prog_1_method_7_code
def yX6_cancel : MethodName := ⟨RX6, "cancel", "(I)I"⟩
abbrev cX6_offer : ByteArray := prog_1_method_8_code
def yX6_offer : MethodName := ⟨RX6, "offer", "(II)I"⟩
abbrev cX6_takeBack : ByteArray := prog_1_method_9_code
def yX6_takeBack : MethodName := ⟨RX6, "takeBack", "(I)I"⟩
abbrev cX6_exercise : ByteArray := prog_1_method_10_code
def yX6_exercise : MethodName := ⟨RX6, "exercise", "(I)I"⟩
abbrev cX6_await : ByteArray := prog_1_method_11_code
def yX6_await : MethodName := ⟨RX6, "await", "(II)I"⟩
abbrev cX6_leave : ByteArray := prog_1_method_12_code
def yX6_leave : MethodName := ⟨RX6, "leave", "(II)I"⟩
abbrev cX6_pass : ByteArray := prog_1_method_13_code
def yX6_pass : MethodName := ⟨RX6, "pass", "(I)I"⟩
abbrev cX6_perform : ByteArray := prog_1_method_16_code
def yX6_perform : MethodName := ⟨RX6, "perform", "()I"⟩
abbrev cX6_undo : ByteArray := prog_1_method_17_code
def yX6_undo : MethodName := ⟨RX6, "undo", "()I"⟩
abbrev cX6_keep : ByteArray := prog_1_method_18_code
def yX6_keep : MethodName := ⟨RX6, "keep", "()I"⟩
abbrev cX6_restore : ByteArray := prog_1_method_19_code
def yX6_restore : MethodName := ⟨RX6, "restore", "()I"⟩
abbrev cX6_date : ByteArray := prog_1_method_20_code
def yX6_date : MethodName := ⟨RX6, "date", "(II)I"⟩
abbrev cX6_waiting : ByteArray := prog_1_method_21_code
def yX6_waiting : MethodName := ⟨RX6, "waiting", "(II)I"⟩
abbrev cX6_right : ByteArray := prog_1_method_22_code
def yX6_right : MethodName := ⟨RX6, "right", "(II)I"⟩
abbrev cX6_holder : ByteArray := prog_1_method_23_code
def yX6_holder : MethodName := ⟨RX6, "holder", "(II)I"⟩
abbrev cX6_stage : ByteArray := prog_1_method_24_code
def yX6_stage : MethodName := ⟨RX6, "stage", "(II)I"⟩
abbrev cX6_priceIn : ByteArray := prog_1_method_25_code
def yX6_priceIn : MethodName := ⟨RX6, "priceIn", "(II)I"⟩
abbrev cX6_wouldCover : ByteArray := prog_1_method_26_code
def yX6_wouldCover : MethodName := ⟨RX6, "wouldCover", "(I)I"⟩
abbrev cX6_event : ByteArray := prog_1_method_27_code
def yX6_event : MethodName := ⟨RX6, "event", "(II)I"⟩
abbrev cX6_count : ByteArray := prog_1_method_28_code
def yX6_count : MethodName := ⟨RX6, "count", "(I)I"⟩
abbrev cX6_performNext : ByteArray := prog_1_method_29_code
def yX6_performNext : MethodName := ⟨RX6, "performNext", "()I"⟩
abbrev cX6_isHolder : ByteArray := prog_1_method_30_code
def yX6_isHolder : MethodName := ⟨RX6, "isHolder", "(I)Z"⟩
abbrev cX6_copyAll : ByteArray := prog_1_method_31_code
def yX6_copyAll : MethodName := ⟨RX6, "copyAll", "([I[I)V"⟩
def RX7 : String := "RightsDeskModel"
def TX7 : u_T := fun k => match k with
  | _ => ("", "", "", false)
def tyX7 : Nat → FieldType := fun k => match k with
  | _ => .int
abbrev wsX70 : List Cond := u_ws RX7 TX7 0
theorem nmX7 : ∀ a, a < 0 → ∀ b, b < 0 → a ≠ b → (TX7 a).2.1 ≠ (TX7 b).2.1 := by decide +kernel
theorem tyX7_ok : ∀ k, k < 0 → parseFieldDescriptor (TX7 k).2.2.1 = some (tyX7 k) := by decide +kernel
def RJ9 : String := "java/lang/Math"
abbrev cJ9_max_7cf53 : ByteArray := prog_11_method_65_code
def yJ9_max_7cf53 : MethodName := ⟨RJ9, "max", "(II)I"⟩
abbrev cJ9_min_7cf53 : ByteArray := prog_11_method_69_code
def yJ9_min_7cf53 : MethodName := ⟨RJ9, "min", "(II)I"⟩
def RL : String := "RightsDeskLaw"
abbrev cL_cell : ByteArray := method_2_code
def yL_cell : MethodName := ⟨RL, "cell", "([II)I"⟩
abbrev cL_account : ByteArray := method_3_code
def yL_account : MethodName := ⟨RL, "account", "(LRightsDesk;I)I"⟩
abbrev cL_sums : ByteArray := method_4_code
def yL_sums : MethodName := ⟨RL, "sums", "(LRightsDesk;)Z"⟩
abbrev cL_dates : ByteArray := method_5_code
def yL_dates : MethodName := ⟨RL, "dates", "(LRightsDesk;)Z"⟩
abbrev cL_deed : ByteArray := method_6_code
def yL_deed : MethodName := ⟨RL, "deed", "(LRightsDesk;I)Z"⟩
abbrev cL_acts : ByteArray := method_7_code
def yL_acts : MethodName := ⟨RL, "acts", "(LRightsDesk;I)Z"⟩
abbrev cL_law : ByteArray := code
def yL_law : MethodName := ⟨RL, "law", "([I)Z"⟩
abbrev vwCl : List vw_C := [(RX0, TX0, 8), (RX1, TX1, 4), (RX2, TX2, 3), (RX3, TX3, 6), (RX4, TX4, 8), (RX5, TX5, 12), (RX6, TX6, 5)]
/-! the words: those of the tables that callees may want -/
def zU : List Cond := lw_tbl.filter goodWord
theorem zmem (i : Nat) {w : Cond} (h : lw_tbl[i]? = some w) (g : goodWord w = true) : w ∈ zU := List.mem_filter.mpr ⟨List.mem_of_getElem? h, g⟩
theorem zU_tbl {w : Cond} (h : w ∈ zU) : w ∈ lw_tbl := (List.mem_filter.mp h).1
theorem zU_good {w : Cond} (h : w ∈ zU) : (w.onTables && w.keeps) = true ∨ ∃ ty, w = .arrayClass ty := good_of_word (List.mem_filter.mp h).2
theorem zU_self : GoodIn zU zU := fun _ h => ⟨h, zU_good h⟩
