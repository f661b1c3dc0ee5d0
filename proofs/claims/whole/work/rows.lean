section
-- ===== PART A: goes FIRST, ahead of the names: the tables' words, and 'selects' of the private methods out of them =====
/-- a private method of a class that the tables say can be made, by its rows of tables_1 -/
def lw_okq (q : MethodName × Nat) : Prop := (q.1.cls ≠ "java/lang/invoke/MethodHandle" ∧ q.1.cls ≠ "java/lang/invoke/VarHandle") ∧ Cond.instantiable q.1.cls q.2 ∈ tables_1 ∧ Cond.privateMethod q.1 ∈ tables_1 ∧ Cond.instanceMethod q.1 ∈ tables_1
theorem lw_p0 : lw_okq (⟨"RightsDesk$State", "isStage", "(I)Z"⟩, 12) := ⟨⟨by decide +kernel, by decide +kernel⟩, List.mem_of_getElem? (i := 19) (by decide +kernel), List.mem_of_getElem? (i := 295) (by decide +kernel), List.mem_of_getElem? (i := 296) (by decide +kernel)⟩
theorem lw_p1 : lw_okq (⟨"RightsDesk$State", "fitsStage", "(II)Z"⟩, 12) := ⟨⟨by decide +kernel, by decide +kernel⟩, List.mem_of_getElem? (i := 19) (by decide +kernel), List.mem_of_getElem? (i := 299) (by decide +kernel), List.mem_of_getElem? (i := 300) (by decide +kernel)⟩
theorem lw_p2 : lw_okq (⟨"RightsDesk$State", "isOpen", "(LRightsDesk$DateRow;)Z"⟩, 12) := ⟨⟨by decide +kernel, by decide +kernel⟩, List.mem_of_getElem? (i := 19) (by decide +kernel), List.mem_of_getElem? (i := 330) (by decide +kernel), List.mem_of_getElem? (i := 331) (by decide +kernel)⟩
theorem lw_p3 : lw_okq (⟨"RightsDesk$State", "sell", "(ILRightsDesk$DateRow;)I"⟩, 12) := ⟨⟨by decide +kernel, by decide +kernel⟩, List.mem_of_getElem? (i := 19) (by decide +kernel), List.mem_of_getElem? (i := 334) (by decide +kernel), List.mem_of_getElem? (i := 335) (by decide +kernel)⟩
theorem lw_p4 : lw_okq (⟨"RightsDesk$State", "sellable", "(LRightsDesk$DateRow;)I"⟩, 12) := ⟨⟨by decide +kernel, by decide +kernel⟩, List.mem_of_getElem? (i := 19) (by decide +kernel), List.mem_of_getElem? (i := 338) (by decide +kernel), List.mem_of_getElem? (i := 339) (by decide +kernel)⟩
theorem lw_p5 : lw_okq (⟨"RightsDesk$State", "priceNow", "(LRightsDesk$DateRow;)I"⟩, 12) := ⟨⟨by decide +kernel, by decide +kernel⟩, List.mem_of_getElem? (i := 19) (by decide +kernel), List.mem_of_getElem? (i := 354) (by decide +kernel), List.mem_of_getElem? (i := 355) (by decide +kernel)⟩
theorem lw_p6 : lw_okq (⟨"RightsDesk$State", "give", "(II)V"⟩, 12) := ⟨⟨by decide +kernel, by decide +kernel⟩, List.mem_of_getElem? (i := 19) (by decide +kernel), List.mem_of_getElem? (i := 366) (by decide +kernel), List.mem_of_getElem? (i := 367) (by decide +kernel)⟩
theorem lw_p7 : lw_okq (⟨"RightsDesk$State", "log", "(ILRightsDesk$RightRow;I)V"⟩, 12) := ⟨⟨by decide +kernel, by decide +kernel⟩, List.mem_of_getElem? (i := 19) (by decide +kernel), List.mem_of_getElem? (i := 370) (by decide +kernel), List.mem_of_getElem? (i := 371) (by decide +kernel)⟩
theorem lw_p8 : lw_okq (⟨"RightsDesk$State", "cheapestOffered", "(LRightsDesk$DateRow;)LRightsDesk$RightRow;"⟩, 12) := ⟨⟨by decide +kernel, by decide +kernel⟩, List.mem_of_getElem? (i := 19) (by decide +kernel), List.mem_of_getElem? (i := 382) (by decide +kernel), List.mem_of_getElem? (i := 383) (by decide +kernel)⟩
theorem lw_p9 : lw_okq (⟨"RightsDesk$State", "refund", "(LRightsDesk$RightRow;)I"⟩, 12) := ⟨⟨by decide +kernel, by decide +kernel⟩, List.mem_of_getElem? (i := 19) (by decide +kernel), List.mem_of_getElem? (i := 398) (by decide +kernel), List.mem_of_getElem? (i := 399) (by decide +kernel)⟩
theorem lw_p10 : lw_okq (⟨"RightsDesk$State", "stageOf", "(LRightsDesk$DateRow;)I"⟩, 12) := ⟨⟨by decide +kernel, by decide +kernel⟩, List.mem_of_getElem? (i := 19) (by decide +kernel), List.mem_of_getElem? (i := 406) (by decide +kernel), List.mem_of_getElem? (i := 407) (by decide +kernel)⟩
theorem lw_p11 : lw_okq (⟨"RightsDesk$State", "letListBuy", "(LRightsDesk$DateRow;)V"⟩, 12) := ⟨⟨by decide +kernel, by decide +kernel⟩, List.mem_of_getElem? (i := 19) (by decide +kernel), List.mem_of_getElem? (i := 410) (by decide +kernel), List.mem_of_getElem? (i := 411) (by decide +kernel)⟩
theorem lw_p12 : lw_okq (⟨"RightsDesk$State", "canBeExercised", "(LRightsDesk$RightRow;LRightsDesk$DateRow;)Z"⟩, 12) := ⟨⟨by decide +kernel, by decide +kernel⟩, List.mem_of_getElem? (i := 19) (by decide +kernel), List.mem_of_getElem? (i := 446) (by decide +kernel), List.mem_of_getElem? (i := 447) (by decide +kernel)⟩
theorem lw_p13 : lw_okq (⟨"RightsDesk$State", "rightsIn", "(LRightsDesk$DateRow;I)I"⟩, 12) := ⟨⟨by decide +kernel, by decide +kernel⟩, List.mem_of_getElem? (i := 19) (by decide +kernel), List.mem_of_getElem? (i := 450) (by decide +kernel), List.mem_of_getElem? (i := 451) (by decide +kernel)⟩
theorem lw_p14 : lw_okq (⟨"RightsDesk$State", "passOneDay", "()I"⟩, 12) := ⟨⟨by decide +kernel, by decide +kernel⟩, List.mem_of_getElem? (i := 19) (by decide +kernel), List.mem_of_getElem? (i := 486) (by decide +kernel), List.mem_of_getElem? (i := 487) (by decide +kernel)⟩
theorem lw_p15 : lw_okq (⟨"RightsDesk$State", "endDate", "(LRightsDesk$DateRow;)I"⟩, 12) := ⟨⟨by decide +kernel, by decide +kernel⟩, List.mem_of_getElem? (i := 19) (by decide +kernel), List.mem_of_getElem? (i := 490) (by decide +kernel), List.mem_of_getElem? (i := 491) (by decide +kernel)⟩
def lw_privs_1 : List (MethodName × Nat) := [(⟨"RightsDesk$State", "isStage", "(I)Z"⟩, 12), (⟨"RightsDesk$State", "fitsStage", "(II)Z"⟩, 12), (⟨"RightsDesk$State", "isOpen", "(LRightsDesk$DateRow;)Z"⟩, 12), (⟨"RightsDesk$State", "sell", "(ILRightsDesk$DateRow;)I"⟩, 12), (⟨"RightsDesk$State", "sellable", "(LRightsDesk$DateRow;)I"⟩, 12), (⟨"RightsDesk$State", "priceNow", "(LRightsDesk$DateRow;)I"⟩, 12), (⟨"RightsDesk$State", "give", "(II)V"⟩, 12), (⟨"RightsDesk$State", "log", "(ILRightsDesk$RightRow;I)V"⟩, 12), (⟨"RightsDesk$State", "cheapestOffered", "(LRightsDesk$DateRow;)LRightsDesk$RightRow;"⟩, 12), (⟨"RightsDesk$State", "refund", "(LRightsDesk$RightRow;)I"⟩, 12), (⟨"RightsDesk$State", "stageOf", "(LRightsDesk$DateRow;)I"⟩, 12), (⟨"RightsDesk$State", "letListBuy", "(LRightsDesk$DateRow;)V"⟩, 12), (⟨"RightsDesk$State", "canBeExercised", "(LRightsDesk$RightRow;LRightsDesk$DateRow;)Z"⟩, 12), (⟨"RightsDesk$State", "rightsIn", "(LRightsDesk$DateRow;I)I"⟩, 12), (⟨"RightsDesk$State", "passOneDay", "()I"⟩, 12), (⟨"RightsDesk$State", "endDate", "(LRightsDesk$DateRow;)I"⟩, 12)]
theorem lw_r1 : ∀ q ∈ lw_privs_1, lw_okq q := List.forall_mem_cons.mpr ⟨lw_p0, List.forall_mem_cons.mpr ⟨lw_p1, List.forall_mem_cons.mpr ⟨lw_p2, List.forall_mem_cons.mpr ⟨lw_p3, List.forall_mem_cons.mpr ⟨lw_p4, List.forall_mem_cons.mpr ⟨lw_p5, List.forall_mem_cons.mpr ⟨lw_p6, List.forall_mem_cons.mpr ⟨lw_p7, List.forall_mem_cons.mpr ⟨lw_p8, List.forall_mem_cons.mpr ⟨lw_p9, List.forall_mem_cons.mpr ⟨lw_p10, List.forall_mem_cons.mpr ⟨lw_p11, List.forall_mem_cons.mpr ⟨lw_p12, List.forall_mem_cons.mpr ⟨lw_p13, List.forall_mem_cons.mpr ⟨lw_p14, List.forall_mem_cons.mpr ⟨lw_p15, fun _ h => absurd h List.not_mem_nil⟩⟩⟩⟩⟩⟩⟩⟩⟩⟩⟩⟩⟩⟩⟩⟩
theorem lw_p16 : lw_okq (⟨"RightsDesk$State", "nextToCover", "(LRightsDesk$DateRow;)LRightsDesk$RightRow;"⟩, 12) := ⟨⟨by decide +kernel, by decide +kernel⟩, List.mem_of_getElem? (i := 19) (by decide +kernel), List.mem_of_getElem? (i := 498) (by decide +kernel), List.mem_of_getElem? (i := 499) (by decide +kernel)⟩
theorem lw_p17 : lw_okq (⟨"RightsDesk$State", "cheapestHeld", "(LRightsDesk$DateRow;)LRightsDesk$RightRow;"⟩, 12) := ⟨⟨by decide +kernel, by decide +kernel⟩, List.mem_of_getElem? (i := 19) (by decide +kernel), List.mem_of_getElem? (i := 502) (by decide +kernel), List.mem_of_getElem? (i := 503) (by decide +kernel)⟩
theorem lw_p18 : lw_okq (⟨"RightsDesk$State", "coverOne", "(LRightsDesk$RightRow;)I"⟩, 12) := ⟨⟨by decide +kernel, by decide +kernel⟩, List.mem_of_getElem? (i := 19) (by decide +kernel), List.mem_of_getElem? (i := 506) (by decide +kernel), List.mem_of_getElem? (i := 507) (by decide +kernel)⟩
theorem lw_p19 : lw_okq (⟨"RightsDesk$OrderText", "here", "()C"⟩, 6) := ⟨⟨by decide +kernel, by decide +kernel⟩, List.mem_of_getElem? (i := 202) (by decide +kernel), List.mem_of_getElem? (i := 542) (by decide +kernel), List.mem_of_getElem? (i := 543) (by decide +kernel)⟩
theorem lw_p20 : lw_okq (⟨"RightsDesk$OrderText", "readHolderAndDate", "()Z"⟩, 6) := ⟨⟨by decide +kernel, by decide +kernel⟩, List.mem_of_getElem? (i := 202) (by decide +kernel), List.mem_of_getElem? (i := 550) (by decide +kernel), List.mem_of_getElem? (i := 551) (by decide +kernel)⟩
theorem lw_p21 : lw_okq (⟨"RightsDesk$OrderText", "isDigitHere", "()Z"⟩, 6) := ⟨⟨by decide +kernel, by decide +kernel⟩, List.mem_of_getElem? (i := 202) (by decide +kernel), List.mem_of_getElem? (i := 554) (by decide +kernel), List.mem_of_getElem? (i := 555) (by decide +kernel)⟩
theorem lw_p22 : lw_okq (⟨"RightsDesk$OrderText", "takeDigit", "()I"⟩, 6) := ⟨⟨by decide +kernel, by decide +kernel⟩, List.mem_of_getElem? (i := 202) (by decide +kernel), List.mem_of_getElem? (i := 558) (by decide +kernel), List.mem_of_getElem? (i := 559) (by decide +kernel)⟩
theorem lw_p23 : lw_okq (⟨"RightsDesk$OrderText", "readRight", "()Z"⟩, 6) := ⟨⟨by decide +kernel, by decide +kernel⟩, List.mem_of_getElem? (i := 202) (by decide +kernel), List.mem_of_getElem? (i := 562) (by decide +kernel), List.mem_of_getElem? (i := 563) (by decide +kernel)⟩
theorem lw_p24 : lw_okq (⟨"RightsDesk$OrderText", "readPrice", "()Z"⟩, 6) := ⟨⟨by decide +kernel, by decide +kernel⟩, List.mem_of_getElem? (i := 202) (by decide +kernel), List.mem_of_getElem? (i := 566) (by decide +kernel), List.mem_of_getElem? (i := 567) (by decide +kernel)⟩
theorem lw_p25 : lw_okq (⟨"RightsDesk", "performNext", "()I"⟩, 5) := ⟨⟨by decide +kernel, by decide +kernel⟩, List.mem_of_getElem? (i := 11) (by decide +kernel), List.mem_of_getElem? (i := 571) (by decide +kernel), List.mem_of_getElem? (i := 572) (by decide +kernel)⟩
theorem lw_p26 : lw_okq (⟨"RightsDesk$State", "lowestAsking", "(LRightsDesk$DateRow;)I"⟩, 12) := ⟨⟨by decide +kernel, by decide +kernel⟩, List.mem_of_getElem? (i := 19) (by decide +kernel), List.mem_of_getElem? (i := 603) (by decide +kernel), List.mem_of_getElem? (i := 604) (by decide +kernel)⟩
theorem lw_p27 : lw_okq (⟨"RightsDesk$State", "tellExercisable", "(LRightsDesk$RightRow;)I"⟩, 12) := ⟨⟨by decide +kernel, by decide +kernel⟩, List.mem_of_getElem? (i := 19) (by decide +kernel), List.mem_of_getElem? (i := 621) (by decide +kernel), List.mem_of_getElem? (i := 622) (by decide +kernel)⟩
theorem lw_p28 : lw_okq (⟨"RightsDesk$State", "rightsOfHolder", "(II)I"⟩, 12) := ⟨⟨by decide +kernel, by decide +kernel⟩, List.mem_of_getElem? (i := 19) (by decide +kernel), List.mem_of_getElem? (i := 635) (by decide +kernel), List.mem_of_getElem? (i := 636) (by decide +kernel)⟩
theorem lw_p29 : lw_okq (⟨"RightsDesk$State", "listsWith", "(I)I"⟩, 12) := ⟨⟨by decide +kernel, by decide +kernel⟩, List.mem_of_getElem? (i := 19) (by decide +kernel), List.mem_of_getElem? (i := 639) (by decide +kernel), List.mem_of_getElem? (i := 640) (by decide +kernel)⟩
theorem lw_p30 : lw_okq (⟨"RightsDesk$State", "rightsInAll", "(I)I"⟩, 12) := ⟨⟨by decide +kernel, by decide +kernel⟩, List.mem_of_getElem? (i := 19) (by decide +kernel), List.mem_of_getElem? (i := 683) (by decide +kernel), List.mem_of_getElem? (i := 684) (by decide +kernel)⟩
theorem lw_p31 : lw_okq (⟨"RightsDeskModel", "record", "()V"⟩, 15) := ⟨⟨by decide +kernel, by decide +kernel⟩, List.mem_of_getElem? (i := 687) (by decide +kernel), List.mem_of_getElem? (i := 746) (by decide +kernel), List.mem_of_getElem? (i := 747) (by decide +kernel)⟩
def lw_privs_2 : List (MethodName × Nat) := [(⟨"RightsDesk$State", "nextToCover", "(LRightsDesk$DateRow;)LRightsDesk$RightRow;"⟩, 12), (⟨"RightsDesk$State", "cheapestHeld", "(LRightsDesk$DateRow;)LRightsDesk$RightRow;"⟩, 12), (⟨"RightsDesk$State", "coverOne", "(LRightsDesk$RightRow;)I"⟩, 12), (⟨"RightsDesk$OrderText", "here", "()C"⟩, 6), (⟨"RightsDesk$OrderText", "readHolderAndDate", "()Z"⟩, 6), (⟨"RightsDesk$OrderText", "isDigitHere", "()Z"⟩, 6), (⟨"RightsDesk$OrderText", "takeDigit", "()I"⟩, 6), (⟨"RightsDesk$OrderText", "readRight", "()Z"⟩, 6), (⟨"RightsDesk$OrderText", "readPrice", "()Z"⟩, 6), (⟨"RightsDesk", "performNext", "()I"⟩, 5), (⟨"RightsDesk$State", "lowestAsking", "(LRightsDesk$DateRow;)I"⟩, 12), (⟨"RightsDesk$State", "tellExercisable", "(LRightsDesk$RightRow;)I"⟩, 12), (⟨"RightsDesk$State", "rightsOfHolder", "(II)I"⟩, 12), (⟨"RightsDesk$State", "listsWith", "(I)I"⟩, 12), (⟨"RightsDesk$State", "rightsInAll", "(I)I"⟩, 12), (⟨"RightsDeskModel", "record", "()V"⟩, 15)]
theorem lw_r2 : ∀ q ∈ lw_privs_2, lw_okq q := List.forall_mem_cons.mpr ⟨lw_p16, List.forall_mem_cons.mpr ⟨lw_p17, List.forall_mem_cons.mpr ⟨lw_p18, List.forall_mem_cons.mpr ⟨lw_p19, List.forall_mem_cons.mpr ⟨lw_p20, List.forall_mem_cons.mpr ⟨lw_p21, List.forall_mem_cons.mpr ⟨lw_p22, List.forall_mem_cons.mpr ⟨lw_p23, List.forall_mem_cons.mpr ⟨lw_p24, List.forall_mem_cons.mpr ⟨lw_p25, List.forall_mem_cons.mpr ⟨lw_p26, List.forall_mem_cons.mpr ⟨lw_p27, List.forall_mem_cons.mpr ⟨lw_p28, List.forall_mem_cons.mpr ⟨lw_p29, List.forall_mem_cons.mpr ⟨lw_p30, List.forall_mem_cons.mpr ⟨lw_p31, fun _ h => absurd h List.not_mem_nil⟩⟩⟩⟩⟩⟩⟩⟩⟩⟩⟩⟩⟩⟩⟩⟩
theorem lw_p32 : lw_okq (⟨"RightsDeskModel", "aside", "()V"⟩, 15) := ⟨⟨by decide +kernel, by decide +kernel⟩, List.mem_of_getElem? (i := 687) (by decide +kernel), List.mem_of_getElem? (i := 765) (by decide +kernel), List.mem_of_getElem? (i := 766) (by decide +kernel)⟩
theorem lw_p33 : lw_okq (⟨"RightsDeskModel", "doBuy", "(II)I"⟩, 15) := ⟨⟨by decide +kernel, by decide +kernel⟩, List.mem_of_getElem? (i := 687) (by decide +kernel), List.mem_of_getElem? (i := 769) (by decide +kernel), List.mem_of_getElem? (i := 770) (by decide +kernel)⟩
theorem lw_p34 : lw_okq (⟨"RightsDeskModel", "isDate", "(I)Z"⟩, 15) := ⟨⟨by decide +kernel, by decide +kernel⟩, List.mem_of_getElem? (i := 687) (by decide +kernel), List.mem_of_getElem? (i := 776) (by decide +kernel), List.mem_of_getElem? (i := 777) (by decide +kernel)⟩
theorem lw_p35 : lw_okq (⟨"RightsDeskModel", "isOpen", "(I)Z"⟩, 15) := ⟨⟨by decide +kernel, by decide +kernel⟩, List.mem_of_getElem? (i := 687) (by decide +kernel), List.mem_of_getElem? (i := 780) (by decide +kernel), List.mem_of_getElem? (i := 781) (by decide +kernel)⟩
theorem lw_p36 : lw_okq (⟨"RightsDeskModel", "daysLeft", "(I)I"⟩, 15) := ⟨⟨by decide +kernel, by decide +kernel⟩, List.mem_of_getElem? (i := 687) (by decide +kernel), List.mem_of_getElem? (i := 784) (by decide +kernel), List.mem_of_getElem? (i := 785) (by decide +kernel)⟩
theorem lw_p37 : lw_okq (⟨"RightsDeskModel", "ofDate", "(II)I"⟩, 15) := ⟨⟨by decide +kernel, by decide +kernel⟩, List.mem_of_getElem? (i := 687) (by decide +kernel), List.mem_of_getElem? (i := 788) (by decide +kernel), List.mem_of_getElem? (i := 789) (by decide +kernel)⟩
theorem lw_p38 : lw_okq (⟨"RightsDeskModel", "canSell", "(I)I"⟩, 15) := ⟨⟨by decide +kernel, by decide +kernel⟩, List.mem_of_getElem? (i := 687) (by decide +kernel), List.mem_of_getElem? (i := 792) (by decide +kernel), List.mem_of_getElem? (i := 793) (by decide +kernel)⟩
theorem lw_p39 : lw_okq (⟨"RightsDeskModel", "out", "(I)I"⟩, 15) := ⟨⟨by decide +kernel, by decide +kernel⟩, List.mem_of_getElem? (i := 687) (by decide +kernel), List.mem_of_getElem? (i := 796) (by decide +kernel), List.mem_of_getElem? (i := 797) (by decide +kernel)⟩
theorem lw_p40 : lw_okq (⟨"RightsDeskModel", "rightsOf", "(III)I"⟩, 15) := ⟨⟨by decide +kernel, by decide +kernel⟩, List.mem_of_getElem? (i := 687) (by decide +kernel), List.mem_of_getElem? (i := 800) (by decide +kernel), List.mem_of_getElem? (i := 801) (by decide +kernel)⟩
theorem lw_p41 : lw_okq (⟨"RightsDeskModel", "of", "(II)I"⟩, 15) := ⟨⟨by decide +kernel, by decide +kernel⟩, List.mem_of_getElem? (i := 687) (by decide +kernel), List.mem_of_getElem? (i := 804) (by decide +kernel), List.mem_of_getElem? (i := 805) (by decide +kernel)⟩
theorem lw_p42 : lw_okq (⟨"RightsDeskModel", "sells", "(II)I"⟩, 15) := ⟨⟨by decide +kernel, by decide +kernel⟩, List.mem_of_getElem? (i := 687) (by decide +kernel), List.mem_of_getElem? (i := 811) (by decide +kernel), List.mem_of_getElem? (i := 812) (by decide +kernel)⟩
theorem lw_p43 : lw_okq (⟨"RightsDeskModel", "price", "(II)I"⟩, 15) := ⟨⟨by decide +kernel, by decide +kernel⟩, List.mem_of_getElem? (i := 687) (by decide +kernel), List.mem_of_getElem? (i := 815) (by decide +kernel), List.mem_of_getElem? (i := 816) (by decide +kernel)⟩
theorem lw_p44 : lw_okq (⟨"RightsDeskModel", "pays", "(II)V"⟩, 15) := ⟨⟨by decide +kernel, by decide +kernel⟩, List.mem_of_getElem? (i := 687) (by decide +kernel), List.mem_of_getElem? (i := 819) (by decide +kernel), List.mem_of_getElem? (i := 820) (by decide +kernel)⟩
theorem lw_p45 : lw_okq (⟨"RightsDeskModel", "log", "(III)V"⟩, 15) := ⟨⟨by decide +kernel, by decide +kernel⟩, List.mem_of_getElem? (i := 687) (by decide +kernel), List.mem_of_getElem? (i := 823) (by decide +kernel), List.mem_of_getElem? (i := 824) (by decide +kernel)⟩
theorem lw_p46 : lw_okq (⟨"RightsDeskModel", "acted", "(I)I"⟩, 15) := ⟨⟨by decide +kernel, by decide +kernel⟩, List.mem_of_getElem? (i := 687) (by decide +kernel), List.mem_of_getElem? (i := 827) (by decide +kernel), List.mem_of_getElem? (i := 828) (by decide +kernel)⟩
theorem lw_p47 : lw_okq (⟨"RightsDeskModel", "bringBack", "()V"⟩, 15) := ⟨⟨by decide +kernel, by decide +kernel⟩, List.mem_of_getElem? (i := 687) (by decide +kernel), List.mem_of_getElem? (i := 831) (by decide +kernel), List.mem_of_getElem? (i := 832) (by decide +kernel)⟩
def lw_privs_3 : List (MethodName × Nat) := [(⟨"RightsDeskModel", "aside", "()V"⟩, 15), (⟨"RightsDeskModel", "doBuy", "(II)I"⟩, 15), (⟨"RightsDeskModel", "isDate", "(I)Z"⟩, 15), (⟨"RightsDeskModel", "isOpen", "(I)Z"⟩, 15), (⟨"RightsDeskModel", "daysLeft", "(I)I"⟩, 15), (⟨"RightsDeskModel", "ofDate", "(II)I"⟩, 15), (⟨"RightsDeskModel", "canSell", "(I)I"⟩, 15), (⟨"RightsDeskModel", "out", "(I)I"⟩, 15), (⟨"RightsDeskModel", "rightsOf", "(III)I"⟩, 15), (⟨"RightsDeskModel", "of", "(II)I"⟩, 15), (⟨"RightsDeskModel", "sells", "(II)I"⟩, 15), (⟨"RightsDeskModel", "price", "(II)I"⟩, 15), (⟨"RightsDeskModel", "pays", "(II)V"⟩, 15), (⟨"RightsDeskModel", "log", "(III)V"⟩, 15), (⟨"RightsDeskModel", "acted", "(I)I"⟩, 15), (⟨"RightsDeskModel", "bringBack", "()V"⟩, 15)]
theorem lw_r3 : ∀ q ∈ lw_privs_3, lw_okq q := List.forall_mem_cons.mpr ⟨lw_p32, List.forall_mem_cons.mpr ⟨lw_p33, List.forall_mem_cons.mpr ⟨lw_p34, List.forall_mem_cons.mpr ⟨lw_p35, List.forall_mem_cons.mpr ⟨lw_p36, List.forall_mem_cons.mpr ⟨lw_p37, List.forall_mem_cons.mpr ⟨lw_p38, List.forall_mem_cons.mpr ⟨lw_p39, List.forall_mem_cons.mpr ⟨lw_p40, List.forall_mem_cons.mpr ⟨lw_p41, List.forall_mem_cons.mpr ⟨lw_p42, List.forall_mem_cons.mpr ⟨lw_p43, List.forall_mem_cons.mpr ⟨lw_p44, List.forall_mem_cons.mpr ⟨lw_p45, List.forall_mem_cons.mpr ⟨lw_p46, List.forall_mem_cons.mpr ⟨lw_p47, fun _ h => absurd h List.not_mem_nil⟩⟩⟩⟩⟩⟩⟩⟩⟩⟩⟩⟩⟩⟩⟩⟩
theorem lw_p48 : lw_okq (⟨"RightsDeskModel", "doBuyOffered", "(II)I"⟩, 15) := ⟨⟨by decide +kernel, by decide +kernel⟩, List.mem_of_getElem? (i := 687) (by decide +kernel), List.mem_of_getElem? (i := 839) (by decide +kernel), List.mem_of_getElem? (i := 840) (by decide +kernel)⟩
theorem lw_p49 : lw_okq (⟨"RightsDeskModel", "lowest", "(III)I"⟩, 15) := ⟨⟨by decide +kernel, by decide +kernel⟩, List.mem_of_getElem? (i := 687) (by decide +kernel), List.mem_of_getElem? (i := 843) (by decide +kernel), List.mem_of_getElem? (i := 844) (by decide +kernel)⟩
theorem lw_p50 : lw_okq (⟨"RightsDeskModel", "becomes", "(II)V"⟩, 15) := ⟨⟨by decide +kernel, by decide +kernel⟩, List.mem_of_getElem? (i := 687) (by decide +kernel), List.mem_of_getElem? (i := 847) (by decide +kernel), List.mem_of_getElem? (i := 848) (by decide +kernel)⟩
theorem lw_p51 : lw_okq (⟨"RightsDeskModel", "doCancel", "(I)I"⟩, 15) := ⟨⟨by decide +kernel, by decide +kernel⟩, List.mem_of_getElem? (i := 687) (by decide +kernel), List.mem_of_getElem? (i := 855) (by decide +kernel), List.mem_of_getElem? (i := 856) (by decide +kernel)⟩
theorem lw_p52 : lw_okq (⟨"RightsDeskModel", "isRight", "(I)Z"⟩, 15) := ⟨⟨by decide +kernel, by decide +kernel⟩, List.mem_of_getElem? (i := 687) (by decide +kernel), List.mem_of_getElem? (i := 859) (by decide +kernel), List.mem_of_getElem? (i := 860) (by decide +kernel)⟩
theorem lw_p53 : lw_okq (⟨"RightsDeskModel", "isFree", "(I)Z"⟩, 15) := ⟨⟨by decide +kernel, by decide +kernel⟩, List.mem_of_getElem? (i := 687) (by decide +kernel), List.mem_of_getElem? (i := 863) (by decide +kernel), List.mem_of_getElem? (i := 864) (by decide +kernel)⟩
theorem lw_p54 : lw_okq (⟨"RightsDeskModel", "refund", "(I)I"⟩, 15) := ⟨⟨by decide +kernel, by decide +kernel⟩, List.mem_of_getElem? (i := 687) (by decide +kernel), List.mem_of_getElem? (i := 867) (by decide +kernel), List.mem_of_getElem? (i := 868) (by decide +kernel)⟩
theorem lw_p55 : lw_okq (⟨"RightsDeskModel", "stageOf", "(I)I"⟩, 15) := ⟨⟨by decide +kernel, by decide +kernel⟩, List.mem_of_getElem? (i := 687) (by decide +kernel), List.mem_of_getElem? (i := 871) (by decide +kernel), List.mem_of_getElem? (i := 872) (by decide +kernel)⟩
theorem lw_p56 : lw_okq (⟨"RightsDeskModel", "listBuys", "(I)V"⟩, 15) := ⟨⟨by decide +kernel, by decide +kernel⟩, List.mem_of_getElem? (i := 687) (by decide +kernel), List.mem_of_getElem? (i := 875) (by decide +kernel), List.mem_of_getElem? (i := 876) (by decide +kernel)⟩
theorem lw_p57 : lw_okq (⟨"RightsDeskModel", "dropFirst", "(II)V"⟩, 15) := ⟨⟨by decide +kernel, by decide +kernel⟩, List.mem_of_getElem? (i := 687) (by decide +kernel), List.mem_of_getElem? (i := 879) (by decide +kernel), List.mem_of_getElem? (i := 880) (by decide +kernel)⟩
theorem lw_p58 : lw_okq (⟨"RightsDeskModel", "doOffer", "(II)I"⟩, 15) := ⟨⟨by decide +kernel, by decide +kernel⟩, List.mem_of_getElem? (i := 687) (by decide +kernel), List.mem_of_getElem? (i := 887) (by decide +kernel), List.mem_of_getElem? (i := 888) (by decide +kernel)⟩
theorem lw_p59 : lw_okq (⟨"RightsDeskModel", "doExercise", "(I)I"⟩, 15) := ⟨⟨by decide +kernel, by decide +kernel⟩, List.mem_of_getElem? (i := 687) (by decide +kernel), List.mem_of_getElem? (i := 899) (by decide +kernel), List.mem_of_getElem? (i := 900) (by decide +kernel)⟩
theorem lw_p60 : lw_okq (⟨"RightsDeskModel", "canExercise", "(I)Z"⟩, 15) := ⟨⟨by decide +kernel, by decide +kernel⟩, List.mem_of_getElem? (i := 687) (by decide +kernel), List.mem_of_getElem? (i := 903) (by decide +kernel), List.mem_of_getElem? (i := 904) (by decide +kernel)⟩
theorem lw_p61 : lw_okq (⟨"RightsDeskModel", "placeOf", "(II)I"⟩, 15) := ⟨⟨by decide +kernel, by decide +kernel⟩, List.mem_of_getElem? (i := 687) (by decide +kernel), List.mem_of_getElem? (i := 911) (by decide +kernel), List.mem_of_getElem? (i := 912) (by decide +kernel)⟩
theorem lw_p62 : lw_okq (⟨"RightsDeskModel", "oneDay", "()I"⟩, 15) := ⟨⟨by decide +kernel, by decide +kernel⟩, List.mem_of_getElem? (i := 687) (by decide +kernel), List.mem_of_getElem? (i := 923) (by decide +kernel), List.mem_of_getElem? (i := 924) (by decide +kernel)⟩
theorem lw_p63 : lw_okq (⟨"RightsDeskModel", "lapses", "(I)I"⟩, 15) := ⟨⟨by decide +kernel, by decide +kernel⟩, List.mem_of_getElem? (i := 687) (by decide +kernel), List.mem_of_getElem? (i := 927) (by decide +kernel), List.mem_of_getElem? (i := 928) (by decide +kernel)⟩
def lw_privs_4 : List (MethodName × Nat) := [(⟨"RightsDeskModel", "doBuyOffered", "(II)I"⟩, 15), (⟨"RightsDeskModel", "lowest", "(III)I"⟩, 15), (⟨"RightsDeskModel", "becomes", "(II)V"⟩, 15), (⟨"RightsDeskModel", "doCancel", "(I)I"⟩, 15), (⟨"RightsDeskModel", "isRight", "(I)Z"⟩, 15), (⟨"RightsDeskModel", "isFree", "(I)Z"⟩, 15), (⟨"RightsDeskModel", "refund", "(I)I"⟩, 15), (⟨"RightsDeskModel", "stageOf", "(I)I"⟩, 15), (⟨"RightsDeskModel", "listBuys", "(I)V"⟩, 15), (⟨"RightsDeskModel", "dropFirst", "(II)V"⟩, 15), (⟨"RightsDeskModel", "doOffer", "(II)I"⟩, 15), (⟨"RightsDeskModel", "doExercise", "(I)I"⟩, 15), (⟨"RightsDeskModel", "canExercise", "(I)Z"⟩, 15), (⟨"RightsDeskModel", "placeOf", "(II)I"⟩, 15), (⟨"RightsDeskModel", "oneDay", "()I"⟩, 15), (⟨"RightsDeskModel", "lapses", "(I)I"⟩, 15)]
theorem lw_r4 : ∀ q ∈ lw_privs_4, lw_okq q := List.forall_mem_cons.mpr ⟨lw_p48, List.forall_mem_cons.mpr ⟨lw_p49, List.forall_mem_cons.mpr ⟨lw_p50, List.forall_mem_cons.mpr ⟨lw_p51, List.forall_mem_cons.mpr ⟨lw_p52, List.forall_mem_cons.mpr ⟨lw_p53, List.forall_mem_cons.mpr ⟨lw_p54, List.forall_mem_cons.mpr ⟨lw_p55, List.forall_mem_cons.mpr ⟨lw_p56, List.forall_mem_cons.mpr ⟨lw_p57, List.forall_mem_cons.mpr ⟨lw_p58, List.forall_mem_cons.mpr ⟨lw_p59, List.forall_mem_cons.mpr ⟨lw_p60, List.forall_mem_cons.mpr ⟨lw_p61, List.forall_mem_cons.mpr ⟨lw_p62, List.forall_mem_cons.mpr ⟨lw_p63, fun _ h => absurd h List.not_mem_nil⟩⟩⟩⟩⟩⟩⟩⟩⟩⟩⟩⟩⟩⟩⟩⟩
theorem lw_p64 : lw_okq (⟨"RightsDeskModel", "covers", "(I)I"⟩, 15) := ⟨⟨by decide +kernel, by decide +kernel⟩, List.mem_of_getElem? (i := 687) (by decide +kernel), List.mem_of_getElem? (i := 931) (by decide +kernel), List.mem_of_getElem? (i := 932) (by decide +kernel)⟩
theorem lw_p65 : lw_okq (⟨"RightsDeskModel", "isGood", "()Z"⟩, 15) := ⟨⟨by decide +kernel, by decide +kernel⟩, List.mem_of_getElem? (i := 687) (by decide +kernel), List.mem_of_getElem? (i := 947) (by decide +kernel), List.mem_of_getElem? (i := 948) (by decide +kernel)⟩
theorem lw_p66 : lw_okq (⟨"RightsDeskModel", "readOrder", "()Z"⟩, 15) := ⟨⟨by decide +kernel, by decide +kernel⟩, List.mem_of_getElem? (i := 687) (by decide +kernel), List.mem_of_getElem? (i := 951) (by decide +kernel), List.mem_of_getElem? (i := 952) (by decide +kernel)⟩
theorem lw_p67 : lw_okq (⟨"RightsDeskModel", "sign", "(I)Z"⟩, 15) := ⟨⟨by decide +kernel, by decide +kernel⟩, List.mem_of_getElem? (i := 687) (by decide +kernel), List.mem_of_getElem? (i := 955) (by decide +kernel), List.mem_of_getElem? (i := 956) (by decide +kernel)⟩
theorem lw_p68 : lw_okq (⟨"RightsDeskModel", "readNumber", "(I)Z"⟩, 15) := ⟨⟨by decide +kernel, by decide +kernel⟩, List.mem_of_getElem? (i := 687) (by decide +kernel), List.mem_of_getElem? (i := 959) (by decide +kernel), List.mem_of_getElem? (i := 960) (by decide +kernel)⟩
theorem lw_p69 : lw_okq (⟨"RightsDeskModel", "doOrder", "()I"⟩, 15) := ⟨⟨by decide +kernel, by decide +kernel⟩, List.mem_of_getElem? (i := 687) (by decide +kernel), List.mem_of_getElem? (i := 963) (by decide +kernel), List.mem_of_getElem? (i := 964) (by decide +kernel)⟩
def lw_privs_5 : List (MethodName × Nat) := [(⟨"RightsDeskModel", "covers", "(I)I"⟩, 15), (⟨"RightsDeskModel", "isGood", "()Z"⟩, 15), (⟨"RightsDeskModel", "readOrder", "()Z"⟩, 15), (⟨"RightsDeskModel", "sign", "(I)Z"⟩, 15), (⟨"RightsDeskModel", "readNumber", "(I)Z"⟩, 15), (⟨"RightsDeskModel", "doOrder", "()I"⟩, 15)]
theorem lw_r5 : ∀ q ∈ lw_privs_5, lw_okq q := List.forall_mem_cons.mpr ⟨lw_p64, List.forall_mem_cons.mpr ⟨lw_p65, List.forall_mem_cons.mpr ⟨lw_p66, List.forall_mem_cons.mpr ⟨lw_p67, List.forall_mem_cons.mpr ⟨lw_p68, List.forall_mem_cons.mpr ⟨lw_p69, fun _ h => absurd h List.not_mem_nil⟩⟩⟩⟩⟩⟩
def lw_privs : List (MethodName × Nat) := lw_privs_1 ++ (lw_privs_2 ++ (lw_privs_3 ++ (lw_privs_4 ++ (lw_privs_5))))
def lw_tbl : List Cond := k2_sels lw_privs ++ tables_1
theorem lw_privs_ok : ∀ q ∈ lw_privs, lw_okq q := by
  show ∀ q ∈ lw_privs_1 ++ (lw_privs_2 ++ (lw_privs_3 ++ (lw_privs_4 ++ (lw_privs_5)))), lw_okq q
  exact List.forall_mem_append.mpr ⟨lw_r1, List.forall_mem_append.mpr ⟨lw_r2, List.forall_mem_append.mpr ⟨lw_r3, List.forall_mem_append.mpr ⟨lw_r4, lw_r5⟩⟩⟩⟩
def RX0 : String := "RightsDesk$DateRow"
def TX0 : u_T := fun k => match k with
  | 0 => ("RightsDesk$DateRow", "number", "I", true)
  | 1 => ("RightsDesk$DateRow", "day", "I", false)
  | 2 => ("RightsDesk$DateRow", "places", "I", false)
  | 3 => ("RightsDesk$DateRow", "surplus", "I", false)
  | 4 => ("RightsDesk$DateRow", "base", "I", false)
  | 5 => ("RightsDesk$DateRow", "rule", "I", false)
  | 6 => ("RightsDesk$DateRow", "list", "[I", true)
  | _ => ("RightsDesk$DateRow", "listLength", "I", false)
def tyX0 : Nat → FieldType := fun k => match k with
  | 0 => .int
  | 1 => .int
  | 2 => .int
  | 3 => .int
  | 4 => .int
  | 5 => .int
  | 6 => .array .int
  | _ => .int
abbrev wsX00 : List Cond := u_ws RX0 TX0 8
theorem nmX0 : ∀ a, a < 8 → ∀ b, b < 8 → a ≠ b → (TX0 a).2.1 ≠ (TX0 b).2.1 := by decide +kernel
theorem tyX0_ok : ∀ k, k < 8 → parseFieldDescriptor (TX0 k).2.2.1 = some (tyX0 k) := by decide +kernel
abbrev cX0_init : ByteArray := prog_2_method_1_code
def yX0_init : MethodName := ⟨RX0, "<init>", "(I)V"⟩
abbrev cX0_copyFrom : ByteArray := prog_2_method_2_code
def yX0_copyFrom : MethodName := ⟨RX0, "copyFrom", "(LRightsDesk$DateRow;)V"⟩
abbrev cX0_priceFor : ByteArray := prog_2_method_3_code
def yX0_priceFor : MethodName := ⟨RX0, "priceFor", "(II)I"⟩
abbrev cX0_waitingAt : ByteArray := prog_2_method_4_code
def yX0_waitingAt : MethodName := ⟨RX0, "waitingAt", "(I)I"⟩
abbrev cX0_placeOf : ByteArray := prog_2_method_5_code
def yX0_placeOf : MethodName := ⟨RX0, "placeOf", "(I)I"⟩
abbrev cX0_appendToList : ByteArray := prog_2_method_6_code
def yX0_appendToList : MethodName := ⟨RX0, "appendToList", "(I)I"⟩
abbrev cX0_removeFromList : ByteArray := prog_2_method_7_code
def yX0_removeFromList : MethodName := ⟨RX0, "removeFromList", "(I)V"⟩
def RX1 : String := "RightsDesk$EventRow"
def TX1 : u_T := fun k => match k with
  | 0 => ("RightsDesk$EventRow", "kind", "I", false)
  | 1 => ("RightsDesk$EventRow", "right", "I", false)
  | 2 => ("RightsDesk$EventRow", "cents", "I", false)
  | _ => ("RightsDesk$EventRow", "day", "I", false)
def tyX1 : Nat → FieldType := fun k => match k with
  | 0 => .int
  | 1 => .int
  | 2 => .int
  | _ => .int
abbrev wsX10 : List Cond := u_ws RX1 TX1 4
theorem nmX1 : ∀ a, a < 4 → ∀ b, b < 4 → a ≠ b → (TX1 a).2.1 ≠ (TX1 b).2.1 := by decide +kernel
theorem tyX1_ok : ∀ k, k < 4 → parseFieldDescriptor (TX1 k).2.2.1 = some (tyX1 k) := by decide +kernel
abbrev cX1_init : ByteArray := prog_3_method_1_code
def yX1_init : MethodName := ⟨RX1, "<init>", "()V"⟩
abbrev cX1_copyFrom : ByteArray := prog_3_method_2_code
def yX1_copyFrom : MethodName := ⟨RX1, "copyFrom", "(LRightsDesk$EventRow;)V"⟩
abbrev cX1_tell : ByteArray := prog_3_method_3_code
def yX1_tell : MethodName := ⟨RX1, "tell", "(I)I"⟩
def RX2 : String := "RightsDesk$History"
def TX2 : u_T := fun k => match k with
  | 0 => ("RightsDesk$History", "past", "[LRightsDesk$State;", true)
  | 1 => ("RightsDesk$History", "count", "I", false)
  | _ => ("RightsDesk$History", "prepared", "LRightsDesk$State;", false)
def tyX2 : Nat → FieldType := fun k => match k with
  | 0 => .array (.object "RightsDesk$State")
  | 1 => .int
  | _ => .object "RightsDesk$State"
abbrev wsX20 : List Cond := u_ws RX2 TX2 3
theorem nmX2 : ∀ a, a < 3 → ∀ b, b < 3 → a ≠ b → (TX2 a).2.1 ≠ (TX2 b).2.1 := by decide +kernel
theorem tyX2_ok : ∀ k, k < 3 → parseFieldDescriptor (TX2 k).2.2.1 = some (tyX2 k) := by decide +kernel
abbrev cX2_init : ByteArray := prog_4_method_1_code
def yX2_init : MethodName := ⟨RX2, "<init>", "()V"⟩
abbrev cX2_prepare : ByteArray := prog_4_method_2_code
def yX2_prepare : MethodName := ⟨RX2, "prepare", "(LRightsDesk$State;)V"⟩
abbrev cX2_settle : ByteArray := prog_4_method_3_code
def yX2_settle : MethodName := ⟨RX2, "settle", "(I)I"⟩
abbrev cX2_takeLatest : ByteArray := prog_4_method_4_code
def yX2_takeLatest : MethodName := ⟨RX2, "takeLatest", "()LRightsDesk$State;"⟩
def RX3 : String := "RightsDesk$OrderText"
def TX3 : u_T := fun k => match k with
  | 0 => ("RightsDesk$OrderText", "signs", "[C", true)
  | 1 => ("RightsDesk$OrderText", "length", "I", false)
  | 2 => ("RightsDesk$OrderText", "at", "I", false)
  | 3 => ("RightsDesk$OrderText", "kind", "I", false)
  | 4 => ("RightsDesk$OrderText", "first", "I", false)
  | _ => ("RightsDesk$OrderText", "second", "I", false)
def tyX3 : Nat → FieldType := fun k => match k with
  | 0 => .array .char
  | 1 => .int
  | 2 => .int
  | 3 => .int
  | 4 => .int
  | _ => .int
abbrev wsX30 : List Cond := u_ws RX3 TX3 6
theorem nmX3 : ∀ a, a < 6 → ∀ b, b < 6 → a ≠ b → (TX3 a).2.1 ≠ (TX3 b).2.1 := by decide +kernel
theorem tyX3_ok : ∀ k, k < 6 → parseFieldDescriptor (TX3 k).2.2.1 = some (tyX3 k) := by decide +kernel
abbrev cX3_init : ByteArray := prog_5_method_1_code
def yX3_init : MethodName := ⟨RX3, "<init>", "()V"⟩
abbrev cX3_append : ByteArray := prog_5_method_2_code
def yX3_append : MethodName := ⟨RX3, "append", "(C)I"⟩
abbrev cX3_empty : ByteArray := prog_5_method_3_code
def yX3_empty : MethodName := ⟨RX3, "empty", "()I"⟩
abbrev cX3_countOrders : ByteArray := prog_5_method_4_code
def yX3_countOrders : MethodName := ⟨RX3, "countOrders", "()I"⟩
abbrev cX3_goToStart : ByteArray := prog_5_method_5_code
def yX3_goToStart : MethodName := ⟨RX3, "goToStart", "()V"⟩
abbrev cX3_readOrder : ByteArray := prog_5_method_6_code
def yX3_readOrder : MethodName := ⟨RX3, "readOrder", "()Z"⟩
abbrev cX3_skip : ByteArray := prog_5_method_7_code
def yX3_skip : MethodName := ⟨RX3, "skip", "(C)Z"⟩
abbrev cX3_readHolderAndDate : ByteArray := prog_5_method_8_code
def yX3_readHolderAndDate : MethodName := ⟨RX3, "readHolderAndDate", "()Z"⟩
abbrev cX3_readRight : ByteArray := prog_5_method_9_code
def yX3_readRight : MethodName := ⟨RX3, "readRight", "()Z"⟩
abbrev cX3_readPrice : ByteArray := prog_5_method_10_code
def yX3_readPrice : MethodName := ⟨RX3, "readPrice", "()Z"⟩
abbrev cX3_isDigitHere : ByteArray := prog_5_method_11_code
def yX3_isDigitHere : MethodName := ⟨RX3, "isDigitHere", "()Z"⟩
abbrev cX3_takeDigit : ByteArray := prog_5_method_12_code
def yX3_takeDigit : MethodName := ⟨RX3, "takeDigit", "()I"⟩
abbrev cX3_here : ByteArray := prog_5_method_13_code
def yX3_here : MethodName := ⟨RX3, "here", "()C"⟩
def RX4 : String := "RightsDesk$RightRow"
def TX4 : u_T := fun k => match k with
  | 0 => ("RightsDesk$RightRow", "number", "I", true)
  | 1 => ("RightsDesk$RightRow", "date", "I", false)
  | 2 => ("RightsDesk$RightRow", "holder", "I", false)
  | 3 => ("RightsDesk$RightRow", "cost", "I", false)
  | 4 => ("RightsDesk$RightRow", "state", "I", false)
  | 5 => ("RightsDesk$RightRow", "asking", "I", false)
  | 6 => ("RightsDesk$RightRow", "soldOn", "I", false)
  | _ => ("RightsDesk$RightRow", "resold", "I", false)
def tyX4 : Nat → FieldType := fun k => match k with
  | 0 => .int
  | 1 => .int
  | 2 => .int
  | 3 => .int
  | 4 => .int
  | 5 => .int
  | 6 => .int
  | _ => .int
abbrev wsX40 : List Cond := u_ws RX4 TX4 8
theorem nmX4 : ∀ a, a < 8 → ∀ b, b < 8 → a ≠ b → (TX4 a).2.1 ≠ (TX4 b).2.1 := by decide +kernel
theorem tyX4_ok : ∀ k, k < 8 → parseFieldDescriptor (TX4 k).2.2.1 = some (tyX4 k) := by decide +kernel
abbrev cX4_init : ByteArray := prog_6_method_1_code
def yX4_init : MethodName := ⟨RX4, "<init>", "(I)V"⟩
abbrev cX4_copyFrom : ByteArray := prog_6_method_2_code
def yX4_copyFrom : MethodName := ⟨RX4, "copyFrom", "(LRightsDesk$RightRow;)V"⟩
abbrev cX4_isHeldOrOffered : ByteArray := prog_6_method_3_code
def yX4_isHeldOrOffered : MethodName := ⟨RX4, "isHeldOrOffered", "()Z"⟩
abbrev cX4_turnTo : ByteArray := prog_6_method_4_code
def yX4_turnTo : MethodName := ⟨RX4, "turnTo", "(II)V"⟩
def RX5 : String := "RightsDesk$State"
def TX5 : u_T := fun k => match k with
  | 0 => ("RightsDesk$State", "day", "I", false)
  | 1 => ("RightsDesk$State", "numbers", "[I", true)
  | 2 => ("RightsDesk$State", "stageDays", "[I", true)
  | 3 => ("RightsDesk$State", "stageFees", "[I", true)
  | 4 => ("RightsDesk$State", "dateCount", "I", false)
  | 5 => ("RightsDesk$State", "dates", "[LRightsDesk$DateRow;", true)
  | 6 => ("RightsDesk$State", "rightCount", "I", false)
  | 7 => ("RightsDesk$State", "rights", "[LRightsDesk$RightRow;", true)
  | 8 => ("RightsDesk$State", "accounts", "[I", true)
  | 9 => ("RightsDesk$State", "provider", "I", false)
  | 10 => ("RightsDesk$State", "eventCount", "I", false)
  | _ => ("RightsDesk$State", "events", "[LRightsDesk$EventRow;", true)
def tyX5 : Nat → FieldType := fun k => match k with
  | 0 => .int
  | 1 => .array .int
  | 2 => .array .int
  | 3 => .array .int
  | 4 => .int
  | 5 => .array (.object "RightsDesk$DateRow")
  | 6 => .int
  | 7 => .array (.object "RightsDesk$RightRow")
  | 8 => .array .int
  | 9 => .int
  | 10 => .int
  | _ => .array (.object "RightsDesk$EventRow")
abbrev wsX50 : List Cond := u_ws RX5 TX5 12
theorem nmX5 : ∀ a, a < 12 → ∀ b, b < 12 → a ≠ b → (TX5 a).2.1 ≠ (TX5 b).2.1 := by decide +kernel
theorem tyX5_ok : ∀ k, k < 12 → parseFieldDescriptor (TX5 k).2.2.1 = some (tyX5 k) := by decide +kernel
abbrev cX5_init : ByteArray := prog_7_method_1_code
def yX5_init : MethodName := ⟨RX5, "<init>", "()V"⟩
abbrev cX5_copyFrom : ByteArray := prog_7_method_2_code
def yX5_copyFrom : MethodName := ⟨RX5, "copyFrom", "(LRightsDesk$State;)V"⟩
abbrev cX5_dateRow : ByteArray := prog_7_method_3_code
def yX5_dateRow : MethodName := ⟨RX5, "dateRow", "(I)LRightsDesk$DateRow;"⟩
abbrev cX5_rightRow : ByteArray := prog_7_method_4_code
def yX5_rightRow : MethodName := ⟨RX5, "rightRow", "(I)LRightsDesk$RightRow;"⟩
abbrev cX5_eventRow : ByteArray := prog_7_method_5_code
def yX5_eventRow : MethodName := ⟨RX5, "eventRow", "(I)LRightsDesk$EventRow;"⟩
abbrev cX5_openDate : ByteArray := prog_7_method_6_code
def yX5_openDate : MethodName := ⟨RX5, "openDate", "(IIIII)I"⟩
abbrev cX5_changeStage : ByteArray := prog_7_method_7_code
def yX5_changeStage : MethodName := ⟨RX5, "changeStage", "(III)I"⟩
abbrev cX5_isStage : ByteArray := prog_7_method_8_code
def yX5_isStage : MethodName := ⟨RX5, "isStage", "(I)Z"⟩
abbrev cX5_fitsStage : ByteArray := prog_7_method_9_code
def yX5_fitsStage : MethodName := ⟨RX5, "fitsStage", "(II)Z"⟩
abbrev cX5_changeNumber : ByteArray := prog_7_method_10_code
def yX5_changeNumber : MethodName := ⟨RX5, "changeNumber", "(II)I"⟩
abbrev cX5_sellTo : ByteArray := prog_7_method_11_code
def yX5_sellTo : MethodName := ⟨RX5, "sellTo", "(II)I"⟩
abbrev cX5_resellTo : ByteArray := prog_7_method_12_code
def yX5_resellTo : MethodName := ⟨RX5, "resellTo", "(II)I"⟩
abbrev cX5_cancelRight : ByteArray := prog_7_method_13_code
def yX5_cancelRight : MethodName := ⟨RX5, "cancelRight", "(I)I"⟩
abbrev cX5_offerRight : ByteArray := prog_7_method_14_code
def yX5_offerRight : MethodName := ⟨RX5, "offerRight", "(II)I"⟩
abbrev cX5_withdrawOffer : ByteArray := prog_7_method_15_code
def yX5_withdrawOffer : MethodName := ⟨RX5, "withdrawOffer", "(I)I"⟩
abbrev cX5_exerciseRight : ByteArray := prog_7_method_16_code
def yX5_exerciseRight : MethodName := ⟨RX5, "exerciseRight", "(I)I"⟩
abbrev cX5_joinList : ByteArray := prog_7_method_17_code
def yX5_joinList : MethodName := ⟨RX5, "joinList", "(II)I"⟩
abbrev cX5_quitList : ByteArray := prog_7_method_18_code
def yX5_quitList : MethodName := ⟨RX5, "quitList", "(II)I"⟩
abbrev cX5_passDays : ByteArray := prog_7_method_19_code
def yX5_passDays : MethodName := ⟨RX5, "passDays", "(I)I"⟩
abbrev cX5_passOneDay : ByteArray := prog_7_method_20_code
def yX5_passOneDay : MethodName := ⟨RX5, "passOneDay", "()I"⟩
abbrev cX5_endDate : ByteArray := prog_7_method_21_code
def yX5_endDate : MethodName := ⟨RX5, "endDate", "(LRightsDesk$DateRow;)I"⟩
abbrev cX5_coverRightsOf : ByteArray := prog_7_method_22_code
def yX5_coverRightsOf : MethodName := ⟨RX5, "coverRightsOf", "(LRightsDesk$DateRow;)I"⟩
abbrev cX5_coverOne : ByteArray := prog_7_method_23_code
def yX5_coverOne : MethodName := ⟨RX5, "coverOne", "(LRightsDesk$RightRow;)I"⟩
abbrev cX5_nextToCover : ByteArray := prog_7_method_24_code
def yX5_nextToCover : MethodName := ⟨RX5, "nextToCover", "(LRightsDesk$DateRow;)LRightsDesk$RightRow;"⟩
abbrev cX5_letListBuy : ByteArray := prog_7_method_25_code
def yX5_letListBuy : MethodName := ⟨RX5, "letListBuy", "(LRightsDesk$DateRow;)V"⟩
abbrev cX5_sell : ByteArray := prog_7_method_26_code
def yX5_sell : MethodName := ⟨RX5, "sell", "(ILRightsDesk$DateRow;)I"⟩
abbrev cX5_sellable : ByteArray := prog_7_method_27_code
def yX5_sellable : MethodName := ⟨RX5, "sellable", "(LRightsDesk$DateRow;)I"⟩
abbrev cX5_priceNow : ByteArray := prog_7_method_28_code
def yX5_priceNow : MethodName := ⟨RX5, "priceNow", "(LRightsDesk$DateRow;)I"⟩
abbrev cX5_give : ByteArray := prog_7_method_29_code
def yX5_give : MethodName := ⟨RX5, "give", "(II)V"⟩
abbrev cX5_log : ByteArray := prog_7_method_30_code
def yX5_log : MethodName := ⟨RX5, "log", "(ILRightsDesk$RightRow;I)V"⟩
abbrev cX5_daysLeft : ByteArray := prog_7_method_31_code
def yX5_daysLeft : MethodName := ⟨RX5, "daysLeft", "(LRightsDesk$DateRow;)I"⟩
abbrev cX5_isOpen : ByteArray := prog_7_method_32_code
def yX5_isOpen : MethodName := ⟨RX5, "isOpen", "(LRightsDesk$DateRow;)Z"⟩
abbrev cX5_rightsOut : ByteArray := prog_7_method_33_code
def yX5_rightsOut : MethodName := ⟨RX5, "rightsOut", "(LRightsDesk$DateRow;)I"⟩
abbrev cX5_rightsIn : ByteArray := prog_7_method_34_code
def yX5_rightsIn : MethodName := ⟨RX5, "rightsIn", "(LRightsDesk$DateRow;I)I"⟩
abbrev cX5_rightsInAll : ByteArray := prog_7_method_35_code
def yX5_rightsInAll : MethodName := ⟨RX5, "rightsInAll", "(I)I"⟩
abbrev cX5_cheapestOffered : ByteArray := prog_7_method_36_code
def yX5_cheapestOffered : MethodName := ⟨RX5, "cheapestOffered", "(LRightsDesk$DateRow;)LRightsDesk$RightRow;"⟩
abbrev cX5_cheapestHeld : ByteArray := prog_7_method_37_code
def yX5_cheapestHeld : MethodName := ⟨RX5, "cheapestHeld", "(LRightsDesk$DateRow;)LRightsDesk$RightRow;"⟩
abbrev cX5_stageOf : ByteArray := prog_7_method_38_code
def yX5_stageOf : MethodName := ⟨RX5, "stageOf", "(LRightsDesk$DateRow;)I"⟩
abbrev cX5_refund : ByteArray := prog_7_method_39_code
def yX5_refund : MethodName := ⟨RX5, "refund", "(LRightsDesk$RightRow;)I"⟩
abbrev cX5_canBeExercised : ByteArray := prog_7_method_40_code
def yX5_canBeExercised : MethodName := ⟨RX5, "canBeExercised", "(LRightsDesk$RightRow;LRightsDesk$DateRow;)Z"⟩
abbrev cX5_tellOfDate : ByteArray := prog_7_method_41_code
def yX5_tellOfDate : MethodName := ⟨RX5, "tellOfDate", "(LRightsDesk$DateRow;I)I"⟩
abbrev cX5_lowestAsking : ByteArray := prog_7_method_42_code
def yX5_lowestAsking : MethodName := ⟨RX5, "lowestAsking", "(LRightsDesk$DateRow;)I"⟩
abbrev cX5_tellOfRight : ByteArray := prog_7_method_43_code
def yX5_tellOfRight : MethodName := ⟨RX5, "tellOfRight", "(LRightsDesk$RightRow;I)I"⟩
abbrev cX5_tellExercisable : ByteArray := prog_7_method_44_code
def yX5_tellExercisable : MethodName := ⟨RX5, "tellExercisable", "(LRightsDesk$RightRow;)I"⟩
abbrev cX5_tellOfHolder : ByteArray := prog_7_method_45_code
def yX5_tellOfHolder : MethodName := ⟨RX5, "tellOfHolder", "(II)I"⟩
abbrev cX5_rightsOfHolder : ByteArray := prog_7_method_46_code
def yX5_rightsOfHolder : MethodName := ⟨RX5, "rightsOfHolder", "(II)I"⟩
abbrev cX5_listsWith : ByteArray := prog_7_method_47_code
def yX5_listsWith : MethodName := ⟨RX5, "listsWith", "(I)I"⟩
abbrev cX5_tellOfStage : ByteArray := prog_7_method_48_code
def yX5_tellOfStage : MethodName := ⟨RX5, "tellOfStage", "(II)I"⟩
abbrev cX5_tellCount : ByteArray := prog_7_method_49_code
def yX5_tellCount : MethodName := ⟨RX5, "tellCount", "(I)I"⟩
def RX6 : String := "RightsDesk"
def TX6 : u_T := fun k => match k with
  | 0 => ("RightsDesk", "now", "LRightsDesk$State;", true)
  | 1 => ("RightsDesk", "kept", "LRightsDesk$State;", true)
  | 2 => ("RightsDesk", "hasKept", "Z", false)
  | 3 => ("RightsDesk", "history", "LRightsDesk$History;", true)
  | _ => ("RightsDesk", "text", "LRightsDesk$OrderText;", true)
def tyX6 : Nat → FieldType := fun k => match k with
  | 0 => .object "RightsDesk$State"
  | 1 => .object "RightsDesk$State"
  | 2 => .boolean
  | 3 => .object "RightsDesk$History"
  | _ => .object "RightsDesk$OrderText"
abbrev wsX60 : List Cond := u_ws RX6 TX6 5
theorem nmX6 : ∀ a, a < 5 → ∀ b, b < 5 → a ≠ b → (TX6 a).2.1 ≠ (TX6 b).2.1 := by decide +kernel
theorem tyX6_ok : ∀ k, k < 5 → parseFieldDescriptor (TX6 k).2.2.1 = some (tyX6 k) := by decide +kernel
abbrev cX6_init : ByteArray := prog_1_method_1_code
def yX6_init : MethodName := ⟨RX6, "<init>", "()V"⟩
abbrev cX6_addDate : ByteArray := prog_1_method_2_code
def yX6_addDate : MethodName := ⟨RX6, "addDate", "(IIIII)I"⟩
abbrev cX6_setStage : ByteArray := prog_1_method_3_code
def yX6_setStage : MethodName := ⟨RX6, "setStage", "(III)I"⟩
abbrev cX6_set : ByteArray := prog_1_method_4_code
def yX6_set : MethodName := ⟨RX6, "set", "(II)I"⟩
abbrev cX6_buy : ByteArray := prog_1_method_5_code
def yX6_buy : MethodName := ⟨RX6, "buy", "(II)I"⟩
abbrev cX6_buyOffered : ByteArray := prog_1_method_6_code
def yX6_buyOffered : MethodName := ⟨RX6, "buyOffered", "(II)I"⟩
abbrev cX6_cancel : ByteArray := prog_1_method_7_code
def yX6_cancel : MethodName := ⟨RX6, "cancel", "(I)I"⟩
abbrev cX6_offer : ByteArray := prog_1_method_8_code
def yX6_offer : MethodName := ⟨RX6, "offer", "(II)I"⟩
abbrev cX6_takeBack : ByteArray := prog_1_method_9_code
def yX6_takeBack : MethodName := ⟨RX6, "takeBack", "(I)I"⟩
abbrev cX6_exercise : ByteArray := prog_1_method_10_code
def yX6_exercise : MethodName := ⟨RX6, "exercise", "(I)I"⟩
abbrev cX6_await : ByteArray := prog_1_method_11_code
def yX6_await : MethodName := ⟨RX6, "await", "(II)I"⟩
abbrev cX6_leave : ByteArray := prog_1_method_12_code
def yX6_leave : MethodName := ⟨RX6, "leave", "(II)I"⟩
abbrev cX6_pass : ByteArray := prog_1_method_13_code
def yX6_pass : MethodName := ⟨RX6, "pass", "(I)I"⟩
abbrev cX6_type : ByteArray := prog_1_method_14_code
def yX6_type : MethodName := ⟨RX6, "type", "(C)I"⟩
abbrev cX6_clearText : ByteArray := prog_1_method_15_code
def yX6_clearText : MethodName := ⟨RX6, "clearText", "()I"⟩
abbrev cX6_perform : ByteArray := prog_1_method_16_code
def yX6_perform : MethodName := ⟨RX6, "perform", "()I"⟩
abbrev cX6_undo : ByteArray := prog_1_method_17_code
def yX6_undo : MethodName := ⟨RX6, "undo", "()I"⟩
abbrev cX6_keep : ByteArray := prog_1_method_18_code
def yX6_keep : MethodName := ⟨RX6, "keep", "()I"⟩
abbrev cX6_restore : ByteArray := prog_1_method_19_code
def yX6_restore : MethodName := ⟨RX6, "restore", "()I"⟩
abbrev cX6_date : ByteArray := prog_1_method_20_code
def yX6_date : MethodName := ⟨RX6, "date", "(II)I"⟩
abbrev cX6_waiting : ByteArray := prog_1_method_21_code
def yX6_waiting : MethodName := ⟨RX6, "waiting", "(II)I"⟩
abbrev cX6_right : ByteArray := prog_1_method_22_code
def yX6_right : MethodName := ⟨RX6, "right", "(II)I"⟩
abbrev cX6_holder : ByteArray := prog_1_method_23_code
def yX6_holder : MethodName := ⟨RX6, "holder", "(II)I"⟩
abbrev cX6_stage : ByteArray := prog_1_method_24_code
def yX6_stage : MethodName := ⟨RX6, "stage", "(II)I"⟩
abbrev cX6_priceIn : ByteArray := prog_1_method_25_code
def yX6_priceIn : MethodName := ⟨RX6, "priceIn", "(II)I"⟩
abbrev cX6_wouldCover : ByteArray := prog_1_method_26_code
def yX6_wouldCover : MethodName := ⟨RX6, "wouldCover", "(I)I"⟩
abbrev cX6_event : ByteArray := prog_1_method_27_code
def yX6_event : MethodName := ⟨RX6, "event", "(II)I"⟩
abbrev cX6_count : ByteArray := prog_1_method_28_code
def yX6_count : MethodName := ⟨RX6, "count", "(I)I"⟩
abbrev cX6_performNext : ByteArray := prog_1_method_29_code
def yX6_performNext : MethodName := ⟨RX6, "performNext", "()I"⟩
abbrev cX6_isHolder : ByteArray := prog_1_method_30_code
def yX6_isHolder : MethodName := ⟨RX6, "isHolder", "(I)Z"⟩
abbrev cX6_copyAll : ByteArray := prog_1_method_31_code
def yX6_copyAll : MethodName := ⟨RX6, "copyAll", "([I[I)V"⟩
def RX7 : String := "RightsDeskModel"
def TX7 : u_T := fun k => match k with
  | 0 => ("RightsDeskModel", "v", "[I", true)
  | 1 => ("RightsDeskModel", "spare", "[I", true)
  | 2 => ("RightsDeskModel", "history", "[I", true)
  | 3 => ("RightsDeskModel", "states", "I", false)
  | 4 => ("RightsDeskModel", "kept", "[I", true)
  | 5 => ("RightsDeskModel", "isKept", "Z", false)
  | 6 => ("RightsDeskModel", "text", "[I", true)
  | 7 => ("RightsDeskModel", "length", "I", false)
  | 8 => ("RightsDeskModel", "lows", "[I", true)
  | 9 => ("RightsDeskModel", "highs", "[I", true)
  | 10 => ("RightsDeskModel", "place", "I", false)
  | 11 => ("RightsDeskModel", "letter", "I", false)
  | 12 => ("RightsDeskModel", "one", "I", false)
  | 13 => ("RightsDeskModel", "other", "I", false)
  | _ => ("RightsDeskModel", "number", "I", false)
def tyX7 : Nat → FieldType := fun k => match k with
  | 0 => .array .int
  | 1 => .array .int
  | 2 => .array .int
  | 3 => .int
  | 4 => .array .int
  | 5 => .boolean
  | 6 => .array .int
  | 7 => .int
  | 8 => .array .int
  | 9 => .array .int
  | 10 => .int
  | 11 => .int
  | 12 => .int
  | 13 => .int
  | _ => .int
abbrev wsX70 : List Cond := u_ws RX7 TX7 15
theorem nmX7 : ∀ a, a < 15 → ∀ b, b < 15 → a ≠ b → (TX7 a).2.1 ≠ (TX7 b).2.1 := by decide +kernel
theorem tyX7_ok : ∀ k, k < 15 → parseFieldDescriptor (TX7 k).2.2.1 = some (tyX7 k) := by decide +kernel
abbrev cX7_init : ByteArray := prog_9_method_1_code
def yX7_init : MethodName := ⟨RX7, "<init>", "()V"⟩
abbrev cX7_in : ByteArray := prog_9_method_3_code
def yX7_in : MethodName := ⟨RX7, "in", "(III)Z"⟩
abbrev cX7_record : ByteArray := prog_9_method_4_code
def yX7_record : MethodName := ⟨RX7, "record", "()V"⟩
abbrev cX7_isDate : ByteArray := prog_9_method_5_code
def yX7_isDate : MethodName := ⟨RX7, "isDate", "(I)Z"⟩
abbrev cX7_isRight : ByteArray := prog_9_method_6_code
def yX7_isRight : MethodName := ⟨RX7, "isRight", "(I)Z"⟩
abbrev cX7_isHolder : ByteArray := prog_9_method_7_code
def yX7_isHolder : MethodName := ⟨RX7, "isHolder", "(I)Z"⟩
abbrev cX7_dateAt : ByteArray := prog_9_method_8_code
def yX7_dateAt : MethodName := ⟨RX7, "dateAt", "(II)I"⟩
abbrev cX7_rightAt : ByteArray := prog_9_method_9_code
def yX7_rightAt : MethodName := ⟨RX7, "rightAt", "(II)I"⟩
abbrev cX7_ofDate : ByteArray := prog_9_method_10_code
def yX7_ofDate : MethodName := ⟨RX7, "ofDate", "(II)I"⟩
abbrev cX7_of : ByteArray := prog_9_method_11_code
def yX7_of : MethodName := ⟨RX7, "of", "(II)I"⟩
abbrev cX7_log : ByteArray := prog_9_method_12_code
def yX7_log : MethodName := ⟨RX7, "log", "(III)V"⟩
abbrev cX7_pays : ByteArray := prog_9_method_13_code
def yX7_pays : MethodName := ⟨RX7, "pays", "(II)V"⟩
abbrev cX7_daysLeft : ByteArray := prog_9_method_14_code
def yX7_daysLeft : MethodName := ⟨RX7, "daysLeft", "(I)I"⟩
abbrev cX7_isOpen : ByteArray := prog_9_method_15_code
def yX7_isOpen : MethodName := ⟨RX7, "isOpen", "(I)Z"⟩
abbrev cX7_rightsOf : ByteArray := prog_9_method_16_code
def yX7_rightsOf : MethodName := ⟨RX7, "rightsOf", "(III)I"⟩
abbrev cX7_out : ByteArray := prog_9_method_17_code
def yX7_out : MethodName := ⟨RX7, "out", "(I)I"⟩
abbrev cX7_price : ByteArray := prog_9_method_18_code
def yX7_price : MethodName := ⟨RX7, "price", "(II)I"⟩
abbrev cX7_canSell : ByteArray := prog_9_method_19_code
def yX7_canSell : MethodName := ⟨RX7, "canSell", "(I)I"⟩
abbrev cX7_stageOf : ByteArray := prog_9_method_20_code
def yX7_stageOf : MethodName := ⟨RX7, "stageOf", "(I)I"⟩
abbrev cX7_sells : ByteArray := prog_9_method_21_code
def yX7_sells : MethodName := ⟨RX7, "sells", "(II)I"⟩
abbrev cX7_dropFirst : ByteArray := prog_9_method_22_code
def yX7_dropFirst : MethodName := ⟨RX7, "dropFirst", "(II)V"⟩
abbrev cX7_listBuys : ByteArray := prog_9_method_23_code
def yX7_listBuys : MethodName := ⟨RX7, "listBuys", "(I)V"⟩
abbrev cX7_lowest : ByteArray := prog_9_method_24_code
def yX7_lowest : MethodName := ⟨RX7, "lowest", "(III)I"⟩
abbrev cX7_refund : ByteArray := prog_9_method_25_code
def yX7_refund : MethodName := ⟨RX7, "refund", "(I)I"⟩
abbrev cX7_canExercise : ByteArray := prog_9_method_26_code
def yX7_canExercise : MethodName := ⟨RX7, "canExercise", "(I)Z"⟩
abbrev cX7_isFree : ByteArray := prog_9_method_27_code
def yX7_isFree : MethodName := ⟨RX7, "isFree", "(I)Z"⟩
abbrev cX7_becomes : ByteArray := prog_9_method_28_code
def yX7_becomes : MethodName := ⟨RX7, "becomes", "(II)V"⟩
abbrev cX7_doBuy : ByteArray := prog_9_method_29_code
def yX7_doBuy : MethodName := ⟨RX7, "doBuy", "(II)I"⟩
abbrev cX7_doBuyOffered : ByteArray := prog_9_method_30_code
def yX7_doBuyOffered : MethodName := ⟨RX7, "doBuyOffered", "(II)I"⟩
abbrev cX7_doCancel : ByteArray := prog_9_method_31_code
def yX7_doCancel : MethodName := ⟨RX7, "doCancel", "(I)I"⟩
abbrev cX7_doOffer : ByteArray := prog_9_method_32_code
def yX7_doOffer : MethodName := ⟨RX7, "doOffer", "(II)I"⟩
abbrev cX7_doExercise : ByteArray := prog_9_method_33_code
def yX7_doExercise : MethodName := ⟨RX7, "doExercise", "(I)I"⟩
abbrev cX7_lapses : ByteArray := prog_9_method_34_code
def yX7_lapses : MethodName := ⟨RX7, "lapses", "(I)I"⟩
abbrev cX7_covers : ByteArray := prog_9_method_35_code
def yX7_covers : MethodName := ⟨RX7, "covers", "(I)I"⟩
abbrev cX7_oneDay : ByteArray := prog_9_method_36_code
def yX7_oneDay : MethodName := ⟨RX7, "oneDay", "()I"⟩
abbrev cX7_addDate : ByteArray := prog_9_method_37_code
def yX7_addDate : MethodName := ⟨RX7, "addDate", "(IIIII)I"⟩
abbrev cX7_setStage : ByteArray := prog_9_method_38_code
def yX7_setStage : MethodName := ⟨RX7, "setStage", "(III)I"⟩
abbrev cX7_set : ByteArray := prog_9_method_39_code
def yX7_set : MethodName := ⟨RX7, "set", "(II)I"⟩
abbrev cX7_aside : ByteArray := prog_9_method_40_code
def yX7_aside : MethodName := ⟨RX7, "aside", "()V"⟩
abbrev cX7_bringBack : ByteArray := prog_9_method_41_code
def yX7_bringBack : MethodName := ⟨RX7, "bringBack", "()V"⟩
abbrev cX7_acted : ByteArray := prog_9_method_42_code
def yX7_acted : MethodName := ⟨RX7, "acted", "(I)I"⟩
abbrev cX7_buy : ByteArray := prog_9_method_43_code
def yX7_buy : MethodName := ⟨RX7, "buy", "(II)I"⟩
abbrev cX7_buyOffered : ByteArray := prog_9_method_44_code
def yX7_buyOffered : MethodName := ⟨RX7, "buyOffered", "(II)I"⟩
abbrev cX7_cancel : ByteArray := prog_9_method_45_code
def yX7_cancel : MethodName := ⟨RX7, "cancel", "(I)I"⟩
abbrev cX7_offer : ByteArray := prog_9_method_46_code
def yX7_offer : MethodName := ⟨RX7, "offer", "(II)I"⟩
abbrev cX7_takeBack : ByteArray := prog_9_method_47_code
def yX7_takeBack : MethodName := ⟨RX7, "takeBack", "(I)I"⟩
abbrev cX7_exercise : ByteArray := prog_9_method_48_code
def yX7_exercise : MethodName := ⟨RX7, "exercise", "(I)I"⟩
abbrev cX7_placeOf : ByteArray := prog_9_method_49_code
def yX7_placeOf : MethodName := ⟨RX7, "placeOf", "(II)I"⟩
abbrev cX7_await : ByteArray := prog_9_method_50_code
def yX7_await : MethodName := ⟨RX7, "await", "(II)I"⟩
abbrev cX7_leave : ByteArray := prog_9_method_51_code
def yX7_leave : MethodName := ⟨RX7, "leave", "(II)I"⟩
abbrev cX7_pass : ByteArray := prog_9_method_52_code
def yX7_pass : MethodName := ⟨RX7, "pass", "(I)I"⟩
abbrev cX7_type : ByteArray := prog_9_method_53_code
def yX7_type : MethodName := ⟨RX7, "type", "(C)I"⟩
abbrev cX7_clearText : ByteArray := prog_9_method_54_code
def yX7_clearText : MethodName := ⟨RX7, "clearText", "()I"⟩
abbrev cX7_sign : ByteArray := prog_9_method_55_code
def yX7_sign : MethodName := ⟨RX7, "sign", "(I)Z"⟩
abbrev cX7_readNumber : ByteArray := prog_9_method_56_code
def yX7_readNumber : MethodName := ⟨RX7, "readNumber", "(I)Z"⟩
abbrev cX7_readOrder : ByteArray := prog_9_method_57_code
def yX7_readOrder : MethodName := ⟨RX7, "readOrder", "()Z"⟩
abbrev cX7_isGood : ByteArray := prog_9_method_58_code
def yX7_isGood : MethodName := ⟨RX7, "isGood", "()Z"⟩
abbrev cX7_doOrder : ByteArray := prog_9_method_59_code
def yX7_doOrder : MethodName := ⟨RX7, "doOrder", "()I"⟩
abbrev cX7_perform : ByteArray := prog_9_method_60_code
def yX7_perform : MethodName := ⟨RX7, "perform", "()I"⟩
abbrev cX7_undo : ByteArray := prog_9_method_61_code
def yX7_undo : MethodName := ⟨RX7, "undo", "()I"⟩
abbrev cX7_keep : ByteArray := prog_9_method_62_code
def yX7_keep : MethodName := ⟨RX7, "keep", "()I"⟩
abbrev cX7_restore : ByteArray := prog_9_method_63_code
def yX7_restore : MethodName := ⟨RX7, "restore", "()I"⟩
abbrev cX7_date : ByteArray := prog_9_method_64_code
def yX7_date : MethodName := ⟨RX7, "date", "(II)I"⟩
abbrev cX7_waiting : ByteArray := prog_9_method_65_code
def yX7_waiting : MethodName := ⟨RX7, "waiting", "(II)I"⟩
abbrev cX7_right : ByteArray := prog_9_method_66_code
def yX7_right : MethodName := ⟨RX7, "right", "(II)I"⟩
abbrev cX7_holder : ByteArray := prog_9_method_67_code
def yX7_holder : MethodName := ⟨RX7, "holder", "(II)I"⟩
abbrev cX7_stage : ByteArray := prog_9_method_68_code
def yX7_stage : MethodName := ⟨RX7, "stage", "(II)I"⟩
abbrev cX7_priceIn : ByteArray := prog_9_method_69_code
def yX7_priceIn : MethodName := ⟨RX7, "priceIn", "(II)I"⟩
abbrev cX7_wouldCover : ByteArray := prog_9_method_70_code
def yX7_wouldCover : MethodName := ⟨RX7, "wouldCover", "(I)I"⟩
abbrev cX7_event : ByteArray := prog_9_method_71_code
def yX7_event : MethodName := ⟨RX7, "event", "(II)I"⟩
abbrev cX7_count : ByteArray := prog_9_method_72_code
def yX7_count : MethodName := ⟨RX7, "count", "(I)I"⟩
def RJ9 : String := "java/lang/Math"
abbrev cJ9_max_7cf53 : ByteArray := prog_11_method_65_code
def yJ9_max_7cf53 : MethodName := ⟨RJ9, "max", "(II)I"⟩
abbrev cJ9_min_7cf53 : ByteArray := prog_11_method_69_code
def yJ9_min_7cf53 : MethodName := ⟨RJ9, "min", "(II)I"⟩
def RL : String := "RightsDeskLaw"
abbrev cL_law : ByteArray := code
def yL_law : MethodName := ⟨RL, "law", "([I)Z"⟩
abbrev vwCl : List vw_C := [(RX0, TX0, 8), (RX1, TX1, 4), (RX2, TX2, 3), (RX3, TX3, 6), (RX4, TX4, 8), (RX5, TX5, 12), (RX6, TX6, 5), (RX7, TX7, 15)]
/-! the words: those of the tables that callees may want -/
def zU : List Cond := lw_tbl.filter goodWord
theorem zmem (i : Nat) {w : Cond} (h : lw_tbl[i]? = some w) (g : goodWord w = true) : w ∈ zU := List.mem_filter.mpr ⟨List.mem_of_getElem? h, g⟩
theorem zU_tbl {w : Cond} (h : w ∈ zU) : w ∈ lw_tbl := (List.mem_filter.mp h).1
theorem zU_good {w : Cond} (h : w ∈ zU) : (w.onTables && w.keeps) = true ∨ ∃ ty, w = .arrayClass ty := good_of_word (List.mem_filter.mp h).2
theorem zU_self : GoodIn zU zU := fun _ h => ⟨h, zU_good h⟩
end
section
theorem dX0_init_0 : decode cX0_init 0 = .ok (.aload_n 0, 1) := by decide +kernel
theorem dX0_init_1 : decode cX0_init 1 = .ok (.invokespecial 3, 3) := by decide +kernel
theorem dX0_init_4 : decode cX0_init 4 = .ok (.aload_n 0, 1) := by decide +kernel
theorem dX0_init_5 : decode cX0_init 5 = .ok (.bipush 6, 2) := by decide +kernel
theorem dX0_init_7 : decode cX0_init 7 = .ok (.newarray .int, 2) := by decide +kernel
theorem dX0_init_9 : decode cX0_init 9 = .ok (.putfield 9, 3) := by decide +kernel
theorem dX0_init_12 : decode cX0_init 12 = .ok (.aload_n 0, 1) := by decide +kernel
theorem dX0_init_13 : decode cX0_init 13 = .ok (.iload_n 1, 1) := by decide +kernel
theorem dX0_init_14 : decode cX0_init 14 = .ok (.putfield 15, 3) := by decide +kernel
theorem dX0_init_17 : decode cX0_init 17 = .ok (.return_, 1) := by decide +kernel
theorem dX0_copyFrom_0 : decode cX0_copyFrom 0 = .ok (.aload_n 0, 1) := by decide +kernel
theorem dX0_copyFrom_1 : decode cX0_copyFrom 1 = .ok (.aload_n 1, 1) := by decide +kernel
theorem dX0_copyFrom_2 : decode cX0_copyFrom 2 = .ok (.getfield 19, 3) := by decide +kernel
theorem dX0_copyFrom_5 : decode cX0_copyFrom 5 = .ok (.putfield 19, 3) := by decide +kernel
theorem dX0_copyFrom_8 : decode cX0_copyFrom 8 = .ok (.aload_n 0, 1) := by decide +kernel
theorem dX0_copyFrom_9 : decode cX0_copyFrom 9 = .ok (.aload_n 1, 1) := by decide +kernel
theorem dX0_copyFrom_10 : decode cX0_copyFrom 10 = .ok (.getfield 22, 3) := by decide +kernel
theorem dX0_copyFrom_13 : decode cX0_copyFrom 13 = .ok (.putfield 22, 3) := by decide +kernel
theorem dX0_copyFrom_16 : decode cX0_copyFrom 16 = .ok (.aload_n 0, 1) := by decide +kernel
theorem dX0_copyFrom_17 : decode cX0_copyFrom 17 = .ok (.aload_n 1, 1) := by decide +kernel
theorem dX0_copyFrom_18 : decode cX0_copyFrom 18 = .ok (.getfield 25, 3) := by decide +kernel
theorem dX0_copyFrom_21 : decode cX0_copyFrom 21 = .ok (.putfield 25, 3) := by decide +kernel
theorem dX0_copyFrom_24 : decode cX0_copyFrom 24 = .ok (.aload_n 0, 1) := by decide +kernel
theorem dX0_copyFrom_25 : decode cX0_copyFrom 25 = .ok (.aload_n 1, 1) := by decide +kernel
theorem dX0_copyFrom_26 : decode cX0_copyFrom 26 = .ok (.getfield 28, 3) := by decide +kernel
theorem dX0_copyFrom_29 : decode cX0_copyFrom 29 = .ok (.putfield 28, 3) := by decide +kernel
theorem dX0_copyFrom_32 : decode cX0_copyFrom 32 = .ok (.aload_n 0, 1) := by decide +kernel
theorem dX0_copyFrom_33 : decode cX0_copyFrom 33 = .ok (.aload_n 1, 1) := by decide +kernel
theorem dX0_copyFrom_34 : decode cX0_copyFrom 34 = .ok (.getfield 31, 3) := by decide +kernel
theorem dX0_copyFrom_37 : decode cX0_copyFrom 37 = .ok (.putfield 31, 3) := by decide +kernel
theorem dX0_copyFrom_40 : decode cX0_copyFrom 40 = .ok (.aload_n 1, 1) := by decide +kernel
theorem dX0_copyFrom_41 : decode cX0_copyFrom 41 = .ok (.getfield 9, 3) := by decide +kernel
theorem dX0_copyFrom_44 : decode cX0_copyFrom 44 = .ok (.aload_n 0, 1) := by decide +kernel
theorem dX0_copyFrom_45 : decode cX0_copyFrom 45 = .ok (.getfield 9, 3) := by decide +kernel
theorem dX0_copyFrom_48 : decode cX0_copyFrom 48 = .ok (.invokestatic 34, 3) := by decide +kernel
theorem dX0_copyFrom_51 : decode cX0_copyFrom 51 = .ok (.aload_n 0, 1) := by decide +kernel
theorem dX0_copyFrom_52 : decode cX0_copyFrom 52 = .ok (.aload_n 1, 1) := by decide +kernel
theorem dX0_copyFrom_53 : decode cX0_copyFrom 53 = .ok (.getfield 38, 3) := by decide +kernel
theorem dX0_copyFrom_56 : decode cX0_copyFrom 56 = .ok (.putfield 38, 3) := by decide +kernel
theorem dX0_copyFrom_59 : decode cX0_copyFrom 59 = .ok (.return_, 1) := by decide +kernel
theorem dX0_priceFor_0 : decode cX0_priceFor 0 = .ok (.aload_n 0, 1) := by decide +kernel
theorem dX0_priceFor_1 : decode cX0_priceFor 1 = .ok (.getfield 31, 3) := by decide +kernel
theorem dX0_priceFor_4 : decode cX0_priceFor 4 = .ok (.iconst 1, 1) := by decide +kernel
theorem dX0_priceFor_5 : decode cX0_priceFor 5 = .ok (.if_icmp .ne 27, 3) := by decide +kernel
theorem dX0_priceFor_8 : decode cX0_priceFor 8 = .ok (.aload_n 0, 1) := by decide +kernel
theorem dX0_priceFor_9 : decode cX0_priceFor 9 = .ok (.getfield 22, 3) := by decide +kernel
theorem dX0_priceFor_12 : decode cX0_priceFor 12 = .ok (.ifCond .le 20, 3) := by decide +kernel
theorem dX0_priceFor_15 : decode cX0_priceFor 15 = .ok (.aload_n 0, 1) := by decide +kernel
theorem dX0_priceFor_16 : decode cX0_priceFor 16 = .ok (.getfield 28, 3) := by decide +kernel
theorem dX0_priceFor_19 : decode cX0_priceFor 19 = .ok (.aload_n 0, 1) := by decide +kernel
theorem dX0_priceFor_20 : decode cX0_priceFor 20 = .ok (.getfield 28, 3) := by decide +kernel
theorem dX0_priceFor_23 : decode cX0_priceFor 23 = .ok (.iload_n 1, 1) := by decide +kernel
theorem dX0_priceFor_24 : decode cX0_priceFor 24 = .ok (.imul, 1) := by decide +kernel
theorem dX0_priceFor_25 : decode cX0_priceFor 25 = .ok (.aload_n 0, 1) := by decide +kernel
theorem dX0_priceFor_26 : decode cX0_priceFor 26 = .ok (.getfield 22, 3) := by decide +kernel
theorem dX0_priceFor_29 : decode cX0_priceFor 29 = .ok (.idiv, 1) := by decide +kernel
theorem dX0_priceFor_30 : decode cX0_priceFor 30 = .ok (.iadd, 1) := by decide +kernel
theorem dX0_priceFor_31 : decode cX0_priceFor 31 = .ok (.ireturn, 1) := by decide +kernel
theorem dX0_priceFor_32 : decode cX0_priceFor 32 = .ok (.aload_n 0, 1) := by decide +kernel
theorem dX0_priceFor_33 : decode cX0_priceFor 33 = .ok (.getfield 31, 3) := by decide +kernel
theorem dX0_priceFor_36 : decode cX0_priceFor 36 = .ok (.iconst 2, 1) := by decide +kernel
theorem dX0_priceFor_37 : decode cX0_priceFor 37 = .ok (.if_icmp .ne 33, 3) := by decide +kernel
theorem dX0_priceFor_40 : decode cX0_priceFor 40 = .ok (.iload_n 2, 1) := by decide +kernel
theorem dX0_priceFor_41 : decode cX0_priceFor 41 = .ok (.bipush 30, 2) := by decide +kernel
theorem dX0_priceFor_43 : decode cX0_priceFor 43 = .ok (.if_icmp .ge 10, 3) := by decide +kernel
theorem dX0_priceFor_46 : decode cX0_priceFor 46 = .ok (.bipush 30, 2) := by decide +kernel
theorem dX0_priceFor_48 : decode cX0_priceFor 48 = .ok (.iload_n 2, 1) := by decide +kernel
theorem dX0_priceFor_49 : decode cX0_priceFor 49 = .ok (.isub, 1) := by decide +kernel
theorem dX0_priceFor_50 : decode cX0_priceFor 50 = .ok (.goto 4, 3) := by decide +kernel
theorem dX0_priceFor_53 : decode cX0_priceFor 53 = .ok (.iconst 0, 1) := by decide +kernel
theorem dX0_priceFor_54 : decode cX0_priceFor 54 = .ok (.istore_n 3, 1) := by decide +kernel
theorem dX0_priceFor_55 : decode cX0_priceFor 55 = .ok (.aload_n 0, 1) := by decide +kernel
theorem dX0_priceFor_56 : decode cX0_priceFor 56 = .ok (.getfield 28, 3) := by decide +kernel
theorem dX0_priceFor_59 : decode cX0_priceFor 59 = .ok (.bipush 100, 2) := by decide +kernel
theorem dX0_priceFor_61 : decode cX0_priceFor 61 = .ok (.iconst 2, 1) := by decide +kernel
theorem dX0_priceFor_62 : decode cX0_priceFor 62 = .ok (.iload_n 3, 1) := by decide +kernel
theorem dX0_priceFor_63 : decode cX0_priceFor 63 = .ok (.imul, 1) := by decide +kernel
theorem dX0_priceFor_64 : decode cX0_priceFor 64 = .ok (.iadd, 1) := by decide +kernel
theorem dX0_priceFor_65 : decode cX0_priceFor 65 = .ok (.imul, 1) := by decide +kernel
theorem dX0_priceFor_66 : decode cX0_priceFor 66 = .ok (.bipush 100, 2) := by decide +kernel
theorem dX0_priceFor_68 : decode cX0_priceFor 68 = .ok (.idiv, 1) := by decide +kernel
theorem dX0_priceFor_69 : decode cX0_priceFor 69 = .ok (.ireturn, 1) := by decide +kernel
theorem dX0_priceFor_70 : decode cX0_priceFor 70 = .ok (.aload_n 0, 1) := by decide +kernel
theorem dX0_priceFor_71 : decode cX0_priceFor 71 = .ok (.getfield 28, 3) := by decide +kernel
theorem dX0_priceFor_74 : decode cX0_priceFor 74 = .ok (.ireturn, 1) := by decide +kernel
theorem dX0_waitingAt_0 : decode cX0_waitingAt 0 = .ok (.iload_n 1, 1) := by decide +kernel
theorem dX0_waitingAt_1 : decode cX0_waitingAt 1 = .ok (.ifCond .lt 29, 3) := by decide +kernel
theorem dX0_waitingAt_4 : decode cX0_waitingAt 4 = .ok (.iload_n 1, 1) := by decide +kernel
theorem dX0_waitingAt_5 : decode cX0_waitingAt 5 = .ok (.aload_n 0, 1) := by decide +kernel
theorem dX0_waitingAt_6 : decode cX0_waitingAt 6 = .ok (.getfield 38, 3) := by decide +kernel
theorem dX0_waitingAt_9 : decode cX0_waitingAt 9 = .ok (.if_icmp .ge 21, 3) := by decide +kernel
theorem dX0_waitingAt_12 : decode cX0_waitingAt 12 = .ok (.iload_n 1, 1) := by decide +kernel
theorem dX0_waitingAt_13 : decode cX0_waitingAt 13 = .ok (.aload_n 0, 1) := by decide +kernel
theorem dX0_waitingAt_14 : decode cX0_waitingAt 14 = .ok (.getfield 9, 3) := by decide +kernel
theorem dX0_waitingAt_17 : decode cX0_waitingAt 17 = .ok (.arraylength, 1) := by decide +kernel
theorem dX0_waitingAt_18 : decode cX0_waitingAt 18 = .ok (.if_icmp .ge 12, 3) := by decide +kernel
theorem dX0_waitingAt_21 : decode cX0_waitingAt 21 = .ok (.aload_n 0, 1) := by decide +kernel
theorem dX0_waitingAt_22 : decode cX0_waitingAt 22 = .ok (.getfield 9, 3) := by decide +kernel
theorem dX0_waitingAt_25 : decode cX0_waitingAt 25 = .ok (.iload_n 1, 1) := by decide +kernel
theorem dX0_waitingAt_26 : decode cX0_waitingAt 26 = .ok (.iaload, 1) := by decide +kernel
theorem dX0_waitingAt_27 : decode cX0_waitingAt 27 = .ok (.goto 5, 3) := by decide +kernel
theorem dX0_waitingAt_30 : decode cX0_waitingAt 30 = .ok (.bipush (-5), 2) := by decide +kernel
theorem dX0_waitingAt_32 : decode cX0_waitingAt 32 = .ok (.ireturn, 1) := by decide +kernel
theorem dX0_placeOf_0 : decode cX0_placeOf 0 = .ok (.iconst 0, 1) := by decide +kernel
theorem dX0_placeOf_1 : decode cX0_placeOf 1 = .ok (.istore_n 2, 1) := by decide +kernel
theorem dX0_placeOf_2 : decode cX0_placeOf 2 = .ok (.iload_n 2, 1) := by decide +kernel
theorem dX0_placeOf_3 : decode cX0_placeOf 3 = .ok (.aload_n 0, 1) := by decide +kernel
theorem dX0_placeOf_4 : decode cX0_placeOf 4 = .ok (.getfield 38, 3) := by decide +kernel
theorem dX0_placeOf_7 : decode cX0_placeOf 7 = .ok (.if_icmp .ge 30, 3) := by decide +kernel
theorem dX0_placeOf_10 : decode cX0_placeOf 10 = .ok (.iload_n 2, 1) := by decide +kernel
theorem dX0_placeOf_11 : decode cX0_placeOf 11 = .ok (.aload_n 0, 1) := by decide +kernel
theorem dX0_placeOf_12 : decode cX0_placeOf 12 = .ok (.getfield 9, 3) := by decide +kernel
theorem dX0_placeOf_15 : decode cX0_placeOf 15 = .ok (.arraylength, 1) := by decide +kernel
theorem dX0_placeOf_16 : decode cX0_placeOf 16 = .ok (.if_icmp .ge 21, 3) := by decide +kernel
theorem dX0_placeOf_19 : decode cX0_placeOf 19 = .ok (.aload_n 0, 1) := by decide +kernel
theorem dX0_placeOf_20 : decode cX0_placeOf 20 = .ok (.getfield 9, 3) := by decide +kernel
theorem dX0_placeOf_23 : decode cX0_placeOf 23 = .ok (.iload_n 2, 1) := by decide +kernel
theorem dX0_placeOf_24 : decode cX0_placeOf 24 = .ok (.iaload, 1) := by decide +kernel
theorem dX0_placeOf_25 : decode cX0_placeOf 25 = .ok (.iload_n 1, 1) := by decide +kernel
theorem dX0_placeOf_26 : decode cX0_placeOf 26 = .ok (.if_icmp .ne 5, 3) := by decide +kernel
theorem dX0_placeOf_29 : decode cX0_placeOf 29 = .ok (.iload_n 2, 1) := by decide +kernel
theorem dX0_placeOf_30 : decode cX0_placeOf 30 = .ok (.ireturn, 1) := by decide +kernel
theorem dX0_placeOf_31 : decode cX0_placeOf 31 = .ok (.iinc 2 1, 3) := by decide +kernel
theorem dX0_placeOf_34 : decode cX0_placeOf 34 = .ok (.goto (-32), 3) := by decide +kernel
theorem dX0_placeOf_37 : decode cX0_placeOf 37 = .ok (.bipush (-5), 2) := by decide +kernel
theorem dX0_placeOf_39 : decode cX0_placeOf 39 = .ok (.ireturn, 1) := by decide +kernel
theorem dX0_appendToList_0 : decode cX0_appendToList 0 = .ok (.aload_n 0, 1) := by decide +kernel
theorem dX0_appendToList_1 : decode cX0_appendToList 1 = .ok (.getfield 38, 3) := by decide +kernel
theorem dX0_appendToList_4 : decode cX0_appendToList 4 = .ok (.aload_n 0, 1) := by decide +kernel
theorem dX0_appendToList_5 : decode cX0_appendToList 5 = .ok (.getfield 9, 3) := by decide +kernel
theorem dX0_appendToList_8 : decode cX0_appendToList 8 = .ok (.arraylength, 1) := by decide +kernel
theorem dX0_appendToList_9 : decode cX0_appendToList 9 = .ok (.if_icmp .lt 6, 3) := by decide +kernel
theorem dX0_appendToList_12 : decode cX0_appendToList 12 = .ok (.bipush (-3), 2) := by decide +kernel
theorem dX0_appendToList_14 : decode cX0_appendToList 14 = .ok (.ireturn, 1) := by decide +kernel
theorem dX0_appendToList_15 : decode cX0_appendToList 15 = .ok (.aload_n 0, 1) := by decide +kernel
theorem dX0_appendToList_16 : decode cX0_appendToList 16 = .ok (.getfield 9, 3) := by decide +kernel
theorem dX0_appendToList_19 : decode cX0_appendToList 19 = .ok (.aload_n 0, 1) := by decide +kernel
theorem dX0_appendToList_20 : decode cX0_appendToList 20 = .ok (.getfield 38, 3) := by decide +kernel
theorem dX0_appendToList_23 : decode cX0_appendToList 23 = .ok (.iload_n 1, 1) := by decide +kernel
theorem dX0_appendToList_24 : decode cX0_appendToList 24 = .ok (.iastore, 1) := by decide +kernel
theorem dX0_appendToList_25 : decode cX0_appendToList 25 = .ok (.aload_n 0, 1) := by decide +kernel
theorem dX0_appendToList_26 : decode cX0_appendToList 26 = .ok (.dup, 1) := by decide +kernel
theorem dX0_appendToList_27 : decode cX0_appendToList 27 = .ok (.getfield 38, 3) := by decide +kernel
theorem dX0_appendToList_30 : decode cX0_appendToList 30 = .ok (.iconst 1, 1) := by decide +kernel
theorem dX0_appendToList_31 : decode cX0_appendToList 31 = .ok (.iadd, 1) := by decide +kernel
theorem dX0_appendToList_32 : decode cX0_appendToList 32 = .ok (.putfield 38, 3) := by decide +kernel
theorem dX0_appendToList_35 : decode cX0_appendToList 35 = .ok (.aload_n 0, 1) := by decide +kernel
theorem dX0_appendToList_36 : decode cX0_appendToList 36 = .ok (.getfield 38, 3) := by decide +kernel
theorem dX0_appendToList_39 : decode cX0_appendToList 39 = .ok (.ireturn, 1) := by decide +kernel
theorem dX0_removeFromList_0 : decode cX0_removeFromList 0 = .ok (.iload_n 1, 1) := by decide +kernel
theorem dX0_removeFromList_1 : decode cX0_removeFromList 1 = .ok (.ifCond .lt 11, 3) := by decide +kernel
theorem dX0_removeFromList_4 : decode cX0_removeFromList 4 = .ok (.iload_n 1, 1) := by decide +kernel
theorem dX0_removeFromList_5 : decode cX0_removeFromList 5 = .ok (.aload_n 0, 1) := by decide +kernel
theorem dX0_removeFromList_6 : decode cX0_removeFromList 6 = .ok (.getfield 38, 3) := by decide +kernel
theorem dX0_removeFromList_9 : decode cX0_removeFromList 9 = .ok (.if_icmp .lt 4, 3) := by decide +kernel
theorem dX0_removeFromList_12 : decode cX0_removeFromList 12 = .ok (.return_, 1) := by decide +kernel
theorem dX0_removeFromList_13 : decode cX0_removeFromList 13 = .ok (.aload_n 0, 1) := by decide +kernel
theorem dX0_removeFromList_14 : decode cX0_removeFromList 14 = .ok (.dup, 1) := by decide +kernel
theorem dX0_removeFromList_15 : decode cX0_removeFromList 15 = .ok (.getfield 38, 3) := by decide +kernel
theorem dX0_removeFromList_18 : decode cX0_removeFromList 18 = .ok (.iconst 1, 1) := by decide +kernel
theorem dX0_removeFromList_19 : decode cX0_removeFromList 19 = .ok (.isub, 1) := by decide +kernel
theorem dX0_removeFromList_20 : decode cX0_removeFromList 20 = .ok (.putfield 38, 3) := by decide +kernel
theorem dX0_removeFromList_23 : decode cX0_removeFromList 23 = .ok (.iload_n 1, 1) := by decide +kernel
theorem dX0_removeFromList_24 : decode cX0_removeFromList 24 = .ok (.istore_n 2, 1) := by decide +kernel
theorem dX0_removeFromList_25 : decode cX0_removeFromList 25 = .ok (.iload_n 2, 1) := by decide +kernel
theorem dX0_removeFromList_26 : decode cX0_removeFromList 26 = .ok (.aload_n 0, 1) := by decide +kernel
theorem dX0_removeFromList_27 : decode cX0_removeFromList 27 = .ok (.getfield 38, 3) := by decide +kernel
theorem dX0_removeFromList_30 : decode cX0_removeFromList 30 = .ok (.if_icmp .ge 34, 3) := by decide +kernel
theorem dX0_removeFromList_33 : decode cX0_removeFromList 33 = .ok (.iload_n 2, 1) := by decide +kernel
theorem dX0_removeFromList_34 : decode cX0_removeFromList 34 = .ok (.iconst 1, 1) := by decide +kernel
theorem dX0_removeFromList_35 : decode cX0_removeFromList 35 = .ok (.iadd, 1) := by decide +kernel
theorem dX0_removeFromList_36 : decode cX0_removeFromList 36 = .ok (.aload_n 0, 1) := by decide +kernel
theorem dX0_removeFromList_37 : decode cX0_removeFromList 37 = .ok (.getfield 9, 3) := by decide +kernel
theorem dX0_removeFromList_40 : decode cX0_removeFromList 40 = .ok (.arraylength, 1) := by decide +kernel
theorem dX0_removeFromList_41 : decode cX0_removeFromList 41 = .ok (.if_icmp .ge 23, 3) := by decide +kernel
theorem dX0_removeFromList_44 : decode cX0_removeFromList 44 = .ok (.aload_n 0, 1) := by decide +kernel
theorem dX0_removeFromList_45 : decode cX0_removeFromList 45 = .ok (.getfield 9, 3) := by decide +kernel
theorem dX0_removeFromList_48 : decode cX0_removeFromList 48 = .ok (.iload_n 2, 1) := by decide +kernel
theorem dX0_removeFromList_49 : decode cX0_removeFromList 49 = .ok (.aload_n 0, 1) := by decide +kernel
theorem dX0_removeFromList_50 : decode cX0_removeFromList 50 = .ok (.getfield 9, 3) := by decide +kernel
theorem dX0_removeFromList_53 : decode cX0_removeFromList 53 = .ok (.iload_n 2, 1) := by decide +kernel
theorem dX0_removeFromList_54 : decode cX0_removeFromList 54 = .ok (.iconst 1, 1) := by decide +kernel
theorem dX0_removeFromList_55 : decode cX0_removeFromList 55 = .ok (.iadd, 1) := by decide +kernel
theorem dX0_removeFromList_56 : decode cX0_removeFromList 56 = .ok (.iaload, 1) := by decide +kernel
theorem dX0_removeFromList_57 : decode cX0_removeFromList 57 = .ok (.iastore, 1) := by decide +kernel
theorem dX0_removeFromList_58 : decode cX0_removeFromList 58 = .ok (.iinc 2 1, 3) := by decide +kernel
theorem dX0_removeFromList_61 : decode cX0_removeFromList 61 = .ok (.goto (-36), 3) := by decide +kernel
theorem dX0_removeFromList_64 : decode cX0_removeFromList 64 = .ok (.return_, 1) := by decide +kernel
theorem dX1_init_0 : decode cX1_init 0 = .ok (.aload_n 0, 1) := by decide +kernel
theorem dX1_init_1 : decode cX1_init 1 = .ok (.invokespecial 1, 3) := by decide +kernel
theorem dX1_init_4 : decode cX1_init 4 = .ok (.return_, 1) := by decide +kernel
theorem dX1_copyFrom_0 : decode cX1_copyFrom 0 = .ok (.aload_n 0, 1) := by decide +kernel
theorem dX1_copyFrom_1 : decode cX1_copyFrom 1 = .ok (.aload_n 1, 1) := by decide +kernel
theorem dX1_copyFrom_2 : decode cX1_copyFrom 2 = .ok (.getfield 7, 3) := by decide +kernel
theorem dX1_copyFrom_5 : decode cX1_copyFrom 5 = .ok (.putfield 7, 3) := by decide +kernel
theorem dX1_copyFrom_8 : decode cX1_copyFrom 8 = .ok (.aload_n 0, 1) := by decide +kernel
theorem dX1_copyFrom_9 : decode cX1_copyFrom 9 = .ok (.aload_n 1, 1) := by decide +kernel
theorem dX1_copyFrom_10 : decode cX1_copyFrom 10 = .ok (.getfield 13, 3) := by decide +kernel
theorem dX1_copyFrom_13 : decode cX1_copyFrom 13 = .ok (.putfield 13, 3) := by decide +kernel
theorem dX1_copyFrom_16 : decode cX1_copyFrom 16 = .ok (.aload_n 0, 1) := by decide +kernel
theorem dX1_copyFrom_17 : decode cX1_copyFrom 17 = .ok (.aload_n 1, 1) := by decide +kernel
theorem dX1_copyFrom_18 : decode cX1_copyFrom 18 = .ok (.getfield 16, 3) := by decide +kernel
theorem dX1_copyFrom_21 : decode cX1_copyFrom 21 = .ok (.putfield 16, 3) := by decide +kernel
theorem dX1_copyFrom_24 : decode cX1_copyFrom 24 = .ok (.aload_n 0, 1) := by decide +kernel
theorem dX1_copyFrom_25 : decode cX1_copyFrom 25 = .ok (.aload_n 1, 1) := by decide +kernel
theorem dX1_copyFrom_26 : decode cX1_copyFrom 26 = .ok (.getfield 19, 3) := by decide +kernel
theorem dX1_copyFrom_29 : decode cX1_copyFrom 29 = .ok (.putfield 19, 3) := by decide +kernel
theorem dX1_copyFrom_32 : decode cX1_copyFrom 32 = .ok (.return_, 1) := by decide +kernel
theorem dX1_tell_0 : decode cX1_tell 0 = .ok (.iload_n 1, 1) := by decide +kernel
theorem dX1_tell_1 : decode cX1_tell 1 = .ok (.tableswitch 42 0 2 #[27, 32, 37], 27) := by decide +kernel
theorem dX1_tell_28 : decode cX1_tell 28 = .ok (.aload_n 0, 1) := by decide +kernel
theorem dX1_tell_29 : decode cX1_tell 29 = .ok (.getfield 7, 3) := by decide +kernel
theorem dX1_tell_32 : decode cX1_tell 32 = .ok (.ireturn, 1) := by decide +kernel
theorem dX1_tell_33 : decode cX1_tell 33 = .ok (.aload_n 0, 1) := by decide +kernel
theorem dX1_tell_34 : decode cX1_tell 34 = .ok (.getfield 13, 3) := by decide +kernel
theorem dX1_tell_37 : decode cX1_tell 37 = .ok (.ireturn, 1) := by decide +kernel
theorem dX1_tell_38 : decode cX1_tell 38 = .ok (.aload_n 0, 1) := by decide +kernel
theorem dX1_tell_39 : decode cX1_tell 39 = .ok (.getfield 16, 3) := by decide +kernel
theorem dX1_tell_42 : decode cX1_tell 42 = .ok (.ireturn, 1) := by decide +kernel
theorem dX1_tell_43 : decode cX1_tell 43 = .ok (.aload_n 0, 1) := by decide +kernel
theorem dX1_tell_44 : decode cX1_tell 44 = .ok (.getfield 19, 3) := by decide +kernel
theorem dX1_tell_47 : decode cX1_tell 47 = .ok (.ireturn, 1) := by decide +kernel
theorem dX2_init_0 : decode cX2_init 0 = .ok (.aload_n 0, 1) := by decide +kernel
theorem dX2_init_1 : decode cX2_init 1 = .ok (.invokespecial 3, 3) := by decide +kernel
theorem dX2_init_4 : decode cX2_init 4 = .ok (.aload_n 0, 1) := by decide +kernel
theorem dX2_init_5 : decode cX2_init 5 = .ok (.iconst 4, 1) := by decide +kernel
theorem dX2_init_6 : decode cX2_init 6 = .ok (.anewarray 9, 3) := by decide +kernel
theorem dX2_init_9 : decode cX2_init 9 = .ok (.putfield 11, 3) := by decide +kernel
theorem dX2_init_12 : decode cX2_init 12 = .ok (.aload_n 0, 1) := by decide +kernel
theorem dX2_init_13 : decode cX2_init 13 = .ok (.new 9, 3) := by decide +kernel
theorem dX2_init_16 : decode cX2_init 16 = .ok (.dup, 1) := by decide +kernel
theorem dX2_init_17 : decode cX2_init 17 = .ok (.invokespecial 17, 3) := by decide +kernel
theorem dX2_init_20 : decode cX2_init 20 = .ok (.putfield 18, 3) := by decide +kernel
theorem dX2_init_23 : decode cX2_init 23 = .ok (.iconst 0, 1) := by decide +kernel
theorem dX2_init_24 : decode cX2_init 24 = .ok (.istore_n 1, 1) := by decide +kernel
theorem dX2_init_25 : decode cX2_init 25 = .ok (.iload_n 1, 1) := by decide +kernel
theorem dX2_init_26 : decode cX2_init 26 = .ok (.aload_n 0, 1) := by decide +kernel
theorem dX2_init_27 : decode cX2_init 27 = .ok (.getfield 11, 3) := by decide +kernel
theorem dX2_init_30 : decode cX2_init 30 = .ok (.arraylength, 1) := by decide +kernel
theorem dX2_init_31 : decode cX2_init 31 = .ok (.if_icmp .ge 22, 3) := by decide +kernel
theorem dX2_init_34 : decode cX2_init 34 = .ok (.aload_n 0, 1) := by decide +kernel
theorem dX2_init_35 : decode cX2_init 35 = .ok (.getfield 11, 3) := by decide +kernel
theorem dX2_init_38 : decode cX2_init 38 = .ok (.iload_n 1, 1) := by decide +kernel
theorem dX2_init_39 : decode cX2_init 39 = .ok (.new 9, 3) := by decide +kernel
theorem dX2_init_42 : decode cX2_init 42 = .ok (.dup, 1) := by decide +kernel
theorem dX2_init_43 : decode cX2_init 43 = .ok (.invokespecial 17, 3) := by decide +kernel
theorem dX2_init_46 : decode cX2_init 46 = .ok (.aastore, 1) := by decide +kernel
theorem dX2_init_47 : decode cX2_init 47 = .ok (.iinc 1 1, 3) := by decide +kernel
theorem dX2_init_50 : decode cX2_init 50 = .ok (.goto (-25), 3) := by decide +kernel
theorem dX2_init_53 : decode cX2_init 53 = .ok (.return_, 1) := by decide +kernel
theorem dX2_prepare_0 : decode cX2_prepare 0 = .ok (.aload_n 0, 1) := by decide +kernel
theorem dX2_prepare_1 : decode cX2_prepare 1 = .ok (.getfield 18, 3) := by decide +kernel
theorem dX2_prepare_4 : decode cX2_prepare 4 = .ok (.aload_n 1, 1) := by decide +kernel
theorem dX2_prepare_5 : decode cX2_prepare 5 = .ok (.invokevirtual 22, 3) := by decide +kernel
theorem dX2_prepare_8 : decode cX2_prepare 8 = .ok (.return_, 1) := by decide +kernel
theorem dX2_settle_0 : decode cX2_settle 0 = .ok (.iload_n 1, 1) := by decide +kernel
theorem dX2_settle_1 : decode cX2_settle 1 = .ok (.ifCond .ge 5, 3) := by decide +kernel
theorem dX2_settle_4 : decode cX2_settle 4 = .ok (.iload_n 1, 1) := by decide +kernel
theorem dX2_settle_5 : decode cX2_settle 5 = .ok (.ireturn, 1) := by decide +kernel
theorem dX2_settle_6 : decode cX2_settle 6 = .ok (.aload_n 0, 1) := by decide +kernel
theorem dX2_settle_7 : decode cX2_settle 7 = .ok (.getfield 11, 3) := by decide +kernel
theorem dX2_settle_10 : decode cX2_settle 10 = .ok (.iconst 3, 1) := by decide +kernel
theorem dX2_settle_11 : decode cX2_settle 11 = .ok (.aaload, 1) := by decide +kernel
theorem dX2_settle_12 : decode cX2_settle 12 = .ok (.astore_n 2, 1) := by decide +kernel
theorem dX2_settle_13 : decode cX2_settle 13 = .ok (.iconst 3, 1) := by decide +kernel
theorem dX2_settle_14 : decode cX2_settle 14 = .ok (.istore_n 3, 1) := by decide +kernel
theorem dX2_settle_15 : decode cX2_settle 15 = .ok (.iload_n 3, 1) := by decide +kernel
theorem dX2_settle_16 : decode cX2_settle 16 = .ok (.ifCond .le 23, 3) := by decide +kernel
theorem dX2_settle_19 : decode cX2_settle 19 = .ok (.aload_n 0, 1) := by decide +kernel
theorem dX2_settle_20 : decode cX2_settle 20 = .ok (.getfield 11, 3) := by decide +kernel
theorem dX2_settle_23 : decode cX2_settle 23 = .ok (.iload_n 3, 1) := by decide +kernel
theorem dX2_settle_24 : decode cX2_settle 24 = .ok (.aload_n 0, 1) := by decide +kernel
theorem dX2_settle_25 : decode cX2_settle 25 = .ok (.getfield 11, 3) := by decide +kernel
theorem dX2_settle_28 : decode cX2_settle 28 = .ok (.iload_n 3, 1) := by decide +kernel
theorem dX2_settle_29 : decode cX2_settle 29 = .ok (.iconst 1, 1) := by decide +kernel
theorem dX2_settle_30 : decode cX2_settle 30 = .ok (.isub, 1) := by decide +kernel
theorem dX2_settle_31 : decode cX2_settle 31 = .ok (.aaload, 1) := by decide +kernel
theorem dX2_settle_32 : decode cX2_settle 32 = .ok (.aastore, 1) := by decide +kernel
theorem dX2_settle_33 : decode cX2_settle 33 = .ok (.iinc 3 (-1), 3) := by decide +kernel
theorem dX2_settle_36 : decode cX2_settle 36 = .ok (.goto (-21), 3) := by decide +kernel
theorem dX2_settle_39 : decode cX2_settle 39 = .ok (.aload_n 0, 1) := by decide +kernel
theorem dX2_settle_40 : decode cX2_settle 40 = .ok (.getfield 11, 3) := by decide +kernel
theorem dX2_settle_43 : decode cX2_settle 43 = .ok (.iconst 0, 1) := by decide +kernel
theorem dX2_settle_44 : decode cX2_settle 44 = .ok (.aload_n 0, 1) := by decide +kernel
theorem dX2_settle_45 : decode cX2_settle 45 = .ok (.getfield 18, 3) := by decide +kernel
theorem dX2_settle_48 : decode cX2_settle 48 = .ok (.aastore, 1) := by decide +kernel
theorem dX2_settle_49 : decode cX2_settle 49 = .ok (.aload_n 0, 1) := by decide +kernel
theorem dX2_settle_50 : decode cX2_settle 50 = .ok (.aload_n 2, 1) := by decide +kernel
theorem dX2_settle_51 : decode cX2_settle 51 = .ok (.putfield 18, 3) := by decide +kernel
theorem dX2_settle_54 : decode cX2_settle 54 = .ok (.aload_n 0, 1) := by decide +kernel
theorem dX2_settle_55 : decode cX2_settle 55 = .ok (.aload_n 0, 1) := by decide +kernel
theorem dX2_settle_56 : decode cX2_settle 56 = .ok (.getfield 26, 3) := by decide +kernel
theorem dX2_settle_59 : decode cX2_settle 59 = .ok (.iconst 1, 1) := by decide +kernel
theorem dX2_settle_60 : decode cX2_settle 60 = .ok (.iadd, 1) := by decide +kernel
theorem dX2_settle_61 : decode cX2_settle 61 = .ok (.iconst 4, 1) := by decide +kernel
theorem dX2_settle_62 : decode cX2_settle 62 = .ok (.invokestatic 30, 3) := by decide +kernel
theorem dX2_settle_65 : decode cX2_settle 65 = .ok (.putfield 26, 3) := by decide +kernel
theorem dX2_settle_68 : decode cX2_settle 68 = .ok (.iload_n 1, 1) := by decide +kernel
theorem dX2_settle_69 : decode cX2_settle 69 = .ok (.ireturn, 1) := by decide +kernel
theorem dX2_takeLatest_0 : decode cX2_takeLatest 0 = .ok (.aload_n 0, 1) := by decide +kernel
theorem dX2_takeLatest_1 : decode cX2_takeLatest 1 = .ok (.getfield 26, 3) := by decide +kernel
theorem dX2_takeLatest_4 : decode cX2_takeLatest 4 = .ok (.ifCond .ne 5, 3) := by decide +kernel
theorem dX2_takeLatest_7 : decode cX2_takeLatest 7 = .ok (.aconst_null, 1) := by decide +kernel
theorem dX2_takeLatest_8 : decode cX2_takeLatest 8 = .ok (.areturn, 1) := by decide +kernel
theorem dX2_takeLatest_9 : decode cX2_takeLatest 9 = .ok (.aload_n 0, 1) := by decide +kernel
theorem dX2_takeLatest_10 : decode cX2_takeLatest 10 = .ok (.getfield 11, 3) := by decide +kernel
theorem dX2_takeLatest_13 : decode cX2_takeLatest 13 = .ok (.iconst 0, 1) := by decide +kernel
theorem dX2_takeLatest_14 : decode cX2_takeLatest 14 = .ok (.aaload, 1) := by decide +kernel
theorem dX2_takeLatest_15 : decode cX2_takeLatest 15 = .ok (.astore_n 1, 1) := by decide +kernel
theorem dX2_takeLatest_16 : decode cX2_takeLatest 16 = .ok (.iconst 0, 1) := by decide +kernel
theorem dX2_takeLatest_17 : decode cX2_takeLatest 17 = .ok (.istore_n 2, 1) := by decide +kernel
theorem dX2_takeLatest_18 : decode cX2_takeLatest 18 = .ok (.iload_n 2, 1) := by decide +kernel
theorem dX2_takeLatest_19 : decode cX2_takeLatest 19 = .ok (.iconst 1, 1) := by decide +kernel
theorem dX2_takeLatest_20 : decode cX2_takeLatest 20 = .ok (.iadd, 1) := by decide +kernel
theorem dX2_takeLatest_21 : decode cX2_takeLatest 21 = .ok (.iconst 4, 1) := by decide +kernel
theorem dX2_takeLatest_22 : decode cX2_takeLatest 22 = .ok (.if_icmp .ge 23, 3) := by decide +kernel
theorem dX2_takeLatest_25 : decode cX2_takeLatest 25 = .ok (.aload_n 0, 1) := by decide +kernel
theorem dX2_takeLatest_26 : decode cX2_takeLatest 26 = .ok (.getfield 11, 3) := by decide +kernel
theorem dX2_takeLatest_29 : decode cX2_takeLatest 29 = .ok (.iload_n 2, 1) := by decide +kernel
theorem dX2_takeLatest_30 : decode cX2_takeLatest 30 = .ok (.aload_n 0, 1) := by decide +kernel
theorem dX2_takeLatest_31 : decode cX2_takeLatest 31 = .ok (.getfield 11, 3) := by decide +kernel
theorem dX2_takeLatest_34 : decode cX2_takeLatest 34 = .ok (.iload_n 2, 1) := by decide +kernel
theorem dX2_takeLatest_35 : decode cX2_takeLatest 35 = .ok (.iconst 1, 1) := by decide +kernel
theorem dX2_takeLatest_36 : decode cX2_takeLatest 36 = .ok (.iadd, 1) := by decide +kernel
theorem dX2_takeLatest_37 : decode cX2_takeLatest 37 = .ok (.aaload, 1) := by decide +kernel
theorem dX2_takeLatest_38 : decode cX2_takeLatest 38 = .ok (.aastore, 1) := by decide +kernel
theorem dX2_takeLatest_39 : decode cX2_takeLatest 39 = .ok (.iinc 2 1, 3) := by decide +kernel
theorem dX2_takeLatest_42 : decode cX2_takeLatest 42 = .ok (.goto (-24), 3) := by decide +kernel
theorem dX2_takeLatest_45 : decode cX2_takeLatest 45 = .ok (.aload_n 0, 1) := by decide +kernel
theorem dX2_takeLatest_46 : decode cX2_takeLatest 46 = .ok (.getfield 11, 3) := by decide +kernel
theorem dX2_takeLatest_49 : decode cX2_takeLatest 49 = .ok (.iconst 3, 1) := by decide +kernel
theorem dX2_takeLatest_50 : decode cX2_takeLatest 50 = .ok (.aload_n 1, 1) := by decide +kernel
theorem dX2_takeLatest_51 : decode cX2_takeLatest 51 = .ok (.aastore, 1) := by decide +kernel
theorem dX2_takeLatest_52 : decode cX2_takeLatest 52 = .ok (.aload_n 0, 1) := by decide +kernel
theorem dX2_takeLatest_53 : decode cX2_takeLatest 53 = .ok (.dup, 1) := by decide +kernel
theorem dX2_takeLatest_54 : decode cX2_takeLatest 54 = .ok (.getfield 26, 3) := by decide +kernel
theorem dX2_takeLatest_57 : decode cX2_takeLatest 57 = .ok (.iconst 1, 1) := by decide +kernel
theorem dX2_takeLatest_58 : decode cX2_takeLatest 58 = .ok (.isub, 1) := by decide +kernel
theorem dX2_takeLatest_59 : decode cX2_takeLatest 59 = .ok (.putfield 26, 3) := by decide +kernel
theorem dX2_takeLatest_62 : decode cX2_takeLatest 62 = .ok (.aload_n 1, 1) := by decide +kernel
theorem dX2_takeLatest_63 : decode cX2_takeLatest 63 = .ok (.areturn, 1) := by decide +kernel
theorem dX3_init_0 : decode cX3_init 0 = .ok (.aload_n 0, 1) := by decide +kernel
theorem dX3_init_1 : decode cX3_init 1 = .ok (.invokespecial 3, 3) := by decide +kernel
theorem dX3_init_4 : decode cX3_init 4 = .ok (.aload_n 0, 1) := by decide +kernel
theorem dX3_init_5 : decode cX3_init 5 = .ok (.bipush 60, 2) := by decide +kernel
theorem dX3_init_7 : decode cX3_init 7 = .ok (.newarray .char, 2) := by decide +kernel
theorem dX3_init_9 : decode cX3_init 9 = .ok (.putfield 9, 3) := by decide +kernel
theorem dX3_init_12 : decode cX3_init 12 = .ok (.return_, 1) := by decide +kernel
theorem dX3_append_0 : decode cX3_append 0 = .ok (.aload_n 0, 1) := by decide +kernel
theorem dX3_append_1 : decode cX3_append 1 = .ok (.getfield 15, 3) := by decide +kernel
theorem dX3_append_4 : decode cX3_append 4 = .ok (.aload_n 0, 1) := by decide +kernel
theorem dX3_append_5 : decode cX3_append 5 = .ok (.getfield 9, 3) := by decide +kernel
theorem dX3_append_8 : decode cX3_append 8 = .ok (.arraylength, 1) := by decide +kernel
theorem dX3_append_9 : decode cX3_append 9 = .ok (.if_icmp .lt 6, 3) := by decide +kernel
theorem dX3_append_12 : decode cX3_append 12 = .ok (.bipush (-3), 2) := by decide +kernel
theorem dX3_append_14 : decode cX3_append 14 = .ok (.ireturn, 1) := by decide +kernel
theorem dX3_append_15 : decode cX3_append 15 = .ok (.aload_n 0, 1) := by decide +kernel
theorem dX3_append_16 : decode cX3_append 16 = .ok (.getfield 9, 3) := by decide +kernel
theorem dX3_append_19 : decode cX3_append 19 = .ok (.aload_n 0, 1) := by decide +kernel
theorem dX3_append_20 : decode cX3_append 20 = .ok (.getfield 15, 3) := by decide +kernel
theorem dX3_append_23 : decode cX3_append 23 = .ok (.iload_n 1, 1) := by decide +kernel
theorem dX3_append_24 : decode cX3_append 24 = .ok (.castore, 1) := by decide +kernel
theorem dX3_append_25 : decode cX3_append 25 = .ok (.aload_n 0, 1) := by decide +kernel
theorem dX3_append_26 : decode cX3_append 26 = .ok (.dup, 1) := by decide +kernel
theorem dX3_append_27 : decode cX3_append 27 = .ok (.getfield 15, 3) := by decide +kernel
theorem dX3_append_30 : decode cX3_append 30 = .ok (.iconst 1, 1) := by decide +kernel
theorem dX3_append_31 : decode cX3_append 31 = .ok (.iadd, 1) := by decide +kernel
theorem dX3_append_32 : decode cX3_append 32 = .ok (.putfield 15, 3) := by decide +kernel
theorem dX3_append_35 : decode cX3_append 35 = .ok (.aload_n 0, 1) := by decide +kernel
theorem dX3_append_36 : decode cX3_append 36 = .ok (.getfield 15, 3) := by decide +kernel
theorem dX3_append_39 : decode cX3_append 39 = .ok (.ireturn, 1) := by decide +kernel
theorem dX3_empty_0 : decode cX3_empty 0 = .ok (.aload_n 0, 1) := by decide +kernel
theorem dX3_empty_1 : decode cX3_empty 1 = .ok (.getfield 15, 3) := by decide +kernel
theorem dX3_empty_4 : decode cX3_empty 4 = .ok (.istore_n 1, 1) := by decide +kernel
theorem dX3_empty_5 : decode cX3_empty 5 = .ok (.aload_n 0, 1) := by decide +kernel
theorem dX3_empty_6 : decode cX3_empty 6 = .ok (.iconst 0, 1) := by decide +kernel
theorem dX3_empty_7 : decode cX3_empty 7 = .ok (.putfield 15, 3) := by decide +kernel
theorem dX3_empty_10 : decode cX3_empty 10 = .ok (.iload_n 1, 1) := by decide +kernel
theorem dX3_empty_11 : decode cX3_empty 11 = .ok (.ireturn, 1) := by decide +kernel
theorem dX3_countOrders_0 : decode cX3_countOrders 0 = .ok (.aload_n 0, 1) := by decide +kernel
theorem dX3_countOrders_1 : decode cX3_countOrders 1 = .ok (.invokevirtual 19, 3) := by decide +kernel
theorem dX3_countOrders_4 : decode cX3_countOrders 4 = .ok (.iconst 0, 1) := by decide +kernel
theorem dX3_countOrders_5 : decode cX3_countOrders 5 = .ok (.istore_n 1, 1) := by decide +kernel
theorem dX3_countOrders_6 : decode cX3_countOrders 6 = .ok (.iconst 1, 1) := by decide +kernel
theorem dX3_countOrders_7 : decode cX3_countOrders 7 = .ok (.istore_n 2, 1) := by decide +kernel
theorem dX3_countOrders_8 : decode cX3_countOrders 8 = .ok (.iconst 0, 1) := by decide +kernel
theorem dX3_countOrders_9 : decode cX3_countOrders 9 = .ok (.istore_n 3, 1) := by decide +kernel
theorem dX3_countOrders_10 : decode cX3_countOrders 10 = .ok (.iload_n 3, 1) := by decide +kernel
theorem dX3_countOrders_11 : decode cX3_countOrders 11 = .ok (.bipush 60, 2) := by decide +kernel
theorem dX3_countOrders_13 : decode cX3_countOrders 13 = .ok (.if_icmp .ge 38, 3) := by decide +kernel
theorem dX3_countOrders_16 : decode cX3_countOrders 16 = .ok (.iload_n 2, 1) := by decide +kernel
theorem dX3_countOrders_17 : decode cX3_countOrders 17 = .ok (.ifCond .eq 34, 3) := by decide +kernel
theorem dX3_countOrders_20 : decode cX3_countOrders 20 = .ok (.aload_n 0, 1) := by decide +kernel
theorem dX3_countOrders_21 : decode cX3_countOrders 21 = .ok (.invokevirtual 22, 3) := by decide +kernel
theorem dX3_countOrders_24 : decode cX3_countOrders 24 = .ok (.ifCond .ne 11, 3) := by decide +kernel
theorem dX3_countOrders_27 : decode cX3_countOrders 27 = .ok (.bipush (-100), 2) := by decide +kernel
theorem dX3_countOrders_29 : decode cX3_countOrders 29 = .ok (.aload_n 0, 1) := by decide +kernel
theorem dX3_countOrders_30 : decode cX3_countOrders 30 = .ok (.getfield 26, 3) := by decide +kernel
theorem dX3_countOrders_33 : decode cX3_countOrders 33 = .ok (.isub, 1) := by decide +kernel
theorem dX3_countOrders_34 : decode cX3_countOrders 34 = .ok (.ireturn, 1) := by decide +kernel
theorem dX3_countOrders_35 : decode cX3_countOrders 35 = .ok (.iinc 1 1, 3) := by decide +kernel
theorem dX3_countOrders_38 : decode cX3_countOrders 38 = .ok (.aload_n 0, 1) := by decide +kernel
theorem dX3_countOrders_39 : decode cX3_countOrders 39 = .ok (.bipush 59, 2) := by decide +kernel
theorem dX3_countOrders_41 : decode cX3_countOrders 41 = .ok (.invokevirtual 29, 3) := by decide +kernel
theorem dX3_countOrders_44 : decode cX3_countOrders 44 = .ok (.istore_n 2, 1) := by decide +kernel
theorem dX3_countOrders_45 : decode cX3_countOrders 45 = .ok (.iinc 3 1, 3) := by decide +kernel
theorem dX3_countOrders_48 : decode cX3_countOrders 48 = .ok (.goto (-38), 3) := by decide +kernel
theorem dX3_countOrders_51 : decode cX3_countOrders 51 = .ok (.aload_n 0, 1) := by decide +kernel
theorem dX3_countOrders_52 : decode cX3_countOrders 52 = .ok (.getfield 26, 3) := by decide +kernel
theorem dX3_countOrders_55 : decode cX3_countOrders 55 = .ok (.aload_n 0, 1) := by decide +kernel
theorem dX3_countOrders_56 : decode cX3_countOrders 56 = .ok (.getfield 15, 3) := by decide +kernel
theorem dX3_countOrders_59 : decode cX3_countOrders 59 = .ok (.if_icmp .ne 7, 3) := by decide +kernel
theorem dX3_countOrders_62 : decode cX3_countOrders 62 = .ok (.iload_n 1, 1) := by decide +kernel
theorem dX3_countOrders_63 : decode cX3_countOrders 63 = .ok (.goto 10, 3) := by decide +kernel
theorem dX3_countOrders_66 : decode cX3_countOrders 66 = .ok (.bipush (-100), 2) := by decide +kernel
theorem dX3_countOrders_68 : decode cX3_countOrders 68 = .ok (.aload_n 0, 1) := by decide +kernel
theorem dX3_countOrders_69 : decode cX3_countOrders 69 = .ok (.getfield 26, 3) := by decide +kernel
theorem dX3_countOrders_72 : decode cX3_countOrders 72 = .ok (.isub, 1) := by decide +kernel
theorem dX3_countOrders_73 : decode cX3_countOrders 73 = .ok (.ireturn, 1) := by decide +kernel
theorem dX3_goToStart_0 : decode cX3_goToStart 0 = .ok (.aload_n 0, 1) := by decide +kernel
theorem dX3_goToStart_1 : decode cX3_goToStart 1 = .ok (.iconst 0, 1) := by decide +kernel
theorem dX3_goToStart_2 : decode cX3_goToStart 2 = .ok (.putfield 26, 3) := by decide +kernel
theorem dX3_goToStart_5 : decode cX3_goToStart 5 = .ok (.return_, 1) := by decide +kernel
theorem dX3_readOrder_0 : decode cX3_readOrder 0 = .ok (.aload_n 0, 1) := by decide +kernel
theorem dX3_readOrder_1 : decode cX3_readOrder 1 = .ok (.aload_n 0, 1) := by decide +kernel
theorem dX3_readOrder_2 : decode cX3_readOrder 2 = .ok (.invokevirtual 33, 3) := by decide +kernel
theorem dX3_readOrder_5 : decode cX3_readOrder 5 = .ok (.putfield 37, 3) := by decide +kernel
theorem dX3_readOrder_8 : decode cX3_readOrder 8 = .ok (.aload_n 0, 1) := by decide +kernel
theorem dX3_readOrder_9 : decode cX3_readOrder 9 = .ok (.bipush 98, 2) := by decide +kernel
theorem dX3_readOrder_11 : decode cX3_readOrder 11 = .ok (.invokevirtual 29, 3) := by decide +kernel
theorem dX3_readOrder_14 : decode cX3_readOrder 14 = .ok (.ifCond .ne 12, 3) := by decide +kernel
theorem dX3_readOrder_17 : decode cX3_readOrder 17 = .ok (.aload_n 0, 1) := by decide +kernel
theorem dX3_readOrder_18 : decode cX3_readOrder 18 = .ok (.bipush 109, 2) := by decide +kernel
theorem dX3_readOrder_20 : decode cX3_readOrder 20 = .ok (.invokevirtual 29, 3) := by decide +kernel
theorem dX3_readOrder_23 : decode cX3_readOrder 23 = .ok (.ifCond .eq 8, 3) := by decide +kernel
theorem dX3_readOrder_26 : decode cX3_readOrder 26 = .ok (.aload_n 0, 1) := by decide +kernel
theorem dX3_readOrder_27 : decode cX3_readOrder 27 = .ok (.invokevirtual 40, 3) := by decide +kernel
theorem dX3_readOrder_30 : decode cX3_readOrder 30 = .ok (.ireturn, 1) := by decide +kernel
theorem dX3_readOrder_31 : decode cX3_readOrder 31 = .ok (.aload_n 0, 1) := by decide +kernel
theorem dX3_readOrder_32 : decode cX3_readOrder 32 = .ok (.bipush 99, 2) := by decide +kernel
theorem dX3_readOrder_34 : decode cX3_readOrder 34 = .ok (.invokevirtual 29, 3) := by decide +kernel
theorem dX3_readOrder_37 : decode cX3_readOrder 37 = .ok (.ifCond .ne 12, 3) := by decide +kernel
theorem dX3_readOrder_40 : decode cX3_readOrder 40 = .ok (.aload_n 0, 1) := by decide +kernel
theorem dX3_readOrder_41 : decode cX3_readOrder 41 = .ok (.bipush 120, 2) := by decide +kernel
theorem dX3_readOrder_43 : decode cX3_readOrder 43 = .ok (.invokevirtual 29, 3) := by decide +kernel
theorem dX3_readOrder_46 : decode cX3_readOrder 46 = .ok (.ifCond .eq 8, 3) := by decide +kernel
theorem dX3_readOrder_49 : decode cX3_readOrder 49 = .ok (.aload_n 0, 1) := by decide +kernel
theorem dX3_readOrder_50 : decode cX3_readOrder 50 = .ok (.invokevirtual 43, 3) := by decide +kernel
theorem dX3_readOrder_53 : decode cX3_readOrder 53 = .ok (.ireturn, 1) := by decide +kernel
theorem dX3_readOrder_54 : decode cX3_readOrder 54 = .ok (.aload_n 0, 1) := by decide +kernel
theorem dX3_readOrder_55 : decode cX3_readOrder 55 = .ok (.bipush 111, 2) := by decide +kernel
theorem dX3_readOrder_57 : decode cX3_readOrder 57 = .ok (.invokevirtual 29, 3) := by decide +kernel
theorem dX3_readOrder_60 : decode cX3_readOrder 60 = .ok (.ifCond .eq 30, 3) := by decide +kernel
theorem dX3_readOrder_63 : decode cX3_readOrder 63 = .ok (.aload_n 0, 1) := by decide +kernel
theorem dX3_readOrder_64 : decode cX3_readOrder 64 = .ok (.invokevirtual 43, 3) := by decide +kernel
theorem dX3_readOrder_67 : decode cX3_readOrder 67 = .ok (.ifCond .eq 23, 3) := by decide +kernel
theorem dX3_readOrder_70 : decode cX3_readOrder 70 = .ok (.aload_n 0, 1) := by decide +kernel
theorem dX3_readOrder_71 : decode cX3_readOrder 71 = .ok (.bipush 61, 2) := by decide +kernel
theorem dX3_readOrder_73 : decode cX3_readOrder 73 = .ok (.invokevirtual 29, 3) := by decide +kernel
theorem dX3_readOrder_76 : decode cX3_readOrder 76 = .ok (.ifCond .eq 14, 3) := by decide +kernel
theorem dX3_readOrder_79 : decode cX3_readOrder 79 = .ok (.aload_n 0, 1) := by decide +kernel
theorem dX3_readOrder_80 : decode cX3_readOrder 80 = .ok (.invokevirtual 46, 3) := by decide +kernel
theorem dX3_readOrder_83 : decode cX3_readOrder 83 = .ok (.ifCond .eq 7, 3) := by decide +kernel
theorem dX3_readOrder_86 : decode cX3_readOrder 86 = .ok (.iconst 1, 1) := by decide +kernel
theorem dX3_readOrder_87 : decode cX3_readOrder 87 = .ok (.goto 4, 3) := by decide +kernel
theorem dX3_readOrder_90 : decode cX3_readOrder 90 = .ok (.iconst 0, 1) := by decide +kernel
theorem dX3_readOrder_91 : decode cX3_readOrder 91 = .ok (.ireturn, 1) := by decide +kernel
theorem dX3_skip_0 : decode cX3_skip 0 = .ok (.aload_n 0, 1) := by decide +kernel
theorem dX3_skip_1 : decode cX3_skip 1 = .ok (.invokevirtual 33, 3) := by decide +kernel
theorem dX3_skip_4 : decode cX3_skip 4 = .ok (.iload_n 1, 1) := by decide +kernel
theorem dX3_skip_5 : decode cX3_skip 5 = .ok (.if_icmp .eq 5, 3) := by decide +kernel
theorem dX3_skip_8 : decode cX3_skip 8 = .ok (.iconst 0, 1) := by decide +kernel
theorem dX3_skip_9 : decode cX3_skip 9 = .ok (.ireturn, 1) := by decide +kernel
theorem dX3_skip_10 : decode cX3_skip 10 = .ok (.aload_n 0, 1) := by decide +kernel
theorem dX3_skip_11 : decode cX3_skip 11 = .ok (.dup, 1) := by decide +kernel
theorem dX3_skip_12 : decode cX3_skip 12 = .ok (.getfield 26, 3) := by decide +kernel
theorem dX3_skip_15 : decode cX3_skip 15 = .ok (.iconst 1, 1) := by decide +kernel
theorem dX3_skip_16 : decode cX3_skip 16 = .ok (.iadd, 1) := by decide +kernel
theorem dX3_skip_17 : decode cX3_skip 17 = .ok (.putfield 26, 3) := by decide +kernel
theorem dX3_skip_20 : decode cX3_skip 20 = .ok (.iconst 1, 1) := by decide +kernel
theorem dX3_skip_21 : decode cX3_skip 21 = .ok (.ireturn, 1) := by decide +kernel
theorem dX3_readHolderAndDate_0 : decode cX3_readHolderAndDate 0 = .ok (.aload_n 0, 1) := by decide +kernel
theorem dX3_readHolderAndDate_1 : decode cX3_readHolderAndDate 1 = .ok (.invokevirtual 49, 3) := by decide +kernel
theorem dX3_readHolderAndDate_4 : decode cX3_readHolderAndDate 4 = .ok (.ifCond .ne 5, 3) := by decide +kernel
theorem dX3_readHolderAndDate_7 : decode cX3_readHolderAndDate 7 = .ok (.iconst 0, 1) := by decide +kernel
theorem dX3_readHolderAndDate_8 : decode cX3_readHolderAndDate 8 = .ok (.ireturn, 1) := by decide +kernel
theorem dX3_readHolderAndDate_9 : decode cX3_readHolderAndDate 9 = .ok (.aload_n 0, 1) := by decide +kernel
theorem dX3_readHolderAndDate_10 : decode cX3_readHolderAndDate 10 = .ok (.aload_n 0, 1) := by decide +kernel
theorem dX3_readHolderAndDate_11 : decode cX3_readHolderAndDate 11 = .ok (.invokevirtual 52, 3) := by decide +kernel
theorem dX3_readHolderAndDate_14 : decode cX3_readHolderAndDate 14 = .ok (.putfield 56, 3) := by decide +kernel
theorem dX3_readHolderAndDate_17 : decode cX3_readHolderAndDate 17 = .ok (.aload_n 0, 1) := by decide +kernel
theorem dX3_readHolderAndDate_18 : decode cX3_readHolderAndDate 18 = .ok (.bipush 64, 2) := by decide +kernel
theorem dX3_readHolderAndDate_20 : decode cX3_readHolderAndDate 20 = .ok (.invokevirtual 29, 3) := by decide +kernel
theorem dX3_readHolderAndDate_23 : decode cX3_readHolderAndDate 23 = .ok (.ifCond .eq 10, 3) := by decide +kernel
theorem dX3_readHolderAndDate_26 : decode cX3_readHolderAndDate 26 = .ok (.aload_n 0, 1) := by decide +kernel
theorem dX3_readHolderAndDate_27 : decode cX3_readHolderAndDate 27 = .ok (.invokevirtual 49, 3) := by decide +kernel
theorem dX3_readHolderAndDate_30 : decode cX3_readHolderAndDate 30 = .ok (.ifCond .ne 5, 3) := by decide +kernel
theorem dX3_readHolderAndDate_33 : decode cX3_readHolderAndDate 33 = .ok (.iconst 0, 1) := by decide +kernel
theorem dX3_readHolderAndDate_34 : decode cX3_readHolderAndDate 34 = .ok (.ireturn, 1) := by decide +kernel
theorem dX3_readHolderAndDate_35 : decode cX3_readHolderAndDate 35 = .ok (.aload_n 0, 1) := by decide +kernel
theorem dX3_readHolderAndDate_36 : decode cX3_readHolderAndDate 36 = .ok (.aload_n 0, 1) := by decide +kernel
theorem dX3_readHolderAndDate_37 : decode cX3_readHolderAndDate 37 = .ok (.invokevirtual 52, 3) := by decide +kernel
theorem dX3_readHolderAndDate_40 : decode cX3_readHolderAndDate 40 = .ok (.putfield 59, 3) := by decide +kernel
theorem dX3_readHolderAndDate_43 : decode cX3_readHolderAndDate 43 = .ok (.iconst 1, 1) := by decide +kernel
theorem dX3_readHolderAndDate_44 : decode cX3_readHolderAndDate 44 = .ok (.ireturn, 1) := by decide +kernel
theorem dX3_readRight_0 : decode cX3_readRight 0 = .ok (.aload_n 0, 1) := by decide +kernel
theorem dX3_readRight_1 : decode cX3_readRight 1 = .ok (.invokevirtual 49, 3) := by decide +kernel
theorem dX3_readRight_4 : decode cX3_readRight 4 = .ok (.ifCond .ne 5, 3) := by decide +kernel
theorem dX3_readRight_7 : decode cX3_readRight 7 = .ok (.iconst 0, 1) := by decide +kernel
theorem dX3_readRight_8 : decode cX3_readRight 8 = .ok (.ireturn, 1) := by decide +kernel
theorem dX3_readRight_9 : decode cX3_readRight 9 = .ok (.aload_n 0, 1) := by decide +kernel
theorem dX3_readRight_10 : decode cX3_readRight 10 = .ok (.aload_n 0, 1) := by decide +kernel
theorem dX3_readRight_11 : decode cX3_readRight 11 = .ok (.invokevirtual 52, 3) := by decide +kernel
theorem dX3_readRight_14 : decode cX3_readRight 14 = .ok (.putfield 56, 3) := by decide +kernel
theorem dX3_readRight_17 : decode cX3_readRight 17 = .ok (.aload_n 0, 1) := by decide +kernel
theorem dX3_readRight_18 : decode cX3_readRight 18 = .ok (.getfield 56, 3) := by decide +kernel
theorem dX3_readRight_21 : decode cX3_readRight 21 = .ok (.ifCond .le 26, 3) := by decide +kernel
theorem dX3_readRight_24 : decode cX3_readRight 24 = .ok (.aload_n 0, 1) := by decide +kernel
theorem dX3_readRight_25 : decode cX3_readRight 25 = .ok (.invokevirtual 49, 3) := by decide +kernel
theorem dX3_readRight_28 : decode cX3_readRight 28 = .ok (.ifCond .eq 19, 3) := by decide +kernel
theorem dX3_readRight_31 : decode cX3_readRight 31 = .ok (.aload_n 0, 1) := by decide +kernel
theorem dX3_readRight_32 : decode cX3_readRight 32 = .ok (.aload_n 0, 1) := by decide +kernel
theorem dX3_readRight_33 : decode cX3_readRight 33 = .ok (.getfield 56, 3) := by decide +kernel
theorem dX3_readRight_36 : decode cX3_readRight 36 = .ok (.bipush 10, 2) := by decide +kernel
theorem dX3_readRight_38 : decode cX3_readRight 38 = .ok (.imul, 1) := by decide +kernel
theorem dX3_readRight_39 : decode cX3_readRight 39 = .ok (.aload_n 0, 1) := by decide +kernel
theorem dX3_readRight_40 : decode cX3_readRight 40 = .ok (.invokevirtual 52, 3) := by decide +kernel
theorem dX3_readRight_43 : decode cX3_readRight 43 = .ok (.iadd, 1) := by decide +kernel
theorem dX3_readRight_44 : decode cX3_readRight 44 = .ok (.putfield 56, 3) := by decide +kernel
theorem dX3_readRight_47 : decode cX3_readRight 47 = .ok (.iconst 1, 1) := by decide +kernel
theorem dX3_readRight_48 : decode cX3_readRight 48 = .ok (.ireturn, 1) := by decide +kernel
theorem dX3_readPrice_0 : decode cX3_readPrice 0 = .ok (.aload_n 0, 1) := by decide +kernel
theorem dX3_readPrice_1 : decode cX3_readPrice 1 = .ok (.invokevirtual 33, 3) := by decide +kernel
theorem dX3_readPrice_4 : decode cX3_readPrice 4 = .ok (.bipush 48, 2) := by decide +kernel
theorem dX3_readPrice_6 : decode cX3_readPrice 6 = .ok (.if_icmp .eq 10, 3) := by decide +kernel
theorem dX3_readPrice_9 : decode cX3_readPrice 9 = .ok (.aload_n 0, 1) := by decide +kernel
theorem dX3_readPrice_10 : decode cX3_readPrice 10 = .ok (.invokevirtual 49, 3) := by decide +kernel
theorem dX3_readPrice_13 : decode cX3_readPrice 13 = .ok (.ifCond .ne 5, 3) := by decide +kernel
theorem dX3_readPrice_16 : decode cX3_readPrice 16 = .ok (.iconst 0, 1) := by decide +kernel
theorem dX3_readPrice_17 : decode cX3_readPrice 17 = .ok (.ireturn, 1) := by decide +kernel
theorem dX3_readPrice_18 : decode cX3_readPrice 18 = .ok (.aload_n 0, 1) := by decide +kernel
theorem dX3_readPrice_19 : decode cX3_readPrice 19 = .ok (.iconst 0, 1) := by decide +kernel
theorem dX3_readPrice_20 : decode cX3_readPrice 20 = .ok (.putfield 59, 3) := by decide +kernel
theorem dX3_readPrice_23 : decode cX3_readPrice 23 = .ok (.iconst 0, 1) := by decide +kernel
theorem dX3_readPrice_24 : decode cX3_readPrice 24 = .ok (.istore_n 1, 1) := by decide +kernel
theorem dX3_readPrice_25 : decode cX3_readPrice 25 = .ok (.iload_n 1, 1) := by decide +kernel
theorem dX3_readPrice_26 : decode cX3_readPrice 26 = .ok (.iconst 5, 1) := by decide +kernel
theorem dX3_readPrice_27 : decode cX3_readPrice 27 = .ok (.if_icmp .ge 32, 3) := by decide +kernel
theorem dX3_readPrice_30 : decode cX3_readPrice 30 = .ok (.aload_n 0, 1) := by decide +kernel
theorem dX3_readPrice_31 : decode cX3_readPrice 31 = .ok (.invokevirtual 49, 3) := by decide +kernel
theorem dX3_readPrice_34 : decode cX3_readPrice 34 = .ok (.ifCond .eq 25, 3) := by decide +kernel
theorem dX3_readPrice_37 : decode cX3_readPrice 37 = .ok (.aload_n 0, 1) := by decide +kernel
theorem dX3_readPrice_38 : decode cX3_readPrice 38 = .ok (.aload_n 0, 1) := by decide +kernel
theorem dX3_readPrice_39 : decode cX3_readPrice 39 = .ok (.getfield 59, 3) := by decide +kernel
theorem dX3_readPrice_42 : decode cX3_readPrice 42 = .ok (.bipush 10, 2) := by decide +kernel
theorem dX3_readPrice_44 : decode cX3_readPrice 44 = .ok (.imul, 1) := by decide +kernel
theorem dX3_readPrice_45 : decode cX3_readPrice 45 = .ok (.aload_n 0, 1) := by decide +kernel
theorem dX3_readPrice_46 : decode cX3_readPrice 46 = .ok (.invokevirtual 52, 3) := by decide +kernel
theorem dX3_readPrice_49 : decode cX3_readPrice 49 = .ok (.iadd, 1) := by decide +kernel
theorem dX3_readPrice_50 : decode cX3_readPrice 50 = .ok (.putfield 59, 3) := by decide +kernel
theorem dX3_readPrice_53 : decode cX3_readPrice 53 = .ok (.iinc 1 1, 3) := by decide +kernel
theorem dX3_readPrice_56 : decode cX3_readPrice 56 = .ok (.goto (-31), 3) := by decide +kernel
theorem dX3_readPrice_59 : decode cX3_readPrice 59 = .ok (.iconst 1, 1) := by decide +kernel
theorem dX3_readPrice_60 : decode cX3_readPrice 60 = .ok (.ireturn, 1) := by decide +kernel
theorem dX3_isDigitHere_0 : decode cX3_isDigitHere 0 = .ok (.aload_n 0, 1) := by decide +kernel
theorem dX3_isDigitHere_1 : decode cX3_isDigitHere 1 = .ok (.invokevirtual 33, 3) := by decide +kernel
theorem dX3_isDigitHere_4 : decode cX3_isDigitHere 4 = .ok (.bipush 48, 2) := by decide +kernel
theorem dX3_isDigitHere_6 : decode cX3_isDigitHere 6 = .ok (.if_icmp .lt 16, 3) := by decide +kernel
theorem dX3_isDigitHere_9 : decode cX3_isDigitHere 9 = .ok (.aload_n 0, 1) := by decide +kernel
theorem dX3_isDigitHere_10 : decode cX3_isDigitHere 10 = .ok (.invokevirtual 33, 3) := by decide +kernel
theorem dX3_isDigitHere_13 : decode cX3_isDigitHere 13 = .ok (.bipush 57, 2) := by decide +kernel
theorem dX3_isDigitHere_15 : decode cX3_isDigitHere 15 = .ok (.if_icmp .gt 7, 3) := by decide +kernel
theorem dX3_isDigitHere_18 : decode cX3_isDigitHere 18 = .ok (.iconst 1, 1) := by decide +kernel
theorem dX3_isDigitHere_19 : decode cX3_isDigitHere 19 = .ok (.goto 4, 3) := by decide +kernel
theorem dX3_isDigitHere_22 : decode cX3_isDigitHere 22 = .ok (.iconst 0, 1) := by decide +kernel
theorem dX3_isDigitHere_23 : decode cX3_isDigitHere 23 = .ok (.ireturn, 1) := by decide +kernel
theorem dX3_takeDigit_0 : decode cX3_takeDigit 0 = .ok (.aload_n 0, 1) := by decide +kernel
theorem dX3_takeDigit_1 : decode cX3_takeDigit 1 = .ok (.invokevirtual 33, 3) := by decide +kernel
theorem dX3_takeDigit_4 : decode cX3_takeDigit 4 = .ok (.bipush 48, 2) := by decide +kernel
theorem dX3_takeDigit_6 : decode cX3_takeDigit 6 = .ok (.isub, 1) := by decide +kernel
theorem dX3_takeDigit_7 : decode cX3_takeDigit 7 = .ok (.istore_n 1, 1) := by decide +kernel
theorem dX3_takeDigit_8 : decode cX3_takeDigit 8 = .ok (.aload_n 0, 1) := by decide +kernel
theorem dX3_takeDigit_9 : decode cX3_takeDigit 9 = .ok (.dup, 1) := by decide +kernel
theorem dX3_takeDigit_10 : decode cX3_takeDigit 10 = .ok (.getfield 26, 3) := by decide +kernel
theorem dX3_takeDigit_13 : decode cX3_takeDigit 13 = .ok (.iconst 1, 1) := by decide +kernel
theorem dX3_takeDigit_14 : decode cX3_takeDigit 14 = .ok (.iadd, 1) := by decide +kernel
theorem dX3_takeDigit_15 : decode cX3_takeDigit 15 = .ok (.putfield 26, 3) := by decide +kernel
theorem dX3_takeDigit_18 : decode cX3_takeDigit 18 = .ok (.iload_n 1, 1) := by decide +kernel
theorem dX3_takeDigit_19 : decode cX3_takeDigit 19 = .ok (.ireturn, 1) := by decide +kernel
theorem dX3_here_0 : decode cX3_here 0 = .ok (.aload_n 0, 1) := by decide +kernel
theorem dX3_here_1 : decode cX3_here 1 = .ok (.getfield 26, 3) := by decide +kernel
theorem dX3_here_4 : decode cX3_here 4 = .ok (.ifCond .lt 38, 3) := by decide +kernel
theorem dX3_here_7 : decode cX3_here 7 = .ok (.aload_n 0, 1) := by decide +kernel
theorem dX3_here_8 : decode cX3_here 8 = .ok (.getfield 26, 3) := by decide +kernel
theorem dX3_here_11 : decode cX3_here 11 = .ok (.aload_n 0, 1) := by decide +kernel
theorem dX3_here_12 : decode cX3_here 12 = .ok (.getfield 15, 3) := by decide +kernel
theorem dX3_here_15 : decode cX3_here 15 = .ok (.if_icmp .ge 27, 3) := by decide +kernel
theorem dX3_here_18 : decode cX3_here 18 = .ok (.aload_n 0, 1) := by decide +kernel
theorem dX3_here_19 : decode cX3_here 19 = .ok (.getfield 26, 3) := by decide +kernel
theorem dX3_here_22 : decode cX3_here 22 = .ok (.aload_n 0, 1) := by decide +kernel
theorem dX3_here_23 : decode cX3_here 23 = .ok (.getfield 9, 3) := by decide +kernel
theorem dX3_here_26 : decode cX3_here 26 = .ok (.arraylength, 1) := by decide +kernel
theorem dX3_here_27 : decode cX3_here 27 = .ok (.if_icmp .ge 15, 3) := by decide +kernel
theorem dX3_here_30 : decode cX3_here 30 = .ok (.aload_n 0, 1) := by decide +kernel
theorem dX3_here_31 : decode cX3_here 31 = .ok (.getfield 9, 3) := by decide +kernel
theorem dX3_here_34 : decode cX3_here 34 = .ok (.aload_n 0, 1) := by decide +kernel
theorem dX3_here_35 : decode cX3_here 35 = .ok (.getfield 26, 3) := by decide +kernel
theorem dX3_here_38 : decode cX3_here 38 = .ok (.caload, 1) := by decide +kernel
theorem dX3_here_39 : decode cX3_here 39 = .ok (.goto 4, 3) := by decide +kernel
theorem dX3_here_42 : decode cX3_here 42 = .ok (.iconst 0, 1) := by decide +kernel
theorem dX3_here_43 : decode cX3_here 43 = .ok (.ireturn, 1) := by decide +kernel
theorem dX4_init_0 : decode cX4_init 0 = .ok (.aload_n 0, 1) := by decide +kernel
theorem dX4_init_1 : decode cX4_init 1 = .ok (.invokespecial 3, 3) := by decide +kernel
theorem dX4_init_4 : decode cX4_init 4 = .ok (.aload_n 0, 1) := by decide +kernel
theorem dX4_init_5 : decode cX4_init 5 = .ok (.iload_n 1, 1) := by decide +kernel
theorem dX4_init_6 : decode cX4_init 6 = .ok (.putfield 9, 3) := by decide +kernel
theorem dX4_init_9 : decode cX4_init 9 = .ok (.return_, 1) := by decide +kernel
theorem dX4_copyFrom_0 : decode cX4_copyFrom 0 = .ok (.aload_n 0, 1) := by decide +kernel
theorem dX4_copyFrom_1 : decode cX4_copyFrom 1 = .ok (.aload_n 1, 1) := by decide +kernel
theorem dX4_copyFrom_2 : decode cX4_copyFrom 2 = .ok (.getfield 15, 3) := by decide +kernel
theorem dX4_copyFrom_5 : decode cX4_copyFrom 5 = .ok (.putfield 15, 3) := by decide +kernel
theorem dX4_copyFrom_8 : decode cX4_copyFrom 8 = .ok (.aload_n 0, 1) := by decide +kernel
theorem dX4_copyFrom_9 : decode cX4_copyFrom 9 = .ok (.aload_n 1, 1) := by decide +kernel
theorem dX4_copyFrom_10 : decode cX4_copyFrom 10 = .ok (.getfield 18, 3) := by decide +kernel
theorem dX4_copyFrom_13 : decode cX4_copyFrom 13 = .ok (.putfield 18, 3) := by decide +kernel
theorem dX4_copyFrom_16 : decode cX4_copyFrom 16 = .ok (.aload_n 0, 1) := by decide +kernel
theorem dX4_copyFrom_17 : decode cX4_copyFrom 17 = .ok (.aload_n 1, 1) := by decide +kernel
theorem dX4_copyFrom_18 : decode cX4_copyFrom 18 = .ok (.getfield 21, 3) := by decide +kernel
theorem dX4_copyFrom_21 : decode cX4_copyFrom 21 = .ok (.putfield 21, 3) := by decide +kernel
theorem dX4_copyFrom_24 : decode cX4_copyFrom 24 = .ok (.aload_n 0, 1) := by decide +kernel
theorem dX4_copyFrom_25 : decode cX4_copyFrom 25 = .ok (.aload_n 1, 1) := by decide +kernel
theorem dX4_copyFrom_26 : decode cX4_copyFrom 26 = .ok (.getfield 24, 3) := by decide +kernel
theorem dX4_copyFrom_29 : decode cX4_copyFrom 29 = .ok (.putfield 24, 3) := by decide +kernel
theorem dX4_copyFrom_32 : decode cX4_copyFrom 32 = .ok (.aload_n 0, 1) := by decide +kernel
theorem dX4_copyFrom_33 : decode cX4_copyFrom 33 = .ok (.aload_n 1, 1) := by decide +kernel
theorem dX4_copyFrom_34 : decode cX4_copyFrom 34 = .ok (.getfield 27, 3) := by decide +kernel
theorem dX4_copyFrom_37 : decode cX4_copyFrom 37 = .ok (.putfield 27, 3) := by decide +kernel
theorem dX4_copyFrom_40 : decode cX4_copyFrom 40 = .ok (.aload_n 0, 1) := by decide +kernel
theorem dX4_copyFrom_41 : decode cX4_copyFrom 41 = .ok (.aload_n 1, 1) := by decide +kernel
theorem dX4_copyFrom_42 : decode cX4_copyFrom 42 = .ok (.getfield 30, 3) := by decide +kernel
theorem dX4_copyFrom_45 : decode cX4_copyFrom 45 = .ok (.putfield 30, 3) := by decide +kernel
theorem dX4_copyFrom_48 : decode cX4_copyFrom 48 = .ok (.aload_n 0, 1) := by decide +kernel
theorem dX4_copyFrom_49 : decode cX4_copyFrom 49 = .ok (.aload_n 1, 1) := by decide +kernel
theorem dX4_copyFrom_50 : decode cX4_copyFrom 50 = .ok (.getfield 33, 3) := by decide +kernel
theorem dX4_copyFrom_53 : decode cX4_copyFrom 53 = .ok (.putfield 33, 3) := by decide +kernel
theorem dX4_copyFrom_56 : decode cX4_copyFrom 56 = .ok (.return_, 1) := by decide +kernel
theorem dX4_isHeldOrOffered_0 : decode cX4_isHeldOrOffered 0 = .ok (.aload_n 0, 1) := by decide +kernel
theorem dX4_isHeldOrOffered_1 : decode cX4_isHeldOrOffered 1 = .ok (.getfield 24, 3) := by decide +kernel
theorem dX4_isHeldOrOffered_4 : decode cX4_isHeldOrOffered 4 = .ok (.ifCond .eq 11, 3) := by decide +kernel
theorem dX4_isHeldOrOffered_7 : decode cX4_isHeldOrOffered 7 = .ok (.aload_n 0, 1) := by decide +kernel
theorem dX4_isHeldOrOffered_8 : decode cX4_isHeldOrOffered 8 = .ok (.getfield 24, 3) := by decide +kernel
theorem dX4_isHeldOrOffered_11 : decode cX4_isHeldOrOffered 11 = .ok (.iconst 1, 1) := by decide +kernel
theorem dX4_isHeldOrOffered_12 : decode cX4_isHeldOrOffered 12 = .ok (.if_icmp .ne 7, 3) := by decide +kernel
theorem dX4_isHeldOrOffered_15 : decode cX4_isHeldOrOffered 15 = .ok (.iconst 1, 1) := by decide +kernel
theorem dX4_isHeldOrOffered_16 : decode cX4_isHeldOrOffered 16 = .ok (.goto 4, 3) := by decide +kernel
theorem dX4_isHeldOrOffered_19 : decode cX4_isHeldOrOffered 19 = .ok (.iconst 0, 1) := by decide +kernel
theorem dX4_isHeldOrOffered_20 : decode cX4_isHeldOrOffered 20 = .ok (.ireturn, 1) := by decide +kernel
theorem dX4_turnTo_0 : decode cX4_turnTo 0 = .ok (.aload_n 0, 1) := by decide +kernel
theorem dX4_turnTo_1 : decode cX4_turnTo 1 = .ok (.iload_n 1, 1) := by decide +kernel
theorem dX4_turnTo_2 : decode cX4_turnTo 2 = .ok (.putfield 24, 3) := by decide +kernel
theorem dX4_turnTo_5 : decode cX4_turnTo 5 = .ok (.aload_n 0, 1) := by decide +kernel
theorem dX4_turnTo_6 : decode cX4_turnTo 6 = .ok (.iload_n 2, 1) := by decide +kernel
theorem dX4_turnTo_7 : decode cX4_turnTo 7 = .ok (.putfield 27, 3) := by decide +kernel
theorem dX4_turnTo_10 : decode cX4_turnTo 10 = .ok (.return_, 1) := by decide +kernel
theorem dX5_init_0 : decode cX5_init 0 = .ok (.aload_n 0, 1) := by decide +kernel
theorem dX5_init_1 : decode cX5_init 1 = .ok (.invokespecial 3, 3) := by decide +kernel
theorem dX5_init_4 : decode cX5_init 4 = .ok (.aload_n 0, 1) := by decide +kernel
theorem dX5_init_5 : decode cX5_init 5 = .ok (.getstatic 9, 3) := by decide +kernel
theorem dX5_init_8 : decode cX5_init 8 = .ok (.invokevirtual 13, 3) := by decide +kernel
theorem dX5_init_11 : decode cX5_init 11 = .ok (.checkcast 14, 3) := by decide +kernel
theorem dX5_init_14 : decode cX5_init 14 = .ok (.putfield 18, 3) := by decide +kernel
theorem dX5_init_17 : decode cX5_init 17 = .ok (.aload_n 0, 1) := by decide +kernel
theorem dX5_init_18 : decode cX5_init 18 = .ok (.getstatic 23, 3) := by decide +kernel
theorem dX5_init_21 : decode cX5_init 21 = .ok (.invokevirtual 13, 3) := by decide +kernel
theorem dX5_init_24 : decode cX5_init 24 = .ok (.checkcast 14, 3) := by decide +kernel
theorem dX5_init_27 : decode cX5_init 27 = .ok (.putfield 26, 3) := by decide +kernel
theorem dX5_init_30 : decode cX5_init 30 = .ok (.aload_n 0, 1) := by decide +kernel
theorem dX5_init_31 : decode cX5_init 31 = .ok (.getstatic 29, 3) := by decide +kernel
theorem dX5_init_34 : decode cX5_init 34 = .ok (.invokevirtual 13, 3) := by decide +kernel
theorem dX5_init_37 : decode cX5_init 37 = .ok (.checkcast 14, 3) := by decide +kernel
theorem dX5_init_40 : decode cX5_init 40 = .ok (.putfield 32, 3) := by decide +kernel
theorem dX5_init_43 : decode cX5_init 43 = .ok (.aload_n 0, 1) := by decide +kernel
theorem dX5_init_44 : decode cX5_init 44 = .ok (.bipush 10, 2) := by decide +kernel
theorem dX5_init_46 : decode cX5_init 46 = .ok (.anewarray 35, 3) := by decide +kernel
theorem dX5_init_49 : decode cX5_init 49 = .ok (.putfield 37, 3) := by decide +kernel
theorem dX5_init_52 : decode cX5_init 52 = .ok (.aload_n 0, 1) := by decide +kernel
theorem dX5_init_53 : decode cX5_init 53 = .ok (.bipush 60, 2) := by decide +kernel
theorem dX5_init_55 : decode cX5_init 55 = .ok (.anewarray 41, 3) := by decide +kernel
theorem dX5_init_58 : decode cX5_init 58 = .ok (.putfield 43, 3) := by decide +kernel
theorem dX5_init_61 : decode cX5_init 61 = .ok (.aload_n 0, 1) := by decide +kernel
theorem dX5_init_62 : decode cX5_init 62 = .ok (.bipush 10, 2) := by decide +kernel
theorem dX5_init_64 : decode cX5_init 64 = .ok (.newarray .int, 2) := by decide +kernel
theorem dX5_init_66 : decode cX5_init 66 = .ok (.putfield 47, 3) := by decide +kernel
theorem dX5_init_69 : decode cX5_init 69 = .ok (.aload_n 0, 1) := by decide +kernel
theorem dX5_init_70 : decode cX5_init 70 = .ok (.bipush 10, 2) := by decide +kernel
theorem dX5_init_72 : decode cX5_init 72 = .ok (.anewarray 50, 3) := by decide +kernel
theorem dX5_init_75 : decode cX5_init 75 = .ok (.putfield 52, 3) := by decide +kernel
theorem dX5_init_78 : decode cX5_init 78 = .ok (.iconst 0, 1) := by decide +kernel
theorem dX5_init_79 : decode cX5_init 79 = .ok (.istore_n 1, 1) := by decide +kernel
theorem dX5_init_80 : decode cX5_init 80 = .ok (.iload_n 1, 1) := by decide +kernel
theorem dX5_init_81 : decode cX5_init 81 = .ok (.aload_n 0, 1) := by decide +kernel
theorem dX5_init_82 : decode cX5_init 82 = .ok (.getfield 37, 3) := by decide +kernel
theorem dX5_init_85 : decode cX5_init 85 = .ok (.arraylength, 1) := by decide +kernel
theorem dX5_init_86 : decode cX5_init 86 = .ok (.if_icmp .ge 23, 3) := by decide +kernel
theorem dX5_init_89 : decode cX5_init 89 = .ok (.aload_n 0, 1) := by decide +kernel
theorem dX5_init_90 : decode cX5_init 90 = .ok (.getfield 37, 3) := by decide +kernel
theorem dX5_init_93 : decode cX5_init 93 = .ok (.iload_n 1, 1) := by decide +kernel
theorem dX5_init_94 : decode cX5_init 94 = .ok (.new 35, 3) := by decide +kernel
theorem dX5_init_97 : decode cX5_init 97 = .ok (.dup, 1) := by decide +kernel
theorem dX5_init_98 : decode cX5_init 98 = .ok (.iload_n 1, 1) := by decide +kernel
theorem dX5_init_99 : decode cX5_init 99 = .ok (.invokespecial 56, 3) := by decide +kernel
theorem dX5_init_102 : decode cX5_init 102 = .ok (.aastore, 1) := by decide +kernel
theorem dX5_init_103 : decode cX5_init 103 = .ok (.iinc 1 1, 3) := by decide +kernel
theorem dX5_init_106 : decode cX5_init 106 = .ok (.goto (-26), 3) := by decide +kernel
theorem dX5_init_109 : decode cX5_init 109 = .ok (.iconst 0, 1) := by decide +kernel
theorem dX5_init_110 : decode cX5_init 110 = .ok (.istore_n 1, 1) := by decide +kernel
theorem dX5_init_111 : decode cX5_init 111 = .ok (.iload_n 1, 1) := by decide +kernel
theorem dX5_init_112 : decode cX5_init 112 = .ok (.aload_n 0, 1) := by decide +kernel
theorem dX5_init_113 : decode cX5_init 113 = .ok (.getfield 43, 3) := by decide +kernel
theorem dX5_init_116 : decode cX5_init 116 = .ok (.arraylength, 1) := by decide +kernel
theorem dX5_init_117 : decode cX5_init 117 = .ok (.if_icmp .ge 23, 3) := by decide +kernel
theorem dX5_init_120 : decode cX5_init 120 = .ok (.aload_n 0, 1) := by decide +kernel
theorem dX5_init_121 : decode cX5_init 121 = .ok (.getfield 43, 3) := by decide +kernel
theorem dX5_init_124 : decode cX5_init 124 = .ok (.iload_n 1, 1) := by decide +kernel
theorem dX5_init_125 : decode cX5_init 125 = .ok (.new 41, 3) := by decide +kernel
theorem dX5_init_128 : decode cX5_init 128 = .ok (.dup, 1) := by decide +kernel
theorem dX5_init_129 : decode cX5_init 129 = .ok (.iload_n 1, 1) := by decide +kernel
theorem dX5_init_130 : decode cX5_init 130 = .ok (.invokespecial 59, 3) := by decide +kernel
theorem dX5_init_133 : decode cX5_init 133 = .ok (.aastore, 1) := by decide +kernel
theorem dX5_init_134 : decode cX5_init 134 = .ok (.iinc 1 1, 3) := by decide +kernel
theorem dX5_init_137 : decode cX5_init 137 = .ok (.goto (-26), 3) := by decide +kernel
theorem dX5_init_140 : decode cX5_init 140 = .ok (.iconst 0, 1) := by decide +kernel
theorem dX5_init_141 : decode cX5_init 141 = .ok (.istore_n 1, 1) := by decide +kernel
theorem dX5_init_142 : decode cX5_init 142 = .ok (.iload_n 1, 1) := by decide +kernel
theorem dX5_init_143 : decode cX5_init 143 = .ok (.aload_n 0, 1) := by decide +kernel
theorem dX5_init_144 : decode cX5_init 144 = .ok (.getfield 52, 3) := by decide +kernel
theorem dX5_init_147 : decode cX5_init 147 = .ok (.arraylength, 1) := by decide +kernel
theorem dX5_init_148 : decode cX5_init 148 = .ok (.if_icmp .ge 22, 3) := by decide +kernel
theorem dX5_init_151 : decode cX5_init 151 = .ok (.aload_n 0, 1) := by decide +kernel
theorem dX5_init_152 : decode cX5_init 152 = .ok (.getfield 52, 3) := by decide +kernel
theorem dX5_init_155 : decode cX5_init 155 = .ok (.iload_n 1, 1) := by decide +kernel
theorem dX5_init_156 : decode cX5_init 156 = .ok (.new 50, 3) := by decide +kernel
theorem dX5_init_159 : decode cX5_init 159 = .ok (.dup, 1) := by decide +kernel
theorem dX5_init_160 : decode cX5_init 160 = .ok (.invokespecial 60, 3) := by decide +kernel
theorem dX5_init_163 : decode cX5_init 163 = .ok (.aastore, 1) := by decide +kernel
theorem dX5_init_164 : decode cX5_init 164 = .ok (.iinc 1 1, 3) := by decide +kernel
theorem dX5_init_167 : decode cX5_init 167 = .ok (.goto (-25), 3) := by decide +kernel
theorem dX5_init_170 : decode cX5_init 170 = .ok (.return_, 1) := by decide +kernel
theorem dX5_copyFrom_0 : decode cX5_copyFrom 0 = .ok (.aload_n 0, 1) := by decide +kernel
theorem dX5_copyFrom_1 : decode cX5_copyFrom 1 = .ok (.aload_n 1, 1) := by decide +kernel
theorem dX5_copyFrom_2 : decode cX5_copyFrom 2 = .ok (.getfield 61, 3) := by decide +kernel
theorem dX5_copyFrom_5 : decode cX5_copyFrom 5 = .ok (.putfield 61, 3) := by decide +kernel
theorem dX5_copyFrom_8 : decode cX5_copyFrom 8 = .ok (.aload_n 1, 1) := by decide +kernel
theorem dX5_copyFrom_9 : decode cX5_copyFrom 9 = .ok (.getfield 18, 3) := by decide +kernel
theorem dX5_copyFrom_12 : decode cX5_copyFrom 12 = .ok (.aload_n 0, 1) := by decide +kernel
theorem dX5_copyFrom_13 : decode cX5_copyFrom 13 = .ok (.getfield 18, 3) := by decide +kernel
theorem dX5_copyFrom_16 : decode cX5_copyFrom 16 = .ok (.invokestatic 65, 3) := by decide +kernel
theorem dX5_copyFrom_19 : decode cX5_copyFrom 19 = .ok (.aload_n 1, 1) := by decide +kernel
theorem dX5_copyFrom_20 : decode cX5_copyFrom 20 = .ok (.getfield 26, 3) := by decide +kernel
theorem dX5_copyFrom_23 : decode cX5_copyFrom 23 = .ok (.aload_n 0, 1) := by decide +kernel
theorem dX5_copyFrom_24 : decode cX5_copyFrom 24 = .ok (.getfield 26, 3) := by decide +kernel
theorem dX5_copyFrom_27 : decode cX5_copyFrom 27 = .ok (.invokestatic 65, 3) := by decide +kernel
theorem dX5_copyFrom_30 : decode cX5_copyFrom 30 = .ok (.aload_n 1, 1) := by decide +kernel
theorem dX5_copyFrom_31 : decode cX5_copyFrom 31 = .ok (.getfield 32, 3) := by decide +kernel
theorem dX5_copyFrom_34 : decode cX5_copyFrom 34 = .ok (.aload_n 0, 1) := by decide +kernel
theorem dX5_copyFrom_35 : decode cX5_copyFrom 35 = .ok (.getfield 32, 3) := by decide +kernel
theorem dX5_copyFrom_38 : decode cX5_copyFrom 38 = .ok (.invokestatic 65, 3) := by decide +kernel
theorem dX5_copyFrom_41 : decode cX5_copyFrom 41 = .ok (.aload_n 0, 1) := by decide +kernel
theorem dX5_copyFrom_42 : decode cX5_copyFrom 42 = .ok (.aload_n 1, 1) := by decide +kernel
theorem dX5_copyFrom_43 : decode cX5_copyFrom 43 = .ok (.getfield 69, 3) := by decide +kernel
theorem dX5_copyFrom_46 : decode cX5_copyFrom 46 = .ok (.putfield 69, 3) := by decide +kernel
theorem dX5_copyFrom_49 : decode cX5_copyFrom 49 = .ok (.iconst 0, 1) := by decide +kernel
theorem dX5_copyFrom_50 : decode cX5_copyFrom 50 = .ok (.istore_n 2, 1) := by decide +kernel
theorem dX5_copyFrom_51 : decode cX5_copyFrom 51 = .ok (.iload_n 2, 1) := by decide +kernel
theorem dX5_copyFrom_52 : decode cX5_copyFrom 52 = .ok (.aload_n 0, 1) := by decide +kernel
theorem dX5_copyFrom_53 : decode cX5_copyFrom 53 = .ok (.getfield 37, 3) := by decide +kernel
theorem dX5_copyFrom_56 : decode cX5_copyFrom 56 = .ok (.arraylength, 1) := by decide +kernel
theorem dX5_copyFrom_57 : decode cX5_copyFrom 57 = .ok (.if_icmp .ge 24, 3) := by decide +kernel
theorem dX5_copyFrom_60 : decode cX5_copyFrom 60 = .ok (.aload_n 0, 1) := by decide +kernel
theorem dX5_copyFrom_61 : decode cX5_copyFrom 61 = .ok (.getfield 37, 3) := by decide +kernel
theorem dX5_copyFrom_64 : decode cX5_copyFrom 64 = .ok (.iload_n 2, 1) := by decide +kernel
theorem dX5_copyFrom_65 : decode cX5_copyFrom 65 = .ok (.aaload, 1) := by decide +kernel
theorem dX5_copyFrom_66 : decode cX5_copyFrom 66 = .ok (.aload_n 1, 1) := by decide +kernel
theorem dX5_copyFrom_67 : decode cX5_copyFrom 67 = .ok (.getfield 37, 3) := by decide +kernel
theorem dX5_copyFrom_70 : decode cX5_copyFrom 70 = .ok (.iload_n 2, 1) := by decide +kernel
theorem dX5_copyFrom_71 : decode cX5_copyFrom 71 = .ok (.aaload, 1) := by decide +kernel
theorem dX5_copyFrom_72 : decode cX5_copyFrom 72 = .ok (.invokevirtual 72, 3) := by decide +kernel
theorem dX5_copyFrom_75 : decode cX5_copyFrom 75 = .ok (.iinc 2 1, 3) := by decide +kernel
theorem dX5_copyFrom_78 : decode cX5_copyFrom 78 = .ok (.goto (-27), 3) := by decide +kernel
theorem dX5_copyFrom_81 : decode cX5_copyFrom 81 = .ok (.aload_n 0, 1) := by decide +kernel
theorem dX5_copyFrom_82 : decode cX5_copyFrom 82 = .ok (.aload_n 1, 1) := by decide +kernel
theorem dX5_copyFrom_83 : decode cX5_copyFrom 83 = .ok (.getfield 76, 3) := by decide +kernel
theorem dX5_copyFrom_86 : decode cX5_copyFrom 86 = .ok (.putfield 76, 3) := by decide +kernel
theorem dX5_copyFrom_89 : decode cX5_copyFrom 89 = .ok (.iconst 0, 1) := by decide +kernel
theorem dX5_copyFrom_90 : decode cX5_copyFrom 90 = .ok (.istore_n 2, 1) := by decide +kernel
theorem dX5_copyFrom_91 : decode cX5_copyFrom 91 = .ok (.iload_n 2, 1) := by decide +kernel
theorem dX5_copyFrom_92 : decode cX5_copyFrom 92 = .ok (.aload_n 0, 1) := by decide +kernel
theorem dX5_copyFrom_93 : decode cX5_copyFrom 93 = .ok (.getfield 43, 3) := by decide +kernel
theorem dX5_copyFrom_96 : decode cX5_copyFrom 96 = .ok (.arraylength, 1) := by decide +kernel
theorem dX5_copyFrom_97 : decode cX5_copyFrom 97 = .ok (.if_icmp .ge 24, 3) := by decide +kernel
theorem dX5_copyFrom_100 : decode cX5_copyFrom 100 = .ok (.aload_n 0, 1) := by decide +kernel
theorem dX5_copyFrom_101 : decode cX5_copyFrom 101 = .ok (.getfield 43, 3) := by decide +kernel
theorem dX5_copyFrom_104 : decode cX5_copyFrom 104 = .ok (.iload_n 2, 1) := by decide +kernel
theorem dX5_copyFrom_105 : decode cX5_copyFrom 105 = .ok (.aaload, 1) := by decide +kernel
theorem dX5_copyFrom_106 : decode cX5_copyFrom 106 = .ok (.aload_n 1, 1) := by decide +kernel
theorem dX5_copyFrom_107 : decode cX5_copyFrom 107 = .ok (.getfield 43, 3) := by decide +kernel
theorem dX5_copyFrom_110 : decode cX5_copyFrom 110 = .ok (.iload_n 2, 1) := by decide +kernel
theorem dX5_copyFrom_111 : decode cX5_copyFrom 111 = .ok (.aaload, 1) := by decide +kernel
theorem dX5_copyFrom_112 : decode cX5_copyFrom 112 = .ok (.invokevirtual 79, 3) := by decide +kernel
theorem dX5_copyFrom_115 : decode cX5_copyFrom 115 = .ok (.iinc 2 1, 3) := by decide +kernel
theorem dX5_copyFrom_118 : decode cX5_copyFrom 118 = .ok (.goto (-27), 3) := by decide +kernel
theorem dX5_copyFrom_121 : decode cX5_copyFrom 121 = .ok (.aload_n 1, 1) := by decide +kernel
theorem dX5_copyFrom_122 : decode cX5_copyFrom 122 = .ok (.getfield 47, 3) := by decide +kernel
theorem dX5_copyFrom_125 : decode cX5_copyFrom 125 = .ok (.aload_n 0, 1) := by decide +kernel
theorem dX5_copyFrom_126 : decode cX5_copyFrom 126 = .ok (.getfield 47, 3) := by decide +kernel
theorem dX5_copyFrom_129 : decode cX5_copyFrom 129 = .ok (.invokestatic 65, 3) := by decide +kernel
theorem dX5_copyFrom_132 : decode cX5_copyFrom 132 = .ok (.aload_n 0, 1) := by decide +kernel
theorem dX5_copyFrom_133 : decode cX5_copyFrom 133 = .ok (.aload_n 1, 1) := by decide +kernel
theorem dX5_copyFrom_134 : decode cX5_copyFrom 134 = .ok (.getfield 82, 3) := by decide +kernel
theorem dX5_copyFrom_137 : decode cX5_copyFrom 137 = .ok (.putfield 82, 3) := by decide +kernel
theorem dX5_copyFrom_140 : decode cX5_copyFrom 140 = .ok (.aload_n 0, 1) := by decide +kernel
theorem dX5_copyFrom_141 : decode cX5_copyFrom 141 = .ok (.aload_n 1, 1) := by decide +kernel
theorem dX5_copyFrom_142 : decode cX5_copyFrom 142 = .ok (.getfield 85, 3) := by decide +kernel
theorem dX5_copyFrom_145 : decode cX5_copyFrom 145 = .ok (.putfield 85, 3) := by decide +kernel
theorem dX5_copyFrom_148 : decode cX5_copyFrom 148 = .ok (.iconst 0, 1) := by decide +kernel
theorem dX5_copyFrom_149 : decode cX5_copyFrom 149 = .ok (.istore_n 2, 1) := by decide +kernel
theorem dX5_copyFrom_150 : decode cX5_copyFrom 150 = .ok (.iload_n 2, 1) := by decide +kernel
theorem dX5_copyFrom_151 : decode cX5_copyFrom 151 = .ok (.aload_n 0, 1) := by decide +kernel
theorem dX5_copyFrom_152 : decode cX5_copyFrom 152 = .ok (.getfield 52, 3) := by decide +kernel
theorem dX5_copyFrom_155 : decode cX5_copyFrom 155 = .ok (.arraylength, 1) := by decide +kernel
theorem dX5_copyFrom_156 : decode cX5_copyFrom 156 = .ok (.if_icmp .ge 24, 3) := by decide +kernel
theorem dX5_copyFrom_159 : decode cX5_copyFrom 159 = .ok (.aload_n 0, 1) := by decide +kernel
theorem dX5_copyFrom_160 : decode cX5_copyFrom 160 = .ok (.getfield 52, 3) := by decide +kernel
theorem dX5_copyFrom_163 : decode cX5_copyFrom 163 = .ok (.iload_n 2, 1) := by decide +kernel
theorem dX5_copyFrom_164 : decode cX5_copyFrom 164 = .ok (.aaload, 1) := by decide +kernel
theorem dX5_copyFrom_165 : decode cX5_copyFrom 165 = .ok (.aload_n 1, 1) := by decide +kernel
theorem dX5_copyFrom_166 : decode cX5_copyFrom 166 = .ok (.getfield 52, 3) := by decide +kernel
theorem dX5_copyFrom_169 : decode cX5_copyFrom 169 = .ok (.iload_n 2, 1) := by decide +kernel
theorem dX5_copyFrom_170 : decode cX5_copyFrom 170 = .ok (.aaload, 1) := by decide +kernel
theorem dX5_copyFrom_171 : decode cX5_copyFrom 171 = .ok (.invokevirtual 88, 3) := by decide +kernel
theorem dX5_copyFrom_174 : decode cX5_copyFrom 174 = .ok (.iinc 2 1, 3) := by decide +kernel
theorem dX5_copyFrom_177 : decode cX5_copyFrom 177 = .ok (.goto (-27), 3) := by decide +kernel
theorem dX5_copyFrom_180 : decode cX5_copyFrom 180 = .ok (.return_, 1) := by decide +kernel
theorem dX5_dateRow_0 : decode cX5_dateRow 0 = .ok (.iload_n 1, 1) := by decide +kernel
theorem dX5_dateRow_1 : decode cX5_dateRow 1 = .ok (.ifCond .lt 29, 3) := by decide +kernel
theorem dX5_dateRow_4 : decode cX5_dateRow 4 = .ok (.iload_n 1, 1) := by decide +kernel
theorem dX5_dateRow_5 : decode cX5_dateRow 5 = .ok (.aload_n 0, 1) := by decide +kernel
theorem dX5_dateRow_6 : decode cX5_dateRow 6 = .ok (.getfield 69, 3) := by decide +kernel
theorem dX5_dateRow_9 : decode cX5_dateRow 9 = .ok (.if_icmp .ge 21, 3) := by decide +kernel
theorem dX5_dateRow_12 : decode cX5_dateRow 12 = .ok (.iload_n 1, 1) := by decide +kernel
theorem dX5_dateRow_13 : decode cX5_dateRow 13 = .ok (.aload_n 0, 1) := by decide +kernel
theorem dX5_dateRow_14 : decode cX5_dateRow 14 = .ok (.getfield 37, 3) := by decide +kernel
theorem dX5_dateRow_17 : decode cX5_dateRow 17 = .ok (.arraylength, 1) := by decide +kernel
theorem dX5_dateRow_18 : decode cX5_dateRow 18 = .ok (.if_icmp .ge 12, 3) := by decide +kernel
theorem dX5_dateRow_21 : decode cX5_dateRow 21 = .ok (.aload_n 0, 1) := by decide +kernel
theorem dX5_dateRow_22 : decode cX5_dateRow 22 = .ok (.getfield 37, 3) := by decide +kernel
theorem dX5_dateRow_25 : decode cX5_dateRow 25 = .ok (.iload_n 1, 1) := by decide +kernel
theorem dX5_dateRow_26 : decode cX5_dateRow 26 = .ok (.aaload, 1) := by decide +kernel
theorem dX5_dateRow_27 : decode cX5_dateRow 27 = .ok (.goto 4, 3) := by decide +kernel
theorem dX5_dateRow_30 : decode cX5_dateRow 30 = .ok (.aconst_null, 1) := by decide +kernel
theorem dX5_dateRow_31 : decode cX5_dateRow 31 = .ok (.areturn, 1) := by decide +kernel
theorem dX5_rightRow_0 : decode cX5_rightRow 0 = .ok (.iload_n 1, 1) := by decide +kernel
theorem dX5_rightRow_1 : decode cX5_rightRow 1 = .ok (.ifCond .lt 29, 3) := by decide +kernel
theorem dX5_rightRow_4 : decode cX5_rightRow 4 = .ok (.iload_n 1, 1) := by decide +kernel
theorem dX5_rightRow_5 : decode cX5_rightRow 5 = .ok (.aload_n 0, 1) := by decide +kernel
theorem dX5_rightRow_6 : decode cX5_rightRow 6 = .ok (.getfield 76, 3) := by decide +kernel
theorem dX5_rightRow_9 : decode cX5_rightRow 9 = .ok (.if_icmp .ge 21, 3) := by decide +kernel
theorem dX5_rightRow_12 : decode cX5_rightRow 12 = .ok (.iload_n 1, 1) := by decide +kernel
theorem dX5_rightRow_13 : decode cX5_rightRow 13 = .ok (.aload_n 0, 1) := by decide +kernel
theorem dX5_rightRow_14 : decode cX5_rightRow 14 = .ok (.getfield 43, 3) := by decide +kernel
theorem dX5_rightRow_17 : decode cX5_rightRow 17 = .ok (.arraylength, 1) := by decide +kernel
theorem dX5_rightRow_18 : decode cX5_rightRow 18 = .ok (.if_icmp .ge 12, 3) := by decide +kernel
theorem dX5_rightRow_21 : decode cX5_rightRow 21 = .ok (.aload_n 0, 1) := by decide +kernel
theorem dX5_rightRow_22 : decode cX5_rightRow 22 = .ok (.getfield 43, 3) := by decide +kernel
theorem dX5_rightRow_25 : decode cX5_rightRow 25 = .ok (.iload_n 1, 1) := by decide +kernel
theorem dX5_rightRow_26 : decode cX5_rightRow 26 = .ok (.aaload, 1) := by decide +kernel
theorem dX5_rightRow_27 : decode cX5_rightRow 27 = .ok (.goto 4, 3) := by decide +kernel
theorem dX5_rightRow_30 : decode cX5_rightRow 30 = .ok (.aconst_null, 1) := by decide +kernel
theorem dX5_rightRow_31 : decode cX5_rightRow 31 = .ok (.areturn, 1) := by decide +kernel
theorem dX5_eventRow_0 : decode cX5_eventRow 0 = .ok (.iload_n 1, 1) := by decide +kernel
theorem dX5_eventRow_1 : decode cX5_eventRow 1 = .ok (.ifCond .lt 29, 3) := by decide +kernel
theorem dX5_eventRow_4 : decode cX5_eventRow 4 = .ok (.iload_n 1, 1) := by decide +kernel
theorem dX5_eventRow_5 : decode cX5_eventRow 5 = .ok (.aload_n 0, 1) := by decide +kernel
theorem dX5_eventRow_6 : decode cX5_eventRow 6 = .ok (.getfield 85, 3) := by decide +kernel
theorem dX5_eventRow_9 : decode cX5_eventRow 9 = .ok (.if_icmp .ge 21, 3) := by decide +kernel
theorem dX5_eventRow_12 : decode cX5_eventRow 12 = .ok (.iload_n 1, 1) := by decide +kernel
theorem dX5_eventRow_13 : decode cX5_eventRow 13 = .ok (.aload_n 0, 1) := by decide +kernel
theorem dX5_eventRow_14 : decode cX5_eventRow 14 = .ok (.getfield 52, 3) := by decide +kernel
theorem dX5_eventRow_17 : decode cX5_eventRow 17 = .ok (.arraylength, 1) := by decide +kernel
theorem dX5_eventRow_18 : decode cX5_eventRow 18 = .ok (.if_icmp .ge 12, 3) := by decide +kernel
theorem dX5_eventRow_21 : decode cX5_eventRow 21 = .ok (.aload_n 0, 1) := by decide +kernel
theorem dX5_eventRow_22 : decode cX5_eventRow 22 = .ok (.getfield 52, 3) := by decide +kernel
theorem dX5_eventRow_25 : decode cX5_eventRow 25 = .ok (.iload_n 1, 1) := by decide +kernel
theorem dX5_eventRow_26 : decode cX5_eventRow 26 = .ok (.aaload, 1) := by decide +kernel
theorem dX5_eventRow_27 : decode cX5_eventRow 27 = .ok (.goto 4, 3) := by decide +kernel
theorem dX5_eventRow_30 : decode cX5_eventRow 30 = .ok (.aconst_null, 1) := by decide +kernel
theorem dX5_eventRow_31 : decode cX5_eventRow 31 = .ok (.areturn, 1) := by decide +kernel
theorem dX5_openDate_0 : decode cX5_openDate 0 = .ok (.iload_n 1, 1) := by decide +kernel
theorem dX5_openDate_1 : decode cX5_openDate 1 = .ok (.aload_n 0, 1) := by decide +kernel
theorem dX5_openDate_2 : decode cX5_openDate 2 = .ok (.getfield 61, 3) := by decide +kernel
theorem dX5_openDate_5 : decode cX5_openDate 5 = .ok (.if_icmp .le 21, 3) := by decide +kernel
theorem dX5_openDate_8 : decode cX5_openDate 8 = .ok (.iload_n 1, 1) := by decide +kernel
theorem dX5_openDate_9 : decode cX5_openDate 9 = .ok (.sipush 999, 3) := by decide +kernel
theorem dX5_openDate_12 : decode cX5_openDate 12 = .ok (.if_icmp .gt 14, 3) := by decide +kernel
theorem dX5_openDate_15 : decode cX5_openDate 15 = .ok (.iload_n 2, 1) := by decide +kernel
theorem dX5_openDate_16 : decode cX5_openDate 16 = .ok (.iconst 1, 1) := by decide +kernel
theorem dX5_openDate_17 : decode cX5_openDate 17 = .ok (.if_icmp .lt 9, 3) := by decide +kernel
theorem dX5_openDate_20 : decode cX5_openDate 20 = .ok (.iload_n 2, 1) := by decide +kernel
theorem dX5_openDate_21 : decode cX5_openDate 21 = .ok (.bipush 20, 2) := by decide +kernel
theorem dX5_openDate_23 : decode cX5_openDate 23 = .ok (.if_icmp .le 6, 3) := by decide +kernel
theorem dX5_openDate_26 : decode cX5_openDate 26 = .ok (.bipush (-2), 2) := by decide +kernel
theorem dX5_openDate_28 : decode cX5_openDate 28 = .ok (.ireturn, 1) := by decide +kernel
theorem dX5_openDate_29 : decode cX5_openDate 29 = .ok (.iload_n 3, 1) := by decide +kernel
theorem dX5_openDate_30 : decode cX5_openDate 30 = .ok (.ifCond .lt 33, 3) := by decide +kernel
theorem dX5_openDate_33 : decode cX5_openDate 33 = .ok (.iload_n 3, 1) := by decide +kernel
theorem dX5_openDate_34 : decode cX5_openDate 34 = .ok (.iconst 5, 1) := by decide +kernel
theorem dX5_openDate_35 : decode cX5_openDate 35 = .ok (.if_icmp .gt 28, 3) := by decide +kernel
theorem dX5_openDate_38 : decode cX5_openDate 38 = .ok (.iload 4, 2) := by decide +kernel
theorem dX5_openDate_40 : decode cX5_openDate 40 = .ok (.iconst 1, 1) := by decide +kernel
theorem dX5_openDate_41 : decode cX5_openDate 41 = .ok (.if_icmp .lt 22, 3) := by decide +kernel
theorem dX5_openDate_44 : decode cX5_openDate 44 = .ok (.iload 4, 2) := by decide +kernel
theorem dX5_openDate_46 : decode cX5_openDate 46 = .ok (.sipush 9999, 3) := by decide +kernel
theorem dX5_openDate_49 : decode cX5_openDate 49 = .ok (.if_icmp .gt 14, 3) := by decide +kernel
theorem dX5_openDate_52 : decode cX5_openDate 52 = .ok (.iload 5, 2) := by decide +kernel
theorem dX5_openDate_54 : decode cX5_openDate 54 = .ok (.ifCond .lt 9, 3) := by decide +kernel
theorem dX5_openDate_57 : decode cX5_openDate 57 = .ok (.iload 5, 2) := by decide +kernel
theorem dX5_openDate_59 : decode cX5_openDate 59 = .ok (.iconst 2, 1) := by decide +kernel
theorem dX5_openDate_60 : decode cX5_openDate 60 = .ok (.if_icmp .le 6, 3) := by decide +kernel
theorem dX5_openDate_63 : decode cX5_openDate 63 = .ok (.bipush (-2), 2) := by decide +kernel
theorem dX5_openDate_65 : decode cX5_openDate 65 = .ok (.ireturn, 1) := by decide +kernel
theorem dX5_openDate_66 : decode cX5_openDate 66 = .ok (.aload_n 0, 1) := by decide +kernel
theorem dX5_openDate_67 : decode cX5_openDate 67 = .ok (.getfield 69, 3) := by decide +kernel
theorem dX5_openDate_70 : decode cX5_openDate 70 = .ok (.aload_n 0, 1) := by decide +kernel
theorem dX5_openDate_71 : decode cX5_openDate 71 = .ok (.getfield 37, 3) := by decide +kernel
theorem dX5_openDate_74 : decode cX5_openDate 74 = .ok (.arraylength, 1) := by decide +kernel
theorem dX5_openDate_75 : decode cX5_openDate 75 = .ok (.if_icmp .lt 6, 3) := by decide +kernel
theorem dX5_openDate_78 : decode cX5_openDate 78 = .ok (.bipush (-3), 2) := by decide +kernel
theorem dX5_openDate_80 : decode cX5_openDate 80 = .ok (.ireturn, 1) := by decide +kernel
theorem dX5_openDate_81 : decode cX5_openDate 81 = .ok (.aload_n 0, 1) := by decide +kernel
theorem dX5_openDate_82 : decode cX5_openDate 82 = .ok (.getfield 37, 3) := by decide +kernel
theorem dX5_openDate_85 : decode cX5_openDate 85 = .ok (.aload_n 0, 1) := by decide +kernel
theorem dX5_openDate_86 : decode cX5_openDate 86 = .ok (.getfield 69, 3) := by decide +kernel
theorem dX5_openDate_89 : decode cX5_openDate 89 = .ok (.aaload, 1) := by decide +kernel
theorem dX5_openDate_90 : decode cX5_openDate 90 = .ok (.astore 6, 2) := by decide +kernel
theorem dX5_openDate_92 : decode cX5_openDate 92 = .ok (.aload 6, 2) := by decide +kernel
theorem dX5_openDate_94 : decode cX5_openDate 94 = .ok (.iload_n 1, 1) := by decide +kernel
theorem dX5_openDate_95 : decode cX5_openDate 95 = .ok (.putfield 91, 3) := by decide +kernel
theorem dX5_openDate_98 : decode cX5_openDate 98 = .ok (.aload 6, 2) := by decide +kernel
theorem dX5_openDate_100 : decode cX5_openDate 100 = .ok (.iload_n 2, 1) := by decide +kernel
theorem dX5_openDate_101 : decode cX5_openDate 101 = .ok (.putfield 92, 3) := by decide +kernel
theorem dX5_openDate_104 : decode cX5_openDate 104 = .ok (.aload 6, 2) := by decide +kernel
theorem dX5_openDate_106 : decode cX5_openDate 106 = .ok (.iload_n 3, 1) := by decide +kernel
theorem dX5_openDate_107 : decode cX5_openDate 107 = .ok (.putfield 95, 3) := by decide +kernel
theorem dX5_openDate_110 : decode cX5_openDate 110 = .ok (.aload 6, 2) := by decide +kernel
theorem dX5_openDate_112 : decode cX5_openDate 112 = .ok (.iload 4, 2) := by decide +kernel
theorem dX5_openDate_114 : decode cX5_openDate 114 = .ok (.putfield 98, 3) := by decide +kernel
theorem dX5_openDate_117 : decode cX5_openDate 117 = .ok (.aload 6, 2) := by decide +kernel
theorem dX5_openDate_119 : decode cX5_openDate 119 = .ok (.iload 5, 2) := by decide +kernel
theorem dX5_openDate_121 : decode cX5_openDate 121 = .ok (.putfield 101, 3) := by decide +kernel
theorem dX5_openDate_124 : decode cX5_openDate 124 = .ok (.aload 6, 2) := by decide +kernel
theorem dX5_openDate_126 : decode cX5_openDate 126 = .ok (.iconst 0, 1) := by decide +kernel
theorem dX5_openDate_127 : decode cX5_openDate 127 = .ok (.putfield 104, 3) := by decide +kernel
theorem dX5_openDate_130 : decode cX5_openDate 130 = .ok (.aload_n 0, 1) := by decide +kernel
theorem dX5_openDate_131 : decode cX5_openDate 131 = .ok (.dup, 1) := by decide +kernel
theorem dX5_openDate_132 : decode cX5_openDate 132 = .ok (.getfield 69, 3) := by decide +kernel
theorem dX5_openDate_135 : decode cX5_openDate 135 = .ok (.iconst 1, 1) := by decide +kernel
theorem dX5_openDate_136 : decode cX5_openDate 136 = .ok (.iadd, 1) := by decide +kernel
theorem dX5_openDate_137 : decode cX5_openDate 137 = .ok (.putfield 69, 3) := by decide +kernel
theorem dX5_openDate_140 : decode cX5_openDate 140 = .ok (.aload 6, 2) := by decide +kernel
theorem dX5_openDate_142 : decode cX5_openDate 142 = .ok (.getfield 107, 3) := by decide +kernel
theorem dX5_openDate_145 : decode cX5_openDate 145 = .ok (.ireturn, 1) := by decide +kernel
theorem dX5_changeStage_0 : decode cX5_changeStage 0 = .ok (.aload_n 0, 1) := by decide +kernel
theorem dX5_changeStage_1 : decode cX5_changeStage 1 = .ok (.iload_n 1, 1) := by decide +kernel
theorem dX5_changeStage_2 : decode cX5_changeStage 2 = .ok (.invokevirtual 110, 3) := by decide +kernel
theorem dX5_changeStage_5 : decode cX5_changeStage 5 = .ok (.ifCond .ne 5, 3) := by decide +kernel
theorem dX5_changeStage_8 : decode cX5_changeStage 8 = .ok (.iconst (-1), 1) := by decide +kernel
theorem dX5_changeStage_9 : decode cX5_changeStage 9 = .ok (.ireturn, 1) := by decide +kernel
theorem dX5_changeStage_10 : decode cX5_changeStage 10 = .ok (.aload_n 0, 1) := by decide +kernel
theorem dX5_changeStage_11 : decode cX5_changeStage 11 = .ok (.iload_n 1, 1) := by decide +kernel
theorem dX5_changeStage_12 : decode cX5_changeStage 12 = .ok (.iload_n 2, 1) := by decide +kernel
theorem dX5_changeStage_13 : decode cX5_changeStage 13 = .ok (.invokevirtual 114, 3) := by decide +kernel
theorem dX5_changeStage_16 : decode cX5_changeStage 16 = .ok (.ifCond .eq 13, 3) := by decide +kernel
theorem dX5_changeStage_19 : decode cX5_changeStage 19 = .ok (.iload_n 3, 1) := by decide +kernel
theorem dX5_changeStage_20 : decode cX5_changeStage 20 = .ok (.ifCond .lt 9, 3) := by decide +kernel
theorem dX5_changeStage_23 : decode cX5_changeStage 23 = .ok (.iload_n 3, 1) := by decide +kernel
theorem dX5_changeStage_24 : decode cX5_changeStage 24 = .ok (.bipush 100, 2) := by decide +kernel
theorem dX5_changeStage_26 : decode cX5_changeStage 26 = .ok (.if_icmp .le 6, 3) := by decide +kernel
theorem dX5_changeStage_29 : decode cX5_changeStage 29 = .ok (.bipush (-2), 2) := by decide +kernel
theorem dX5_changeStage_31 : decode cX5_changeStage 31 = .ok (.ireturn, 1) := by decide +kernel
theorem dX5_changeStage_32 : decode cX5_changeStage 32 = .ok (.aload_n 0, 1) := by decide +kernel
theorem dX5_changeStage_33 : decode cX5_changeStage 33 = .ok (.getfield 32, 3) := by decide +kernel
theorem dX5_changeStage_36 : decode cX5_changeStage 36 = .ok (.iload_n 1, 1) := by decide +kernel
theorem dX5_changeStage_37 : decode cX5_changeStage 37 = .ok (.iaload, 1) := by decide +kernel
theorem dX5_changeStage_38 : decode cX5_changeStage 38 = .ok (.istore 4, 2) := by decide +kernel
theorem dX5_changeStage_40 : decode cX5_changeStage 40 = .ok (.aload_n 0, 1) := by decide +kernel
theorem dX5_changeStage_41 : decode cX5_changeStage 41 = .ok (.getfield 26, 3) := by decide +kernel
theorem dX5_changeStage_44 : decode cX5_changeStage 44 = .ok (.iload_n 1, 1) := by decide +kernel
theorem dX5_changeStage_45 : decode cX5_changeStage 45 = .ok (.iaload, 1) := by decide +kernel
theorem dX5_changeStage_46 : decode cX5_changeStage 46 = .ok (.iload_n 2, 1) := by decide +kernel
theorem dX5_changeStage_47 : decode cX5_changeStage 47 = .ok (.if_icmp .ne 12, 3) := by decide +kernel
theorem dX5_changeStage_50 : decode cX5_changeStage 50 = .ok (.iload 4, 2) := by decide +kernel
theorem dX5_changeStage_52 : decode cX5_changeStage 52 = .ok (.iload_n 3, 1) := by decide +kernel
theorem dX5_changeStage_53 : decode cX5_changeStage 53 = .ok (.if_icmp .ne 6, 3) := by decide +kernel
theorem dX5_changeStage_56 : decode cX5_changeStage 56 = .ok (.bipush (-5), 2) := by decide +kernel
theorem dX5_changeStage_58 : decode cX5_changeStage 58 = .ok (.ireturn, 1) := by decide +kernel
theorem dX5_changeStage_59 : decode cX5_changeStage 59 = .ok (.aload_n 0, 1) := by decide +kernel
theorem dX5_changeStage_60 : decode cX5_changeStage 60 = .ok (.getfield 26, 3) := by decide +kernel
theorem dX5_changeStage_63 : decode cX5_changeStage 63 = .ok (.iload_n 1, 1) := by decide +kernel
theorem dX5_changeStage_64 : decode cX5_changeStage 64 = .ok (.iload_n 2, 1) := by decide +kernel
theorem dX5_changeStage_65 : decode cX5_changeStage 65 = .ok (.iastore, 1) := by decide +kernel
theorem dX5_changeStage_66 : decode cX5_changeStage 66 = .ok (.aload_n 0, 1) := by decide +kernel
theorem dX5_changeStage_67 : decode cX5_changeStage 67 = .ok (.getfield 32, 3) := by decide +kernel
theorem dX5_changeStage_70 : decode cX5_changeStage 70 = .ok (.iload_n 1, 1) := by decide +kernel
theorem dX5_changeStage_71 : decode cX5_changeStage 71 = .ok (.iload_n 3, 1) := by decide +kernel
theorem dX5_changeStage_72 : decode cX5_changeStage 72 = .ok (.iastore, 1) := by decide +kernel
theorem dX5_changeStage_73 : decode cX5_changeStage 73 = .ok (.iload 4, 2) := by decide +kernel
theorem dX5_changeStage_75 : decode cX5_changeStage 75 = .ok (.ireturn, 1) := by decide +kernel
theorem dX5_isStage_0 : decode cX5_isStage 0 = .ok (.iload_n 1, 1) := by decide +kernel
theorem dX5_isStage_1 : decode cX5_isStage 1 = .ok (.ifCond .lt 16, 3) := by decide +kernel
theorem dX5_isStage_4 : decode cX5_isStage 4 = .ok (.iload_n 1, 1) := by decide +kernel
theorem dX5_isStage_5 : decode cX5_isStage 5 = .ok (.aload_n 0, 1) := by decide +kernel
theorem dX5_isStage_6 : decode cX5_isStage 6 = .ok (.getfield 26, 3) := by decide +kernel
theorem dX5_isStage_9 : decode cX5_isStage 9 = .ok (.arraylength, 1) := by decide +kernel
theorem dX5_isStage_10 : decode cX5_isStage 10 = .ok (.if_icmp .ge 7, 3) := by decide +kernel
theorem dX5_isStage_13 : decode cX5_isStage 13 = .ok (.iconst 1, 1) := by decide +kernel
theorem dX5_isStage_14 : decode cX5_isStage 14 = .ok (.goto 4, 3) := by decide +kernel
theorem dX5_isStage_17 : decode cX5_isStage 17 = .ok (.iconst 0, 1) := by decide +kernel
theorem dX5_isStage_18 : decode cX5_isStage 18 = .ok (.ireturn, 1) := by decide +kernel
theorem dX5_fitsStage_0 : decode cX5_fitsStage 0 = .ok (.aload_n 0, 1) := by decide +kernel
theorem dX5_fitsStage_1 : decode cX5_fitsStage 1 = .ok (.iload_n 1, 1) := by decide +kernel
theorem dX5_fitsStage_2 : decode cX5_fitsStage 2 = .ok (.iconst 1, 1) := by decide +kernel
theorem dX5_fitsStage_3 : decode cX5_fitsStage 3 = .ok (.isub, 1) := by decide +kernel
theorem dX5_fitsStage_4 : decode cX5_fitsStage 4 = .ok (.invokevirtual 110, 3) := by decide +kernel
theorem dX5_fitsStage_7 : decode cX5_fitsStage 7 = .ok (.ifCond .eq 16, 3) := by decide +kernel
theorem dX5_fitsStage_10 : decode cX5_fitsStage 10 = .ok (.aload_n 0, 1) := by decide +kernel
theorem dX5_fitsStage_11 : decode cX5_fitsStage 11 = .ok (.getfield 26, 3) := by decide +kernel
theorem dX5_fitsStage_14 : decode cX5_fitsStage 14 = .ok (.iload_n 1, 1) := by decide +kernel
theorem dX5_fitsStage_15 : decode cX5_fitsStage 15 = .ok (.iconst 1, 1) := by decide +kernel
theorem dX5_fitsStage_16 : decode cX5_fitsStage 16 = .ok (.isub, 1) := by decide +kernel
theorem dX5_fitsStage_17 : decode cX5_fitsStage 17 = .ok (.iaload, 1) := by decide +kernel
theorem dX5_fitsStage_18 : decode cX5_fitsStage 18 = .ok (.iconst 1, 1) := by decide +kernel
theorem dX5_fitsStage_19 : decode cX5_fitsStage 19 = .ok (.isub, 1) := by decide +kernel
theorem dX5_fitsStage_20 : decode cX5_fitsStage 20 = .ok (.goto 5, 3) := by decide +kernel
theorem dX5_fitsStage_23 : decode cX5_fitsStage 23 = .ok (.bipush 99, 2) := by decide +kernel
theorem dX5_fitsStage_25 : decode cX5_fitsStage 25 = .ok (.istore_n 3, 1) := by decide +kernel
theorem dX5_fitsStage_26 : decode cX5_fitsStage 26 = .ok (.aload_n 0, 1) := by decide +kernel
theorem dX5_fitsStage_27 : decode cX5_fitsStage 27 = .ok (.iload_n 1, 1) := by decide +kernel
theorem dX5_fitsStage_28 : decode cX5_fitsStage 28 = .ok (.iconst 1, 1) := by decide +kernel
theorem dX5_fitsStage_29 : decode cX5_fitsStage 29 = .ok (.iadd, 1) := by decide +kernel
theorem dX5_fitsStage_30 : decode cX5_fitsStage 30 = .ok (.invokevirtual 110, 3) := by decide +kernel
theorem dX5_fitsStage_33 : decode cX5_fitsStage 33 = .ok (.ifCond .ne 13, 3) := by decide +kernel
theorem dX5_fitsStage_36 : decode cX5_fitsStage 36 = .ok (.iload_n 2, 1) := by decide +kernel
theorem dX5_fitsStage_37 : decode cX5_fitsStage 37 = .ok (.ifCond .ne 7, 3) := by decide +kernel
theorem dX5_fitsStage_40 : decode cX5_fitsStage 40 = .ok (.iconst 1, 1) := by decide +kernel
theorem dX5_fitsStage_41 : decode cX5_fitsStage 41 = .ok (.goto 4, 3) := by decide +kernel
theorem dX5_fitsStage_44 : decode cX5_fitsStage 44 = .ok (.iconst 0, 1) := by decide +kernel
theorem dX5_fitsStage_45 : decode cX5_fitsStage 45 = .ok (.ireturn, 1) := by decide +kernel
theorem dX5_fitsStage_46 : decode cX5_fitsStage 46 = .ok (.iload_n 2, 1) := by decide +kernel
theorem dX5_fitsStage_47 : decode cX5_fitsStage 47 = .ok (.iload_n 3, 1) := by decide +kernel
theorem dX5_fitsStage_48 : decode cX5_fitsStage 48 = .ok (.if_icmp .gt 19, 3) := by decide +kernel
theorem dX5_fitsStage_51 : decode cX5_fitsStage 51 = .ok (.iload_n 2, 1) := by decide +kernel
theorem dX5_fitsStage_52 : decode cX5_fitsStage 52 = .ok (.aload_n 0, 1) := by decide +kernel
theorem dX5_fitsStage_53 : decode cX5_fitsStage 53 = .ok (.getfield 26, 3) := by decide +kernel
theorem dX5_fitsStage_56 : decode cX5_fitsStage 56 = .ok (.iload_n 1, 1) := by decide +kernel
theorem dX5_fitsStage_57 : decode cX5_fitsStage 57 = .ok (.iconst 1, 1) := by decide +kernel
theorem dX5_fitsStage_58 : decode cX5_fitsStage 58 = .ok (.iadd, 1) := by decide +kernel
theorem dX5_fitsStage_59 : decode cX5_fitsStage 59 = .ok (.iaload, 1) := by decide +kernel
theorem dX5_fitsStage_60 : decode cX5_fitsStage 60 = .ok (.if_icmp .le 7, 3) := by decide +kernel
theorem dX5_fitsStage_63 : decode cX5_fitsStage 63 = .ok (.iconst 1, 1) := by decide +kernel
theorem dX5_fitsStage_64 : decode cX5_fitsStage 64 = .ok (.goto 4, 3) := by decide +kernel
theorem dX5_fitsStage_67 : decode cX5_fitsStage 67 = .ok (.iconst 0, 1) := by decide +kernel
theorem dX5_fitsStage_68 : decode cX5_fitsStage 68 = .ok (.ireturn, 1) := by decide +kernel
theorem dX5_changeNumber_0 : decode cX5_changeNumber 0 = .ok (.iload_n 1, 1) := by decide +kernel
theorem dX5_changeNumber_1 : decode cX5_changeNumber 1 = .ok (.ifCond .lt 12, 3) := by decide +kernel
theorem dX5_changeNumber_4 : decode cX5_changeNumber 4 = .ok (.iload_n 1, 1) := by decide +kernel
theorem dX5_changeNumber_5 : decode cX5_changeNumber 5 = .ok (.aload_n 0, 1) := by decide +kernel
theorem dX5_changeNumber_6 : decode cX5_changeNumber 6 = .ok (.getfield 18, 3) := by decide +kernel
theorem dX5_changeNumber_9 : decode cX5_changeNumber 9 = .ok (.arraylength, 1) := by decide +kernel
theorem dX5_changeNumber_10 : decode cX5_changeNumber 10 = .ok (.if_icmp .lt 6, 3) := by decide +kernel
theorem dX5_changeNumber_13 : decode cX5_changeNumber 13 = .ok (.bipush (-2), 2) := by decide +kernel
theorem dX5_changeNumber_15 : decode cX5_changeNumber 15 = .ok (.ireturn, 1) := by decide +kernel
theorem dX5_changeNumber_16 : decode cX5_changeNumber 16 = .ok (.iload_n 2, 1) := by decide +kernel
theorem dX5_changeNumber_17 : decode cX5_changeNumber 17 = .ok (.getstatic 118, 3) := by decide +kernel
theorem dX5_changeNumber_20 : decode cX5_changeNumber 20 = .ok (.iload_n 1, 1) := by decide +kernel
theorem dX5_changeNumber_21 : decode cX5_changeNumber 21 = .ok (.iaload, 1) := by decide +kernel
theorem dX5_changeNumber_22 : decode cX5_changeNumber 22 = .ok (.if_icmp .lt 12, 3) := by decide +kernel
theorem dX5_changeNumber_25 : decode cX5_changeNumber 25 = .ok (.iload_n 2, 1) := by decide +kernel
theorem dX5_changeNumber_26 : decode cX5_changeNumber 26 = .ok (.getstatic 121, 3) := by decide +kernel
theorem dX5_changeNumber_29 : decode cX5_changeNumber 29 = .ok (.iload_n 1, 1) := by decide +kernel
theorem dX5_changeNumber_30 : decode cX5_changeNumber 30 = .ok (.iaload, 1) := by decide +kernel
theorem dX5_changeNumber_31 : decode cX5_changeNumber 31 = .ok (.if_icmp .le 6, 3) := by decide +kernel
theorem dX5_changeNumber_34 : decode cX5_changeNumber 34 = .ok (.bipush (-2), 2) := by decide +kernel
theorem dX5_changeNumber_36 : decode cX5_changeNumber 36 = .ok (.ireturn, 1) := by decide +kernel
theorem dX5_changeNumber_37 : decode cX5_changeNumber 37 = .ok (.aload_n 0, 1) := by decide +kernel
theorem dX5_changeNumber_38 : decode cX5_changeNumber 38 = .ok (.getfield 18, 3) := by decide +kernel
theorem dX5_changeNumber_41 : decode cX5_changeNumber 41 = .ok (.iload_n 1, 1) := by decide +kernel
theorem dX5_changeNumber_42 : decode cX5_changeNumber 42 = .ok (.iaload, 1) := by decide +kernel
theorem dX5_changeNumber_43 : decode cX5_changeNumber 43 = .ok (.istore_n 3, 1) := by decide +kernel
theorem dX5_changeNumber_44 : decode cX5_changeNumber 44 = .ok (.iload_n 3, 1) := by decide +kernel
theorem dX5_changeNumber_45 : decode cX5_changeNumber 45 = .ok (.iload_n 2, 1) := by decide +kernel
theorem dX5_changeNumber_46 : decode cX5_changeNumber 46 = .ok (.if_icmp .ne 6, 3) := by decide +kernel
theorem dX5_changeNumber_49 : decode cX5_changeNumber 49 = .ok (.bipush (-5), 2) := by decide +kernel
theorem dX5_changeNumber_51 : decode cX5_changeNumber 51 = .ok (.ireturn, 1) := by decide +kernel
theorem dX5_changeNumber_52 : decode cX5_changeNumber 52 = .ok (.aload_n 0, 1) := by decide +kernel
theorem dX5_changeNumber_53 : decode cX5_changeNumber 53 = .ok (.getfield 18, 3) := by decide +kernel
theorem dX5_changeNumber_56 : decode cX5_changeNumber 56 = .ok (.iload_n 1, 1) := by decide +kernel
theorem dX5_changeNumber_57 : decode cX5_changeNumber 57 = .ok (.iload_n 2, 1) := by decide +kernel
theorem dX5_changeNumber_58 : decode cX5_changeNumber 58 = .ok (.iastore, 1) := by decide +kernel
theorem dX5_changeNumber_59 : decode cX5_changeNumber 59 = .ok (.iload_n 3, 1) := by decide +kernel
theorem dX5_changeNumber_60 : decode cX5_changeNumber 60 = .ok (.ireturn, 1) := by decide +kernel
theorem dX5_sellTo_0 : decode cX5_sellTo 0 = .ok (.aload_n 0, 1) := by decide +kernel
theorem dX5_sellTo_1 : decode cX5_sellTo 1 = .ok (.iload_n 2, 1) := by decide +kernel
theorem dX5_sellTo_2 : decode cX5_sellTo 2 = .ok (.invokevirtual 124, 3) := by decide +kernel
theorem dX5_sellTo_5 : decode cX5_sellTo 5 = .ok (.astore_n 3, 1) := by decide +kernel
theorem dX5_sellTo_6 : decode cX5_sellTo 6 = .ok (.iload_n 1, 1) := by decide +kernel
theorem dX5_sellTo_7 : decode cX5_sellTo 7 = .ok (.invokestatic 128, 3) := by decide +kernel
theorem dX5_sellTo_10 : decode cX5_sellTo 10 = .ok (.ifCond .eq 7, 3) := by decide +kernel
theorem dX5_sellTo_13 : decode cX5_sellTo 13 = .ok (.aload_n 3, 1) := by decide +kernel
theorem dX5_sellTo_14 : decode cX5_sellTo 14 = .ok (.ifnonnull 5, 3) := by decide +kernel
theorem dX5_sellTo_17 : decode cX5_sellTo 17 = .ok (.iconst (-1), 1) := by decide +kernel
theorem dX5_sellTo_18 : decode cX5_sellTo 18 = .ok (.ireturn, 1) := by decide +kernel
theorem dX5_sellTo_19 : decode cX5_sellTo 19 = .ok (.aload_n 0, 1) := by decide +kernel
theorem dX5_sellTo_20 : decode cX5_sellTo 20 = .ok (.aload_n 3, 1) := by decide +kernel
theorem dX5_sellTo_21 : decode cX5_sellTo 21 = .ok (.invokevirtual 131, 3) := by decide +kernel
theorem dX5_sellTo_24 : decode cX5_sellTo 24 = .ok (.ifCond .ne 6, 3) := by decide +kernel
theorem dX5_sellTo_27 : decode cX5_sellTo 27 = .ok (.bipush (-4), 2) := by decide +kernel
theorem dX5_sellTo_29 : decode cX5_sellTo 29 = .ok (.ireturn, 1) := by decide +kernel
theorem dX5_sellTo_30 : decode cX5_sellTo 30 = .ok (.aload_n 0, 1) := by decide +kernel
theorem dX5_sellTo_31 : decode cX5_sellTo 31 = .ok (.iload_n 1, 1) := by decide +kernel
theorem dX5_sellTo_32 : decode cX5_sellTo 32 = .ok (.aload_n 3, 1) := by decide +kernel
theorem dX5_sellTo_33 : decode cX5_sellTo 33 = .ok (.invokevirtual 135, 3) := by decide +kernel
theorem dX5_sellTo_36 : decode cX5_sellTo 36 = .ok (.ireturn, 1) := by decide +kernel
theorem dX5_resellTo_0 : decode cX5_resellTo 0 = .ok (.aload_n 0, 1) := by decide +kernel
theorem dX5_resellTo_1 : decode cX5_resellTo 1 = .ok (.iload_n 2, 1) := by decide +kernel
theorem dX5_resellTo_2 : decode cX5_resellTo 2 = .ok (.invokevirtual 124, 3) := by decide +kernel
theorem dX5_resellTo_5 : decode cX5_resellTo 5 = .ok (.astore_n 3, 1) := by decide +kernel
theorem dX5_resellTo_6 : decode cX5_resellTo 6 = .ok (.iload_n 1, 1) := by decide +kernel
theorem dX5_resellTo_7 : decode cX5_resellTo 7 = .ok (.invokestatic 128, 3) := by decide +kernel
theorem dX5_resellTo_10 : decode cX5_resellTo 10 = .ok (.ifCond .eq 7, 3) := by decide +kernel
theorem dX5_resellTo_13 : decode cX5_resellTo 13 = .ok (.aload_n 3, 1) := by decide +kernel
theorem dX5_resellTo_14 : decode cX5_resellTo 14 = .ok (.ifnonnull 5, 3) := by decide +kernel
theorem dX5_resellTo_17 : decode cX5_resellTo 17 = .ok (.iconst (-1), 1) := by decide +kernel
theorem dX5_resellTo_18 : decode cX5_resellTo 18 = .ok (.ireturn, 1) := by decide +kernel
theorem dX5_resellTo_19 : decode cX5_resellTo 19 = .ok (.aload_n 0, 1) := by decide +kernel
theorem dX5_resellTo_20 : decode cX5_resellTo 20 = .ok (.aload_n 3, 1) := by decide +kernel
theorem dX5_resellTo_21 : decode cX5_resellTo 21 = .ok (.invokevirtual 139, 3) := by decide +kernel
theorem dX5_resellTo_24 : decode cX5_resellTo 24 = .ok (.astore 4, 2) := by decide +kernel
theorem dX5_resellTo_26 : decode cX5_resellTo 26 = .ok (.aload 4, 2) := by decide +kernel
theorem dX5_resellTo_28 : decode cX5_resellTo 28 = .ok (.ifnull 12, 3) := by decide +kernel
theorem dX5_resellTo_31 : decode cX5_resellTo 31 = .ok (.aload 4, 2) := by decide +kernel
theorem dX5_resellTo_33 : decode cX5_resellTo 33 = .ok (.getfield 143, 3) := by decide +kernel
theorem dX5_resellTo_36 : decode cX5_resellTo 36 = .ok (.iload_n 1, 1) := by decide +kernel
theorem dX5_resellTo_37 : decode cX5_resellTo 37 = .ok (.if_icmp .ne 6, 3) := by decide +kernel
theorem dX5_resellTo_40 : decode cX5_resellTo 40 = .ok (.bipush (-4), 2) := by decide +kernel
theorem dX5_resellTo_42 : decode cX5_resellTo 42 = .ok (.ireturn, 1) := by decide +kernel
theorem dX5_resellTo_43 : decode cX5_resellTo 43 = .ok (.aload 4, 2) := by decide +kernel
theorem dX5_resellTo_45 : decode cX5_resellTo 45 = .ok (.getfield 146, 3) := by decide +kernel
theorem dX5_resellTo_48 : decode cX5_resellTo 48 = .ok (.istore 5, 2) := by decide +kernel
theorem dX5_resellTo_50 : decode cX5_resellTo 50 = .ok (.aload_n 0, 1) := by decide +kernel
theorem dX5_resellTo_51 : decode cX5_resellTo 51 = .ok (.iload_n 1, 1) := by decide +kernel
theorem dX5_resellTo_52 : decode cX5_resellTo 52 = .ok (.iload 5, 2) := by decide +kernel
theorem dX5_resellTo_54 : decode cX5_resellTo 54 = .ok (.ineg, 1) := by decide +kernel
theorem dX5_resellTo_55 : decode cX5_resellTo 55 = .ok (.invokevirtual 149, 3) := by decide +kernel
theorem dX5_resellTo_58 : decode cX5_resellTo 58 = .ok (.aload_n 0, 1) := by decide +kernel
theorem dX5_resellTo_59 : decode cX5_resellTo 59 = .ok (.aload 4, 2) := by decide +kernel
theorem dX5_resellTo_61 : decode cX5_resellTo 61 = .ok (.getfield 143, 3) := by decide +kernel
theorem dX5_resellTo_64 : decode cX5_resellTo 64 = .ok (.iload 5, 2) := by decide +kernel
theorem dX5_resellTo_66 : decode cX5_resellTo 66 = .ok (.iload 5, 2) := by decide +kernel
theorem dX5_resellTo_68 : decode cX5_resellTo 68 = .ok (.aload_n 0, 1) := by decide +kernel
theorem dX5_resellTo_69 : decode cX5_resellTo 69 = .ok (.getfield 18, 3) := by decide +kernel
theorem dX5_resellTo_72 : decode cX5_resellTo 72 = .ok (.iconst 1, 1) := by decide +kernel
theorem dX5_resellTo_73 : decode cX5_resellTo 73 = .ok (.iaload, 1) := by decide +kernel
theorem dX5_resellTo_74 : decode cX5_resellTo 74 = .ok (.imul, 1) := by decide +kernel
theorem dX5_resellTo_75 : decode cX5_resellTo 75 = .ok (.bipush 100, 2) := by decide +kernel
theorem dX5_resellTo_77 : decode cX5_resellTo 77 = .ok (.idiv, 1) := by decide +kernel
theorem dX5_resellTo_78 : decode cX5_resellTo 78 = .ok (.isub, 1) := by decide +kernel
theorem dX5_resellTo_79 : decode cX5_resellTo 79 = .ok (.invokevirtual 149, 3) := by decide +kernel
theorem dX5_resellTo_82 : decode cX5_resellTo 82 = .ok (.aload 4, 2) := by decide +kernel
theorem dX5_resellTo_84 : decode cX5_resellTo 84 = .ok (.iload_n 1, 1) := by decide +kernel
theorem dX5_resellTo_85 : decode cX5_resellTo 85 = .ok (.putfield 143, 3) := by decide +kernel
theorem dX5_resellTo_88 : decode cX5_resellTo 88 = .ok (.aload 4, 2) := by decide +kernel
theorem dX5_resellTo_90 : decode cX5_resellTo 90 = .ok (.dup, 1) := by decide +kernel
theorem dX5_resellTo_91 : decode cX5_resellTo 91 = .ok (.getfield 153, 3) := by decide +kernel
theorem dX5_resellTo_94 : decode cX5_resellTo 94 = .ok (.iconst 1, 1) := by decide +kernel
theorem dX5_resellTo_95 : decode cX5_resellTo 95 = .ok (.iadd, 1) := by decide +kernel
theorem dX5_resellTo_96 : decode cX5_resellTo 96 = .ok (.putfield 153, 3) := by decide +kernel
theorem dX5_resellTo_99 : decode cX5_resellTo 99 = .ok (.aload 4, 2) := by decide +kernel
theorem dX5_resellTo_101 : decode cX5_resellTo 101 = .ok (.iconst 0, 1) := by decide +kernel
theorem dX5_resellTo_102 : decode cX5_resellTo 102 = .ok (.iconst 0, 1) := by decide +kernel
theorem dX5_resellTo_103 : decode cX5_resellTo 103 = .ok (.invokevirtual 156, 3) := by decide +kernel
theorem dX5_resellTo_106 : decode cX5_resellTo 106 = .ok (.aload_n 0, 1) := by decide +kernel
theorem dX5_resellTo_107 : decode cX5_resellTo 107 = .ok (.iconst 1, 1) := by decide +kernel
theorem dX5_resellTo_108 : decode cX5_resellTo 108 = .ok (.aload 4, 2) := by decide +kernel
theorem dX5_resellTo_110 : decode cX5_resellTo 110 = .ok (.iload 5, 2) := by decide +kernel
theorem dX5_resellTo_112 : decode cX5_resellTo 112 = .ok (.invokevirtual 159, 3) := by decide +kernel
theorem dX5_resellTo_115 : decode cX5_resellTo 115 = .ok (.aload 4, 2) := by decide +kernel
theorem dX5_resellTo_117 : decode cX5_resellTo 117 = .ok (.getfield 163, 3) := by decide +kernel
theorem dX5_resellTo_120 : decode cX5_resellTo 120 = .ok (.ireturn, 1) := by decide +kernel
theorem dX5_cancelRight_0 : decode cX5_cancelRight 0 = .ok (.aload_n 0, 1) := by decide +kernel
theorem dX5_cancelRight_1 : decode cX5_cancelRight 1 = .ok (.iload_n 1, 1) := by decide +kernel
theorem dX5_cancelRight_2 : decode cX5_cancelRight 2 = .ok (.invokevirtual 164, 3) := by decide +kernel
theorem dX5_cancelRight_5 : decode cX5_cancelRight 5 = .ok (.astore_n 2, 1) := by decide +kernel
theorem dX5_cancelRight_6 : decode cX5_cancelRight 6 = .ok (.aload_n 2, 1) := by decide +kernel
theorem dX5_cancelRight_7 : decode cX5_cancelRight 7 = .ok (.ifnonnull 5, 3) := by decide +kernel
theorem dX5_cancelRight_10 : decode cX5_cancelRight 10 = .ok (.iconst (-1), 1) := by decide +kernel
theorem dX5_cancelRight_11 : decode cX5_cancelRight 11 = .ok (.ireturn, 1) := by decide +kernel
theorem dX5_cancelRight_12 : decode cX5_cancelRight 12 = .ok (.aload_n 0, 1) := by decide +kernel
theorem dX5_cancelRight_13 : decode cX5_cancelRight 13 = .ok (.aload_n 2, 1) := by decide +kernel
theorem dX5_cancelRight_14 : decode cX5_cancelRight 14 = .ok (.invokevirtual 168, 3) := by decide +kernel
theorem dX5_cancelRight_17 : decode cX5_cancelRight 17 = .ok (.istore_n 3, 1) := by decide +kernel
theorem dX5_cancelRight_18 : decode cX5_cancelRight 18 = .ok (.aload_n 0, 1) := by decide +kernel
theorem dX5_cancelRight_19 : decode cX5_cancelRight 19 = .ok (.aload_n 2, 1) := by decide +kernel
theorem dX5_cancelRight_20 : decode cX5_cancelRight 20 = .ok (.getfield 172, 3) := by decide +kernel
theorem dX5_cancelRight_23 : decode cX5_cancelRight 23 = .ok (.invokevirtual 124, 3) := by decide +kernel
theorem dX5_cancelRight_26 : decode cX5_cancelRight 26 = .ok (.astore 4, 2) := by decide +kernel
theorem dX5_cancelRight_28 : decode cX5_cancelRight 28 = .ok (.iload_n 3, 1) := by decide +kernel
theorem dX5_cancelRight_29 : decode cX5_cancelRight 29 = .ok (.bipush (-5), 2) := by decide +kernel
theorem dX5_cancelRight_31 : decode cX5_cancelRight 31 = .ok (.if_icmp .eq 8, 3) := by decide +kernel
theorem dX5_cancelRight_34 : decode cX5_cancelRight 34 = .ok (.aload 4, 2) := by decide +kernel
theorem dX5_cancelRight_36 : decode cX5_cancelRight 36 = .ok (.ifnonnull 6, 3) := by decide +kernel
theorem dX5_cancelRight_39 : decode cX5_cancelRight 39 = .ok (.bipush (-4), 2) := by decide +kernel
theorem dX5_cancelRight_41 : decode cX5_cancelRight 41 = .ok (.ireturn, 1) := by decide +kernel
theorem dX5_cancelRight_42 : decode cX5_cancelRight 42 = .ok (.aload_n 2, 1) := by decide +kernel
theorem dX5_cancelRight_43 : decode cX5_cancelRight 43 = .ok (.iconst 3, 1) := by decide +kernel
theorem dX5_cancelRight_44 : decode cX5_cancelRight 44 = .ok (.iconst 0, 1) := by decide +kernel
theorem dX5_cancelRight_45 : decode cX5_cancelRight 45 = .ok (.invokevirtual 156, 3) := by decide +kernel
theorem dX5_cancelRight_48 : decode cX5_cancelRight 48 = .ok (.aload_n 0, 1) := by decide +kernel
theorem dX5_cancelRight_49 : decode cX5_cancelRight 49 = .ok (.aload_n 2, 1) := by decide +kernel
theorem dX5_cancelRight_50 : decode cX5_cancelRight 50 = .ok (.getfield 143, 3) := by decide +kernel
theorem dX5_cancelRight_53 : decode cX5_cancelRight 53 = .ok (.iload_n 3, 1) := by decide +kernel
theorem dX5_cancelRight_54 : decode cX5_cancelRight 54 = .ok (.invokevirtual 149, 3) := by decide +kernel
theorem dX5_cancelRight_57 : decode cX5_cancelRight 57 = .ok (.aload_n 0, 1) := by decide +kernel
theorem dX5_cancelRight_58 : decode cX5_cancelRight 58 = .ok (.iconst 4, 1) := by decide +kernel
theorem dX5_cancelRight_59 : decode cX5_cancelRight 59 = .ok (.aload_n 2, 1) := by decide +kernel
theorem dX5_cancelRight_60 : decode cX5_cancelRight 60 = .ok (.iload_n 3, 1) := by decide +kernel
theorem dX5_cancelRight_61 : decode cX5_cancelRight 61 = .ok (.invokevirtual 159, 3) := by decide +kernel
theorem dX5_cancelRight_64 : decode cX5_cancelRight 64 = .ok (.aload_n 0, 1) := by decide +kernel
theorem dX5_cancelRight_65 : decode cX5_cancelRight 65 = .ok (.aload 4, 2) := by decide +kernel
theorem dX5_cancelRight_67 : decode cX5_cancelRight 67 = .ok (.invokevirtual 175, 3) := by decide +kernel
theorem dX5_cancelRight_70 : decode cX5_cancelRight 70 = .ok (.iload_n 3, 1) := by decide +kernel
theorem dX5_cancelRight_71 : decode cX5_cancelRight 71 = .ok (.ireturn, 1) := by decide +kernel
theorem dX5_offerRight_0 : decode cX5_offerRight 0 = .ok (.aload_n 0, 1) := by decide +kernel
theorem dX5_offerRight_1 : decode cX5_offerRight 1 = .ok (.iload_n 1, 1) := by decide +kernel
theorem dX5_offerRight_2 : decode cX5_offerRight 2 = .ok (.invokevirtual 164, 3) := by decide +kernel
theorem dX5_offerRight_5 : decode cX5_offerRight 5 = .ok (.astore_n 3, 1) := by decide +kernel
theorem dX5_offerRight_6 : decode cX5_offerRight 6 = .ok (.aload_n 3, 1) := by decide +kernel
theorem dX5_offerRight_7 : decode cX5_offerRight 7 = .ok (.ifnonnull 5, 3) := by decide +kernel
theorem dX5_offerRight_10 : decode cX5_offerRight 10 = .ok (.iconst (-1), 1) := by decide +kernel
theorem dX5_offerRight_11 : decode cX5_offerRight 11 = .ok (.ireturn, 1) := by decide +kernel
theorem dX5_offerRight_12 : decode cX5_offerRight 12 = .ok (.aload_n 0, 1) := by decide +kernel
theorem dX5_offerRight_13 : decode cX5_offerRight 13 = .ok (.aload_n 3, 1) := by decide +kernel
theorem dX5_offerRight_14 : decode cX5_offerRight 14 = .ok (.getfield 172, 3) := by decide +kernel
theorem dX5_offerRight_17 : decode cX5_offerRight 17 = .ok (.invokevirtual 124, 3) := by decide +kernel
theorem dX5_offerRight_20 : decode cX5_offerRight 20 = .ok (.astore 4, 2) := by decide +kernel
theorem dX5_offerRight_22 : decode cX5_offerRight 22 = .ok (.aload_n 3, 1) := by decide +kernel
theorem dX5_offerRight_23 : decode cX5_offerRight 23 = .ok (.invokevirtual 178, 3) := by decide +kernel
theorem dX5_offerRight_26 : decode cX5_offerRight 26 = .ok (.ifCond .eq 8, 3) := by decide +kernel
theorem dX5_offerRight_29 : decode cX5_offerRight 29 = .ok (.aload 4, 2) := by decide +kernel
theorem dX5_offerRight_31 : decode cX5_offerRight 31 = .ok (.ifnonnull 6, 3) := by decide +kernel
theorem dX5_offerRight_34 : decode cX5_offerRight 34 = .ok (.bipush (-4), 2) := by decide +kernel
theorem dX5_offerRight_36 : decode cX5_offerRight 36 = .ok (.ireturn, 1) := by decide +kernel
theorem dX5_offerRight_37 : decode cX5_offerRight 37 = .ok (.iload_n 2, 1) := by decide +kernel
theorem dX5_offerRight_38 : decode cX5_offerRight 38 = .ok (.iconst 1, 1) := by decide +kernel
theorem dX5_offerRight_39 : decode cX5_offerRight 39 = .ok (.if_icmp .lt 14, 3) := by decide +kernel
theorem dX5_offerRight_42 : decode cX5_offerRight 42 = .ok (.iload_n 2, 1) := by decide +kernel
theorem dX5_offerRight_43 : decode cX5_offerRight 43 = .ok (.iconst 2, 1) := by decide +kernel
theorem dX5_offerRight_44 : decode cX5_offerRight 44 = .ok (.aload 4, 2) := by decide +kernel
theorem dX5_offerRight_46 : decode cX5_offerRight 46 = .ok (.getfield 98, 3) := by decide +kernel
theorem dX5_offerRight_49 : decode cX5_offerRight 49 = .ok (.imul, 1) := by decide +kernel
theorem dX5_offerRight_50 : decode cX5_offerRight 50 = .ok (.if_icmp .le 6, 3) := by decide +kernel
theorem dX5_offerRight_53 : decode cX5_offerRight 53 = .ok (.bipush (-2), 2) := by decide +kernel
theorem dX5_offerRight_55 : decode cX5_offerRight 55 = .ok (.ireturn, 1) := by decide +kernel
theorem dX5_offerRight_56 : decode cX5_offerRight 56 = .ok (.aload_n 3, 1) := by decide +kernel
theorem dX5_offerRight_57 : decode cX5_offerRight 57 = .ok (.getfield 146, 3) := by decide +kernel
theorem dX5_offerRight_60 : decode cX5_offerRight 60 = .ok (.istore 5, 2) := by decide +kernel
theorem dX5_offerRight_62 : decode cX5_offerRight 62 = .ok (.iload 5, 2) := by decide +kernel
theorem dX5_offerRight_64 : decode cX5_offerRight 64 = .ok (.iload_n 2, 1) := by decide +kernel
theorem dX5_offerRight_65 : decode cX5_offerRight 65 = .ok (.if_icmp .ne 6, 3) := by decide +kernel
theorem dX5_offerRight_68 : decode cX5_offerRight 68 = .ok (.bipush (-5), 2) := by decide +kernel
theorem dX5_offerRight_70 : decode cX5_offerRight 70 = .ok (.ireturn, 1) := by decide +kernel
theorem dX5_offerRight_71 : decode cX5_offerRight 71 = .ok (.aload_n 3, 1) := by decide +kernel
theorem dX5_offerRight_72 : decode cX5_offerRight 72 = .ok (.iconst 1, 1) := by decide +kernel
theorem dX5_offerRight_73 : decode cX5_offerRight 73 = .ok (.iload_n 2, 1) := by decide +kernel
theorem dX5_offerRight_74 : decode cX5_offerRight 74 = .ok (.invokevirtual 156, 3) := by decide +kernel
theorem dX5_offerRight_77 : decode cX5_offerRight 77 = .ok (.aload_n 0, 1) := by decide +kernel
theorem dX5_offerRight_78 : decode cX5_offerRight 78 = .ok (.iconst 2, 1) := by decide +kernel
theorem dX5_offerRight_79 : decode cX5_offerRight 79 = .ok (.aload_n 3, 1) := by decide +kernel
theorem dX5_offerRight_80 : decode cX5_offerRight 80 = .ok (.iload_n 2, 1) := by decide +kernel
theorem dX5_offerRight_81 : decode cX5_offerRight 81 = .ok (.invokevirtual 159, 3) := by decide +kernel
theorem dX5_offerRight_84 : decode cX5_offerRight 84 = .ok (.iload 5, 2) := by decide +kernel
theorem dX5_offerRight_86 : decode cX5_offerRight 86 = .ok (.ireturn, 1) := by decide +kernel
theorem dX5_withdrawOffer_0 : decode cX5_withdrawOffer 0 = .ok (.aload_n 0, 1) := by decide +kernel
theorem dX5_withdrawOffer_1 : decode cX5_withdrawOffer 1 = .ok (.iload_n 1, 1) := by decide +kernel
theorem dX5_withdrawOffer_2 : decode cX5_withdrawOffer 2 = .ok (.invokevirtual 164, 3) := by decide +kernel
theorem dX5_withdrawOffer_5 : decode cX5_withdrawOffer 5 = .ok (.astore_n 2, 1) := by decide +kernel
theorem dX5_withdrawOffer_6 : decode cX5_withdrawOffer 6 = .ok (.aload_n 2, 1) := by decide +kernel
theorem dX5_withdrawOffer_7 : decode cX5_withdrawOffer 7 = .ok (.ifnonnull 5, 3) := by decide +kernel
theorem dX5_withdrawOffer_10 : decode cX5_withdrawOffer 10 = .ok (.iconst (-1), 1) := by decide +kernel
theorem dX5_withdrawOffer_11 : decode cX5_withdrawOffer 11 = .ok (.ireturn, 1) := by decide +kernel
theorem dX5_withdrawOffer_12 : decode cX5_withdrawOffer 12 = .ok (.aload_n 2, 1) := by decide +kernel
theorem dX5_withdrawOffer_13 : decode cX5_withdrawOffer 13 = .ok (.getfield 182, 3) := by decide +kernel
theorem dX5_withdrawOffer_16 : decode cX5_withdrawOffer 16 = .ok (.iconst 1, 1) := by decide +kernel
theorem dX5_withdrawOffer_17 : decode cX5_withdrawOffer 17 = .ok (.if_icmp .eq 6, 3) := by decide +kernel
theorem dX5_withdrawOffer_20 : decode cX5_withdrawOffer 20 = .ok (.bipush (-4), 2) := by decide +kernel
theorem dX5_withdrawOffer_22 : decode cX5_withdrawOffer 22 = .ok (.ireturn, 1) := by decide +kernel
theorem dX5_withdrawOffer_23 : decode cX5_withdrawOffer 23 = .ok (.aload_n 2, 1) := by decide +kernel
theorem dX5_withdrawOffer_24 : decode cX5_withdrawOffer 24 = .ok (.getfield 146, 3) := by decide +kernel
theorem dX5_withdrawOffer_27 : decode cX5_withdrawOffer 27 = .ok (.istore_n 3, 1) := by decide +kernel
theorem dX5_withdrawOffer_28 : decode cX5_withdrawOffer 28 = .ok (.aload_n 2, 1) := by decide +kernel
theorem dX5_withdrawOffer_29 : decode cX5_withdrawOffer 29 = .ok (.iconst 0, 1) := by decide +kernel
theorem dX5_withdrawOffer_30 : decode cX5_withdrawOffer 30 = .ok (.iconst 0, 1) := by decide +kernel
theorem dX5_withdrawOffer_31 : decode cX5_withdrawOffer 31 = .ok (.invokevirtual 156, 3) := by decide +kernel
theorem dX5_withdrawOffer_34 : decode cX5_withdrawOffer 34 = .ok (.iload_n 3, 1) := by decide +kernel
theorem dX5_withdrawOffer_35 : decode cX5_withdrawOffer 35 = .ok (.ireturn, 1) := by decide +kernel
theorem dX5_exerciseRight_0 : decode cX5_exerciseRight 0 = .ok (.aload_n 0, 1) := by decide +kernel
theorem dX5_exerciseRight_1 : decode cX5_exerciseRight 1 = .ok (.iload_n 1, 1) := by decide +kernel
theorem dX5_exerciseRight_2 : decode cX5_exerciseRight 2 = .ok (.invokevirtual 164, 3) := by decide +kernel
theorem dX5_exerciseRight_5 : decode cX5_exerciseRight 5 = .ok (.astore_n 2, 1) := by decide +kernel
theorem dX5_exerciseRight_6 : decode cX5_exerciseRight 6 = .ok (.aload_n 2, 1) := by decide +kernel
theorem dX5_exerciseRight_7 : decode cX5_exerciseRight 7 = .ok (.ifnonnull 5, 3) := by decide +kernel
theorem dX5_exerciseRight_10 : decode cX5_exerciseRight 10 = .ok (.iconst (-1), 1) := by decide +kernel
theorem dX5_exerciseRight_11 : decode cX5_exerciseRight 11 = .ok (.ireturn, 1) := by decide +kernel
theorem dX5_exerciseRight_12 : decode cX5_exerciseRight 12 = .ok (.aload_n 0, 1) := by decide +kernel
theorem dX5_exerciseRight_13 : decode cX5_exerciseRight 13 = .ok (.aload_n 2, 1) := by decide +kernel
theorem dX5_exerciseRight_14 : decode cX5_exerciseRight 14 = .ok (.getfield 172, 3) := by decide +kernel
theorem dX5_exerciseRight_17 : decode cX5_exerciseRight 17 = .ok (.invokevirtual 124, 3) := by decide +kernel
theorem dX5_exerciseRight_20 : decode cX5_exerciseRight 20 = .ok (.astore_n 3, 1) := by decide +kernel
theorem dX5_exerciseRight_21 : decode cX5_exerciseRight 21 = .ok (.aload_n 3, 1) := by decide +kernel
theorem dX5_exerciseRight_22 : decode cX5_exerciseRight 22 = .ok (.ifnull 12, 3) := by decide +kernel
theorem dX5_exerciseRight_25 : decode cX5_exerciseRight 25 = .ok (.aload_n 0, 1) := by decide +kernel
theorem dX5_exerciseRight_26 : decode cX5_exerciseRight 26 = .ok (.aload_n 2, 1) := by decide +kernel
theorem dX5_exerciseRight_27 : decode cX5_exerciseRight 27 = .ok (.aload_n 3, 1) := by decide +kernel
theorem dX5_exerciseRight_28 : decode cX5_exerciseRight 28 = .ok (.invokevirtual 185, 3) := by decide +kernel
theorem dX5_exerciseRight_31 : decode cX5_exerciseRight 31 = .ok (.ifCond .ne 6, 3) := by decide +kernel
theorem dX5_exerciseRight_34 : decode cX5_exerciseRight 34 = .ok (.bipush (-4), 2) := by decide +kernel
theorem dX5_exerciseRight_36 : decode cX5_exerciseRight 36 = .ok (.ireturn, 1) := by decide +kernel
theorem dX5_exerciseRight_37 : decode cX5_exerciseRight 37 = .ok (.aload_n 0, 1) := by decide +kernel
theorem dX5_exerciseRight_38 : decode cX5_exerciseRight 38 = .ok (.getfield 18, 3) := by decide +kernel
theorem dX5_exerciseRight_41 : decode cX5_exerciseRight 41 = .ok (.iconst 3, 1) := by decide +kernel
theorem dX5_exerciseRight_42 : decode cX5_exerciseRight 42 = .ok (.iaload, 1) := by decide +kernel
theorem dX5_exerciseRight_43 : decode cX5_exerciseRight 43 = .ok (.istore 4, 2) := by decide +kernel
theorem dX5_exerciseRight_45 : decode cX5_exerciseRight 45 = .ok (.aload_n 2, 1) := by decide +kernel
theorem dX5_exerciseRight_46 : decode cX5_exerciseRight 46 = .ok (.iconst 2, 1) := by decide +kernel
theorem dX5_exerciseRight_47 : decode cX5_exerciseRight 47 = .ok (.iconst 0, 1) := by decide +kernel
theorem dX5_exerciseRight_48 : decode cX5_exerciseRight 48 = .ok (.invokevirtual 156, 3) := by decide +kernel
theorem dX5_exerciseRight_51 : decode cX5_exerciseRight 51 = .ok (.aload_n 0, 1) := by decide +kernel
theorem dX5_exerciseRight_52 : decode cX5_exerciseRight 52 = .ok (.aload_n 2, 1) := by decide +kernel
theorem dX5_exerciseRight_53 : decode cX5_exerciseRight 53 = .ok (.getfield 143, 3) := by decide +kernel
theorem dX5_exerciseRight_56 : decode cX5_exerciseRight 56 = .ok (.iload 4, 2) := by decide +kernel
theorem dX5_exerciseRight_58 : decode cX5_exerciseRight 58 = .ok (.ineg, 1) := by decide +kernel
theorem dX5_exerciseRight_59 : decode cX5_exerciseRight 59 = .ok (.invokevirtual 149, 3) := by decide +kernel
theorem dX5_exerciseRight_62 : decode cX5_exerciseRight 62 = .ok (.aload_n 0, 1) := by decide +kernel
theorem dX5_exerciseRight_63 : decode cX5_exerciseRight 63 = .ok (.iconst 3, 1) := by decide +kernel
theorem dX5_exerciseRight_64 : decode cX5_exerciseRight 64 = .ok (.aload_n 2, 1) := by decide +kernel
theorem dX5_exerciseRight_65 : decode cX5_exerciseRight 65 = .ok (.iload 4, 2) := by decide +kernel
theorem dX5_exerciseRight_67 : decode cX5_exerciseRight 67 = .ok (.invokevirtual 159, 3) := by decide +kernel
theorem dX5_exerciseRight_70 : decode cX5_exerciseRight 70 = .ok (.aload_n 0, 1) := by decide +kernel
theorem dX5_exerciseRight_71 : decode cX5_exerciseRight 71 = .ok (.aload_n 3, 1) := by decide +kernel
theorem dX5_exerciseRight_72 : decode cX5_exerciseRight 72 = .ok (.iconst 2, 1) := by decide +kernel
theorem dX5_exerciseRight_73 : decode cX5_exerciseRight 73 = .ok (.invokevirtual 189, 3) := by decide +kernel
theorem dX5_exerciseRight_76 : decode cX5_exerciseRight 76 = .ok (.ireturn, 1) := by decide +kernel
theorem dX5_joinList_0 : decode cX5_joinList 0 = .ok (.aload_n 0, 1) := by decide +kernel
theorem dX5_joinList_1 : decode cX5_joinList 1 = .ok (.iload_n 2, 1) := by decide +kernel
theorem dX5_joinList_2 : decode cX5_joinList 2 = .ok (.invokevirtual 124, 3) := by decide +kernel
theorem dX5_joinList_5 : decode cX5_joinList 5 = .ok (.astore_n 3, 1) := by decide +kernel
theorem dX5_joinList_6 : decode cX5_joinList 6 = .ok (.iload_n 1, 1) := by decide +kernel
theorem dX5_joinList_7 : decode cX5_joinList 7 = .ok (.invokestatic 128, 3) := by decide +kernel
theorem dX5_joinList_10 : decode cX5_joinList 10 = .ok (.ifCond .eq 7, 3) := by decide +kernel
theorem dX5_joinList_13 : decode cX5_joinList 13 = .ok (.aload_n 3, 1) := by decide +kernel
theorem dX5_joinList_14 : decode cX5_joinList 14 = .ok (.ifnonnull 5, 3) := by decide +kernel
theorem dX5_joinList_17 : decode cX5_joinList 17 = .ok (.iconst (-1), 1) := by decide +kernel
theorem dX5_joinList_18 : decode cX5_joinList 18 = .ok (.ireturn, 1) := by decide +kernel
theorem dX5_joinList_19 : decode cX5_joinList 19 = .ok (.aload_n 0, 1) := by decide +kernel
theorem dX5_joinList_20 : decode cX5_joinList 20 = .ok (.aload_n 3, 1) := by decide +kernel
theorem dX5_joinList_21 : decode cX5_joinList 21 = .ok (.invokevirtual 131, 3) := by decide +kernel
theorem dX5_joinList_24 : decode cX5_joinList 24 = .ok (.ifCond .eq 11, 3) := by decide +kernel
theorem dX5_joinList_27 : decode cX5_joinList 27 = .ok (.aload_n 3, 1) := by decide +kernel
theorem dX5_joinList_28 : decode cX5_joinList 28 = .ok (.iload_n 1, 1) := by decide +kernel
theorem dX5_joinList_29 : decode cX5_joinList 29 = .ok (.invokevirtual 193, 3) := by decide +kernel
theorem dX5_joinList_32 : decode cX5_joinList 32 = .ok (.ifCond .lt 6, 3) := by decide +kernel
theorem dX5_joinList_35 : decode cX5_joinList 35 = .ok (.bipush (-4), 2) := by decide +kernel
theorem dX5_joinList_37 : decode cX5_joinList 37 = .ok (.ireturn, 1) := by decide +kernel
theorem dX5_joinList_38 : decode cX5_joinList 38 = .ok (.aload_n 3, 1) := by decide +kernel
theorem dX5_joinList_39 : decode cX5_joinList 39 = .ok (.iload_n 1, 1) := by decide +kernel
theorem dX5_joinList_40 : decode cX5_joinList 40 = .ok (.invokevirtual 197, 3) := by decide +kernel
theorem dX5_joinList_43 : decode cX5_joinList 43 = .ok (.ireturn, 1) := by decide +kernel
theorem dX5_quitList_0 : decode cX5_quitList 0 = .ok (.aload_n 0, 1) := by decide +kernel
theorem dX5_quitList_1 : decode cX5_quitList 1 = .ok (.iload_n 2, 1) := by decide +kernel
theorem dX5_quitList_2 : decode cX5_quitList 2 = .ok (.invokevirtual 124, 3) := by decide +kernel
theorem dX5_quitList_5 : decode cX5_quitList 5 = .ok (.astore_n 3, 1) := by decide +kernel
theorem dX5_quitList_6 : decode cX5_quitList 6 = .ok (.iload_n 1, 1) := by decide +kernel
theorem dX5_quitList_7 : decode cX5_quitList 7 = .ok (.invokestatic 128, 3) := by decide +kernel
theorem dX5_quitList_10 : decode cX5_quitList 10 = .ok (.ifCond .eq 7, 3) := by decide +kernel
theorem dX5_quitList_13 : decode cX5_quitList 13 = .ok (.aload_n 3, 1) := by decide +kernel
theorem dX5_quitList_14 : decode cX5_quitList 14 = .ok (.ifnonnull 5, 3) := by decide +kernel
theorem dX5_quitList_17 : decode cX5_quitList 17 = .ok (.iconst (-1), 1) := by decide +kernel
theorem dX5_quitList_18 : decode cX5_quitList 18 = .ok (.ireturn, 1) := by decide +kernel
theorem dX5_quitList_19 : decode cX5_quitList 19 = .ok (.aload_n 3, 1) := by decide +kernel
theorem dX5_quitList_20 : decode cX5_quitList 20 = .ok (.iload_n 1, 1) := by decide +kernel
theorem dX5_quitList_21 : decode cX5_quitList 21 = .ok (.invokevirtual 193, 3) := by decide +kernel
theorem dX5_quitList_24 : decode cX5_quitList 24 = .ok (.istore 4, 2) := by decide +kernel
theorem dX5_quitList_26 : decode cX5_quitList 26 = .ok (.aload_n 3, 1) := by decide +kernel
theorem dX5_quitList_27 : decode cX5_quitList 27 = .ok (.iload 4, 2) := by decide +kernel
theorem dX5_quitList_29 : decode cX5_quitList 29 = .ok (.invokevirtual 200, 3) := by decide +kernel
theorem dX5_quitList_32 : decode cX5_quitList 32 = .ok (.iload 4, 2) := by decide +kernel
theorem dX5_quitList_34 : decode cX5_quitList 34 = .ok (.ireturn, 1) := by decide +kernel
theorem dX5_passDays_0 : decode cX5_passDays 0 = .ok (.iload_n 1, 1) := by decide +kernel
theorem dX5_passDays_1 : decode cX5_passDays 1 = .ok (.iconst 1, 1) := by decide +kernel
theorem dX5_passDays_2 : decode cX5_passDays 2 = .ok (.if_icmp .lt 9, 3) := by decide +kernel
theorem dX5_passDays_5 : decode cX5_passDays 5 = .ok (.iload_n 1, 1) := by decide +kernel
theorem dX5_passDays_6 : decode cX5_passDays 6 = .ok (.bipush 60, 2) := by decide +kernel
theorem dX5_passDays_8 : decode cX5_passDays 8 = .ok (.if_icmp .le 6, 3) := by decide +kernel
theorem dX5_passDays_11 : decode cX5_passDays 11 = .ok (.bipush (-2), 2) := by decide +kernel
theorem dX5_passDays_13 : decode cX5_passDays 13 = .ok (.ireturn, 1) := by decide +kernel
theorem dX5_passDays_14 : decode cX5_passDays 14 = .ok (.aload_n 0, 1) := by decide +kernel
theorem dX5_passDays_15 : decode cX5_passDays 15 = .ok (.getfield 61, 3) := by decide +kernel
theorem dX5_passDays_18 : decode cX5_passDays 18 = .ok (.iload_n 1, 1) := by decide +kernel
theorem dX5_passDays_19 : decode cX5_passDays 19 = .ok (.iadd, 1) := by decide +kernel
theorem dX5_passDays_20 : decode cX5_passDays 20 = .ok (.sipush 9999, 3) := by decide +kernel
theorem dX5_passDays_23 : decode cX5_passDays 23 = .ok (.if_icmp .le 6, 3) := by decide +kernel
theorem dX5_passDays_26 : decode cX5_passDays 26 = .ok (.bipush (-4), 2) := by decide +kernel
theorem dX5_passDays_28 : decode cX5_passDays 28 = .ok (.ireturn, 1) := by decide +kernel
theorem dX5_passDays_29 : decode cX5_passDays 29 = .ok (.iconst 0, 1) := by decide +kernel
theorem dX5_passDays_30 : decode cX5_passDays 30 = .ok (.istore_n 2, 1) := by decide +kernel
theorem dX5_passDays_31 : decode cX5_passDays 31 = .ok (.iconst 0, 1) := by decide +kernel
theorem dX5_passDays_32 : decode cX5_passDays 32 = .ok (.istore_n 3, 1) := by decide +kernel
theorem dX5_passDays_33 : decode cX5_passDays 33 = .ok (.iload_n 3, 1) := by decide +kernel
theorem dX5_passDays_34 : decode cX5_passDays 34 = .ok (.iload_n 1, 1) := by decide +kernel
theorem dX5_passDays_35 : decode cX5_passDays 35 = .ok (.if_icmp .ge 16, 3) := by decide +kernel
theorem dX5_passDays_38 : decode cX5_passDays 38 = .ok (.iload_n 2, 1) := by decide +kernel
theorem dX5_passDays_39 : decode cX5_passDays 39 = .ok (.aload_n 0, 1) := by decide +kernel
theorem dX5_passDays_40 : decode cX5_passDays 40 = .ok (.invokevirtual 203, 3) := by decide +kernel
theorem dX5_passDays_43 : decode cX5_passDays 43 = .ok (.iadd, 1) := by decide +kernel
theorem dX5_passDays_44 : decode cX5_passDays 44 = .ok (.istore_n 2, 1) := by decide +kernel
theorem dX5_passDays_45 : decode cX5_passDays 45 = .ok (.iinc 3 1, 3) := by decide +kernel
theorem dX5_passDays_48 : decode cX5_passDays 48 = .ok (.goto (-15), 3) := by decide +kernel
theorem dX5_passDays_51 : decode cX5_passDays 51 = .ok (.iload_n 2, 1) := by decide +kernel
theorem dX5_passDays_52 : decode cX5_passDays 52 = .ok (.ireturn, 1) := by decide +kernel
theorem dX5_passOneDay_0 : decode cX5_passOneDay 0 = .ok (.aload_n 0, 1) := by decide +kernel
theorem dX5_passOneDay_1 : decode cX5_passOneDay 1 = .ok (.dup, 1) := by decide +kernel
theorem dX5_passOneDay_2 : decode cX5_passOneDay 2 = .ok (.getfield 61, 3) := by decide +kernel
theorem dX5_passOneDay_5 : decode cX5_passOneDay 5 = .ok (.iconst 1, 1) := by decide +kernel
theorem dX5_passOneDay_6 : decode cX5_passOneDay 6 = .ok (.iadd, 1) := by decide +kernel
theorem dX5_passOneDay_7 : decode cX5_passOneDay 7 = .ok (.putfield 61, 3) := by decide +kernel
theorem dX5_passOneDay_10 : decode cX5_passOneDay 10 = .ok (.iconst 0, 1) := by decide +kernel
theorem dX5_passOneDay_11 : decode cX5_passOneDay 11 = .ok (.istore_n 1, 1) := by decide +kernel
theorem dX5_passOneDay_12 : decode cX5_passOneDay 12 = .ok (.iconst 0, 1) := by decide +kernel
theorem dX5_passOneDay_13 : decode cX5_passOneDay 13 = .ok (.istore_n 2, 1) := by decide +kernel
theorem dX5_passOneDay_14 : decode cX5_passOneDay 14 = .ok (.iload_n 2, 1) := by decide +kernel
theorem dX5_passOneDay_15 : decode cX5_passOneDay 15 = .ok (.aload_n 0, 1) := by decide +kernel
theorem dX5_passOneDay_16 : decode cX5_passOneDay 16 = .ok (.getfield 69, 3) := by decide +kernel
theorem dX5_passOneDay_19 : decode cX5_passOneDay 19 = .ok (.if_icmp .ge 44, 3) := by decide +kernel
theorem dX5_passOneDay_22 : decode cX5_passOneDay 22 = .ok (.iload_n 2, 1) := by decide +kernel
theorem dX5_passOneDay_23 : decode cX5_passOneDay 23 = .ok (.aload_n 0, 1) := by decide +kernel
theorem dX5_passOneDay_24 : decode cX5_passOneDay 24 = .ok (.getfield 37, 3) := by decide +kernel
theorem dX5_passOneDay_27 : decode cX5_passOneDay 27 = .ok (.arraylength, 1) := by decide +kernel
theorem dX5_passOneDay_28 : decode cX5_passOneDay 28 = .ok (.if_icmp .ge 35, 3) := by decide +kernel
theorem dX5_passOneDay_31 : decode cX5_passOneDay 31 = .ok (.aload_n 0, 1) := by decide +kernel
theorem dX5_passOneDay_32 : decode cX5_passOneDay 32 = .ok (.aload_n 0, 1) := by decide +kernel
theorem dX5_passOneDay_33 : decode cX5_passOneDay 33 = .ok (.getfield 37, 3) := by decide +kernel
theorem dX5_passOneDay_36 : decode cX5_passOneDay 36 = .ok (.iload_n 2, 1) := by decide +kernel
theorem dX5_passOneDay_37 : decode cX5_passOneDay 37 = .ok (.aaload, 1) := by decide +kernel
theorem dX5_passOneDay_38 : decode cX5_passOneDay 38 = .ok (.invokevirtual 207, 3) := by decide +kernel
theorem dX5_passOneDay_41 : decode cX5_passOneDay 41 = .ok (.ifCond .ne 16, 3) := by decide +kernel
theorem dX5_passOneDay_44 : decode cX5_passOneDay 44 = .ok (.iload_n 1, 1) := by decide +kernel
theorem dX5_passOneDay_45 : decode cX5_passOneDay 45 = .ok (.aload_n 0, 1) := by decide +kernel
theorem dX5_passOneDay_46 : decode cX5_passOneDay 46 = .ok (.aload_n 0, 1) := by decide +kernel
theorem dX5_passOneDay_47 : decode cX5_passOneDay 47 = .ok (.getfield 37, 3) := by decide +kernel
theorem dX5_passOneDay_50 : decode cX5_passOneDay 50 = .ok (.iload_n 2, 1) := by decide +kernel
theorem dX5_passOneDay_51 : decode cX5_passOneDay 51 = .ok (.aaload, 1) := by decide +kernel
theorem dX5_passOneDay_52 : decode cX5_passOneDay 52 = .ok (.invokevirtual 211, 3) := by decide +kernel
theorem dX5_passOneDay_55 : decode cX5_passOneDay 55 = .ok (.iadd, 1) := by decide +kernel
theorem dX5_passOneDay_56 : decode cX5_passOneDay 56 = .ok (.istore_n 1, 1) := by decide +kernel
theorem dX5_passOneDay_57 : decode cX5_passOneDay 57 = .ok (.iinc 2 1, 3) := by decide +kernel
theorem dX5_passOneDay_60 : decode cX5_passOneDay 60 = .ok (.goto (-46), 3) := by decide +kernel
theorem dX5_passOneDay_63 : decode cX5_passOneDay 63 = .ok (.iconst 0, 1) := by decide +kernel
theorem dX5_passOneDay_64 : decode cX5_passOneDay 64 = .ok (.istore_n 2, 1) := by decide +kernel
theorem dX5_passOneDay_65 : decode cX5_passOneDay 65 = .ok (.iload_n 2, 1) := by decide +kernel
theorem dX5_passOneDay_66 : decode cX5_passOneDay 66 = .ok (.aload_n 0, 1) := by decide +kernel
theorem dX5_passOneDay_67 : decode cX5_passOneDay 67 = .ok (.getfield 69, 3) := by decide +kernel
theorem dX5_passOneDay_70 : decode cX5_passOneDay 70 = .ok (.if_icmp .ge 48, 3) := by decide +kernel
theorem dX5_passOneDay_73 : decode cX5_passOneDay 73 = .ok (.iload_n 2, 1) := by decide +kernel
theorem dX5_passOneDay_74 : decode cX5_passOneDay 74 = .ok (.aload_n 0, 1) := by decide +kernel
theorem dX5_passOneDay_75 : decode cX5_passOneDay 75 = .ok (.getfield 37, 3) := by decide +kernel
theorem dX5_passOneDay_78 : decode cX5_passOneDay 78 = .ok (.arraylength, 1) := by decide +kernel
theorem dX5_passOneDay_79 : decode cX5_passOneDay 79 = .ok (.if_icmp .ge 39, 3) := by decide +kernel
theorem dX5_passOneDay_82 : decode cX5_passOneDay 82 = .ok (.aload_n 0, 1) := by decide +kernel
theorem dX5_passOneDay_83 : decode cX5_passOneDay 83 = .ok (.aload_n 0, 1) := by decide +kernel
theorem dX5_passOneDay_84 : decode cX5_passOneDay 84 = .ok (.getfield 37, 3) := by decide +kernel
theorem dX5_passOneDay_87 : decode cX5_passOneDay 87 = .ok (.iload_n 2, 1) := by decide +kernel
theorem dX5_passOneDay_88 : decode cX5_passOneDay 88 = .ok (.aaload, 1) := by decide +kernel
theorem dX5_passOneDay_89 : decode cX5_passOneDay 89 = .ok (.invokevirtual 207, 3) := by decide +kernel
theorem dX5_passOneDay_92 : decode cX5_passOneDay 92 = .ok (.aload_n 0, 1) := by decide +kernel
theorem dX5_passOneDay_93 : decode cX5_passOneDay 93 = .ok (.getfield 18, 3) := by decide +kernel
theorem dX5_passOneDay_96 : decode cX5_passOneDay 96 = .ok (.iconst 0, 1) := by decide +kernel
theorem dX5_passOneDay_97 : decode cX5_passOneDay 97 = .ok (.iaload, 1) := by decide +kernel
theorem dX5_passOneDay_98 : decode cX5_passOneDay 98 = .ok (.if_icmp .ne 14, 3) := by decide +kernel
theorem dX5_passOneDay_101 : decode cX5_passOneDay 101 = .ok (.aload_n 0, 1) := by decide +kernel
theorem dX5_passOneDay_102 : decode cX5_passOneDay 102 = .ok (.aload_n 0, 1) := by decide +kernel
theorem dX5_passOneDay_103 : decode cX5_passOneDay 103 = .ok (.getfield 37, 3) := by decide +kernel
theorem dX5_passOneDay_106 : decode cX5_passOneDay 106 = .ok (.iload_n 2, 1) := by decide +kernel
theorem dX5_passOneDay_107 : decode cX5_passOneDay 107 = .ok (.aaload, 1) := by decide +kernel
theorem dX5_passOneDay_108 : decode cX5_passOneDay 108 = .ok (.invokevirtual 214, 3) := by decide +kernel
theorem dX5_passOneDay_111 : decode cX5_passOneDay 111 = .ok (.pop, 1) := by decide +kernel
theorem dX5_passOneDay_112 : decode cX5_passOneDay 112 = .ok (.iinc 2 1, 3) := by decide +kernel
theorem dX5_passOneDay_115 : decode cX5_passOneDay 115 = .ok (.goto (-50), 3) := by decide +kernel
theorem dX5_passOneDay_118 : decode cX5_passOneDay 118 = .ok (.iconst 0, 1) := by decide +kernel
theorem dX5_passOneDay_119 : decode cX5_passOneDay 119 = .ok (.istore_n 2, 1) := by decide +kernel
theorem dX5_passOneDay_120 : decode cX5_passOneDay 120 = .ok (.iload_n 2, 1) := by decide +kernel
theorem dX5_passOneDay_121 : decode cX5_passOneDay 121 = .ok (.aload_n 0, 1) := by decide +kernel
theorem dX5_passOneDay_122 : decode cX5_passOneDay 122 = .ok (.getfield 69, 3) := by decide +kernel
theorem dX5_passOneDay_125 : decode cX5_passOneDay 125 = .ok (.if_icmp .ge 41, 3) := by decide +kernel
theorem dX5_passOneDay_128 : decode cX5_passOneDay 128 = .ok (.iload_n 2, 1) := by decide +kernel
theorem dX5_passOneDay_129 : decode cX5_passOneDay 129 = .ok (.aload_n 0, 1) := by decide +kernel
theorem dX5_passOneDay_130 : decode cX5_passOneDay 130 = .ok (.getfield 37, 3) := by decide +kernel
theorem dX5_passOneDay_133 : decode cX5_passOneDay 133 = .ok (.arraylength, 1) := by decide +kernel
theorem dX5_passOneDay_134 : decode cX5_passOneDay 134 = .ok (.if_icmp .ge 32, 3) := by decide +kernel
theorem dX5_passOneDay_137 : decode cX5_passOneDay 137 = .ok (.aload_n 0, 1) := by decide +kernel
theorem dX5_passOneDay_138 : decode cX5_passOneDay 138 = .ok (.aload_n 0, 1) := by decide +kernel
theorem dX5_passOneDay_139 : decode cX5_passOneDay 139 = .ok (.getfield 37, 3) := by decide +kernel
theorem dX5_passOneDay_142 : decode cX5_passOneDay 142 = .ok (.iload_n 2, 1) := by decide +kernel
theorem dX5_passOneDay_143 : decode cX5_passOneDay 143 = .ok (.aaload, 1) := by decide +kernel
theorem dX5_passOneDay_144 : decode cX5_passOneDay 144 = .ok (.invokevirtual 131, 3) := by decide +kernel
theorem dX5_passOneDay_147 : decode cX5_passOneDay 147 = .ok (.ifCond .eq 13, 3) := by decide +kernel
theorem dX5_passOneDay_150 : decode cX5_passOneDay 150 = .ok (.aload_n 0, 1) := by decide +kernel
theorem dX5_passOneDay_151 : decode cX5_passOneDay 151 = .ok (.aload_n 0, 1) := by decide +kernel
theorem dX5_passOneDay_152 : decode cX5_passOneDay 152 = .ok (.getfield 37, 3) := by decide +kernel
theorem dX5_passOneDay_155 : decode cX5_passOneDay 155 = .ok (.iload_n 2, 1) := by decide +kernel
theorem dX5_passOneDay_156 : decode cX5_passOneDay 156 = .ok (.aaload, 1) := by decide +kernel
theorem dX5_passOneDay_157 : decode cX5_passOneDay 157 = .ok (.invokevirtual 175, 3) := by decide +kernel
theorem dX5_passOneDay_160 : decode cX5_passOneDay 160 = .ok (.iinc 2 1, 3) := by decide +kernel
theorem dX5_passOneDay_163 : decode cX5_passOneDay 163 = .ok (.goto (-43), 3) := by decide +kernel
theorem dX5_passOneDay_166 : decode cX5_passOneDay 166 = .ok (.iload_n 1, 1) := by decide +kernel
theorem dX5_passOneDay_167 : decode cX5_passOneDay 167 = .ok (.ireturn, 1) := by decide +kernel
theorem dX5_endDate_0 : decode cX5_endDate 0 = .ok (.iconst 0, 1) := by decide +kernel
theorem dX5_endDate_1 : decode cX5_endDate 1 = .ok (.istore_n 2, 1) := by decide +kernel
theorem dX5_endDate_2 : decode cX5_endDate 2 = .ok (.iconst 0, 1) := by decide +kernel
theorem dX5_endDate_3 : decode cX5_endDate 3 = .ok (.istore_n 3, 1) := by decide +kernel
theorem dX5_endDate_4 : decode cX5_endDate 4 = .ok (.iload_n 3, 1) := by decide +kernel
theorem dX5_endDate_5 : decode cX5_endDate 5 = .ok (.aload_n 0, 1) := by decide +kernel
theorem dX5_endDate_6 : decode cX5_endDate 6 = .ok (.getfield 76, 3) := by decide +kernel
theorem dX5_endDate_9 : decode cX5_endDate 9 = .ok (.if_icmp .ge 81, 3) := by decide +kernel
theorem dX5_endDate_12 : decode cX5_endDate 12 = .ok (.iload_n 3, 1) := by decide +kernel
theorem dX5_endDate_13 : decode cX5_endDate 13 = .ok (.aload_n 0, 1) := by decide +kernel
theorem dX5_endDate_14 : decode cX5_endDate 14 = .ok (.getfield 43, 3) := by decide +kernel
theorem dX5_endDate_17 : decode cX5_endDate 17 = .ok (.arraylength, 1) := by decide +kernel
theorem dX5_endDate_18 : decode cX5_endDate 18 = .ok (.if_icmp .ge 72, 3) := by decide +kernel
theorem dX5_endDate_21 : decode cX5_endDate 21 = .ok (.aload_n 0, 1) := by decide +kernel
theorem dX5_endDate_22 : decode cX5_endDate 22 = .ok (.getfield 43, 3) := by decide +kernel
theorem dX5_endDate_25 : decode cX5_endDate 25 = .ok (.iload_n 3, 1) := by decide +kernel
theorem dX5_endDate_26 : decode cX5_endDate 26 = .ok (.aaload, 1) := by decide +kernel
theorem dX5_endDate_27 : decode cX5_endDate 27 = .ok (.getfield 172, 3) := by decide +kernel
theorem dX5_endDate_30 : decode cX5_endDate 30 = .ok (.aload_n 1, 1) := by decide +kernel
theorem dX5_endDate_31 : decode cX5_endDate 31 = .ok (.getfield 107, 3) := by decide +kernel
theorem dX5_endDate_34 : decode cX5_endDate 34 = .ok (.if_icmp .ne 50, 3) := by decide +kernel
theorem dX5_endDate_37 : decode cX5_endDate 37 = .ok (.aload_n 0, 1) := by decide +kernel
theorem dX5_endDate_38 : decode cX5_endDate 38 = .ok (.getfield 43, 3) := by decide +kernel
theorem dX5_endDate_41 : decode cX5_endDate 41 = .ok (.iload_n 3, 1) := by decide +kernel
theorem dX5_endDate_42 : decode cX5_endDate 42 = .ok (.aaload, 1) := by decide +kernel
theorem dX5_endDate_43 : decode cX5_endDate 43 = .ok (.invokevirtual 178, 3) := by decide +kernel
theorem dX5_endDate_46 : decode cX5_endDate 46 = .ok (.ifCond .eq 38, 3) := by decide +kernel
theorem dX5_endDate_49 : decode cX5_endDate 49 = .ok (.aload_n 0, 1) := by decide +kernel
theorem dX5_endDate_50 : decode cX5_endDate 50 = .ok (.getfield 43, 3) := by decide +kernel
theorem dX5_endDate_53 : decode cX5_endDate 53 = .ok (.iload_n 3, 1) := by decide +kernel
theorem dX5_endDate_54 : decode cX5_endDate 54 = .ok (.aaload, 1) := by decide +kernel
theorem dX5_endDate_55 : decode cX5_endDate 55 = .ok (.iconst 5, 1) := by decide +kernel
theorem dX5_endDate_56 : decode cX5_endDate 56 = .ok (.iconst 0, 1) := by decide +kernel
theorem dX5_endDate_57 : decode cX5_endDate 57 = .ok (.invokevirtual 156, 3) := by decide +kernel
theorem dX5_endDate_60 : decode cX5_endDate 60 = .ok (.aload_n 0, 1) := by decide +kernel
theorem dX5_endDate_61 : decode cX5_endDate 61 = .ok (.bipush 6, 2) := by decide +kernel
theorem dX5_endDate_63 : decode cX5_endDate 63 = .ok (.aload_n 0, 1) := by decide +kernel
theorem dX5_endDate_64 : decode cX5_endDate 64 = .ok (.getfield 43, 3) := by decide +kernel
theorem dX5_endDate_67 : decode cX5_endDate 67 = .ok (.iload_n 3, 1) := by decide +kernel
theorem dX5_endDate_68 : decode cX5_endDate 68 = .ok (.aaload, 1) := by decide +kernel
theorem dX5_endDate_69 : decode cX5_endDate 69 = .ok (.aload_n 0, 1) := by decide +kernel
theorem dX5_endDate_70 : decode cX5_endDate 70 = .ok (.getfield 43, 3) := by decide +kernel
theorem dX5_endDate_73 : decode cX5_endDate 73 = .ok (.iload_n 3, 1) := by decide +kernel
theorem dX5_endDate_74 : decode cX5_endDate 74 = .ok (.aaload, 1) := by decide +kernel
theorem dX5_endDate_75 : decode cX5_endDate 75 = .ok (.getfield 217, 3) := by decide +kernel
theorem dX5_endDate_78 : decode cX5_endDate 78 = .ok (.invokevirtual 159, 3) := by decide +kernel
theorem dX5_endDate_81 : decode cX5_endDate 81 = .ok (.iinc 2 1, 3) := by decide +kernel
theorem dX5_endDate_84 : decode cX5_endDate 84 = .ok (.iinc 3 1, 3) := by decide +kernel
theorem dX5_endDate_87 : decode cX5_endDate 87 = .ok (.goto (-83), 3) := by decide +kernel
theorem dX5_endDate_90 : decode cX5_endDate 90 = .ok (.aload_n 1, 1) := by decide +kernel
theorem dX5_endDate_91 : decode cX5_endDate 91 = .ok (.iconst 0, 1) := by decide +kernel
theorem dX5_endDate_92 : decode cX5_endDate 92 = .ok (.putfield 104, 3) := by decide +kernel
theorem dX5_endDate_95 : decode cX5_endDate 95 = .ok (.iload_n 2, 1) := by decide +kernel
theorem dX5_endDate_96 : decode cX5_endDate 96 = .ok (.ireturn, 1) := by decide +kernel
theorem dX5_coverRightsOf_0 : decode cX5_coverRightsOf 0 = .ok (.iconst 0, 1) := by decide +kernel
theorem dX5_coverRightsOf_1 : decode cX5_coverRightsOf 1 = .ok (.istore_n 2, 1) := by decide +kernel
theorem dX5_coverRightsOf_2 : decode cX5_coverRightsOf 2 = .ok (.aload_n 0, 1) := by decide +kernel
theorem dX5_coverRightsOf_3 : decode cX5_coverRightsOf 3 = .ok (.aload_n 1, 1) := by decide +kernel
theorem dX5_coverRightsOf_4 : decode cX5_coverRightsOf 4 = .ok (.invokevirtual 220, 3) := by decide +kernel
theorem dX5_coverRightsOf_7 : decode cX5_coverRightsOf 7 = .ok (.aload_n 1, 1) := by decide +kernel
theorem dX5_coverRightsOf_8 : decode cX5_coverRightsOf 8 = .ok (.getfield 92, 3) := by decide +kernel
theorem dX5_coverRightsOf_11 : decode cX5_coverRightsOf 11 = .ok (.isub, 1) := by decide +kernel
theorem dX5_coverRightsOf_12 : decode cX5_coverRightsOf 12 = .ok (.istore_n 3, 1) := by decide +kernel
theorem dX5_coverRightsOf_13 : decode cX5_coverRightsOf 13 = .ok (.iconst 0, 1) := by decide +kernel
theorem dX5_coverRightsOf_14 : decode cX5_coverRightsOf 14 = .ok (.istore 4, 2) := by decide +kernel
theorem dX5_coverRightsOf_16 : decode cX5_coverRightsOf 16 = .ok (.iload 4, 2) := by decide +kernel
theorem dX5_coverRightsOf_18 : decode cX5_coverRightsOf 18 = .ok (.iload_n 3, 1) := by decide +kernel
theorem dX5_coverRightsOf_19 : decode cX5_coverRightsOf 19 = .ok (.if_icmp .ge 32, 3) := by decide +kernel
theorem dX5_coverRightsOf_22 : decode cX5_coverRightsOf 22 = .ok (.aload_n 0, 1) := by decide +kernel
theorem dX5_coverRightsOf_23 : decode cX5_coverRightsOf 23 = .ok (.aload_n 1, 1) := by decide +kernel
theorem dX5_coverRightsOf_24 : decode cX5_coverRightsOf 24 = .ok (.invokevirtual 223, 3) := by decide +kernel
theorem dX5_coverRightsOf_27 : decode cX5_coverRightsOf 27 = .ok (.astore 5, 2) := by decide +kernel
theorem dX5_coverRightsOf_29 : decode cX5_coverRightsOf 29 = .ok (.aload 5, 2) := by decide +kernel
theorem dX5_coverRightsOf_31 : decode cX5_coverRightsOf 31 = .ok (.ifnonnull 5, 3) := by decide +kernel
theorem dX5_coverRightsOf_34 : decode cX5_coverRightsOf 34 = .ok (.iload_n 2, 1) := by decide +kernel
theorem dX5_coverRightsOf_35 : decode cX5_coverRightsOf 35 = .ok (.ireturn, 1) := by decide +kernel
theorem dX5_coverRightsOf_36 : decode cX5_coverRightsOf 36 = .ok (.iload_n 2, 1) := by decide +kernel
theorem dX5_coverRightsOf_37 : decode cX5_coverRightsOf 37 = .ok (.aload_n 0, 1) := by decide +kernel
theorem dX5_coverRightsOf_38 : decode cX5_coverRightsOf 38 = .ok (.aload 5, 2) := by decide +kernel
theorem dX5_coverRightsOf_40 : decode cX5_coverRightsOf 40 = .ok (.invokevirtual 226, 3) := by decide +kernel
theorem dX5_coverRightsOf_43 : decode cX5_coverRightsOf 43 = .ok (.iadd, 1) := by decide +kernel
theorem dX5_coverRightsOf_44 : decode cX5_coverRightsOf 44 = .ok (.istore_n 2, 1) := by decide +kernel
theorem dX5_coverRightsOf_45 : decode cX5_coverRightsOf 45 = .ok (.iinc 4 1, 3) := by decide +kernel
theorem dX5_coverRightsOf_48 : decode cX5_coverRightsOf 48 = .ok (.goto (-32), 3) := by decide +kernel
theorem dX5_coverRightsOf_51 : decode cX5_coverRightsOf 51 = .ok (.iload_n 2, 1) := by decide +kernel
theorem dX5_coverRightsOf_52 : decode cX5_coverRightsOf 52 = .ok (.ireturn, 1) := by decide +kernel
theorem dX5_coverOne_0 : decode cX5_coverOne 0 = .ok (.aload_n 1, 1) := by decide +kernel
theorem dX5_coverOne_1 : decode cX5_coverOne 1 = .ok (.getfield 182, 3) := by decide +kernel
theorem dX5_coverOne_4 : decode cX5_coverOne 4 = .ok (.iconst 1, 1) := by decide +kernel
theorem dX5_coverOne_5 : decode cX5_coverOne 5 = .ok (.if_icmp .ne 10, 3) := by decide +kernel
theorem dX5_coverOne_8 : decode cX5_coverOne 8 = .ok (.aload_n 1, 1) := by decide +kernel
theorem dX5_coverOne_9 : decode cX5_coverOne 9 = .ok (.getfield 146, 3) := by decide +kernel
theorem dX5_coverOne_12 : decode cX5_coverOne 12 = .ok (.goto 11, 3) := by decide +kernel
theorem dX5_coverOne_15 : decode cX5_coverOne 15 = .ok (.aload_n 1, 1) := by decide +kernel
theorem dX5_coverOne_16 : decode cX5_coverOne 16 = .ok (.getfield 217, 3) := by decide +kernel
theorem dX5_coverOne_19 : decode cX5_coverOne 19 = .ok (.iconst 3, 1) := by decide +kernel
theorem dX5_coverOne_20 : decode cX5_coverOne 20 = .ok (.imul, 1) := by decide +kernel
theorem dX5_coverOne_21 : decode cX5_coverOne 21 = .ok (.iconst 2, 1) := by decide +kernel
theorem dX5_coverOne_22 : decode cX5_coverOne 22 = .ok (.idiv, 1) := by decide +kernel
theorem dX5_coverOne_23 : decode cX5_coverOne 23 = .ok (.istore_n 2, 1) := by decide +kernel
theorem dX5_coverOne_24 : decode cX5_coverOne 24 = .ok (.aload_n 1, 1) := by decide +kernel
theorem dX5_coverOne_25 : decode cX5_coverOne 25 = .ok (.iconst 4, 1) := by decide +kernel
theorem dX5_coverOne_26 : decode cX5_coverOne 26 = .ok (.iconst 0, 1) := by decide +kernel
theorem dX5_coverOne_27 : decode cX5_coverOne 27 = .ok (.invokevirtual 156, 3) := by decide +kernel
theorem dX5_coverOne_30 : decode cX5_coverOne 30 = .ok (.aload_n 0, 1) := by decide +kernel
theorem dX5_coverOne_31 : decode cX5_coverOne 31 = .ok (.aload_n 1, 1) := by decide +kernel
theorem dX5_coverOne_32 : decode cX5_coverOne 32 = .ok (.getfield 143, 3) := by decide +kernel
theorem dX5_coverOne_35 : decode cX5_coverOne 35 = .ok (.iload_n 2, 1) := by decide +kernel
theorem dX5_coverOne_36 : decode cX5_coverOne 36 = .ok (.invokevirtual 149, 3) := by decide +kernel
theorem dX5_coverOne_39 : decode cX5_coverOne 39 = .ok (.aload_n 0, 1) := by decide +kernel
theorem dX5_coverOne_40 : decode cX5_coverOne 40 = .ok (.iconst 5, 1) := by decide +kernel
theorem dX5_coverOne_41 : decode cX5_coverOne 41 = .ok (.aload_n 1, 1) := by decide +kernel
theorem dX5_coverOne_42 : decode cX5_coverOne 42 = .ok (.iload_n 2, 1) := by decide +kernel
theorem dX5_coverOne_43 : decode cX5_coverOne 43 = .ok (.invokevirtual 159, 3) := by decide +kernel
theorem dX5_coverOne_46 : decode cX5_coverOne 46 = .ok (.iload_n 2, 1) := by decide +kernel
theorem dX5_coverOne_47 : decode cX5_coverOne 47 = .ok (.ireturn, 1) := by decide +kernel
theorem dX5_nextToCover_0 : decode cX5_nextToCover 0 = .ok (.aload_n 0, 1) := by decide +kernel
theorem dX5_nextToCover_1 : decode cX5_nextToCover 1 = .ok (.aload_n 1, 1) := by decide +kernel
theorem dX5_nextToCover_2 : decode cX5_nextToCover 2 = .ok (.invokevirtual 139, 3) := by decide +kernel
theorem dX5_nextToCover_5 : decode cX5_nextToCover 5 = .ok (.astore_n 2, 1) := by decide +kernel
theorem dX5_nextToCover_6 : decode cX5_nextToCover 6 = .ok (.aload_n 2, 1) := by decide +kernel
theorem dX5_nextToCover_7 : decode cX5_nextToCover 7 = .ok (.ifnonnull 11, 3) := by decide +kernel
theorem dX5_nextToCover_10 : decode cX5_nextToCover 10 = .ok (.aload_n 0, 1) := by decide +kernel
theorem dX5_nextToCover_11 : decode cX5_nextToCover 11 = .ok (.aload_n 1, 1) := by decide +kernel
theorem dX5_nextToCover_12 : decode cX5_nextToCover 12 = .ok (.invokevirtual 229, 3) := by decide +kernel
theorem dX5_nextToCover_15 : decode cX5_nextToCover 15 = .ok (.goto 4, 3) := by decide +kernel
theorem dX5_nextToCover_18 : decode cX5_nextToCover 18 = .ok (.aload_n 2, 1) := by decide +kernel
theorem dX5_nextToCover_19 : decode cX5_nextToCover 19 = .ok (.areturn, 1) := by decide +kernel
theorem dX5_letListBuy_0 : decode cX5_letListBuy 0 = .ok (.iconst 0, 1) := by decide +kernel
theorem dX5_letListBuy_1 : decode cX5_letListBuy 1 = .ok (.istore_n 2, 1) := by decide +kernel
theorem dX5_letListBuy_2 : decode cX5_letListBuy 2 = .ok (.iload_n 2, 1) := by decide +kernel
theorem dX5_letListBuy_3 : decode cX5_letListBuy 3 = .ok (.bipush 6, 2) := by decide +kernel
theorem dX5_letListBuy_5 : decode cX5_letListBuy 5 = .ok (.if_icmp .ge 35, 3) := by decide +kernel
theorem dX5_letListBuy_8 : decode cX5_letListBuy 8 = .ok (.aload_n 1, 1) := by decide +kernel
theorem dX5_letListBuy_9 : decode cX5_letListBuy 9 = .ok (.getfield 104, 3) := by decide +kernel
theorem dX5_letListBuy_12 : decode cX5_letListBuy 12 = .ok (.ifCond .le 28, 3) := by decide +kernel
theorem dX5_letListBuy_15 : decode cX5_letListBuy 15 = .ok (.aload_n 0, 1) := by decide +kernel
theorem dX5_letListBuy_16 : decode cX5_letListBuy 16 = .ok (.aload_n 1, 1) := by decide +kernel
theorem dX5_letListBuy_17 : decode cX5_letListBuy 17 = .ok (.iconst 0, 1) := by decide +kernel
theorem dX5_letListBuy_18 : decode cX5_letListBuy 18 = .ok (.invokevirtual 232, 3) := by decide +kernel
theorem dX5_letListBuy_21 : decode cX5_letListBuy 21 = .ok (.aload_n 1, 1) := by decide +kernel
theorem dX5_letListBuy_22 : decode cX5_letListBuy 22 = .ok (.invokevirtual 135, 3) := by decide +kernel
theorem dX5_letListBuy_25 : decode cX5_letListBuy 25 = .ok (.ifCond .ge 4, 3) := by decide +kernel
theorem dX5_letListBuy_28 : decode cX5_letListBuy 28 = .ok (.return_, 1) := by decide +kernel
theorem dX5_letListBuy_29 : decode cX5_letListBuy 29 = .ok (.aload_n 1, 1) := by decide +kernel
theorem dX5_letListBuy_30 : decode cX5_letListBuy 30 = .ok (.iconst 0, 1) := by decide +kernel
theorem dX5_letListBuy_31 : decode cX5_letListBuy 31 = .ok (.invokevirtual 200, 3) := by decide +kernel
theorem dX5_letListBuy_34 : decode cX5_letListBuy 34 = .ok (.iinc 2 1, 3) := by decide +kernel
theorem dX5_letListBuy_37 : decode cX5_letListBuy 37 = .ok (.goto (-35), 3) := by decide +kernel
theorem dX5_letListBuy_40 : decode cX5_letListBuy 40 = .ok (.return_, 1) := by decide +kernel
theorem dX5_sell_0 : decode cX5_sell 0 = .ok (.aload_n 0, 1) := by decide +kernel
theorem dX5_sell_1 : decode cX5_sell 1 = .ok (.aload_n 2, 1) := by decide +kernel
theorem dX5_sell_2 : decode cX5_sell 2 = .ok (.invokevirtual 235, 3) := by decide +kernel
theorem dX5_sell_5 : decode cX5_sell 5 = .ok (.iconst 1, 1) := by decide +kernel
theorem dX5_sell_6 : decode cX5_sell 6 = .ok (.if_icmp .lt 15, 3) := by decide +kernel
theorem dX5_sell_9 : decode cX5_sell 9 = .ok (.aload_n 0, 1) := by decide +kernel
theorem dX5_sell_10 : decode cX5_sell 10 = .ok (.getfield 76, 3) := by decide +kernel
theorem dX5_sell_13 : decode cX5_sell 13 = .ok (.aload_n 0, 1) := by decide +kernel
theorem dX5_sell_14 : decode cX5_sell 14 = .ok (.getfield 43, 3) := by decide +kernel
theorem dX5_sell_17 : decode cX5_sell 17 = .ok (.arraylength, 1) := by decide +kernel
theorem dX5_sell_18 : decode cX5_sell 18 = .ok (.if_icmp .lt 6, 3) := by decide +kernel
theorem dX5_sell_21 : decode cX5_sell 21 = .ok (.bipush (-3), 2) := by decide +kernel
theorem dX5_sell_23 : decode cX5_sell 23 = .ok (.ireturn, 1) := by decide +kernel
theorem dX5_sell_24 : decode cX5_sell 24 = .ok (.aload_n 0, 1) := by decide +kernel
theorem dX5_sell_25 : decode cX5_sell 25 = .ok (.aload_n 2, 1) := by decide +kernel
theorem dX5_sell_26 : decode cX5_sell 26 = .ok (.invokevirtual 238, 3) := by decide +kernel
theorem dX5_sell_29 : decode cX5_sell 29 = .ok (.istore_n 3, 1) := by decide +kernel
theorem dX5_sell_30 : decode cX5_sell 30 = .ok (.aload_n 0, 1) := by decide +kernel
theorem dX5_sell_31 : decode cX5_sell 31 = .ok (.getfield 43, 3) := by decide +kernel
theorem dX5_sell_34 : decode cX5_sell 34 = .ok (.aload_n 0, 1) := by decide +kernel
theorem dX5_sell_35 : decode cX5_sell 35 = .ok (.getfield 76, 3) := by decide +kernel
theorem dX5_sell_38 : decode cX5_sell 38 = .ok (.aaload, 1) := by decide +kernel
theorem dX5_sell_39 : decode cX5_sell 39 = .ok (.astore 4, 2) := by decide +kernel
theorem dX5_sell_41 : decode cX5_sell 41 = .ok (.aload_n 0, 1) := by decide +kernel
theorem dX5_sell_42 : decode cX5_sell 42 = .ok (.dup, 1) := by decide +kernel
theorem dX5_sell_43 : decode cX5_sell 43 = .ok (.getfield 76, 3) := by decide +kernel
theorem dX5_sell_46 : decode cX5_sell 46 = .ok (.iconst 1, 1) := by decide +kernel
theorem dX5_sell_47 : decode cX5_sell 47 = .ok (.iadd, 1) := by decide +kernel
theorem dX5_sell_48 : decode cX5_sell 48 = .ok (.putfield 76, 3) := by decide +kernel
theorem dX5_sell_51 : decode cX5_sell 51 = .ok (.aload 4, 2) := by decide +kernel
theorem dX5_sell_53 : decode cX5_sell 53 = .ok (.aload_n 2, 1) := by decide +kernel
theorem dX5_sell_54 : decode cX5_sell 54 = .ok (.getfield 107, 3) := by decide +kernel
theorem dX5_sell_57 : decode cX5_sell 57 = .ok (.putfield 172, 3) := by decide +kernel
theorem dX5_sell_60 : decode cX5_sell 60 = .ok (.aload 4, 2) := by decide +kernel
theorem dX5_sell_62 : decode cX5_sell 62 = .ok (.iload_n 1, 1) := by decide +kernel
theorem dX5_sell_63 : decode cX5_sell 63 = .ok (.putfield 143, 3) := by decide +kernel
theorem dX5_sell_66 : decode cX5_sell 66 = .ok (.aload 4, 2) := by decide +kernel
theorem dX5_sell_68 : decode cX5_sell 68 = .ok (.iload_n 3, 1) := by decide +kernel
theorem dX5_sell_69 : decode cX5_sell 69 = .ok (.putfield 217, 3) := by decide +kernel
theorem dX5_sell_72 : decode cX5_sell 72 = .ok (.aload 4, 2) := by decide +kernel
theorem dX5_sell_74 : decode cX5_sell 74 = .ok (.aload_n 0, 1) := by decide +kernel
theorem dX5_sell_75 : decode cX5_sell 75 = .ok (.getfield 61, 3) := by decide +kernel
theorem dX5_sell_78 : decode cX5_sell 78 = .ok (.putfield 241, 3) := by decide +kernel
theorem dX5_sell_81 : decode cX5_sell 81 = .ok (.aload 4, 2) := by decide +kernel
theorem dX5_sell_83 : decode cX5_sell 83 = .ok (.iconst 0, 1) := by decide +kernel
theorem dX5_sell_84 : decode cX5_sell 84 = .ok (.putfield 153, 3) := by decide +kernel
theorem dX5_sell_87 : decode cX5_sell 87 = .ok (.aload 4, 2) := by decide +kernel
theorem dX5_sell_89 : decode cX5_sell 89 = .ok (.iconst 0, 1) := by decide +kernel
theorem dX5_sell_90 : decode cX5_sell 90 = .ok (.iconst 0, 1) := by decide +kernel
theorem dX5_sell_91 : decode cX5_sell 91 = .ok (.invokevirtual 156, 3) := by decide +kernel
theorem dX5_sell_94 : decode cX5_sell 94 = .ok (.aload_n 0, 1) := by decide +kernel
theorem dX5_sell_95 : decode cX5_sell 95 = .ok (.iload_n 1, 1) := by decide +kernel
theorem dX5_sell_96 : decode cX5_sell 96 = .ok (.iload_n 3, 1) := by decide +kernel
theorem dX5_sell_97 : decode cX5_sell 97 = .ok (.ineg, 1) := by decide +kernel
theorem dX5_sell_98 : decode cX5_sell 98 = .ok (.invokevirtual 149, 3) := by decide +kernel
theorem dX5_sell_101 : decode cX5_sell 101 = .ok (.aload_n 0, 1) := by decide +kernel
theorem dX5_sell_102 : decode cX5_sell 102 = .ok (.iconst 0, 1) := by decide +kernel
theorem dX5_sell_103 : decode cX5_sell 103 = .ok (.aload 4, 2) := by decide +kernel
theorem dX5_sell_105 : decode cX5_sell 105 = .ok (.iload_n 3, 1) := by decide +kernel
theorem dX5_sell_106 : decode cX5_sell 106 = .ok (.invokevirtual 159, 3) := by decide +kernel
theorem dX5_sell_109 : decode cX5_sell 109 = .ok (.aload 4, 2) := by decide +kernel
theorem dX5_sell_111 : decode cX5_sell 111 = .ok (.getfield 163, 3) := by decide +kernel
theorem dX5_sell_114 : decode cX5_sell 114 = .ok (.ireturn, 1) := by decide +kernel
theorem dX5_sellable_0 : decode cX5_sellable 0 = .ok (.aload_n 0, 1) := by decide +kernel
theorem dX5_sellable_1 : decode cX5_sellable 1 = .ok (.aload_n 1, 1) := by decide +kernel
theorem dX5_sellable_2 : decode cX5_sellable 2 = .ok (.invokevirtual 131, 3) := by decide +kernel
theorem dX5_sellable_5 : decode cX5_sellable 5 = .ok (.ifCond .ne 5, 3) := by decide +kernel
theorem dX5_sellable_8 : decode cX5_sellable 8 = .ok (.iconst 0, 1) := by decide +kernel
theorem dX5_sellable_9 : decode cX5_sellable 9 = .ok (.ireturn, 1) := by decide +kernel
theorem dX5_sellable_10 : decode cX5_sellable 10 = .ok (.aload_n 1, 1) := by decide +kernel
theorem dX5_sellable_11 : decode cX5_sellable 11 = .ok (.getfield 92, 3) := by decide +kernel
theorem dX5_sellable_14 : decode cX5_sellable 14 = .ok (.istore_n 2, 1) := by decide +kernel
theorem dX5_sellable_15 : decode cX5_sellable 15 = .ok (.aload_n 0, 1) := by decide +kernel
theorem dX5_sellable_16 : decode cX5_sellable 16 = .ok (.aload_n 1, 1) := by decide +kernel
theorem dX5_sellable_17 : decode cX5_sellable 17 = .ok (.invokevirtual 207, 3) := by decide +kernel
theorem dX5_sellable_20 : decode cX5_sellable 20 = .ok (.aload_n 0, 1) := by decide +kernel
theorem dX5_sellable_21 : decode cX5_sellable 21 = .ok (.getfield 18, 3) := by decide +kernel
theorem dX5_sellable_24 : decode cX5_sellable 24 = .ok (.iconst 0, 1) := by decide +kernel
theorem dX5_sellable_25 : decode cX5_sellable 25 = .ok (.iaload, 1) := by decide +kernel
theorem dX5_sellable_26 : decode cX5_sellable 26 = .ok (.if_icmp .le 10, 3) := by decide +kernel
theorem dX5_sellable_29 : decode cX5_sellable 29 = .ok (.iload_n 2, 1) := by decide +kernel
theorem dX5_sellable_30 : decode cX5_sellable 30 = .ok (.aload_n 1, 1) := by decide +kernel
theorem dX5_sellable_31 : decode cX5_sellable 31 = .ok (.getfield 95, 3) := by decide +kernel
theorem dX5_sellable_34 : decode cX5_sellable 34 = .ok (.iadd, 1) := by decide +kernel
theorem dX5_sellable_35 : decode cX5_sellable 35 = .ok (.istore_n 2, 1) := by decide +kernel
theorem dX5_sellable_36 : decode cX5_sellable 36 = .ok (.iconst 0, 1) := by decide +kernel
theorem dX5_sellable_37 : decode cX5_sellable 37 = .ok (.iload_n 2, 1) := by decide +kernel
theorem dX5_sellable_38 : decode cX5_sellable 38 = .ok (.aload_n 0, 1) := by decide +kernel
theorem dX5_sellable_39 : decode cX5_sellable 39 = .ok (.aload_n 1, 1) := by decide +kernel
theorem dX5_sellable_40 : decode cX5_sellable 40 = .ok (.invokevirtual 220, 3) := by decide +kernel
theorem dX5_sellable_43 : decode cX5_sellable 43 = .ok (.isub, 1) := by decide +kernel
theorem dX5_sellable_44 : decode cX5_sellable 44 = .ok (.bipush 60, 2) := by decide +kernel
theorem dX5_sellable_46 : decode cX5_sellable 46 = .ok (.aload_n 0, 1) := by decide +kernel
theorem dX5_sellable_47 : decode cX5_sellable 47 = .ok (.getfield 76, 3) := by decide +kernel
theorem dX5_sellable_50 : decode cX5_sellable 50 = .ok (.isub, 1) := by decide +kernel
theorem dX5_sellable_51 : decode cX5_sellable 51 = .ok (.invokestatic 244, 3) := by decide +kernel
theorem dX5_sellable_54 : decode cX5_sellable 54 = .ok (.invokestatic 250, 3) := by decide +kernel
theorem dX5_sellable_57 : decode cX5_sellable 57 = .ok (.ireturn, 1) := by decide +kernel
theorem dX5_priceNow_0 : decode cX5_priceNow 0 = .ok (.aload_n 1, 1) := by decide +kernel
theorem dX5_priceNow_1 : decode cX5_priceNow 1 = .ok (.aload_n 0, 1) := by decide +kernel
theorem dX5_priceNow_2 : decode cX5_priceNow 2 = .ok (.aload_n 1, 1) := by decide +kernel
theorem dX5_priceNow_3 : decode cX5_priceNow 3 = .ok (.invokevirtual 220, 3) := by decide +kernel
theorem dX5_priceNow_6 : decode cX5_priceNow 6 = .ok (.aload_n 0, 1) := by decide +kernel
theorem dX5_priceNow_7 : decode cX5_priceNow 7 = .ok (.aload_n 1, 1) := by decide +kernel
theorem dX5_priceNow_8 : decode cX5_priceNow 8 = .ok (.invokevirtual 207, 3) := by decide +kernel
theorem dX5_priceNow_11 : decode cX5_priceNow 11 = .ok (.invokevirtual 253, 3) := by decide +kernel
theorem dX5_priceNow_14 : decode cX5_priceNow 14 = .ok (.ireturn, 1) := by decide +kernel
theorem dX5_give_0 : decode cX5_give 0 = .ok (.iload_n 1, 1) := by decide +kernel
theorem dX5_give_1 : decode cX5_give 1 = .ok (.invokestatic 128, 3) := by decide +kernel
theorem dX5_give_4 : decode cX5_give 4 = .ok (.ifCond .eq 23, 3) := by decide +kernel
theorem dX5_give_7 : decode cX5_give 7 = .ok (.aload_n 0, 1) := by decide +kernel
theorem dX5_give_8 : decode cX5_give 8 = .ok (.getfield 47, 3) := by decide +kernel
theorem dX5_give_11 : decode cX5_give 11 = .ok (.iload_n 1, 1) := by decide +kernel
theorem dX5_give_12 : decode cX5_give 12 = .ok (.dup2, 1) := by decide +kernel
theorem dX5_give_13 : decode cX5_give 13 = .ok (.iaload, 1) := by decide +kernel
theorem dX5_give_14 : decode cX5_give 14 = .ok (.iload_n 2, 1) := by decide +kernel
theorem dX5_give_15 : decode cX5_give 15 = .ok (.iadd, 1) := by decide +kernel
theorem dX5_give_16 : decode cX5_give 16 = .ok (.iastore, 1) := by decide +kernel
theorem dX5_give_17 : decode cX5_give 17 = .ok (.aload_n 0, 1) := by decide +kernel
theorem dX5_give_18 : decode cX5_give 18 = .ok (.dup, 1) := by decide +kernel
theorem dX5_give_19 : decode cX5_give 19 = .ok (.getfield 82, 3) := by decide +kernel
theorem dX5_give_22 : decode cX5_give 22 = .ok (.iload_n 2, 1) := by decide +kernel
theorem dX5_give_23 : decode cX5_give 23 = .ok (.isub, 1) := by decide +kernel
theorem dX5_give_24 : decode cX5_give 24 = .ok (.putfield 82, 3) := by decide +kernel
theorem dX5_give_27 : decode cX5_give 27 = .ok (.return_, 1) := by decide +kernel
theorem dX5_log_0 : decode cX5_log 0 = .ok (.aload_n 0, 1) := by decide +kernel
theorem dX5_log_1 : decode cX5_log 1 = .ok (.getfield 52, 3) := by decide +kernel
theorem dX5_log_4 : decode cX5_log 4 = .ok (.bipush 9, 2) := by decide +kernel
theorem dX5_log_6 : decode cX5_log 6 = .ok (.aaload, 1) := by decide +kernel
theorem dX5_log_7 : decode cX5_log 7 = .ok (.astore 4, 2) := by decide +kernel
theorem dX5_log_9 : decode cX5_log 9 = .ok (.bipush 9, 2) := by decide +kernel
theorem dX5_log_11 : decode cX5_log 11 = .ok (.istore 5, 2) := by decide +kernel
theorem dX5_log_13 : decode cX5_log 13 = .ok (.iload 5, 2) := by decide +kernel
theorem dX5_log_15 : decode cX5_log 15 = .ok (.ifCond .le 25, 3) := by decide +kernel
theorem dX5_log_18 : decode cX5_log 18 = .ok (.aload_n 0, 1) := by decide +kernel
theorem dX5_log_19 : decode cX5_log 19 = .ok (.getfield 52, 3) := by decide +kernel
theorem dX5_log_22 : decode cX5_log 22 = .ok (.iload 5, 2) := by decide +kernel
theorem dX5_log_24 : decode cX5_log 24 = .ok (.aload_n 0, 1) := by decide +kernel
theorem dX5_log_25 : decode cX5_log 25 = .ok (.getfield 52, 3) := by decide +kernel
theorem dX5_log_28 : decode cX5_log 28 = .ok (.iload 5, 2) := by decide +kernel
theorem dX5_log_30 : decode cX5_log 30 = .ok (.iconst 1, 1) := by decide +kernel
theorem dX5_log_31 : decode cX5_log 31 = .ok (.isub, 1) := by decide +kernel
theorem dX5_log_32 : decode cX5_log 32 = .ok (.aaload, 1) := by decide +kernel
theorem dX5_log_33 : decode cX5_log 33 = .ok (.aastore, 1) := by decide +kernel
theorem dX5_log_34 : decode cX5_log 34 = .ok (.iinc 5 (-1), 3) := by decide +kernel
theorem dX5_log_37 : decode cX5_log 37 = .ok (.goto (-24), 3) := by decide +kernel
theorem dX5_log_40 : decode cX5_log 40 = .ok (.aload_n 0, 1) := by decide +kernel
theorem dX5_log_41 : decode cX5_log 41 = .ok (.getfield 52, 3) := by decide +kernel
theorem dX5_log_44 : decode cX5_log 44 = .ok (.iconst 0, 1) := by decide +kernel
theorem dX5_log_45 : decode cX5_log 45 = .ok (.aload 4, 2) := by decide +kernel
theorem dX5_log_47 : decode cX5_log 47 = .ok (.aastore, 1) := by decide +kernel
theorem dX5_log_48 : decode cX5_log 48 = .ok (.aload 4, 2) := by decide +kernel
theorem dX5_log_50 : decode cX5_log 50 = .ok (.iload_n 1, 1) := by decide +kernel
theorem dX5_log_51 : decode cX5_log 51 = .ok (.putfield 256, 3) := by decide +kernel
theorem dX5_log_54 : decode cX5_log 54 = .ok (.aload 4, 2) := by decide +kernel
theorem dX5_log_56 : decode cX5_log 56 = .ok (.aload_n 2, 1) := by decide +kernel
theorem dX5_log_57 : decode cX5_log 57 = .ok (.getfield 163, 3) := by decide +kernel
theorem dX5_log_60 : decode cX5_log 60 = .ok (.putfield 259, 3) := by decide +kernel
theorem dX5_log_63 : decode cX5_log 63 = .ok (.aload 4, 2) := by decide +kernel
theorem dX5_log_65 : decode cX5_log 65 = .ok (.iload_n 3, 1) := by decide +kernel
theorem dX5_log_66 : decode cX5_log 66 = .ok (.putfield 262, 3) := by decide +kernel
theorem dX5_log_69 : decode cX5_log 69 = .ok (.aload 4, 2) := by decide +kernel
theorem dX5_log_71 : decode cX5_log 71 = .ok (.aload_n 0, 1) := by decide +kernel
theorem dX5_log_72 : decode cX5_log 72 = .ok (.getfield 61, 3) := by decide +kernel
theorem dX5_log_75 : decode cX5_log 75 = .ok (.putfield 265, 3) := by decide +kernel
theorem dX5_log_78 : decode cX5_log 78 = .ok (.aload_n 0, 1) := by decide +kernel
theorem dX5_log_79 : decode cX5_log 79 = .ok (.aload_n 0, 1) := by decide +kernel
theorem dX5_log_80 : decode cX5_log 80 = .ok (.getfield 85, 3) := by decide +kernel
theorem dX5_log_83 : decode cX5_log 83 = .ok (.iconst 1, 1) := by decide +kernel
theorem dX5_log_84 : decode cX5_log 84 = .ok (.iadd, 1) := by decide +kernel
theorem dX5_log_85 : decode cX5_log 85 = .ok (.bipush 10, 2) := by decide +kernel
theorem dX5_log_87 : decode cX5_log 87 = .ok (.invokestatic 244, 3) := by decide +kernel
theorem dX5_log_90 : decode cX5_log 90 = .ok (.putfield 85, 3) := by decide +kernel
theorem dX5_log_93 : decode cX5_log 93 = .ok (.return_, 1) := by decide +kernel
theorem dX5_daysLeft_0 : decode cX5_daysLeft 0 = .ok (.aload_n 1, 1) := by decide +kernel
theorem dX5_daysLeft_1 : decode cX5_daysLeft 1 = .ok (.getfield 91, 3) := by decide +kernel
theorem dX5_daysLeft_4 : decode cX5_daysLeft 4 = .ok (.aload_n 0, 1) := by decide +kernel
theorem dX5_daysLeft_5 : decode cX5_daysLeft 5 = .ok (.getfield 61, 3) := by decide +kernel
theorem dX5_daysLeft_8 : decode cX5_daysLeft 8 = .ok (.isub, 1) := by decide +kernel
theorem dX5_daysLeft_9 : decode cX5_daysLeft 9 = .ok (.ireturn, 1) := by decide +kernel
theorem dX5_isOpen_0 : decode cX5_isOpen 0 = .ok (.aload_n 1, 1) := by decide +kernel
theorem dX5_isOpen_1 : decode cX5_isOpen 1 = .ok (.getfield 91, 3) := by decide +kernel
theorem dX5_isOpen_4 : decode cX5_isOpen 4 = .ok (.aload_n 0, 1) := by decide +kernel
theorem dX5_isOpen_5 : decode cX5_isOpen 5 = .ok (.getfield 61, 3) := by decide +kernel
theorem dX5_isOpen_8 : decode cX5_isOpen 8 = .ok (.if_icmp .le 7, 3) := by decide +kernel
theorem dX5_isOpen_11 : decode cX5_isOpen 11 = .ok (.iconst 1, 1) := by decide +kernel
theorem dX5_isOpen_12 : decode cX5_isOpen 12 = .ok (.goto 4, 3) := by decide +kernel
theorem dX5_isOpen_15 : decode cX5_isOpen 15 = .ok (.iconst 0, 1) := by decide +kernel
theorem dX5_isOpen_16 : decode cX5_isOpen 16 = .ok (.ireturn, 1) := by decide +kernel
theorem dX5_rightsOut_0 : decode cX5_rightsOut 0 = .ok (.iconst 0, 1) := by decide +kernel
theorem dX5_rightsOut_1 : decode cX5_rightsOut 1 = .ok (.istore_n 2, 1) := by decide +kernel
theorem dX5_rightsOut_2 : decode cX5_rightsOut 2 = .ok (.iconst 0, 1) := by decide +kernel
theorem dX5_rightsOut_3 : decode cX5_rightsOut 3 = .ok (.istore_n 3, 1) := by decide +kernel
theorem dX5_rightsOut_4 : decode cX5_rightsOut 4 = .ok (.iload_n 3, 1) := by decide +kernel
theorem dX5_rightsOut_5 : decode cX5_rightsOut 5 = .ok (.aload_n 0, 1) := by decide +kernel
theorem dX5_rightsOut_6 : decode cX5_rightsOut 6 = .ok (.getfield 76, 3) := by decide +kernel
theorem dX5_rightsOut_9 : decode cX5_rightsOut 9 = .ok (.if_icmp .ge 50, 3) := by decide +kernel
theorem dX5_rightsOut_12 : decode cX5_rightsOut 12 = .ok (.iload_n 3, 1) := by decide +kernel
theorem dX5_rightsOut_13 : decode cX5_rightsOut 13 = .ok (.aload_n 0, 1) := by decide +kernel
theorem dX5_rightsOut_14 : decode cX5_rightsOut 14 = .ok (.getfield 43, 3) := by decide +kernel
theorem dX5_rightsOut_17 : decode cX5_rightsOut 17 = .ok (.arraylength, 1) := by decide +kernel
theorem dX5_rightsOut_18 : decode cX5_rightsOut 18 = .ok (.if_icmp .ge 41, 3) := by decide +kernel
theorem dX5_rightsOut_21 : decode cX5_rightsOut 21 = .ok (.aload_n 0, 1) := by decide +kernel
theorem dX5_rightsOut_22 : decode cX5_rightsOut 22 = .ok (.getfield 43, 3) := by decide +kernel
theorem dX5_rightsOut_25 : decode cX5_rightsOut 25 = .ok (.iload_n 3, 1) := by decide +kernel
theorem dX5_rightsOut_26 : decode cX5_rightsOut 26 = .ok (.aaload, 1) := by decide +kernel
theorem dX5_rightsOut_27 : decode cX5_rightsOut 27 = .ok (.getfield 172, 3) := by decide +kernel
theorem dX5_rightsOut_30 : decode cX5_rightsOut 30 = .ok (.aload_n 1, 1) := by decide +kernel
theorem dX5_rightsOut_31 : decode cX5_rightsOut 31 = .ok (.getfield 107, 3) := by decide +kernel
theorem dX5_rightsOut_34 : decode cX5_rightsOut 34 = .ok (.if_icmp .ne 19, 3) := by decide +kernel
theorem dX5_rightsOut_37 : decode cX5_rightsOut 37 = .ok (.aload_n 0, 1) := by decide +kernel
theorem dX5_rightsOut_38 : decode cX5_rightsOut 38 = .ok (.getfield 43, 3) := by decide +kernel
theorem dX5_rightsOut_41 : decode cX5_rightsOut 41 = .ok (.iload_n 3, 1) := by decide +kernel
theorem dX5_rightsOut_42 : decode cX5_rightsOut 42 = .ok (.aaload, 1) := by decide +kernel
theorem dX5_rightsOut_43 : decode cX5_rightsOut 43 = .ok (.getfield 182, 3) := by decide +kernel
theorem dX5_rightsOut_46 : decode cX5_rightsOut 46 = .ok (.iconst 2, 1) := by decide +kernel
theorem dX5_rightsOut_47 : decode cX5_rightsOut 47 = .ok (.if_icmp .gt 6, 3) := by decide +kernel
theorem dX5_rightsOut_50 : decode cX5_rightsOut 50 = .ok (.iinc 2 1, 3) := by decide +kernel
theorem dX5_rightsOut_53 : decode cX5_rightsOut 53 = .ok (.iinc 3 1, 3) := by decide +kernel
theorem dX5_rightsOut_56 : decode cX5_rightsOut 56 = .ok (.goto (-52), 3) := by decide +kernel
theorem dX5_rightsOut_59 : decode cX5_rightsOut 59 = .ok (.iload_n 2, 1) := by decide +kernel
theorem dX5_rightsOut_60 : decode cX5_rightsOut 60 = .ok (.ireturn, 1) := by decide +kernel
theorem dX5_rightsIn_0 : decode cX5_rightsIn 0 = .ok (.iconst 0, 1) := by decide +kernel
theorem dX5_rightsIn_1 : decode cX5_rightsIn 1 = .ok (.istore_n 3, 1) := by decide +kernel
theorem dX5_rightsIn_2 : decode cX5_rightsIn 2 = .ok (.iconst 0, 1) := by decide +kernel
theorem dX5_rightsIn_3 : decode cX5_rightsIn 3 = .ok (.istore 4, 2) := by decide +kernel
theorem dX5_rightsIn_5 : decode cX5_rightsIn 5 = .ok (.iload 4, 2) := by decide +kernel
theorem dX5_rightsIn_7 : decode cX5_rightsIn 7 = .ok (.aload_n 0, 1) := by decide +kernel
theorem dX5_rightsIn_8 : decode cX5_rightsIn 8 = .ok (.getfield 76, 3) := by decide +kernel
theorem dX5_rightsIn_11 : decode cX5_rightsIn 11 = .ok (.if_icmp .ge 53, 3) := by decide +kernel
theorem dX5_rightsIn_14 : decode cX5_rightsIn 14 = .ok (.iload 4, 2) := by decide +kernel
theorem dX5_rightsIn_16 : decode cX5_rightsIn 16 = .ok (.aload_n 0, 1) := by decide +kernel
theorem dX5_rightsIn_17 : decode cX5_rightsIn 17 = .ok (.getfield 43, 3) := by decide +kernel
theorem dX5_rightsIn_20 : decode cX5_rightsIn 20 = .ok (.arraylength, 1) := by decide +kernel
theorem dX5_rightsIn_21 : decode cX5_rightsIn 21 = .ok (.if_icmp .ge 43, 3) := by decide +kernel
theorem dX5_rightsIn_24 : decode cX5_rightsIn 24 = .ok (.aload_n 0, 1) := by decide +kernel
theorem dX5_rightsIn_25 : decode cX5_rightsIn 25 = .ok (.getfield 43, 3) := by decide +kernel
theorem dX5_rightsIn_28 : decode cX5_rightsIn 28 = .ok (.iload 4, 2) := by decide +kernel
theorem dX5_rightsIn_30 : decode cX5_rightsIn 30 = .ok (.aaload, 1) := by decide +kernel
theorem dX5_rightsIn_31 : decode cX5_rightsIn 31 = .ok (.getfield 172, 3) := by decide +kernel
theorem dX5_rightsIn_34 : decode cX5_rightsIn 34 = .ok (.aload_n 1, 1) := by decide +kernel
theorem dX5_rightsIn_35 : decode cX5_rightsIn 35 = .ok (.getfield 107, 3) := by decide +kernel
theorem dX5_rightsIn_38 : decode cX5_rightsIn 38 = .ok (.if_icmp .ne 20, 3) := by decide +kernel
theorem dX5_rightsIn_41 : decode cX5_rightsIn 41 = .ok (.aload_n 0, 1) := by decide +kernel
theorem dX5_rightsIn_42 : decode cX5_rightsIn 42 = .ok (.getfield 43, 3) := by decide +kernel
theorem dX5_rightsIn_45 : decode cX5_rightsIn 45 = .ok (.iload 4, 2) := by decide +kernel
theorem dX5_rightsIn_47 : decode cX5_rightsIn 47 = .ok (.aaload, 1) := by decide +kernel
theorem dX5_rightsIn_48 : decode cX5_rightsIn 48 = .ok (.getfield 182, 3) := by decide +kernel
theorem dX5_rightsIn_51 : decode cX5_rightsIn 51 = .ok (.iload_n 2, 1) := by decide +kernel
theorem dX5_rightsIn_52 : decode cX5_rightsIn 52 = .ok (.if_icmp .ne 6, 3) := by decide +kernel
theorem dX5_rightsIn_55 : decode cX5_rightsIn 55 = .ok (.iinc 3 1, 3) := by decide +kernel
theorem dX5_rightsIn_58 : decode cX5_rightsIn 58 = .ok (.iinc 4 1, 3) := by decide +kernel
theorem dX5_rightsIn_61 : decode cX5_rightsIn 61 = .ok (.goto (-56), 3) := by decide +kernel
theorem dX5_rightsIn_64 : decode cX5_rightsIn 64 = .ok (.iload_n 3, 1) := by decide +kernel
theorem dX5_rightsIn_65 : decode cX5_rightsIn 65 = .ok (.ireturn, 1) := by decide +kernel
theorem dX5_rightsInAll_0 : decode cX5_rightsInAll 0 = .ok (.iconst 0, 1) := by decide +kernel
theorem dX5_rightsInAll_1 : decode cX5_rightsInAll 1 = .ok (.istore_n 2, 1) := by decide +kernel
theorem dX5_rightsInAll_2 : decode cX5_rightsInAll 2 = .ok (.iconst 0, 1) := by decide +kernel
theorem dX5_rightsInAll_3 : decode cX5_rightsInAll 3 = .ok (.istore_n 3, 1) := by decide +kernel
theorem dX5_rightsInAll_4 : decode cX5_rightsInAll 4 = .ok (.iload_n 3, 1) := by decide +kernel
theorem dX5_rightsInAll_5 : decode cX5_rightsInAll 5 = .ok (.aload_n 0, 1) := by decide +kernel
theorem dX5_rightsInAll_6 : decode cX5_rightsInAll 6 = .ok (.getfield 76, 3) := by decide +kernel
theorem dX5_rightsInAll_9 : decode cX5_rightsInAll 9 = .ok (.if_icmp .ge 34, 3) := by decide +kernel
theorem dX5_rightsInAll_12 : decode cX5_rightsInAll 12 = .ok (.iload_n 3, 1) := by decide +kernel
theorem dX5_rightsInAll_13 : decode cX5_rightsInAll 13 = .ok (.aload_n 0, 1) := by decide +kernel
theorem dX5_rightsInAll_14 : decode cX5_rightsInAll 14 = .ok (.getfield 43, 3) := by decide +kernel
theorem dX5_rightsInAll_17 : decode cX5_rightsInAll 17 = .ok (.arraylength, 1) := by decide +kernel
theorem dX5_rightsInAll_18 : decode cX5_rightsInAll 18 = .ok (.if_icmp .ge 25, 3) := by decide +kernel
theorem dX5_rightsInAll_21 : decode cX5_rightsInAll 21 = .ok (.aload_n 0, 1) := by decide +kernel
theorem dX5_rightsInAll_22 : decode cX5_rightsInAll 22 = .ok (.getfield 43, 3) := by decide +kernel
theorem dX5_rightsInAll_25 : decode cX5_rightsInAll 25 = .ok (.iload_n 3, 1) := by decide +kernel
theorem dX5_rightsInAll_26 : decode cX5_rightsInAll 26 = .ok (.aaload, 1) := by decide +kernel
theorem dX5_rightsInAll_27 : decode cX5_rightsInAll 27 = .ok (.getfield 182, 3) := by decide +kernel
theorem dX5_rightsInAll_30 : decode cX5_rightsInAll 30 = .ok (.iload_n 1, 1) := by decide +kernel
theorem dX5_rightsInAll_31 : decode cX5_rightsInAll 31 = .ok (.if_icmp .ne 6, 3) := by decide +kernel
theorem dX5_rightsInAll_34 : decode cX5_rightsInAll 34 = .ok (.iinc 2 1, 3) := by decide +kernel
theorem dX5_rightsInAll_37 : decode cX5_rightsInAll 37 = .ok (.iinc 3 1, 3) := by decide +kernel
theorem dX5_rightsInAll_40 : decode cX5_rightsInAll 40 = .ok (.goto (-36), 3) := by decide +kernel
theorem dX5_rightsInAll_43 : decode cX5_rightsInAll 43 = .ok (.iload_n 2, 1) := by decide +kernel
theorem dX5_rightsInAll_44 : decode cX5_rightsInAll 44 = .ok (.ireturn, 1) := by decide +kernel
theorem dX5_cheapestOffered_0 : decode cX5_cheapestOffered 0 = .ok (.aconst_null, 1) := by decide +kernel
theorem dX5_cheapestOffered_1 : decode cX5_cheapestOffered 1 = .ok (.astore_n 2, 1) := by decide +kernel
theorem dX5_cheapestOffered_2 : decode cX5_cheapestOffered 2 = .ok (.iconst 0, 1) := by decide +kernel
theorem dX5_cheapestOffered_3 : decode cX5_cheapestOffered 3 = .ok (.istore_n 3, 1) := by decide +kernel
theorem dX5_cheapestOffered_4 : decode cX5_cheapestOffered 4 = .ok (.iload_n 3, 1) := by decide +kernel
theorem dX5_cheapestOffered_5 : decode cX5_cheapestOffered 5 = .ok (.aload_n 0, 1) := by decide +kernel
theorem dX5_cheapestOffered_6 : decode cX5_cheapestOffered 6 = .ok (.getfield 76, 3) := by decide +kernel
theorem dX5_cheapestOffered_9 : decode cX5_cheapestOffered 9 = .ok (.if_icmp .ge 66, 3) := by decide +kernel
theorem dX5_cheapestOffered_12 : decode cX5_cheapestOffered 12 = .ok (.iload_n 3, 1) := by decide +kernel
theorem dX5_cheapestOffered_13 : decode cX5_cheapestOffered 13 = .ok (.aload_n 0, 1) := by decide +kernel
theorem dX5_cheapestOffered_14 : decode cX5_cheapestOffered 14 = .ok (.getfield 43, 3) := by decide +kernel
theorem dX5_cheapestOffered_17 : decode cX5_cheapestOffered 17 = .ok (.arraylength, 1) := by decide +kernel
theorem dX5_cheapestOffered_18 : decode cX5_cheapestOffered 18 = .ok (.if_icmp .ge 57, 3) := by decide +kernel
theorem dX5_cheapestOffered_21 : decode cX5_cheapestOffered 21 = .ok (.aload_n 0, 1) := by decide +kernel
theorem dX5_cheapestOffered_22 : decode cX5_cheapestOffered 22 = .ok (.getfield 43, 3) := by decide +kernel
theorem dX5_cheapestOffered_25 : decode cX5_cheapestOffered 25 = .ok (.iload_n 3, 1) := by decide +kernel
theorem dX5_cheapestOffered_26 : decode cX5_cheapestOffered 26 = .ok (.aaload, 1) := by decide +kernel
theorem dX5_cheapestOffered_27 : decode cX5_cheapestOffered 27 = .ok (.astore 4, 2) := by decide +kernel
theorem dX5_cheapestOffered_29 : decode cX5_cheapestOffered 29 = .ok (.aload 4, 2) := by decide +kernel
theorem dX5_cheapestOffered_31 : decode cX5_cheapestOffered 31 = .ok (.getfield 172, 3) := by decide +kernel
theorem dX5_cheapestOffered_34 : decode cX5_cheapestOffered 34 = .ok (.aload_n 1, 1) := by decide +kernel
theorem dX5_cheapestOffered_35 : decode cX5_cheapestOffered 35 = .ok (.getfield 107, 3) := by decide +kernel
theorem dX5_cheapestOffered_38 : decode cX5_cheapestOffered 38 = .ok (.if_icmp .ne 31, 3) := by decide +kernel
theorem dX5_cheapestOffered_41 : decode cX5_cheapestOffered 41 = .ok (.aload 4, 2) := by decide +kernel
theorem dX5_cheapestOffered_43 : decode cX5_cheapestOffered 43 = .ok (.getfield 182, 3) := by decide +kernel
theorem dX5_cheapestOffered_46 : decode cX5_cheapestOffered 46 = .ok (.iconst 1, 1) := by decide +kernel
theorem dX5_cheapestOffered_47 : decode cX5_cheapestOffered 47 = .ok (.if_icmp .ne 22, 3) := by decide +kernel
theorem dX5_cheapestOffered_50 : decode cX5_cheapestOffered 50 = .ok (.aload_n 2, 1) := by decide +kernel
theorem dX5_cheapestOffered_51 : decode cX5_cheapestOffered 51 = .ok (.ifnull 15, 3) := by decide +kernel
theorem dX5_cheapestOffered_54 : decode cX5_cheapestOffered 54 = .ok (.aload 4, 2) := by decide +kernel
theorem dX5_cheapestOffered_56 : decode cX5_cheapestOffered 56 = .ok (.getfield 146, 3) := by decide +kernel
theorem dX5_cheapestOffered_59 : decode cX5_cheapestOffered 59 = .ok (.aload_n 2, 1) := by decide +kernel
theorem dX5_cheapestOffered_60 : decode cX5_cheapestOffered 60 = .ok (.getfield 146, 3) := by decide +kernel
theorem dX5_cheapestOffered_63 : decode cX5_cheapestOffered 63 = .ok (.if_icmp .ge 6, 3) := by decide +kernel
theorem dX5_cheapestOffered_66 : decode cX5_cheapestOffered 66 = .ok (.aload 4, 2) := by decide +kernel
theorem dX5_cheapestOffered_68 : decode cX5_cheapestOffered 68 = .ok (.astore_n 2, 1) := by decide +kernel
theorem dX5_cheapestOffered_69 : decode cX5_cheapestOffered 69 = .ok (.iinc 3 1, 3) := by decide +kernel
theorem dX5_cheapestOffered_72 : decode cX5_cheapestOffered 72 = .ok (.goto (-68), 3) := by decide +kernel
theorem dX5_cheapestOffered_75 : decode cX5_cheapestOffered 75 = .ok (.aload_n 2, 1) := by decide +kernel
theorem dX5_cheapestOffered_76 : decode cX5_cheapestOffered 76 = .ok (.areturn, 1) := by decide +kernel
theorem dX5_cheapestHeld_0 : decode cX5_cheapestHeld 0 = .ok (.aconst_null, 1) := by decide +kernel
theorem dX5_cheapestHeld_1 : decode cX5_cheapestHeld 1 = .ok (.astore_n 2, 1) := by decide +kernel
theorem dX5_cheapestHeld_2 : decode cX5_cheapestHeld 2 = .ok (.iconst 0, 1) := by decide +kernel
theorem dX5_cheapestHeld_3 : decode cX5_cheapestHeld 3 = .ok (.istore_n 3, 1) := by decide +kernel
theorem dX5_cheapestHeld_4 : decode cX5_cheapestHeld 4 = .ok (.iload_n 3, 1) := by decide +kernel
theorem dX5_cheapestHeld_5 : decode cX5_cheapestHeld 5 = .ok (.aload_n 0, 1) := by decide +kernel
theorem dX5_cheapestHeld_6 : decode cX5_cheapestHeld 6 = .ok (.getfield 76, 3) := by decide +kernel
theorem dX5_cheapestHeld_9 : decode cX5_cheapestHeld 9 = .ok (.if_icmp .ge 65, 3) := by decide +kernel
theorem dX5_cheapestHeld_12 : decode cX5_cheapestHeld 12 = .ok (.iload_n 3, 1) := by decide +kernel
theorem dX5_cheapestHeld_13 : decode cX5_cheapestHeld 13 = .ok (.aload_n 0, 1) := by decide +kernel
theorem dX5_cheapestHeld_14 : decode cX5_cheapestHeld 14 = .ok (.getfield 43, 3) := by decide +kernel
theorem dX5_cheapestHeld_17 : decode cX5_cheapestHeld 17 = .ok (.arraylength, 1) := by decide +kernel
theorem dX5_cheapestHeld_18 : decode cX5_cheapestHeld 18 = .ok (.if_icmp .ge 56, 3) := by decide +kernel
theorem dX5_cheapestHeld_21 : decode cX5_cheapestHeld 21 = .ok (.aload_n 0, 1) := by decide +kernel
theorem dX5_cheapestHeld_22 : decode cX5_cheapestHeld 22 = .ok (.getfield 43, 3) := by decide +kernel
theorem dX5_cheapestHeld_25 : decode cX5_cheapestHeld 25 = .ok (.iload_n 3, 1) := by decide +kernel
theorem dX5_cheapestHeld_26 : decode cX5_cheapestHeld 26 = .ok (.aaload, 1) := by decide +kernel
theorem dX5_cheapestHeld_27 : decode cX5_cheapestHeld 27 = .ok (.astore 4, 2) := by decide +kernel
theorem dX5_cheapestHeld_29 : decode cX5_cheapestHeld 29 = .ok (.aload 4, 2) := by decide +kernel
theorem dX5_cheapestHeld_31 : decode cX5_cheapestHeld 31 = .ok (.getfield 172, 3) := by decide +kernel
theorem dX5_cheapestHeld_34 : decode cX5_cheapestHeld 34 = .ok (.aload_n 1, 1) := by decide +kernel
theorem dX5_cheapestHeld_35 : decode cX5_cheapestHeld 35 = .ok (.getfield 107, 3) := by decide +kernel
theorem dX5_cheapestHeld_38 : decode cX5_cheapestHeld 38 = .ok (.if_icmp .ne 30, 3) := by decide +kernel
theorem dX5_cheapestHeld_41 : decode cX5_cheapestHeld 41 = .ok (.aload 4, 2) := by decide +kernel
theorem dX5_cheapestHeld_43 : decode cX5_cheapestHeld 43 = .ok (.getfield 182, 3) := by decide +kernel
theorem dX5_cheapestHeld_46 : decode cX5_cheapestHeld 46 = .ok (.ifCond .ne 22, 3) := by decide +kernel
theorem dX5_cheapestHeld_49 : decode cX5_cheapestHeld 49 = .ok (.aload_n 2, 1) := by decide +kernel
theorem dX5_cheapestHeld_50 : decode cX5_cheapestHeld 50 = .ok (.ifnull 15, 3) := by decide +kernel
theorem dX5_cheapestHeld_53 : decode cX5_cheapestHeld 53 = .ok (.aload 4, 2) := by decide +kernel
theorem dX5_cheapestHeld_55 : decode cX5_cheapestHeld 55 = .ok (.getfield 217, 3) := by decide +kernel
theorem dX5_cheapestHeld_58 : decode cX5_cheapestHeld 58 = .ok (.aload_n 2, 1) := by decide +kernel
theorem dX5_cheapestHeld_59 : decode cX5_cheapestHeld 59 = .ok (.getfield 217, 3) := by decide +kernel
theorem dX5_cheapestHeld_62 : decode cX5_cheapestHeld 62 = .ok (.if_icmp .ge 6, 3) := by decide +kernel
theorem dX5_cheapestHeld_65 : decode cX5_cheapestHeld 65 = .ok (.aload 4, 2) := by decide +kernel
theorem dX5_cheapestHeld_67 : decode cX5_cheapestHeld 67 = .ok (.astore_n 2, 1) := by decide +kernel
theorem dX5_cheapestHeld_68 : decode cX5_cheapestHeld 68 = .ok (.iinc 3 1, 3) := by decide +kernel
theorem dX5_cheapestHeld_71 : decode cX5_cheapestHeld 71 = .ok (.goto (-67), 3) := by decide +kernel
theorem dX5_cheapestHeld_74 : decode cX5_cheapestHeld 74 = .ok (.aload_n 2, 1) := by decide +kernel
theorem dX5_cheapestHeld_75 : decode cX5_cheapestHeld 75 = .ok (.areturn, 1) := by decide +kernel
theorem dX5_stageOf_0 : decode cX5_stageOf 0 = .ok (.iconst 0, 1) := by decide +kernel
theorem dX5_stageOf_1 : decode cX5_stageOf 1 = .ok (.istore_n 2, 1) := by decide +kernel
theorem dX5_stageOf_2 : decode cX5_stageOf 2 = .ok (.iload_n 2, 1) := by decide +kernel
theorem dX5_stageOf_3 : decode cX5_stageOf 3 = .ok (.aload_n 0, 1) := by decide +kernel
theorem dX5_stageOf_4 : decode cX5_stageOf 4 = .ok (.getfield 26, 3) := by decide +kernel
theorem dX5_stageOf_7 : decode cX5_stageOf 7 = .ok (.arraylength, 1) := by decide +kernel
theorem dX5_stageOf_8 : decode cX5_stageOf 8 = .ok (.if_icmp .ge 33, 3) := by decide +kernel
theorem dX5_stageOf_11 : decode cX5_stageOf 11 = .ok (.aload_n 0, 1) := by decide +kernel
theorem dX5_stageOf_12 : decode cX5_stageOf 12 = .ok (.aload_n 1, 1) := by decide +kernel
theorem dX5_stageOf_13 : decode cX5_stageOf 13 = .ok (.invokevirtual 131, 3) := by decide +kernel
theorem dX5_stageOf_16 : decode cX5_stageOf 16 = .ok (.ifCond .eq 25, 3) := by decide +kernel
theorem dX5_stageOf_19 : decode cX5_stageOf 19 = .ok (.aload_n 0, 1) := by decide +kernel
theorem dX5_stageOf_20 : decode cX5_stageOf 20 = .ok (.getfield 26, 3) := by decide +kernel
theorem dX5_stageOf_23 : decode cX5_stageOf 23 = .ok (.iload_n 2, 1) := by decide +kernel
theorem dX5_stageOf_24 : decode cX5_stageOf 24 = .ok (.iaload, 1) := by decide +kernel
theorem dX5_stageOf_25 : decode cX5_stageOf 25 = .ok (.aload_n 0, 1) := by decide +kernel
theorem dX5_stageOf_26 : decode cX5_stageOf 26 = .ok (.aload_n 1, 1) := by decide +kernel
theorem dX5_stageOf_27 : decode cX5_stageOf 27 = .ok (.invokevirtual 207, 3) := by decide +kernel
theorem dX5_stageOf_30 : decode cX5_stageOf 30 = .ok (.if_icmp .gt 5, 3) := by decide +kernel
theorem dX5_stageOf_33 : decode cX5_stageOf 33 = .ok (.iload_n 2, 1) := by decide +kernel
theorem dX5_stageOf_34 : decode cX5_stageOf 34 = .ok (.ireturn, 1) := by decide +kernel
theorem dX5_stageOf_35 : decode cX5_stageOf 35 = .ok (.iinc 2 1, 3) := by decide +kernel
theorem dX5_stageOf_38 : decode cX5_stageOf 38 = .ok (.goto (-36), 3) := by decide +kernel
theorem dX5_stageOf_41 : decode cX5_stageOf 41 = .ok (.bipush (-5), 2) := by decide +kernel
theorem dX5_stageOf_43 : decode cX5_stageOf 43 = .ok (.ireturn, 1) := by decide +kernel
theorem dX5_refund_0 : decode cX5_refund 0 = .ok (.aload_n 0, 1) := by decide +kernel
theorem dX5_refund_1 : decode cX5_refund 1 = .ok (.aload_n 1, 1) := by decide +kernel
theorem dX5_refund_2 : decode cX5_refund 2 = .ok (.getfield 172, 3) := by decide +kernel
theorem dX5_refund_5 : decode cX5_refund 5 = .ok (.invokevirtual 124, 3) := by decide +kernel
theorem dX5_refund_8 : decode cX5_refund 8 = .ok (.astore_n 2, 1) := by decide +kernel
theorem dX5_refund_9 : decode cX5_refund 9 = .ok (.aload_n 2, 1) := by decide +kernel
theorem dX5_refund_10 : decode cX5_refund 10 = .ok (.ifnull 10, 3) := by decide +kernel
theorem dX5_refund_13 : decode cX5_refund 13 = .ok (.aload_n 1, 1) := by decide +kernel
theorem dX5_refund_14 : decode cX5_refund 14 = .ok (.invokevirtual 178, 3) := by decide +kernel
theorem dX5_refund_17 : decode cX5_refund 17 = .ok (.ifCond .ne 6, 3) := by decide +kernel
theorem dX5_refund_20 : decode cX5_refund 20 = .ok (.bipush (-5), 2) := by decide +kernel
theorem dX5_refund_22 : decode cX5_refund 22 = .ok (.ireturn, 1) := by decide +kernel
theorem dX5_refund_23 : decode cX5_refund 23 = .ok (.aload_n 0, 1) := by decide +kernel
theorem dX5_refund_24 : decode cX5_refund 24 = .ok (.aload_n 2, 1) := by decide +kernel
theorem dX5_refund_25 : decode cX5_refund 25 = .ok (.invokevirtual 266, 3) := by decide +kernel
theorem dX5_refund_28 : decode cX5_refund 28 = .ok (.istore_n 3, 1) := by decide +kernel
theorem dX5_refund_29 : decode cX5_refund 29 = .ok (.aload_n 0, 1) := by decide +kernel
theorem dX5_refund_30 : decode cX5_refund 30 = .ok (.iload_n 3, 1) := by decide +kernel
theorem dX5_refund_31 : decode cX5_refund 31 = .ok (.invokevirtual 110, 3) := by decide +kernel
theorem dX5_refund_34 : decode cX5_refund 34 = .ok (.ifCond .eq 25, 3) := by decide +kernel
theorem dX5_refund_37 : decode cX5_refund 37 = .ok (.aload_n 1, 1) := by decide +kernel
theorem dX5_refund_38 : decode cX5_refund 38 = .ok (.getfield 217, 3) := by decide +kernel
theorem dX5_refund_41 : decode cX5_refund 41 = .ok (.aload_n 1, 1) := by decide +kernel
theorem dX5_refund_42 : decode cX5_refund 42 = .ok (.getfield 217, 3) := by decide +kernel
theorem dX5_refund_45 : decode cX5_refund 45 = .ok (.aload_n 0, 1) := by decide +kernel
theorem dX5_refund_46 : decode cX5_refund 46 = .ok (.getfield 32, 3) := by decide +kernel
theorem dX5_refund_49 : decode cX5_refund 49 = .ok (.iload_n 3, 1) := by decide +kernel
theorem dX5_refund_50 : decode cX5_refund 50 = .ok (.iaload, 1) := by decide +kernel
theorem dX5_refund_51 : decode cX5_refund 51 = .ok (.imul, 1) := by decide +kernel
theorem dX5_refund_52 : decode cX5_refund 52 = .ok (.bipush 100, 2) := by decide +kernel
theorem dX5_refund_54 : decode cX5_refund 54 = .ok (.idiv, 1) := by decide +kernel
theorem dX5_refund_55 : decode cX5_refund 55 = .ok (.isub, 1) := by decide +kernel
theorem dX5_refund_56 : decode cX5_refund 56 = .ok (.goto 5, 3) := by decide +kernel
theorem dX5_refund_59 : decode cX5_refund 59 = .ok (.bipush (-5), 2) := by decide +kernel
theorem dX5_refund_61 : decode cX5_refund 61 = .ok (.ireturn, 1) := by decide +kernel
theorem dX5_canBeExercised_0 : decode cX5_canBeExercised 0 = .ok (.aload_n 1, 1) := by decide +kernel
theorem dX5_canBeExercised_1 : decode cX5_canBeExercised 1 = .ok (.getfield 182, 3) := by decide +kernel
theorem dX5_canBeExercised_4 : decode cX5_canBeExercised 4 = .ok (.ifCond .ne 42, 3) := by decide +kernel
theorem dX5_canBeExercised_7 : decode cX5_canBeExercised 7 = .ok (.aload_n 0, 1) := by decide +kernel
theorem dX5_canBeExercised_8 : decode cX5_canBeExercised 8 = .ok (.aload_n 2, 1) := by decide +kernel
theorem dX5_canBeExercised_9 : decode cX5_canBeExercised 9 = .ok (.invokevirtual 131, 3) := by decide +kernel
theorem dX5_canBeExercised_12 : decode cX5_canBeExercised 12 = .ok (.ifCond .eq 34, 3) := by decide +kernel
theorem dX5_canBeExercised_15 : decode cX5_canBeExercised 15 = .ok (.aload_n 0, 1) := by decide +kernel
theorem dX5_canBeExercised_16 : decode cX5_canBeExercised 16 = .ok (.aload_n 2, 1) := by decide +kernel
theorem dX5_canBeExercised_17 : decode cX5_canBeExercised 17 = .ok (.invokevirtual 207, 3) := by decide +kernel
theorem dX5_canBeExercised_20 : decode cX5_canBeExercised 20 = .ok (.aload_n 0, 1) := by decide +kernel
theorem dX5_canBeExercised_21 : decode cX5_canBeExercised 21 = .ok (.getfield 18, 3) := by decide +kernel
theorem dX5_canBeExercised_24 : decode cX5_canBeExercised 24 = .ok (.iconst 2, 1) := by decide +kernel
theorem dX5_canBeExercised_25 : decode cX5_canBeExercised 25 = .ok (.iaload, 1) := by decide +kernel
theorem dX5_canBeExercised_26 : decode cX5_canBeExercised 26 = .ok (.if_icmp .gt 20, 3) := by decide +kernel
theorem dX5_canBeExercised_29 : decode cX5_canBeExercised 29 = .ok (.aload_n 0, 1) := by decide +kernel
theorem dX5_canBeExercised_30 : decode cX5_canBeExercised 30 = .ok (.aload_n 2, 1) := by decide +kernel
theorem dX5_canBeExercised_31 : decode cX5_canBeExercised 31 = .ok (.iconst 2, 1) := by decide +kernel
theorem dX5_canBeExercised_32 : decode cX5_canBeExercised 32 = .ok (.invokevirtual 189, 3) := by decide +kernel
theorem dX5_canBeExercised_35 : decode cX5_canBeExercised 35 = .ok (.aload_n 2, 1) := by decide +kernel
theorem dX5_canBeExercised_36 : decode cX5_canBeExercised 36 = .ok (.getfield 92, 3) := by decide +kernel
theorem dX5_canBeExercised_39 : decode cX5_canBeExercised 39 = .ok (.if_icmp .ge 7, 3) := by decide +kernel
theorem dX5_canBeExercised_42 : decode cX5_canBeExercised 42 = .ok (.iconst 1, 1) := by decide +kernel
theorem dX5_canBeExercised_43 : decode cX5_canBeExercised 43 = .ok (.goto 4, 3) := by decide +kernel
theorem dX5_canBeExercised_46 : decode cX5_canBeExercised 46 = .ok (.iconst 0, 1) := by decide +kernel
theorem dX5_canBeExercised_47 : decode cX5_canBeExercised 47 = .ok (.ireturn, 1) := by decide +kernel
theorem dX5_tellOfDate_0 : decode cX5_tellOfDate 0 = .ok (.iload_n 2, 1) := by decide +kernel
theorem dX5_tellOfDate_1 : decode cX5_tellOfDate 1 = .ok (.tableswitch 155 0 13 #[71, 76, 81, 86, 91, 96, 106, 112, 119, 126, 132, 138, 144, 149], 71) := by decide +kernel
theorem dX5_tellOfDate_72 : decode cX5_tellOfDate 72 = .ok (.aload_n 1, 1) := by decide +kernel
theorem dX5_tellOfDate_73 : decode cX5_tellOfDate 73 = .ok (.getfield 91, 3) := by decide +kernel
theorem dX5_tellOfDate_76 : decode cX5_tellOfDate 76 = .ok (.ireturn, 1) := by decide +kernel
theorem dX5_tellOfDate_77 : decode cX5_tellOfDate 77 = .ok (.aload_n 1, 1) := by decide +kernel
theorem dX5_tellOfDate_78 : decode cX5_tellOfDate 78 = .ok (.getfield 92, 3) := by decide +kernel
theorem dX5_tellOfDate_81 : decode cX5_tellOfDate 81 = .ok (.ireturn, 1) := by decide +kernel
theorem dX5_tellOfDate_82 : decode cX5_tellOfDate 82 = .ok (.aload_n 1, 1) := by decide +kernel
theorem dX5_tellOfDate_83 : decode cX5_tellOfDate 83 = .ok (.getfield 95, 3) := by decide +kernel
theorem dX5_tellOfDate_86 : decode cX5_tellOfDate 86 = .ok (.ireturn, 1) := by decide +kernel
theorem dX5_tellOfDate_87 : decode cX5_tellOfDate 87 = .ok (.aload_n 1, 1) := by decide +kernel
theorem dX5_tellOfDate_88 : decode cX5_tellOfDate 88 = .ok (.getfield 98, 3) := by decide +kernel
theorem dX5_tellOfDate_91 : decode cX5_tellOfDate 91 = .ok (.ireturn, 1) := by decide +kernel
theorem dX5_tellOfDate_92 : decode cX5_tellOfDate 92 = .ok (.aload_n 1, 1) := by decide +kernel
theorem dX5_tellOfDate_93 : decode cX5_tellOfDate 93 = .ok (.getfield 101, 3) := by decide +kernel
theorem dX5_tellOfDate_96 : decode cX5_tellOfDate 96 = .ok (.ireturn, 1) := by decide +kernel
theorem dX5_tellOfDate_97 : decode cX5_tellOfDate 97 = .ok (.iconst 0, 1) := by decide +kernel
theorem dX5_tellOfDate_98 : decode cX5_tellOfDate 98 = .ok (.aload_n 0, 1) := by decide +kernel
theorem dX5_tellOfDate_99 : decode cX5_tellOfDate 99 = .ok (.aload_n 1, 1) := by decide +kernel
theorem dX5_tellOfDate_100 : decode cX5_tellOfDate 100 = .ok (.invokevirtual 207, 3) := by decide +kernel
theorem dX5_tellOfDate_103 : decode cX5_tellOfDate 103 = .ok (.invokestatic 250, 3) := by decide +kernel
theorem dX5_tellOfDate_106 : decode cX5_tellOfDate 106 = .ok (.ireturn, 1) := by decide +kernel
theorem dX5_tellOfDate_107 : decode cX5_tellOfDate 107 = .ok (.aload_n 0, 1) := by decide +kernel
theorem dX5_tellOfDate_108 : decode cX5_tellOfDate 108 = .ok (.aload_n 1, 1) := by decide +kernel
theorem dX5_tellOfDate_109 : decode cX5_tellOfDate 109 = .ok (.invokevirtual 220, 3) := by decide +kernel
theorem dX5_tellOfDate_112 : decode cX5_tellOfDate 112 = .ok (.ireturn, 1) := by decide +kernel
theorem dX5_tellOfDate_113 : decode cX5_tellOfDate 113 = .ok (.aload_n 0, 1) := by decide +kernel
theorem dX5_tellOfDate_114 : decode cX5_tellOfDate 114 = .ok (.aload_n 1, 1) := by decide +kernel
theorem dX5_tellOfDate_115 : decode cX5_tellOfDate 115 = .ok (.iconst 2, 1) := by decide +kernel
theorem dX5_tellOfDate_116 : decode cX5_tellOfDate 116 = .ok (.invokevirtual 189, 3) := by decide +kernel
theorem dX5_tellOfDate_119 : decode cX5_tellOfDate 119 = .ok (.ireturn, 1) := by decide +kernel
theorem dX5_tellOfDate_120 : decode cX5_tellOfDate 120 = .ok (.aload_n 0, 1) := by decide +kernel
theorem dX5_tellOfDate_121 : decode cX5_tellOfDate 121 = .ok (.aload_n 1, 1) := by decide +kernel
theorem dX5_tellOfDate_122 : decode cX5_tellOfDate 122 = .ok (.iconst 1, 1) := by decide +kernel
theorem dX5_tellOfDate_123 : decode cX5_tellOfDate 123 = .ok (.invokevirtual 189, 3) := by decide +kernel
theorem dX5_tellOfDate_126 : decode cX5_tellOfDate 126 = .ok (.ireturn, 1) := by decide +kernel
theorem dX5_tellOfDate_127 : decode cX5_tellOfDate 127 = .ok (.aload_n 0, 1) := by decide +kernel
theorem dX5_tellOfDate_128 : decode cX5_tellOfDate 128 = .ok (.aload_n 1, 1) := by decide +kernel
theorem dX5_tellOfDate_129 : decode cX5_tellOfDate 129 = .ok (.invokevirtual 238, 3) := by decide +kernel
theorem dX5_tellOfDate_132 : decode cX5_tellOfDate 132 = .ok (.ireturn, 1) := by decide +kernel
theorem dX5_tellOfDate_133 : decode cX5_tellOfDate 133 = .ok (.aload_n 0, 1) := by decide +kernel
theorem dX5_tellOfDate_134 : decode cX5_tellOfDate 134 = .ok (.aload_n 1, 1) := by decide +kernel
theorem dX5_tellOfDate_135 : decode cX5_tellOfDate 135 = .ok (.invokevirtual 235, 3) := by decide +kernel
theorem dX5_tellOfDate_138 : decode cX5_tellOfDate 138 = .ok (.ireturn, 1) := by decide +kernel
theorem dX5_tellOfDate_139 : decode cX5_tellOfDate 139 = .ok (.aload_n 0, 1) := by decide +kernel
theorem dX5_tellOfDate_140 : decode cX5_tellOfDate 140 = .ok (.aload_n 1, 1) := by decide +kernel
theorem dX5_tellOfDate_141 : decode cX5_tellOfDate 141 = .ok (.invokevirtual 266, 3) := by decide +kernel
theorem dX5_tellOfDate_144 : decode cX5_tellOfDate 144 = .ok (.ireturn, 1) := by decide +kernel
theorem dX5_tellOfDate_145 : decode cX5_tellOfDate 145 = .ok (.aload_n 1, 1) := by decide +kernel
theorem dX5_tellOfDate_146 : decode cX5_tellOfDate 146 = .ok (.getfield 104, 3) := by decide +kernel
theorem dX5_tellOfDate_149 : decode cX5_tellOfDate 149 = .ok (.ireturn, 1) := by decide +kernel
theorem dX5_tellOfDate_150 : decode cX5_tellOfDate 150 = .ok (.aload_n 0, 1) := by decide +kernel
theorem dX5_tellOfDate_151 : decode cX5_tellOfDate 151 = .ok (.aload_n 1, 1) := by decide +kernel
theorem dX5_tellOfDate_152 : decode cX5_tellOfDate 152 = .ok (.invokevirtual 269, 3) := by decide +kernel
theorem dX5_tellOfDate_155 : decode cX5_tellOfDate 155 = .ok (.ireturn, 1) := by decide +kernel
theorem dX5_tellOfDate_156 : decode cX5_tellOfDate 156 = .ok (.bipush (-2), 2) := by decide +kernel
theorem dX5_tellOfDate_158 : decode cX5_tellOfDate 158 = .ok (.ireturn, 1) := by decide +kernel
theorem dX5_lowestAsking_0 : decode cX5_lowestAsking 0 = .ok (.aload_n 0, 1) := by decide +kernel
theorem dX5_lowestAsking_1 : decode cX5_lowestAsking 1 = .ok (.aload_n 1, 1) := by decide +kernel
theorem dX5_lowestAsking_2 : decode cX5_lowestAsking 2 = .ok (.invokevirtual 139, 3) := by decide +kernel
theorem dX5_lowestAsking_5 : decode cX5_lowestAsking 5 = .ok (.astore_n 2, 1) := by decide +kernel
theorem dX5_lowestAsking_6 : decode cX5_lowestAsking 6 = .ok (.aload_n 2, 1) := by decide +kernel
theorem dX5_lowestAsking_7 : decode cX5_lowestAsking 7 = .ok (.ifnonnull 8, 3) := by decide +kernel
theorem dX5_lowestAsking_10 : decode cX5_lowestAsking 10 = .ok (.bipush (-5), 2) := by decide +kernel
theorem dX5_lowestAsking_12 : decode cX5_lowestAsking 12 = .ok (.goto 7, 3) := by decide +kernel
theorem dX5_lowestAsking_15 : decode cX5_lowestAsking 15 = .ok (.aload_n 2, 1) := by decide +kernel
theorem dX5_lowestAsking_16 : decode cX5_lowestAsking 16 = .ok (.getfield 146, 3) := by decide +kernel
theorem dX5_lowestAsking_19 : decode cX5_lowestAsking 19 = .ok (.ireturn, 1) := by decide +kernel
theorem dX5_tellOfRight_0 : decode cX5_tellOfRight 0 = .ok (.iload_n 2, 1) := by decide +kernel
theorem dX5_tellOfRight_1 : decode cX5_tellOfRight 1 = .ok (.tableswitch 111 0 8 #[51, 56, 61, 66, 71, 89, 94, 99, 105], 51) := by decide +kernel
theorem dX5_tellOfRight_52 : decode cX5_tellOfRight 52 = .ok (.aload_n 1, 1) := by decide +kernel
theorem dX5_tellOfRight_53 : decode cX5_tellOfRight 53 = .ok (.getfield 172, 3) := by decide +kernel
theorem dX5_tellOfRight_56 : decode cX5_tellOfRight 56 = .ok (.ireturn, 1) := by decide +kernel
theorem dX5_tellOfRight_57 : decode cX5_tellOfRight 57 = .ok (.aload_n 1, 1) := by decide +kernel
theorem dX5_tellOfRight_58 : decode cX5_tellOfRight 58 = .ok (.getfield 143, 3) := by decide +kernel
theorem dX5_tellOfRight_61 : decode cX5_tellOfRight 61 = .ok (.ireturn, 1) := by decide +kernel
theorem dX5_tellOfRight_62 : decode cX5_tellOfRight 62 = .ok (.aload_n 1, 1) := by decide +kernel
theorem dX5_tellOfRight_63 : decode cX5_tellOfRight 63 = .ok (.getfield 217, 3) := by decide +kernel
theorem dX5_tellOfRight_66 : decode cX5_tellOfRight 66 = .ok (.ireturn, 1) := by decide +kernel
theorem dX5_tellOfRight_67 : decode cX5_tellOfRight 67 = .ok (.aload_n 1, 1) := by decide +kernel
theorem dX5_tellOfRight_68 : decode cX5_tellOfRight 68 = .ok (.getfield 182, 3) := by decide +kernel
theorem dX5_tellOfRight_71 : decode cX5_tellOfRight 71 = .ok (.ireturn, 1) := by decide +kernel
theorem dX5_tellOfRight_72 : decode cX5_tellOfRight 72 = .ok (.aload_n 1, 1) := by decide +kernel
theorem dX5_tellOfRight_73 : decode cX5_tellOfRight 73 = .ok (.getfield 182, 3) := by decide +kernel
theorem dX5_tellOfRight_76 : decode cX5_tellOfRight 76 = .ok (.iconst 1, 1) := by decide +kernel
theorem dX5_tellOfRight_77 : decode cX5_tellOfRight 77 = .ok (.if_icmp .ne 10, 3) := by decide +kernel
theorem dX5_tellOfRight_80 : decode cX5_tellOfRight 80 = .ok (.aload_n 1, 1) := by decide +kernel
theorem dX5_tellOfRight_81 : decode cX5_tellOfRight 81 = .ok (.getfield 146, 3) := by decide +kernel
theorem dX5_tellOfRight_84 : decode cX5_tellOfRight 84 = .ok (.goto 5, 3) := by decide +kernel
theorem dX5_tellOfRight_87 : decode cX5_tellOfRight 87 = .ok (.bipush (-5), 2) := by decide +kernel
theorem dX5_tellOfRight_89 : decode cX5_tellOfRight 89 = .ok (.ireturn, 1) := by decide +kernel
theorem dX5_tellOfRight_90 : decode cX5_tellOfRight 90 = .ok (.aload_n 1, 1) := by decide +kernel
theorem dX5_tellOfRight_91 : decode cX5_tellOfRight 91 = .ok (.getfield 241, 3) := by decide +kernel
theorem dX5_tellOfRight_94 : decode cX5_tellOfRight 94 = .ok (.ireturn, 1) := by decide +kernel
theorem dX5_tellOfRight_95 : decode cX5_tellOfRight 95 = .ok (.aload_n 1, 1) := by decide +kernel
theorem dX5_tellOfRight_96 : decode cX5_tellOfRight 96 = .ok (.getfield 153, 3) := by decide +kernel
theorem dX5_tellOfRight_99 : decode cX5_tellOfRight 99 = .ok (.ireturn, 1) := by decide +kernel
theorem dX5_tellOfRight_100 : decode cX5_tellOfRight 100 = .ok (.aload_n 0, 1) := by decide +kernel
theorem dX5_tellOfRight_101 : decode cX5_tellOfRight 101 = .ok (.aload_n 1, 1) := by decide +kernel
theorem dX5_tellOfRight_102 : decode cX5_tellOfRight 102 = .ok (.invokevirtual 168, 3) := by decide +kernel
theorem dX5_tellOfRight_105 : decode cX5_tellOfRight 105 = .ok (.ireturn, 1) := by decide +kernel
theorem dX5_tellOfRight_106 : decode cX5_tellOfRight 106 = .ok (.aload_n 0, 1) := by decide +kernel
theorem dX5_tellOfRight_107 : decode cX5_tellOfRight 107 = .ok (.aload_n 1, 1) := by decide +kernel
theorem dX5_tellOfRight_108 : decode cX5_tellOfRight 108 = .ok (.invokevirtual 272, 3) := by decide +kernel
theorem dX5_tellOfRight_111 : decode cX5_tellOfRight 111 = .ok (.ireturn, 1) := by decide +kernel
theorem dX5_tellOfRight_112 : decode cX5_tellOfRight 112 = .ok (.bipush (-2), 2) := by decide +kernel
theorem dX5_tellOfRight_114 : decode cX5_tellOfRight 114 = .ok (.ireturn, 1) := by decide +kernel
theorem dX5_tellExercisable_0 : decode cX5_tellExercisable 0 = .ok (.aload_n 0, 1) := by decide +kernel
theorem dX5_tellExercisable_1 : decode cX5_tellExercisable 1 = .ok (.aload_n 1, 1) := by decide +kernel
theorem dX5_tellExercisable_2 : decode cX5_tellExercisable 2 = .ok (.getfield 172, 3) := by decide +kernel
theorem dX5_tellExercisable_5 : decode cX5_tellExercisable 5 = .ok (.invokevirtual 124, 3) := by decide +kernel
theorem dX5_tellExercisable_8 : decode cX5_tellExercisable 8 = .ok (.astore_n 2, 1) := by decide +kernel
theorem dX5_tellExercisable_9 : decode cX5_tellExercisable 9 = .ok (.aload_n 2, 1) := by decide +kernel
theorem dX5_tellExercisable_10 : decode cX5_tellExercisable 10 = .ok (.ifnull 16, 3) := by decide +kernel
theorem dX5_tellExercisable_13 : decode cX5_tellExercisable 13 = .ok (.aload_n 0, 1) := by decide +kernel
theorem dX5_tellExercisable_14 : decode cX5_tellExercisable 14 = .ok (.aload_n 1, 1) := by decide +kernel
theorem dX5_tellExercisable_15 : decode cX5_tellExercisable 15 = .ok (.aload_n 2, 1) := by decide +kernel
theorem dX5_tellExercisable_16 : decode cX5_tellExercisable 16 = .ok (.invokevirtual 185, 3) := by decide +kernel
theorem dX5_tellExercisable_19 : decode cX5_tellExercisable 19 = .ok (.ifCond .eq 7, 3) := by decide +kernel
theorem dX5_tellExercisable_22 : decode cX5_tellExercisable 22 = .ok (.iconst 1, 1) := by decide +kernel
theorem dX5_tellExercisable_23 : decode cX5_tellExercisable 23 = .ok (.goto 4, 3) := by decide +kernel
theorem dX5_tellExercisable_26 : decode cX5_tellExercisable 26 = .ok (.iconst 0, 1) := by decide +kernel
theorem dX5_tellExercisable_27 : decode cX5_tellExercisable 27 = .ok (.ireturn, 1) := by decide +kernel
theorem dX5_tellOfHolder_0 : decode cX5_tellOfHolder 0 = .ok (.iload_n 2, 1) := by decide +kernel
theorem dX5_tellOfHolder_1 : decode cX5_tellOfHolder 1 = .ok (.tableswitch 80 0 3 #[31, 53, 67, 74], 31) := by decide +kernel
theorem dX5_tellOfHolder_32 : decode cX5_tellOfHolder 32 = .ok (.iload_n 1, 1) := by decide +kernel
theorem dX5_tellOfHolder_33 : decode cX5_tellOfHolder 33 = .ok (.invokestatic 128, 3) := by decide +kernel
theorem dX5_tellOfHolder_36 : decode cX5_tellOfHolder 36 = .ok (.ifCond .eq 16, 3) := by decide +kernel
theorem dX5_tellOfHolder_39 : decode cX5_tellOfHolder 39 = .ok (.ldc_w 275, 3) := by decide +kernel
theorem dX5_tellOfHolder_42 : decode cX5_tellOfHolder 42 = .ok (.aload_n 0, 1) := by decide +kernel
theorem dX5_tellOfHolder_43 : decode cX5_tellOfHolder 43 = .ok (.getfield 47, 3) := by decide +kernel
theorem dX5_tellOfHolder_46 : decode cX5_tellOfHolder 46 = .ok (.iload_n 1, 1) := by decide +kernel
theorem dX5_tellOfHolder_47 : decode cX5_tellOfHolder 47 = .ok (.iaload, 1) := by decide +kernel
theorem dX5_tellOfHolder_48 : decode cX5_tellOfHolder 48 = .ok (.iadd, 1) := by decide +kernel
theorem dX5_tellOfHolder_49 : decode cX5_tellOfHolder 49 = .ok (.goto 4, 3) := by decide +kernel
theorem dX5_tellOfHolder_52 : decode cX5_tellOfHolder 52 = .ok (.iconst (-1), 1) := by decide +kernel
theorem dX5_tellOfHolder_53 : decode cX5_tellOfHolder 53 = .ok (.ireturn, 1) := by decide +kernel
theorem dX5_tellOfHolder_54 : decode cX5_tellOfHolder 54 = .ok (.aload_n 0, 1) := by decide +kernel
theorem dX5_tellOfHolder_55 : decode cX5_tellOfHolder 55 = .ok (.iload_n 1, 1) := by decide +kernel
theorem dX5_tellOfHolder_56 : decode cX5_tellOfHolder 56 = .ok (.iconst 0, 1) := by decide +kernel
theorem dX5_tellOfHolder_57 : decode cX5_tellOfHolder 57 = .ok (.invokevirtual 276, 3) := by decide +kernel
theorem dX5_tellOfHolder_60 : decode cX5_tellOfHolder 60 = .ok (.aload_n 0, 1) := by decide +kernel
theorem dX5_tellOfHolder_61 : decode cX5_tellOfHolder 61 = .ok (.iload_n 1, 1) := by decide +kernel
theorem dX5_tellOfHolder_62 : decode cX5_tellOfHolder 62 = .ok (.iconst 1, 1) := by decide +kernel
theorem dX5_tellOfHolder_63 : decode cX5_tellOfHolder 63 = .ok (.invokevirtual 276, 3) := by decide +kernel
theorem dX5_tellOfHolder_66 : decode cX5_tellOfHolder 66 = .ok (.iadd, 1) := by decide +kernel
theorem dX5_tellOfHolder_67 : decode cX5_tellOfHolder 67 = .ok (.ireturn, 1) := by decide +kernel
theorem dX5_tellOfHolder_68 : decode cX5_tellOfHolder 68 = .ok (.aload_n 0, 1) := by decide +kernel
theorem dX5_tellOfHolder_69 : decode cX5_tellOfHolder 69 = .ok (.iload_n 1, 1) := by decide +kernel
theorem dX5_tellOfHolder_70 : decode cX5_tellOfHolder 70 = .ok (.iconst 2, 1) := by decide +kernel
theorem dX5_tellOfHolder_71 : decode cX5_tellOfHolder 71 = .ok (.invokevirtual 276, 3) := by decide +kernel
theorem dX5_tellOfHolder_74 : decode cX5_tellOfHolder 74 = .ok (.ireturn, 1) := by decide +kernel
theorem dX5_tellOfHolder_75 : decode cX5_tellOfHolder 75 = .ok (.aload_n 0, 1) := by decide +kernel
theorem dX5_tellOfHolder_76 : decode cX5_tellOfHolder 76 = .ok (.iload_n 1, 1) := by decide +kernel
theorem dX5_tellOfHolder_77 : decode cX5_tellOfHolder 77 = .ok (.invokevirtual 279, 3) := by decide +kernel
theorem dX5_tellOfHolder_80 : decode cX5_tellOfHolder 80 = .ok (.ireturn, 1) := by decide +kernel
theorem dX5_tellOfHolder_81 : decode cX5_tellOfHolder 81 = .ok (.bipush (-2), 2) := by decide +kernel
theorem dX5_tellOfHolder_83 : decode cX5_tellOfHolder 83 = .ok (.ireturn, 1) := by decide +kernel
theorem dX5_rightsOfHolder_0 : decode cX5_rightsOfHolder 0 = .ok (.iconst 0, 1) := by decide +kernel
theorem dX5_rightsOfHolder_1 : decode cX5_rightsOfHolder 1 = .ok (.istore_n 3, 1) := by decide +kernel
theorem dX5_rightsOfHolder_2 : decode cX5_rightsOfHolder 2 = .ok (.iconst 0, 1) := by decide +kernel
theorem dX5_rightsOfHolder_3 : decode cX5_rightsOfHolder 3 = .ok (.istore 4, 2) := by decide +kernel
theorem dX5_rightsOfHolder_5 : decode cX5_rightsOfHolder 5 = .ok (.iload 4, 2) := by decide +kernel
theorem dX5_rightsOfHolder_7 : decode cX5_rightsOfHolder 7 = .ok (.aload_n 0, 1) := by decide +kernel
theorem dX5_rightsOfHolder_8 : decode cX5_rightsOfHolder 8 = .ok (.getfield 76, 3) := by decide +kernel
theorem dX5_rightsOfHolder_11 : decode cX5_rightsOfHolder 11 = .ok (.if_icmp .ge 50, 3) := by decide +kernel
theorem dX5_rightsOfHolder_14 : decode cX5_rightsOfHolder 14 = .ok (.iload 4, 2) := by decide +kernel
theorem dX5_rightsOfHolder_16 : decode cX5_rightsOfHolder 16 = .ok (.aload_n 0, 1) := by decide +kernel
theorem dX5_rightsOfHolder_17 : decode cX5_rightsOfHolder 17 = .ok (.getfield 43, 3) := by decide +kernel
theorem dX5_rightsOfHolder_20 : decode cX5_rightsOfHolder 20 = .ok (.arraylength, 1) := by decide +kernel
theorem dX5_rightsOfHolder_21 : decode cX5_rightsOfHolder 21 = .ok (.if_icmp .ge 40, 3) := by decide +kernel
theorem dX5_rightsOfHolder_24 : decode cX5_rightsOfHolder 24 = .ok (.aload_n 0, 1) := by decide +kernel
theorem dX5_rightsOfHolder_25 : decode cX5_rightsOfHolder 25 = .ok (.getfield 43, 3) := by decide +kernel
theorem dX5_rightsOfHolder_28 : decode cX5_rightsOfHolder 28 = .ok (.iload 4, 2) := by decide +kernel
theorem dX5_rightsOfHolder_30 : decode cX5_rightsOfHolder 30 = .ok (.aaload, 1) := by decide +kernel
theorem dX5_rightsOfHolder_31 : decode cX5_rightsOfHolder 31 = .ok (.getfield 143, 3) := by decide +kernel
theorem dX5_rightsOfHolder_34 : decode cX5_rightsOfHolder 34 = .ok (.iload_n 1, 1) := by decide +kernel
theorem dX5_rightsOfHolder_35 : decode cX5_rightsOfHolder 35 = .ok (.if_icmp .ne 20, 3) := by decide +kernel
theorem dX5_rightsOfHolder_38 : decode cX5_rightsOfHolder 38 = .ok (.aload_n 0, 1) := by decide +kernel
theorem dX5_rightsOfHolder_39 : decode cX5_rightsOfHolder 39 = .ok (.getfield 43, 3) := by decide +kernel
theorem dX5_rightsOfHolder_42 : decode cX5_rightsOfHolder 42 = .ok (.iload 4, 2) := by decide +kernel
theorem dX5_rightsOfHolder_44 : decode cX5_rightsOfHolder 44 = .ok (.aaload, 1) := by decide +kernel
theorem dX5_rightsOfHolder_45 : decode cX5_rightsOfHolder 45 = .ok (.getfield 182, 3) := by decide +kernel
theorem dX5_rightsOfHolder_48 : decode cX5_rightsOfHolder 48 = .ok (.iload_n 2, 1) := by decide +kernel
theorem dX5_rightsOfHolder_49 : decode cX5_rightsOfHolder 49 = .ok (.if_icmp .ne 6, 3) := by decide +kernel
theorem dX5_rightsOfHolder_52 : decode cX5_rightsOfHolder 52 = .ok (.iinc 3 1, 3) := by decide +kernel
theorem dX5_rightsOfHolder_55 : decode cX5_rightsOfHolder 55 = .ok (.iinc 4 1, 3) := by decide +kernel
theorem dX5_rightsOfHolder_58 : decode cX5_rightsOfHolder 58 = .ok (.goto (-53), 3) := by decide +kernel
theorem dX5_rightsOfHolder_61 : decode cX5_rightsOfHolder 61 = .ok (.iload_n 3, 1) := by decide +kernel
theorem dX5_rightsOfHolder_62 : decode cX5_rightsOfHolder 62 = .ok (.ireturn, 1) := by decide +kernel
theorem dX5_listsWith_0 : decode cX5_listsWith 0 = .ok (.iconst 0, 1) := by decide +kernel
theorem dX5_listsWith_1 : decode cX5_listsWith 1 = .ok (.istore_n 2, 1) := by decide +kernel
theorem dX5_listsWith_2 : decode cX5_listsWith 2 = .ok (.iconst 0, 1) := by decide +kernel
theorem dX5_listsWith_3 : decode cX5_listsWith 3 = .ok (.istore_n 3, 1) := by decide +kernel
theorem dX5_listsWith_4 : decode cX5_listsWith 4 = .ok (.iload_n 3, 1) := by decide +kernel
theorem dX5_listsWith_5 : decode cX5_listsWith 5 = .ok (.aload_n 0, 1) := by decide +kernel
theorem dX5_listsWith_6 : decode cX5_listsWith 6 = .ok (.getfield 69, 3) := by decide +kernel
theorem dX5_listsWith_9 : decode cX5_listsWith 9 = .ok (.if_icmp .ge 34, 3) := by decide +kernel
theorem dX5_listsWith_12 : decode cX5_listsWith 12 = .ok (.iload_n 3, 1) := by decide +kernel
theorem dX5_listsWith_13 : decode cX5_listsWith 13 = .ok (.aload_n 0, 1) := by decide +kernel
theorem dX5_listsWith_14 : decode cX5_listsWith 14 = .ok (.getfield 37, 3) := by decide +kernel
theorem dX5_listsWith_17 : decode cX5_listsWith 17 = .ok (.arraylength, 1) := by decide +kernel
theorem dX5_listsWith_18 : decode cX5_listsWith 18 = .ok (.if_icmp .ge 25, 3) := by decide +kernel
theorem dX5_listsWith_21 : decode cX5_listsWith 21 = .ok (.aload_n 0, 1) := by decide +kernel
theorem dX5_listsWith_22 : decode cX5_listsWith 22 = .ok (.getfield 37, 3) := by decide +kernel
theorem dX5_listsWith_25 : decode cX5_listsWith 25 = .ok (.iload_n 3, 1) := by decide +kernel
theorem dX5_listsWith_26 : decode cX5_listsWith 26 = .ok (.aaload, 1) := by decide +kernel
theorem dX5_listsWith_27 : decode cX5_listsWith 27 = .ok (.iload_n 1, 1) := by decide +kernel
theorem dX5_listsWith_28 : decode cX5_listsWith 28 = .ok (.invokevirtual 193, 3) := by decide +kernel
theorem dX5_listsWith_31 : decode cX5_listsWith 31 = .ok (.ifCond .lt 6, 3) := by decide +kernel
theorem dX5_listsWith_34 : decode cX5_listsWith 34 = .ok (.iinc 2 1, 3) := by decide +kernel
theorem dX5_listsWith_37 : decode cX5_listsWith 37 = .ok (.iinc 3 1, 3) := by decide +kernel
theorem dX5_listsWith_40 : decode cX5_listsWith 40 = .ok (.goto (-36), 3) := by decide +kernel
theorem dX5_listsWith_43 : decode cX5_listsWith 43 = .ok (.iload_n 2, 1) := by decide +kernel
theorem dX5_listsWith_44 : decode cX5_listsWith 44 = .ok (.ireturn, 1) := by decide +kernel
theorem dX5_tellOfStage_0 : decode cX5_tellOfStage 0 = .ok (.aload_n 0, 1) := by decide +kernel
theorem dX5_tellOfStage_1 : decode cX5_tellOfStage 1 = .ok (.iload_n 1, 1) := by decide +kernel
theorem dX5_tellOfStage_2 : decode cX5_tellOfStage 2 = .ok (.invokevirtual 110, 3) := by decide +kernel
theorem dX5_tellOfStage_5 : decode cX5_tellOfStage 5 = .ok (.ifCond .ne 5, 3) := by decide +kernel
theorem dX5_tellOfStage_8 : decode cX5_tellOfStage 8 = .ok (.iconst (-1), 1) := by decide +kernel
theorem dX5_tellOfStage_9 : decode cX5_tellOfStage 9 = .ok (.ireturn, 1) := by decide +kernel
theorem dX5_tellOfStage_10 : decode cX5_tellOfStage 10 = .ok (.iload_n 2, 1) := by decide +kernel
theorem dX5_tellOfStage_11 : decode cX5_tellOfStage 11 = .ok (.ifCond .ne 10, 3) := by decide +kernel
theorem dX5_tellOfStage_14 : decode cX5_tellOfStage 14 = .ok (.aload_n 0, 1) := by decide +kernel
theorem dX5_tellOfStage_15 : decode cX5_tellOfStage 15 = .ok (.getfield 26, 3) := by decide +kernel
theorem dX5_tellOfStage_18 : decode cX5_tellOfStage 18 = .ok (.iload_n 1, 1) := by decide +kernel
theorem dX5_tellOfStage_19 : decode cX5_tellOfStage 19 = .ok (.iaload, 1) := by decide +kernel
theorem dX5_tellOfStage_20 : decode cX5_tellOfStage 20 = .ok (.ireturn, 1) := by decide +kernel
theorem dX5_tellOfStage_21 : decode cX5_tellOfStage 21 = .ok (.iload_n 2, 1) := by decide +kernel
theorem dX5_tellOfStage_22 : decode cX5_tellOfStage 22 = .ok (.iconst 1, 1) := by decide +kernel
theorem dX5_tellOfStage_23 : decode cX5_tellOfStage 23 = .ok (.if_icmp .ne 12, 3) := by decide +kernel
theorem dX5_tellOfStage_26 : decode cX5_tellOfStage 26 = .ok (.aload_n 0, 1) := by decide +kernel
theorem dX5_tellOfStage_27 : decode cX5_tellOfStage 27 = .ok (.getfield 32, 3) := by decide +kernel
theorem dX5_tellOfStage_30 : decode cX5_tellOfStage 30 = .ok (.iload_n 1, 1) := by decide +kernel
theorem dX5_tellOfStage_31 : decode cX5_tellOfStage 31 = .ok (.iaload, 1) := by decide +kernel
theorem dX5_tellOfStage_32 : decode cX5_tellOfStage 32 = .ok (.goto 5, 3) := by decide +kernel
theorem dX5_tellOfStage_35 : decode cX5_tellOfStage 35 = .ok (.bipush (-2), 2) := by decide +kernel
theorem dX5_tellOfStage_37 : decode cX5_tellOfStage 37 = .ok (.ireturn, 1) := by decide +kernel
theorem dX5_tellCount_0 : decode cX5_tellCount 0 = .ok (.iload_n 1, 1) := by decide +kernel
theorem dX5_tellCount_1 : decode cX5_tellCount 1 = .ok (.iconst 3, 1) := by decide +kernel
theorem dX5_tellCount_2 : decode cX5_tellCount 2 = .ok (.if_icmp .lt 17, 3) := by decide +kernel
theorem dX5_tellCount_5 : decode cX5_tellCount 5 = .ok (.iload_n 1, 1) := by decide +kernel
theorem dX5_tellCount_6 : decode cX5_tellCount 6 = .ok (.bipush 8, 2) := by decide +kernel
theorem dX5_tellCount_8 : decode cX5_tellCount 8 = .ok (.if_icmp .gt 11, 3) := by decide +kernel
theorem dX5_tellCount_11 : decode cX5_tellCount 11 = .ok (.aload_n 0, 1) := by decide +kernel
theorem dX5_tellCount_12 : decode cX5_tellCount 12 = .ok (.iload_n 1, 1) := by decide +kernel
theorem dX5_tellCount_13 : decode cX5_tellCount 13 = .ok (.iconst 3, 1) := by decide +kernel
theorem dX5_tellCount_14 : decode cX5_tellCount 14 = .ok (.isub, 1) := by decide +kernel
theorem dX5_tellCount_15 : decode cX5_tellCount 15 = .ok (.invokevirtual 282, 3) := by decide +kernel
theorem dX5_tellCount_18 : decode cX5_tellCount 18 = .ok (.ireturn, 1) := by decide +kernel
theorem dX5_tellCount_19 : decode cX5_tellCount 19 = .ok (.iload_n 1, 1) := by decide +kernel
theorem dX5_tellCount_20 : decode cX5_tellCount 20 = .ok (.bipush 10, 2) := by decide +kernel
theorem dX5_tellCount_22 : decode cX5_tellCount 22 = .ok (.if_icmp .lt 19, 3) := by decide +kernel
theorem dX5_tellCount_25 : decode cX5_tellCount 25 = .ok (.iload_n 1, 1) := by decide +kernel
theorem dX5_tellCount_26 : decode cX5_tellCount 26 = .ok (.bipush 13, 2) := by decide +kernel
theorem dX5_tellCount_28 : decode cX5_tellCount 28 = .ok (.if_icmp .gt 13, 3) := by decide +kernel
theorem dX5_tellCount_31 : decode cX5_tellCount 31 = .ok (.aload_n 0, 1) := by decide +kernel
theorem dX5_tellCount_32 : decode cX5_tellCount 32 = .ok (.getfield 18, 3) := by decide +kernel
theorem dX5_tellCount_35 : decode cX5_tellCount 35 = .ok (.iload_n 1, 1) := by decide +kernel
theorem dX5_tellCount_36 : decode cX5_tellCount 36 = .ok (.bipush 10, 2) := by decide +kernel
theorem dX5_tellCount_38 : decode cX5_tellCount 38 = .ok (.isub, 1) := by decide +kernel
theorem dX5_tellCount_39 : decode cX5_tellCount 39 = .ok (.iaload, 1) := by decide +kernel
theorem dX5_tellCount_40 : decode cX5_tellCount 40 = .ok (.ireturn, 1) := by decide +kernel
theorem dX5_tellCount_41 : decode cX5_tellCount 41 = .ok (.iload_n 1, 1) := by decide +kernel
theorem dX5_tellCount_42 : decode cX5_tellCount 42 = .ok (.tableswitch 78 0 9 #[54, 59, 64, 78, 78, 78, 78, 78, 78, 69], 54) := by decide +kernel
theorem dX5_tellCount_96 : decode cX5_tellCount 96 = .ok (.aload_n 0, 1) := by decide +kernel
theorem dX5_tellCount_97 : decode cX5_tellCount 97 = .ok (.getfield 61, 3) := by decide +kernel
theorem dX5_tellCount_100 : decode cX5_tellCount 100 = .ok (.ireturn, 1) := by decide +kernel
theorem dX5_tellCount_101 : decode cX5_tellCount 101 = .ok (.aload_n 0, 1) := by decide +kernel
theorem dX5_tellCount_102 : decode cX5_tellCount 102 = .ok (.getfield 69, 3) := by decide +kernel
theorem dX5_tellCount_105 : decode cX5_tellCount 105 = .ok (.ireturn, 1) := by decide +kernel
theorem dX5_tellCount_106 : decode cX5_tellCount 106 = .ok (.aload_n 0, 1) := by decide +kernel
theorem dX5_tellCount_107 : decode cX5_tellCount 107 = .ok (.getfield 76, 3) := by decide +kernel
theorem dX5_tellCount_110 : decode cX5_tellCount 110 = .ok (.ireturn, 1) := by decide +kernel
theorem dX5_tellCount_111 : decode cX5_tellCount 111 = .ok (.ldc_w 275, 3) := by decide +kernel
theorem dX5_tellCount_114 : decode cX5_tellCount 114 = .ok (.aload_n 0, 1) := by decide +kernel
theorem dX5_tellCount_115 : decode cX5_tellCount 115 = .ok (.getfield 82, 3) := by decide +kernel
theorem dX5_tellCount_118 : decode cX5_tellCount 118 = .ok (.iadd, 1) := by decide +kernel
theorem dX5_tellCount_119 : decode cX5_tellCount 119 = .ok (.ireturn, 1) := by decide +kernel
theorem dX5_tellCount_120 : decode cX5_tellCount 120 = .ok (.bipush (-2), 2) := by decide +kernel
theorem dX5_tellCount_122 : decode cX5_tellCount 122 = .ok (.ireturn, 1) := by decide +kernel
theorem dX6_init_0 : decode cX6_init 0 = .ok (.aload_n 0, 1) := by decide +kernel
theorem dX6_init_1 : decode cX6_init 1 = .ok (.invokespecial 1, 3) := by decide +kernel
theorem dX6_init_4 : decode cX6_init 4 = .ok (.aload_n 0, 1) := by decide +kernel
theorem dX6_init_5 : decode cX6_init 5 = .ok (.new 7, 3) := by decide +kernel
theorem dX6_init_8 : decode cX6_init 8 = .ok (.dup, 1) := by decide +kernel
theorem dX6_init_9 : decode cX6_init 9 = .ok (.invokespecial 9, 3) := by decide +kernel
theorem dX6_init_12 : decode cX6_init 12 = .ok (.putfield 10, 3) := by decide +kernel
theorem dX6_init_15 : decode cX6_init 15 = .ok (.aload_n 0, 1) := by decide +kernel
theorem dX6_init_16 : decode cX6_init 16 = .ok (.new 7, 3) := by decide +kernel
theorem dX6_init_19 : decode cX6_init 19 = .ok (.dup, 1) := by decide +kernel
theorem dX6_init_20 : decode cX6_init 20 = .ok (.invokespecial 9, 3) := by decide +kernel
theorem dX6_init_23 : decode cX6_init 23 = .ok (.putfield 16, 3) := by decide +kernel
theorem dX6_init_26 : decode cX6_init 26 = .ok (.aload_n 0, 1) := by decide +kernel
theorem dX6_init_27 : decode cX6_init 27 = .ok (.new 19, 3) := by decide +kernel
theorem dX6_init_30 : decode cX6_init 30 = .ok (.dup, 1) := by decide +kernel
theorem dX6_init_31 : decode cX6_init 31 = .ok (.invokespecial 21, 3) := by decide +kernel
theorem dX6_init_34 : decode cX6_init 34 = .ok (.putfield 22, 3) := by decide +kernel
theorem dX6_init_37 : decode cX6_init 37 = .ok (.aload_n 0, 1) := by decide +kernel
theorem dX6_init_38 : decode cX6_init 38 = .ok (.new 26, 3) := by decide +kernel
theorem dX6_init_41 : decode cX6_init 41 = .ok (.dup, 1) := by decide +kernel
theorem dX6_init_42 : decode cX6_init 42 = .ok (.invokespecial 28, 3) := by decide +kernel
theorem dX6_init_45 : decode cX6_init 45 = .ok (.putfield 29, 3) := by decide +kernel
theorem dX6_init_48 : decode cX6_init 48 = .ok (.return_, 1) := by decide +kernel
theorem dX6_addDate_0 : decode cX6_addDate 0 = .ok (.aload_n 0, 1) := by decide +kernel
theorem dX6_addDate_1 : decode cX6_addDate 1 = .ok (.getfield 22, 3) := by decide +kernel
theorem dX6_addDate_4 : decode cX6_addDate 4 = .ok (.aload_n 0, 1) := by decide +kernel
theorem dX6_addDate_5 : decode cX6_addDate 5 = .ok (.getfield 10, 3) := by decide +kernel
theorem dX6_addDate_8 : decode cX6_addDate 8 = .ok (.invokevirtual 33, 3) := by decide +kernel
theorem dX6_addDate_11 : decode cX6_addDate 11 = .ok (.aload_n 0, 1) := by decide +kernel
theorem dX6_addDate_12 : decode cX6_addDate 12 = .ok (.getfield 22, 3) := by decide +kernel
theorem dX6_addDate_15 : decode cX6_addDate 15 = .ok (.aload_n 0, 1) := by decide +kernel
theorem dX6_addDate_16 : decode cX6_addDate 16 = .ok (.getfield 10, 3) := by decide +kernel
theorem dX6_addDate_19 : decode cX6_addDate 19 = .ok (.iload_n 1, 1) := by decide +kernel
theorem dX6_addDate_20 : decode cX6_addDate 20 = .ok (.iload_n 2, 1) := by decide +kernel
theorem dX6_addDate_21 : decode cX6_addDate 21 = .ok (.iload_n 3, 1) := by decide +kernel
theorem dX6_addDate_22 : decode cX6_addDate 22 = .ok (.iload 4, 2) := by decide +kernel
theorem dX6_addDate_24 : decode cX6_addDate 24 = .ok (.iload 5, 2) := by decide +kernel
theorem dX6_addDate_26 : decode cX6_addDate 26 = .ok (.invokevirtual 37, 3) := by decide +kernel
theorem dX6_addDate_29 : decode cX6_addDate 29 = .ok (.invokevirtual 41, 3) := by decide +kernel
theorem dX6_addDate_32 : decode cX6_addDate 32 = .ok (.ireturn, 1) := by decide +kernel
theorem dX6_setStage_0 : decode cX6_setStage 0 = .ok (.aload_n 0, 1) := by decide +kernel
theorem dX6_setStage_1 : decode cX6_setStage 1 = .ok (.getfield 22, 3) := by decide +kernel
theorem dX6_setStage_4 : decode cX6_setStage 4 = .ok (.aload_n 0, 1) := by decide +kernel
theorem dX6_setStage_5 : decode cX6_setStage 5 = .ok (.getfield 10, 3) := by decide +kernel
theorem dX6_setStage_8 : decode cX6_setStage 8 = .ok (.invokevirtual 33, 3) := by decide +kernel
theorem dX6_setStage_11 : decode cX6_setStage 11 = .ok (.aload_n 0, 1) := by decide +kernel
theorem dX6_setStage_12 : decode cX6_setStage 12 = .ok (.getfield 22, 3) := by decide +kernel
theorem dX6_setStage_15 : decode cX6_setStage 15 = .ok (.aload_n 0, 1) := by decide +kernel
theorem dX6_setStage_16 : decode cX6_setStage 16 = .ok (.getfield 10, 3) := by decide +kernel
theorem dX6_setStage_19 : decode cX6_setStage 19 = .ok (.iload_n 1, 1) := by decide +kernel
theorem dX6_setStage_20 : decode cX6_setStage 20 = .ok (.iload_n 2, 1) := by decide +kernel
theorem dX6_setStage_21 : decode cX6_setStage 21 = .ok (.iload_n 3, 1) := by decide +kernel
theorem dX6_setStage_22 : decode cX6_setStage 22 = .ok (.invokevirtual 45, 3) := by decide +kernel
theorem dX6_setStage_25 : decode cX6_setStage 25 = .ok (.invokevirtual 41, 3) := by decide +kernel
theorem dX6_setStage_28 : decode cX6_setStage 28 = .ok (.ireturn, 1) := by decide +kernel
theorem dX6_set_0 : decode cX6_set 0 = .ok (.aload_n 0, 1) := by decide +kernel
theorem dX6_set_1 : decode cX6_set 1 = .ok (.getfield 22, 3) := by decide +kernel
theorem dX6_set_4 : decode cX6_set 4 = .ok (.aload_n 0, 1) := by decide +kernel
theorem dX6_set_5 : decode cX6_set 5 = .ok (.getfield 10, 3) := by decide +kernel
theorem dX6_set_8 : decode cX6_set 8 = .ok (.invokevirtual 33, 3) := by decide +kernel
theorem dX6_set_11 : decode cX6_set 11 = .ok (.aload_n 0, 1) := by decide +kernel
theorem dX6_set_12 : decode cX6_set 12 = .ok (.getfield 22, 3) := by decide +kernel
theorem dX6_set_15 : decode cX6_set 15 = .ok (.aload_n 0, 1) := by decide +kernel
theorem dX6_set_16 : decode cX6_set 16 = .ok (.getfield 10, 3) := by decide +kernel
theorem dX6_set_19 : decode cX6_set 19 = .ok (.iload_n 1, 1) := by decide +kernel
theorem dX6_set_20 : decode cX6_set 20 = .ok (.iload_n 2, 1) := by decide +kernel
theorem dX6_set_21 : decode cX6_set 21 = .ok (.invokevirtual 49, 3) := by decide +kernel
theorem dX6_set_24 : decode cX6_set 24 = .ok (.invokevirtual 41, 3) := by decide +kernel
theorem dX6_set_27 : decode cX6_set 27 = .ok (.ireturn, 1) := by decide +kernel
theorem dX6_buy_0 : decode cX6_buy 0 = .ok (.aload_n 0, 1) := by decide +kernel
theorem dX6_buy_1 : decode cX6_buy 1 = .ok (.getfield 22, 3) := by decide +kernel
theorem dX6_buy_4 : decode cX6_buy 4 = .ok (.aload_n 0, 1) := by decide +kernel
theorem dX6_buy_5 : decode cX6_buy 5 = .ok (.getfield 10, 3) := by decide +kernel
theorem dX6_buy_8 : decode cX6_buy 8 = .ok (.invokevirtual 33, 3) := by decide +kernel
theorem dX6_buy_11 : decode cX6_buy 11 = .ok (.aload_n 0, 1) := by decide +kernel
theorem dX6_buy_12 : decode cX6_buy 12 = .ok (.getfield 22, 3) := by decide +kernel
theorem dX6_buy_15 : decode cX6_buy 15 = .ok (.aload_n 0, 1) := by decide +kernel
theorem dX6_buy_16 : decode cX6_buy 16 = .ok (.getfield 10, 3) := by decide +kernel
theorem dX6_buy_19 : decode cX6_buy 19 = .ok (.iload_n 1, 1) := by decide +kernel
theorem dX6_buy_20 : decode cX6_buy 20 = .ok (.iload_n 2, 1) := by decide +kernel
theorem dX6_buy_21 : decode cX6_buy 21 = .ok (.invokevirtual 53, 3) := by decide +kernel
theorem dX6_buy_24 : decode cX6_buy 24 = .ok (.invokevirtual 41, 3) := by decide +kernel
theorem dX6_buy_27 : decode cX6_buy 27 = .ok (.ireturn, 1) := by decide +kernel
theorem dX6_buyOffered_0 : decode cX6_buyOffered 0 = .ok (.aload_n 0, 1) := by decide +kernel
theorem dX6_buyOffered_1 : decode cX6_buyOffered 1 = .ok (.getfield 22, 3) := by decide +kernel
theorem dX6_buyOffered_4 : decode cX6_buyOffered 4 = .ok (.aload_n 0, 1) := by decide +kernel
theorem dX6_buyOffered_5 : decode cX6_buyOffered 5 = .ok (.getfield 10, 3) := by decide +kernel
theorem dX6_buyOffered_8 : decode cX6_buyOffered 8 = .ok (.invokevirtual 33, 3) := by decide +kernel
theorem dX6_buyOffered_11 : decode cX6_buyOffered 11 = .ok (.aload_n 0, 1) := by decide +kernel
theorem dX6_buyOffered_12 : decode cX6_buyOffered 12 = .ok (.getfield 22, 3) := by decide +kernel
theorem dX6_buyOffered_15 : decode cX6_buyOffered 15 = .ok (.aload_n 0, 1) := by decide +kernel
theorem dX6_buyOffered_16 : decode cX6_buyOffered 16 = .ok (.getfield 10, 3) := by decide +kernel
theorem dX6_buyOffered_19 : decode cX6_buyOffered 19 = .ok (.iload_n 1, 1) := by decide +kernel
theorem dX6_buyOffered_20 : decode cX6_buyOffered 20 = .ok (.iload_n 2, 1) := by decide +kernel
theorem dX6_buyOffered_21 : decode cX6_buyOffered 21 = .ok (.invokevirtual 56, 3) := by decide +kernel
theorem dX6_buyOffered_24 : decode cX6_buyOffered 24 = .ok (.invokevirtual 41, 3) := by decide +kernel
theorem dX6_buyOffered_27 : decode cX6_buyOffered 27 = .ok (.ireturn, 1) := by decide +kernel
theorem dX6_cancel_0 : decode cX6_cancel 0 = .ok (.aload_n 0, 1) := by decide +kernel
theorem dX6_cancel_1 : decode cX6_cancel 1 = .ok (.getfield 22, 3) := by decide +kernel
theorem dX6_cancel_4 : decode cX6_cancel 4 = .ok (.aload_n 0, 1) := by decide +kernel
theorem dX6_cancel_5 : decode cX6_cancel 5 = .ok (.getfield 10, 3) := by decide +kernel
theorem dX6_cancel_8 : decode cX6_cancel 8 = .ok (.invokevirtual 33, 3) := by decide +kernel
theorem dX6_cancel_11 : decode cX6_cancel 11 = .ok (.aload_n 0, 1) := by decide +kernel
theorem dX6_cancel_12 : decode cX6_cancel 12 = .ok (.getfield 22, 3) := by decide +kernel
theorem dX6_cancel_15 : decode cX6_cancel 15 = .ok (.aload_n 0, 1) := by decide +kernel
theorem dX6_cancel_16 : decode cX6_cancel 16 = .ok (.getfield 10, 3) := by decide +kernel
theorem dX6_cancel_19 : decode cX6_cancel 19 = .ok (.iload_n 1, 1) := by decide +kernel
theorem dX6_cancel_20 : decode cX6_cancel 20 = .ok (.invokevirtual 59, 3) := by decide +kernel
theorem dX6_cancel_23 : decode cX6_cancel 23 = .ok (.invokevirtual 41, 3) := by decide +kernel
theorem dX6_cancel_26 : decode cX6_cancel 26 = .ok (.ireturn, 1) := by decide +kernel
theorem dX6_offer_0 : decode cX6_offer 0 = .ok (.aload_n 0, 1) := by decide +kernel
theorem dX6_offer_1 : decode cX6_offer 1 = .ok (.getfield 22, 3) := by decide +kernel
theorem dX6_offer_4 : decode cX6_offer 4 = .ok (.aload_n 0, 1) := by decide +kernel
theorem dX6_offer_5 : decode cX6_offer 5 = .ok (.getfield 10, 3) := by decide +kernel
theorem dX6_offer_8 : decode cX6_offer 8 = .ok (.invokevirtual 33, 3) := by decide +kernel
theorem dX6_offer_11 : decode cX6_offer 11 = .ok (.aload_n 0, 1) := by decide +kernel
theorem dX6_offer_12 : decode cX6_offer 12 = .ok (.getfield 22, 3) := by decide +kernel
theorem dX6_offer_15 : decode cX6_offer 15 = .ok (.aload_n 0, 1) := by decide +kernel
theorem dX6_offer_16 : decode cX6_offer 16 = .ok (.getfield 10, 3) := by decide +kernel
theorem dX6_offer_19 : decode cX6_offer 19 = .ok (.iload_n 1, 1) := by decide +kernel
theorem dX6_offer_20 : decode cX6_offer 20 = .ok (.iload_n 2, 1) := by decide +kernel
theorem dX6_offer_21 : decode cX6_offer 21 = .ok (.invokevirtual 62, 3) := by decide +kernel
theorem dX6_offer_24 : decode cX6_offer 24 = .ok (.invokevirtual 41, 3) := by decide +kernel
theorem dX6_offer_27 : decode cX6_offer 27 = .ok (.ireturn, 1) := by decide +kernel
theorem dX6_takeBack_0 : decode cX6_takeBack 0 = .ok (.aload_n 0, 1) := by decide +kernel
theorem dX6_takeBack_1 : decode cX6_takeBack 1 = .ok (.getfield 22, 3) := by decide +kernel
theorem dX6_takeBack_4 : decode cX6_takeBack 4 = .ok (.aload_n 0, 1) := by decide +kernel
theorem dX6_takeBack_5 : decode cX6_takeBack 5 = .ok (.getfield 10, 3) := by decide +kernel
theorem dX6_takeBack_8 : decode cX6_takeBack 8 = .ok (.invokevirtual 33, 3) := by decide +kernel
theorem dX6_takeBack_11 : decode cX6_takeBack 11 = .ok (.aload_n 0, 1) := by decide +kernel
theorem dX6_takeBack_12 : decode cX6_takeBack 12 = .ok (.getfield 22, 3) := by decide +kernel
theorem dX6_takeBack_15 : decode cX6_takeBack 15 = .ok (.aload_n 0, 1) := by decide +kernel
theorem dX6_takeBack_16 : decode cX6_takeBack 16 = .ok (.getfield 10, 3) := by decide +kernel
theorem dX6_takeBack_19 : decode cX6_takeBack 19 = .ok (.iload_n 1, 1) := by decide +kernel
theorem dX6_takeBack_20 : decode cX6_takeBack 20 = .ok (.invokevirtual 65, 3) := by decide +kernel
theorem dX6_takeBack_23 : decode cX6_takeBack 23 = .ok (.invokevirtual 41, 3) := by decide +kernel
theorem dX6_takeBack_26 : decode cX6_takeBack 26 = .ok (.ireturn, 1) := by decide +kernel
theorem dX6_exercise_0 : decode cX6_exercise 0 = .ok (.aload_n 0, 1) := by decide +kernel
theorem dX6_exercise_1 : decode cX6_exercise 1 = .ok (.getfield 22, 3) := by decide +kernel
theorem dX6_exercise_4 : decode cX6_exercise 4 = .ok (.aload_n 0, 1) := by decide +kernel
theorem dX6_exercise_5 : decode cX6_exercise 5 = .ok (.getfield 10, 3) := by decide +kernel
theorem dX6_exercise_8 : decode cX6_exercise 8 = .ok (.invokevirtual 33, 3) := by decide +kernel
theorem dX6_exercise_11 : decode cX6_exercise 11 = .ok (.aload_n 0, 1) := by decide +kernel
theorem dX6_exercise_12 : decode cX6_exercise 12 = .ok (.getfield 22, 3) := by decide +kernel
theorem dX6_exercise_15 : decode cX6_exercise 15 = .ok (.aload_n 0, 1) := by decide +kernel
theorem dX6_exercise_16 : decode cX6_exercise 16 = .ok (.getfield 10, 3) := by decide +kernel
theorem dX6_exercise_19 : decode cX6_exercise 19 = .ok (.iload_n 1, 1) := by decide +kernel
theorem dX6_exercise_20 : decode cX6_exercise 20 = .ok (.invokevirtual 68, 3) := by decide +kernel
theorem dX6_exercise_23 : decode cX6_exercise 23 = .ok (.invokevirtual 41, 3) := by decide +kernel
theorem dX6_exercise_26 : decode cX6_exercise 26 = .ok (.ireturn, 1) := by decide +kernel
theorem dX6_await_0 : decode cX6_await 0 = .ok (.aload_n 0, 1) := by decide +kernel
theorem dX6_await_1 : decode cX6_await 1 = .ok (.getfield 22, 3) := by decide +kernel
theorem dX6_await_4 : decode cX6_await 4 = .ok (.aload_n 0, 1) := by decide +kernel
theorem dX6_await_5 : decode cX6_await 5 = .ok (.getfield 10, 3) := by decide +kernel
theorem dX6_await_8 : decode cX6_await 8 = .ok (.invokevirtual 33, 3) := by decide +kernel
theorem dX6_await_11 : decode cX6_await 11 = .ok (.aload_n 0, 1) := by decide +kernel
theorem dX6_await_12 : decode cX6_await 12 = .ok (.getfield 22, 3) := by decide +kernel
theorem dX6_await_15 : decode cX6_await 15 = .ok (.aload_n 0, 1) := by decide +kernel
theorem dX6_await_16 : decode cX6_await 16 = .ok (.getfield 10, 3) := by decide +kernel
theorem dX6_await_19 : decode cX6_await 19 = .ok (.iload_n 1, 1) := by decide +kernel
theorem dX6_await_20 : decode cX6_await 20 = .ok (.iload_n 2, 1) := by decide +kernel
theorem dX6_await_21 : decode cX6_await 21 = .ok (.invokevirtual 71, 3) := by decide +kernel
theorem dX6_await_24 : decode cX6_await 24 = .ok (.invokevirtual 41, 3) := by decide +kernel
theorem dX6_await_27 : decode cX6_await 27 = .ok (.ireturn, 1) := by decide +kernel
theorem dX6_leave_0 : decode cX6_leave 0 = .ok (.aload_n 0, 1) := by decide +kernel
theorem dX6_leave_1 : decode cX6_leave 1 = .ok (.getfield 22, 3) := by decide +kernel
theorem dX6_leave_4 : decode cX6_leave 4 = .ok (.aload_n 0, 1) := by decide +kernel
theorem dX6_leave_5 : decode cX6_leave 5 = .ok (.getfield 10, 3) := by decide +kernel
theorem dX6_leave_8 : decode cX6_leave 8 = .ok (.invokevirtual 33, 3) := by decide +kernel
theorem dX6_leave_11 : decode cX6_leave 11 = .ok (.aload_n 0, 1) := by decide +kernel
theorem dX6_leave_12 : decode cX6_leave 12 = .ok (.getfield 22, 3) := by decide +kernel
theorem dX6_leave_15 : decode cX6_leave 15 = .ok (.aload_n 0, 1) := by decide +kernel
theorem dX6_leave_16 : decode cX6_leave 16 = .ok (.getfield 10, 3) := by decide +kernel
theorem dX6_leave_19 : decode cX6_leave 19 = .ok (.iload_n 1, 1) := by decide +kernel
theorem dX6_leave_20 : decode cX6_leave 20 = .ok (.iload_n 2, 1) := by decide +kernel
theorem dX6_leave_21 : decode cX6_leave 21 = .ok (.invokevirtual 74, 3) := by decide +kernel
theorem dX6_leave_24 : decode cX6_leave 24 = .ok (.invokevirtual 41, 3) := by decide +kernel
theorem dX6_leave_27 : decode cX6_leave 27 = .ok (.ireturn, 1) := by decide +kernel
theorem dX6_pass_0 : decode cX6_pass 0 = .ok (.aload_n 0, 1) := by decide +kernel
theorem dX6_pass_1 : decode cX6_pass 1 = .ok (.getfield 22, 3) := by decide +kernel
theorem dX6_pass_4 : decode cX6_pass 4 = .ok (.aload_n 0, 1) := by decide +kernel
theorem dX6_pass_5 : decode cX6_pass 5 = .ok (.getfield 10, 3) := by decide +kernel
theorem dX6_pass_8 : decode cX6_pass 8 = .ok (.invokevirtual 33, 3) := by decide +kernel
theorem dX6_pass_11 : decode cX6_pass 11 = .ok (.aload_n 0, 1) := by decide +kernel
theorem dX6_pass_12 : decode cX6_pass 12 = .ok (.getfield 22, 3) := by decide +kernel
theorem dX6_pass_15 : decode cX6_pass 15 = .ok (.aload_n 0, 1) := by decide +kernel
theorem dX6_pass_16 : decode cX6_pass 16 = .ok (.getfield 10, 3) := by decide +kernel
theorem dX6_pass_19 : decode cX6_pass 19 = .ok (.iload_n 1, 1) := by decide +kernel
theorem dX6_pass_20 : decode cX6_pass 20 = .ok (.invokevirtual 77, 3) := by decide +kernel
theorem dX6_pass_23 : decode cX6_pass 23 = .ok (.invokevirtual 41, 3) := by decide +kernel
theorem dX6_pass_26 : decode cX6_pass 26 = .ok (.ireturn, 1) := by decide +kernel
theorem dX6_type_0 : decode cX6_type 0 = .ok (.aload_n 0, 1) := by decide +kernel
theorem dX6_type_1 : decode cX6_type 1 = .ok (.getfield 29, 3) := by decide +kernel
theorem dX6_type_4 : decode cX6_type 4 = .ok (.iload_n 1, 1) := by decide +kernel
theorem dX6_type_5 : decode cX6_type 5 = .ok (.invokevirtual 80, 3) := by decide +kernel
theorem dX6_type_8 : decode cX6_type 8 = .ok (.ireturn, 1) := by decide +kernel
theorem dX6_clearText_0 : decode cX6_clearText 0 = .ok (.aload_n 0, 1) := by decide +kernel
theorem dX6_clearText_1 : decode cX6_clearText 1 = .ok (.getfield 29, 3) := by decide +kernel
theorem dX6_clearText_4 : decode cX6_clearText 4 = .ok (.invokevirtual 84, 3) := by decide +kernel
theorem dX6_clearText_7 : decode cX6_clearText 7 = .ok (.ireturn, 1) := by decide +kernel
theorem dX6_perform_0 : decode cX6_perform 0 = .ok (.aload_n 0, 1) := by decide +kernel
theorem dX6_perform_1 : decode cX6_perform 1 = .ok (.getfield 29, 3) := by decide +kernel
theorem dX6_perform_4 : decode cX6_perform 4 = .ok (.invokevirtual 88, 3) := by decide +kernel
theorem dX6_perform_7 : decode cX6_perform 7 = .ok (.istore_n 1, 1) := by decide +kernel
theorem dX6_perform_8 : decode cX6_perform 8 = .ok (.iload_n 1, 1) := by decide +kernel
theorem dX6_perform_9 : decode cX6_perform 9 = .ok (.ifCond .ge 5, 3) := by decide +kernel
theorem dX6_perform_12 : decode cX6_perform 12 = .ok (.iload_n 1, 1) := by decide +kernel
theorem dX6_perform_13 : decode cX6_perform 13 = .ok (.ireturn, 1) := by decide +kernel
theorem dX6_perform_14 : decode cX6_perform 14 = .ok (.aload_n 0, 1) := by decide +kernel
theorem dX6_perform_15 : decode cX6_perform 15 = .ok (.getfield 22, 3) := by decide +kernel
theorem dX6_perform_18 : decode cX6_perform 18 = .ok (.aload_n 0, 1) := by decide +kernel
theorem dX6_perform_19 : decode cX6_perform 19 = .ok (.getfield 10, 3) := by decide +kernel
theorem dX6_perform_22 : decode cX6_perform 22 = .ok (.invokevirtual 33, 3) := by decide +kernel
theorem dX6_perform_25 : decode cX6_perform 25 = .ok (.aload_n 0, 1) := by decide +kernel
theorem dX6_perform_26 : decode cX6_perform 26 = .ok (.getfield 29, 3) := by decide +kernel
theorem dX6_perform_29 : decode cX6_perform 29 = .ok (.invokevirtual 91, 3) := by decide +kernel
theorem dX6_perform_32 : decode cX6_perform 32 = .ok (.iconst 0, 1) := by decide +kernel
theorem dX6_perform_33 : decode cX6_perform 33 = .ok (.istore_n 2, 1) := by decide +kernel
theorem dX6_perform_34 : decode cX6_perform 34 = .ok (.iload_n 2, 1) := by decide +kernel
theorem dX6_perform_35 : decode cX6_perform 35 = .ok (.iload_n 1, 1) := by decide +kernel
theorem dX6_perform_36 : decode cX6_perform 36 = .ok (.if_icmp .ge 34, 3) := by decide +kernel
theorem dX6_perform_39 : decode cX6_perform 39 = .ok (.aload_n 0, 1) := by decide +kernel
theorem dX6_perform_40 : decode cX6_perform 40 = .ok (.invokevirtual 94, 3) := by decide +kernel
theorem dX6_perform_43 : decode cX6_perform 43 = .ok (.istore_n 3, 1) := by decide +kernel
theorem dX6_perform_44 : decode cX6_perform 44 = .ok (.iload_n 3, 1) := by decide +kernel
theorem dX6_perform_45 : decode cX6_perform 45 = .ok (.ifCond .ge 19, 3) := by decide +kernel
theorem dX6_perform_48 : decode cX6_perform 48 = .ok (.aload_n 0, 1) := by decide +kernel
theorem dX6_perform_49 : decode cX6_perform 49 = .ok (.getfield 10, 3) := by decide +kernel
theorem dX6_perform_52 : decode cX6_perform 52 = .ok (.aload_n 0, 1) := by decide +kernel
theorem dX6_perform_53 : decode cX6_perform 53 = .ok (.getfield 22, 3) := by decide +kernel
theorem dX6_perform_56 : decode cX6_perform 56 = .ok (.getfield 97, 3) := by decide +kernel
theorem dX6_perform_59 : decode cX6_perform 59 = .ok (.invokevirtual 100, 3) := by decide +kernel
theorem dX6_perform_62 : decode cX6_perform 62 = .ok (.iload_n 3, 1) := by decide +kernel
theorem dX6_perform_63 : decode cX6_perform 63 = .ok (.ireturn, 1) := by decide +kernel
theorem dX6_perform_64 : decode cX6_perform 64 = .ok (.iinc 2 1, 3) := by decide +kernel
theorem dX6_perform_67 : decode cX6_perform 67 = .ok (.goto (-33), 3) := by decide +kernel
theorem dX6_perform_70 : decode cX6_perform 70 = .ok (.aload_n 0, 1) := by decide +kernel
theorem dX6_perform_71 : decode cX6_perform 71 = .ok (.getfield 22, 3) := by decide +kernel
theorem dX6_perform_74 : decode cX6_perform 74 = .ok (.iload_n 1, 1) := by decide +kernel
theorem dX6_perform_75 : decode cX6_perform 75 = .ok (.invokevirtual 41, 3) := by decide +kernel
theorem dX6_perform_78 : decode cX6_perform 78 = .ok (.ireturn, 1) := by decide +kernel
theorem dX6_undo_0 : decode cX6_undo 0 = .ok (.aload_n 0, 1) := by decide +kernel
theorem dX6_undo_1 : decode cX6_undo 1 = .ok (.getfield 22, 3) := by decide +kernel
theorem dX6_undo_4 : decode cX6_undo 4 = .ok (.invokevirtual 103, 3) := by decide +kernel
theorem dX6_undo_7 : decode cX6_undo 7 = .ok (.astore_n 1, 1) := by decide +kernel
theorem dX6_undo_8 : decode cX6_undo 8 = .ok (.aload_n 1, 1) := by decide +kernel
theorem dX6_undo_9 : decode cX6_undo 9 = .ok (.ifnonnull 6, 3) := by decide +kernel
theorem dX6_undo_12 : decode cX6_undo 12 = .ok (.bipush (-5), 2) := by decide +kernel
theorem dX6_undo_14 : decode cX6_undo 14 = .ok (.ireturn, 1) := by decide +kernel
theorem dX6_undo_15 : decode cX6_undo 15 = .ok (.aload_n 0, 1) := by decide +kernel
theorem dX6_undo_16 : decode cX6_undo 16 = .ok (.getfield 10, 3) := by decide +kernel
theorem dX6_undo_19 : decode cX6_undo 19 = .ok (.aload_n 1, 1) := by decide +kernel
theorem dX6_undo_20 : decode cX6_undo 20 = .ok (.invokevirtual 100, 3) := by decide +kernel
theorem dX6_undo_23 : decode cX6_undo 23 = .ok (.aload_n 0, 1) := by decide +kernel
theorem dX6_undo_24 : decode cX6_undo 24 = .ok (.getfield 22, 3) := by decide +kernel
theorem dX6_undo_27 : decode cX6_undo 27 = .ok (.getfield 107, 3) := by decide +kernel
theorem dX6_undo_30 : decode cX6_undo 30 = .ok (.ireturn, 1) := by decide +kernel
theorem dX6_keep_0 : decode cX6_keep 0 = .ok (.aload_n 0, 1) := by decide +kernel
theorem dX6_keep_1 : decode cX6_keep 1 = .ok (.getfield 16, 3) := by decide +kernel
theorem dX6_keep_4 : decode cX6_keep 4 = .ok (.aload_n 0, 1) := by decide +kernel
theorem dX6_keep_5 : decode cX6_keep 5 = .ok (.getfield 10, 3) := by decide +kernel
theorem dX6_keep_8 : decode cX6_keep 8 = .ok (.invokevirtual 100, 3) := by decide +kernel
theorem dX6_keep_11 : decode cX6_keep 11 = .ok (.aload_n 0, 1) := by decide +kernel
theorem dX6_keep_12 : decode cX6_keep 12 = .ok (.iconst 1, 1) := by decide +kernel
theorem dX6_keep_13 : decode cX6_keep 13 = .ok (.putfield 111, 3) := by decide +kernel
theorem dX6_keep_16 : decode cX6_keep 16 = .ok (.aload_n 0, 1) := by decide +kernel
theorem dX6_keep_17 : decode cX6_keep 17 = .ok (.getfield 10, 3) := by decide +kernel
theorem dX6_keep_20 : decode cX6_keep 20 = .ok (.getfield 115, 3) := by decide +kernel
theorem dX6_keep_23 : decode cX6_keep 23 = .ok (.ireturn, 1) := by decide +kernel
theorem dX6_restore_0 : decode cX6_restore 0 = .ok (.aload_n 0, 1) := by decide +kernel
theorem dX6_restore_1 : decode cX6_restore 1 = .ok (.getfield 111, 3) := by decide +kernel
theorem dX6_restore_4 : decode cX6_restore 4 = .ok (.ifCond .ne 6, 3) := by decide +kernel
theorem dX6_restore_7 : decode cX6_restore 7 = .ok (.bipush (-5), 2) := by decide +kernel
theorem dX6_restore_9 : decode cX6_restore 9 = .ok (.ireturn, 1) := by decide +kernel
theorem dX6_restore_10 : decode cX6_restore 10 = .ok (.aload_n 0, 1) := by decide +kernel
theorem dX6_restore_11 : decode cX6_restore 11 = .ok (.getfield 22, 3) := by decide +kernel
theorem dX6_restore_14 : decode cX6_restore 14 = .ok (.aload_n 0, 1) := by decide +kernel
theorem dX6_restore_15 : decode cX6_restore 15 = .ok (.getfield 10, 3) := by decide +kernel
theorem dX6_restore_18 : decode cX6_restore 18 = .ok (.invokevirtual 33, 3) := by decide +kernel
theorem dX6_restore_21 : decode cX6_restore 21 = .ok (.aload_n 0, 1) := by decide +kernel
theorem dX6_restore_22 : decode cX6_restore 22 = .ok (.getfield 10, 3) := by decide +kernel
theorem dX6_restore_25 : decode cX6_restore 25 = .ok (.aload_n 0, 1) := by decide +kernel
theorem dX6_restore_26 : decode cX6_restore 26 = .ok (.getfield 16, 3) := by decide +kernel
theorem dX6_restore_29 : decode cX6_restore 29 = .ok (.invokevirtual 100, 3) := by decide +kernel
theorem dX6_restore_32 : decode cX6_restore 32 = .ok (.aload_n 0, 1) := by decide +kernel
theorem dX6_restore_33 : decode cX6_restore 33 = .ok (.getfield 22, 3) := by decide +kernel
theorem dX6_restore_36 : decode cX6_restore 36 = .ok (.aload_n 0, 1) := by decide +kernel
theorem dX6_restore_37 : decode cX6_restore 37 = .ok (.getfield 10, 3) := by decide +kernel
theorem dX6_restore_40 : decode cX6_restore 40 = .ok (.getfield 115, 3) := by decide +kernel
theorem dX6_restore_43 : decode cX6_restore 43 = .ok (.invokevirtual 41, 3) := by decide +kernel
theorem dX6_restore_46 : decode cX6_restore 46 = .ok (.ireturn, 1) := by decide +kernel
theorem dX6_date_0 : decode cX6_date 0 = .ok (.aload_n 0, 1) := by decide +kernel
theorem dX6_date_1 : decode cX6_date 1 = .ok (.getfield 10, 3) := by decide +kernel
theorem dX6_date_4 : decode cX6_date 4 = .ok (.iload_n 1, 1) := by decide +kernel
theorem dX6_date_5 : decode cX6_date 5 = .ok (.invokevirtual 118, 3) := by decide +kernel
theorem dX6_date_8 : decode cX6_date 8 = .ok (.astore_n 3, 1) := by decide +kernel
theorem dX6_date_9 : decode cX6_date 9 = .ok (.aload_n 3, 1) := by decide +kernel
theorem dX6_date_10 : decode cX6_date 10 = .ok (.ifnonnull 7, 3) := by decide +kernel
theorem dX6_date_13 : decode cX6_date 13 = .ok (.iconst (-1), 1) := by decide +kernel
theorem dX6_date_14 : decode cX6_date 14 = .ok (.goto 12, 3) := by decide +kernel
theorem dX6_date_17 : decode cX6_date 17 = .ok (.aload_n 0, 1) := by decide +kernel
theorem dX6_date_18 : decode cX6_date 18 = .ok (.getfield 10, 3) := by decide +kernel
theorem dX6_date_21 : decode cX6_date 21 = .ok (.aload_n 3, 1) := by decide +kernel
theorem dX6_date_22 : decode cX6_date 22 = .ok (.iload_n 2, 1) := by decide +kernel
theorem dX6_date_23 : decode cX6_date 23 = .ok (.invokevirtual 122, 3) := by decide +kernel
theorem dX6_date_26 : decode cX6_date 26 = .ok (.ireturn, 1) := by decide +kernel
theorem dX6_waiting_0 : decode cX6_waiting 0 = .ok (.aload_n 0, 1) := by decide +kernel
theorem dX6_waiting_1 : decode cX6_waiting 1 = .ok (.getfield 10, 3) := by decide +kernel
theorem dX6_waiting_4 : decode cX6_waiting 4 = .ok (.iload_n 1, 1) := by decide +kernel
theorem dX6_waiting_5 : decode cX6_waiting 5 = .ok (.invokevirtual 118, 3) := by decide +kernel
theorem dX6_waiting_8 : decode cX6_waiting 8 = .ok (.astore_n 3, 1) := by decide +kernel
theorem dX6_waiting_9 : decode cX6_waiting 9 = .ok (.aload_n 3, 1) := by decide +kernel
theorem dX6_waiting_10 : decode cX6_waiting 10 = .ok (.ifnonnull 5, 3) := by decide +kernel
theorem dX6_waiting_13 : decode cX6_waiting 13 = .ok (.iconst (-1), 1) := by decide +kernel
theorem dX6_waiting_14 : decode cX6_waiting 14 = .ok (.ireturn, 1) := by decide +kernel
theorem dX6_waiting_15 : decode cX6_waiting 15 = .ok (.iload_n 2, 1) := by decide +kernel
theorem dX6_waiting_16 : decode cX6_waiting 16 = .ok (.ifCond .ge 6, 3) := by decide +kernel
theorem dX6_waiting_19 : decode cX6_waiting 19 = .ok (.bipush (-2), 2) := by decide +kernel
theorem dX6_waiting_21 : decode cX6_waiting 21 = .ok (.ireturn, 1) := by decide +kernel
theorem dX6_waiting_22 : decode cX6_waiting 22 = .ok (.aload_n 3, 1) := by decide +kernel
theorem dX6_waiting_23 : decode cX6_waiting 23 = .ok (.iload_n 2, 1) := by decide +kernel
theorem dX6_waiting_24 : decode cX6_waiting 24 = .ok (.invokevirtual 126, 3) := by decide +kernel
theorem dX6_waiting_27 : decode cX6_waiting 27 = .ok (.ireturn, 1) := by decide +kernel
theorem dX6_right_0 : decode cX6_right 0 = .ok (.aload_n 0, 1) := by decide +kernel
theorem dX6_right_1 : decode cX6_right 1 = .ok (.getfield 10, 3) := by decide +kernel
theorem dX6_right_4 : decode cX6_right 4 = .ok (.iload_n 1, 1) := by decide +kernel
theorem dX6_right_5 : decode cX6_right 5 = .ok (.invokevirtual 131, 3) := by decide +kernel
theorem dX6_right_8 : decode cX6_right 8 = .ok (.astore_n 3, 1) := by decide +kernel
theorem dX6_right_9 : decode cX6_right 9 = .ok (.aload_n 3, 1) := by decide +kernel
theorem dX6_right_10 : decode cX6_right 10 = .ok (.ifnonnull 7, 3) := by decide +kernel
theorem dX6_right_13 : decode cX6_right 13 = .ok (.iconst (-1), 1) := by decide +kernel
theorem dX6_right_14 : decode cX6_right 14 = .ok (.goto 12, 3) := by decide +kernel
theorem dX6_right_17 : decode cX6_right 17 = .ok (.aload_n 0, 1) := by decide +kernel
theorem dX6_right_18 : decode cX6_right 18 = .ok (.getfield 10, 3) := by decide +kernel
theorem dX6_right_21 : decode cX6_right 21 = .ok (.aload_n 3, 1) := by decide +kernel
theorem dX6_right_22 : decode cX6_right 22 = .ok (.iload_n 2, 1) := by decide +kernel
theorem dX6_right_23 : decode cX6_right 23 = .ok (.invokevirtual 135, 3) := by decide +kernel
theorem dX6_right_26 : decode cX6_right 26 = .ok (.ireturn, 1) := by decide +kernel
theorem dX6_holder_0 : decode cX6_holder 0 = .ok (.iload_n 1, 1) := by decide +kernel
theorem dX6_holder_1 : decode cX6_holder 1 = .ok (.invokestatic 139, 3) := by decide +kernel
theorem dX6_holder_4 : decode cX6_holder 4 = .ok (.ifCond .eq 15, 3) := by decide +kernel
theorem dX6_holder_7 : decode cX6_holder 7 = .ok (.aload_n 0, 1) := by decide +kernel
theorem dX6_holder_8 : decode cX6_holder 8 = .ok (.getfield 10, 3) := by decide +kernel
theorem dX6_holder_11 : decode cX6_holder 11 = .ok (.iload_n 1, 1) := by decide +kernel
theorem dX6_holder_12 : decode cX6_holder 12 = .ok (.iload_n 2, 1) := by decide +kernel
theorem dX6_holder_13 : decode cX6_holder 13 = .ok (.invokevirtual 143, 3) := by decide +kernel
theorem dX6_holder_16 : decode cX6_holder 16 = .ok (.goto 4, 3) := by decide +kernel
theorem dX6_holder_19 : decode cX6_holder 19 = .ok (.iconst (-1), 1) := by decide +kernel
theorem dX6_holder_20 : decode cX6_holder 20 = .ok (.ireturn, 1) := by decide +kernel
theorem dX6_stage_0 : decode cX6_stage 0 = .ok (.aload_n 0, 1) := by decide +kernel
theorem dX6_stage_1 : decode cX6_stage 1 = .ok (.getfield 10, 3) := by decide +kernel
theorem dX6_stage_4 : decode cX6_stage 4 = .ok (.iload_n 1, 1) := by decide +kernel
theorem dX6_stage_5 : decode cX6_stage 5 = .ok (.iload_n 2, 1) := by decide +kernel
theorem dX6_stage_6 : decode cX6_stage 6 = .ok (.invokevirtual 146, 3) := by decide +kernel
theorem dX6_stage_9 : decode cX6_stage 9 = .ok (.ireturn, 1) := by decide +kernel
theorem dX6_priceIn_0 : decode cX6_priceIn 0 = .ok (.aload_n 0, 1) := by decide +kernel
theorem dX6_priceIn_1 : decode cX6_priceIn 1 = .ok (.getfield 10, 3) := by decide +kernel
theorem dX6_priceIn_4 : decode cX6_priceIn 4 = .ok (.iload_n 1, 1) := by decide +kernel
theorem dX6_priceIn_5 : decode cX6_priceIn 5 = .ok (.invokevirtual 118, 3) := by decide +kernel
theorem dX6_priceIn_8 : decode cX6_priceIn 8 = .ok (.astore_n 3, 1) := by decide +kernel
theorem dX6_priceIn_9 : decode cX6_priceIn 9 = .ok (.aload_n 3, 1) := by decide +kernel
theorem dX6_priceIn_10 : decode cX6_priceIn 10 = .ok (.ifnonnull 5, 3) := by decide +kernel
theorem dX6_priceIn_13 : decode cX6_priceIn 13 = .ok (.iconst (-1), 1) := by decide +kernel
theorem dX6_priceIn_14 : decode cX6_priceIn 14 = .ok (.ireturn, 1) := by decide +kernel
theorem dX6_priceIn_15 : decode cX6_priceIn 15 = .ok (.iload_n 2, 1) := by decide +kernel
theorem dX6_priceIn_16 : decode cX6_priceIn 16 = .ok (.ifCond .lt 9, 3) := by decide +kernel
theorem dX6_priceIn_19 : decode cX6_priceIn 19 = .ok (.iload_n 2, 1) := by decide +kernel
theorem dX6_priceIn_20 : decode cX6_priceIn 20 = .ok (.bipush 60, 2) := by decide +kernel
theorem dX6_priceIn_22 : decode cX6_priceIn 22 = .ok (.if_icmp .le 6, 3) := by decide +kernel
theorem dX6_priceIn_25 : decode cX6_priceIn 25 = .ok (.bipush (-2), 2) := by decide +kernel
theorem dX6_priceIn_27 : decode cX6_priceIn 27 = .ok (.ireturn, 1) := by decide +kernel
theorem dX6_priceIn_28 : decode cX6_priceIn 28 = .ok (.aload_n 0, 1) := by decide +kernel
theorem dX6_priceIn_29 : decode cX6_priceIn 29 = .ok (.getfield 10, 3) := by decide +kernel
theorem dX6_priceIn_32 : decode cX6_priceIn 32 = .ok (.aload_n 3, 1) := by decide +kernel
theorem dX6_priceIn_33 : decode cX6_priceIn 33 = .ok (.invokevirtual 149, 3) := by decide +kernel
theorem dX6_priceIn_36 : decode cX6_priceIn 36 = .ok (.iload_n 2, 1) := by decide +kernel
theorem dX6_priceIn_37 : decode cX6_priceIn 37 = .ok (.isub, 1) := by decide +kernel
theorem dX6_priceIn_38 : decode cX6_priceIn 38 = .ok (.istore 4, 2) := by decide +kernel
theorem dX6_priceIn_40 : decode cX6_priceIn 40 = .ok (.iload 4, 2) := by decide +kernel
theorem dX6_priceIn_42 : decode cX6_priceIn 42 = .ok (.iconst 1, 1) := by decide +kernel
theorem dX6_priceIn_43 : decode cX6_priceIn 43 = .ok (.if_icmp .ge 8, 3) := by decide +kernel
theorem dX6_priceIn_46 : decode cX6_priceIn 46 = .ok (.bipush (-5), 2) := by decide +kernel
theorem dX6_priceIn_48 : decode cX6_priceIn 48 = .ok (.goto 17, 3) := by decide +kernel
theorem dX6_priceIn_51 : decode cX6_priceIn 51 = .ok (.aload_n 3, 1) := by decide +kernel
theorem dX6_priceIn_52 : decode cX6_priceIn 52 = .ok (.aload_n 0, 1) := by decide +kernel
theorem dX6_priceIn_53 : decode cX6_priceIn 53 = .ok (.getfield 10, 3) := by decide +kernel
theorem dX6_priceIn_56 : decode cX6_priceIn 56 = .ok (.aload_n 3, 1) := by decide +kernel
theorem dX6_priceIn_57 : decode cX6_priceIn 57 = .ok (.invokevirtual 153, 3) := by decide +kernel
theorem dX6_priceIn_60 : decode cX6_priceIn 60 = .ok (.iload 4, 2) := by decide +kernel
theorem dX6_priceIn_62 : decode cX6_priceIn 62 = .ok (.invokevirtual 156, 3) := by decide +kernel
theorem dX6_priceIn_65 : decode cX6_priceIn 65 = .ok (.ireturn, 1) := by decide +kernel
theorem dX6_wouldCover_0 : decode cX6_wouldCover 0 = .ok (.aload_n 0, 1) := by decide +kernel
theorem dX6_wouldCover_1 : decode cX6_wouldCover 1 = .ok (.getfield 10, 3) := by decide +kernel
theorem dX6_wouldCover_4 : decode cX6_wouldCover 4 = .ok (.iload_n 1, 1) := by decide +kernel
theorem dX6_wouldCover_5 : decode cX6_wouldCover 5 = .ok (.invokevirtual 118, 3) := by decide +kernel
theorem dX6_wouldCover_8 : decode cX6_wouldCover 8 = .ok (.astore_n 2, 1) := by decide +kernel
theorem dX6_wouldCover_9 : decode cX6_wouldCover 9 = .ok (.aload_n 2, 1) := by decide +kernel
theorem dX6_wouldCover_10 : decode cX6_wouldCover 10 = .ok (.ifnonnull 5, 3) := by decide +kernel
theorem dX6_wouldCover_13 : decode cX6_wouldCover 13 = .ok (.iconst (-1), 1) := by decide +kernel
theorem dX6_wouldCover_14 : decode cX6_wouldCover 14 = .ok (.ireturn, 1) := by decide +kernel
theorem dX6_wouldCover_15 : decode cX6_wouldCover 15 = .ok (.aload_n 0, 1) := by decide +kernel
theorem dX6_wouldCover_16 : decode cX6_wouldCover 16 = .ok (.getfield 10, 3) := by decide +kernel
theorem dX6_wouldCover_19 : decode cX6_wouldCover 19 = .ok (.aload_n 2, 1) := by decide +kernel
theorem dX6_wouldCover_20 : decode cX6_wouldCover 20 = .ok (.invokevirtual 149, 3) := by decide +kernel
theorem dX6_wouldCover_23 : decode cX6_wouldCover 23 = .ok (.aload_n 0, 1) := by decide +kernel
theorem dX6_wouldCover_24 : decode cX6_wouldCover 24 = .ok (.getfield 10, 3) := by decide +kernel
theorem dX6_wouldCover_27 : decode cX6_wouldCover 27 = .ok (.getfield 159, 3) := by decide +kernel
theorem dX6_wouldCover_30 : decode cX6_wouldCover 30 = .ok (.iconst 0, 1) := by decide +kernel
theorem dX6_wouldCover_31 : decode cX6_wouldCover 31 = .ok (.iaload, 1) := by decide +kernel
theorem dX6_wouldCover_32 : decode cX6_wouldCover 32 = .ok (.if_icmp .gt 6, 3) := by decide +kernel
theorem dX6_wouldCover_35 : decode cX6_wouldCover 35 = .ok (.bipush (-5), 2) := by decide +kernel
theorem dX6_wouldCover_37 : decode cX6_wouldCover 37 = .ok (.ireturn, 1) := by decide +kernel
theorem dX6_wouldCover_38 : decode cX6_wouldCover 38 = .ok (.aload_n 0, 1) := by decide +kernel
theorem dX6_wouldCover_39 : decode cX6_wouldCover 39 = .ok (.getfield 22, 3) := by decide +kernel
theorem dX6_wouldCover_42 : decode cX6_wouldCover 42 = .ok (.aload_n 0, 1) := by decide +kernel
theorem dX6_wouldCover_43 : decode cX6_wouldCover 43 = .ok (.getfield 10, 3) := by decide +kernel
theorem dX6_wouldCover_46 : decode cX6_wouldCover 46 = .ok (.invokevirtual 33, 3) := by decide +kernel
theorem dX6_wouldCover_49 : decode cX6_wouldCover 49 = .ok (.aload_n 0, 1) := by decide +kernel
theorem dX6_wouldCover_50 : decode cX6_wouldCover 50 = .ok (.getfield 22, 3) := by decide +kernel
theorem dX6_wouldCover_53 : decode cX6_wouldCover 53 = .ok (.getfield 97, 3) := by decide +kernel
theorem dX6_wouldCover_56 : decode cX6_wouldCover 56 = .ok (.aload_n 2, 1) := by decide +kernel
theorem dX6_wouldCover_57 : decode cX6_wouldCover 57 = .ok (.invokevirtual 163, 3) := by decide +kernel
theorem dX6_wouldCover_60 : decode cX6_wouldCover 60 = .ok (.ireturn, 1) := by decide +kernel
theorem dX6_event_0 : decode cX6_event 0 = .ok (.iload_n 1, 1) := by decide +kernel
theorem dX6_event_1 : decode cX6_event 1 = .ok (.ifCond .lt 12, 3) := by decide +kernel
theorem dX6_event_4 : decode cX6_event 4 = .ok (.iload_n 2, 1) := by decide +kernel
theorem dX6_event_5 : decode cX6_event 5 = .ok (.ifCond .lt 8, 3) := by decide +kernel
theorem dX6_event_8 : decode cX6_event 8 = .ok (.iload_n 2, 1) := by decide +kernel
theorem dX6_event_9 : decode cX6_event 9 = .ok (.iconst 3, 1) := by decide +kernel
theorem dX6_event_10 : decode cX6_event 10 = .ok (.if_icmp .le 6, 3) := by decide +kernel
theorem dX6_event_13 : decode cX6_event 13 = .ok (.bipush (-2), 2) := by decide +kernel
theorem dX6_event_15 : decode cX6_event 15 = .ok (.ireturn, 1) := by decide +kernel
theorem dX6_event_16 : decode cX6_event 16 = .ok (.aload_n 0, 1) := by decide +kernel
theorem dX6_event_17 : decode cX6_event 17 = .ok (.getfield 10, 3) := by decide +kernel
theorem dX6_event_20 : decode cX6_event 20 = .ok (.iload_n 1, 1) := by decide +kernel
theorem dX6_event_21 : decode cX6_event 21 = .ok (.invokevirtual 166, 3) := by decide +kernel
theorem dX6_event_24 : decode cX6_event 24 = .ok (.astore_n 3, 1) := by decide +kernel
theorem dX6_event_25 : decode cX6_event 25 = .ok (.aload_n 3, 1) := by decide +kernel
theorem dX6_event_26 : decode cX6_event 26 = .ok (.ifnonnull 8, 3) := by decide +kernel
theorem dX6_event_29 : decode cX6_event 29 = .ok (.bipush (-5), 2) := by decide +kernel
theorem dX6_event_31 : decode cX6_event 31 = .ok (.goto 8, 3) := by decide +kernel
theorem dX6_event_34 : decode cX6_event 34 = .ok (.aload_n 3, 1) := by decide +kernel
theorem dX6_event_35 : decode cX6_event 35 = .ok (.iload_n 2, 1) := by decide +kernel
theorem dX6_event_36 : decode cX6_event 36 = .ok (.invokevirtual 170, 3) := by decide +kernel
theorem dX6_event_39 : decode cX6_event 39 = .ok (.ireturn, 1) := by decide +kernel
theorem dX6_count_0 : decode cX6_count 0 = .ok (.iload_n 1, 1) := by decide +kernel
theorem dX6_count_1 : decode cX6_count 1 = .ok (.bipush 14, 2) := by decide +kernel
theorem dX6_count_3 : decode cX6_count 3 = .ok (.if_icmp .ne 11, 3) := by decide +kernel
theorem dX6_count_6 : decode cX6_count 6 = .ok (.aload_n 0, 1) := by decide +kernel
theorem dX6_count_7 : decode cX6_count 7 = .ok (.getfield 22, 3) := by decide +kernel
theorem dX6_count_10 : decode cX6_count 10 = .ok (.getfield 107, 3) := by decide +kernel
theorem dX6_count_13 : decode cX6_count 13 = .ok (.ireturn, 1) := by decide +kernel
theorem dX6_count_14 : decode cX6_count 14 = .ok (.iload_n 1, 1) := by decide +kernel
theorem dX6_count_15 : decode cX6_count 15 = .ok (.bipush 15, 2) := by decide +kernel
theorem dX6_count_17 : decode cX6_count 17 = .ok (.if_icmp .ne 11, 3) := by decide +kernel
theorem dX6_count_20 : decode cX6_count 20 = .ok (.aload_n 0, 1) := by decide +kernel
theorem dX6_count_21 : decode cX6_count 21 = .ok (.getfield 29, 3) := by decide +kernel
theorem dX6_count_24 : decode cX6_count 24 = .ok (.getfield 175, 3) := by decide +kernel
theorem dX6_count_27 : decode cX6_count 27 = .ok (.ireturn, 1) := by decide +kernel
theorem dX6_count_28 : decode cX6_count 28 = .ok (.aload_n 0, 1) := by decide +kernel
theorem dX6_count_29 : decode cX6_count 29 = .ok (.getfield 10, 3) := by decide +kernel
theorem dX6_count_32 : decode cX6_count 32 = .ok (.iload_n 1, 1) := by decide +kernel
theorem dX6_count_33 : decode cX6_count 33 = .ok (.invokevirtual 178, 3) := by decide +kernel
theorem dX6_count_36 : decode cX6_count 36 = .ok (.ireturn, 1) := by decide +kernel
theorem dX6_performNext_0 : decode cX6_performNext 0 = .ok (.aload_n 0, 1) := by decide +kernel
theorem dX6_performNext_1 : decode cX6_performNext 1 = .ok (.getfield 29, 3) := by decide +kernel
theorem dX6_performNext_4 : decode cX6_performNext 4 = .ok (.invokevirtual 181, 3) := by decide +kernel
theorem dX6_performNext_7 : decode cX6_performNext 7 = .ok (.pop, 1) := by decide +kernel
theorem dX6_performNext_8 : decode cX6_performNext 8 = .ok (.aload_n 0, 1) := by decide +kernel
theorem dX6_performNext_9 : decode cX6_performNext 9 = .ok (.getfield 29, 3) := by decide +kernel
theorem dX6_performNext_12 : decode cX6_performNext 12 = .ok (.bipush 59, 2) := by decide +kernel
theorem dX6_performNext_14 : decode cX6_performNext 14 = .ok (.invokevirtual 185, 3) := by decide +kernel
theorem dX6_performNext_17 : decode cX6_performNext 17 = .ok (.pop, 1) := by decide +kernel
theorem dX6_performNext_18 : decode cX6_performNext 18 = .ok (.aload_n 0, 1) := by decide +kernel
theorem dX6_performNext_19 : decode cX6_performNext 19 = .ok (.getfield 29, 3) := by decide +kernel
theorem dX6_performNext_22 : decode cX6_performNext 22 = .ok (.getfield 189, 3) := by decide +kernel
theorem dX6_performNext_25 : decode cX6_performNext 25 = .ok (.lookupswitch 117 #[(98, 43), (99, 87), (109, 65), (120, 102)], 43) := by decide +kernel
theorem dX6_performNext_68 : decode cX6_performNext 68 = .ok (.aload_n 0, 1) := by decide +kernel
theorem dX6_performNext_69 : decode cX6_performNext 69 = .ok (.getfield 10, 3) := by decide +kernel
theorem dX6_performNext_72 : decode cX6_performNext 72 = .ok (.aload_n 0, 1) := by decide +kernel
theorem dX6_performNext_73 : decode cX6_performNext 73 = .ok (.getfield 29, 3) := by decide +kernel
theorem dX6_performNext_76 : decode cX6_performNext 76 = .ok (.getfield 192, 3) := by decide +kernel
theorem dX6_performNext_79 : decode cX6_performNext 79 = .ok (.aload_n 0, 1) := by decide +kernel
theorem dX6_performNext_80 : decode cX6_performNext 80 = .ok (.getfield 29, 3) := by decide +kernel
theorem dX6_performNext_83 : decode cX6_performNext 83 = .ok (.getfield 195, 3) := by decide +kernel
theorem dX6_performNext_86 : decode cX6_performNext 86 = .ok (.invokevirtual 53, 3) := by decide +kernel
theorem dX6_performNext_89 : decode cX6_performNext 89 = .ok (.ireturn, 1) := by decide +kernel
theorem dX6_performNext_90 : decode cX6_performNext 90 = .ok (.aload_n 0, 1) := by decide +kernel
theorem dX6_performNext_91 : decode cX6_performNext 91 = .ok (.getfield 10, 3) := by decide +kernel
theorem dX6_performNext_94 : decode cX6_performNext 94 = .ok (.aload_n 0, 1) := by decide +kernel
theorem dX6_performNext_95 : decode cX6_performNext 95 = .ok (.getfield 29, 3) := by decide +kernel
theorem dX6_performNext_98 : decode cX6_performNext 98 = .ok (.getfield 192, 3) := by decide +kernel
theorem dX6_performNext_101 : decode cX6_performNext 101 = .ok (.aload_n 0, 1) := by decide +kernel
theorem dX6_performNext_102 : decode cX6_performNext 102 = .ok (.getfield 29, 3) := by decide +kernel
theorem dX6_performNext_105 : decode cX6_performNext 105 = .ok (.getfield 195, 3) := by decide +kernel
theorem dX6_performNext_108 : decode cX6_performNext 108 = .ok (.invokevirtual 56, 3) := by decide +kernel
theorem dX6_performNext_111 : decode cX6_performNext 111 = .ok (.ireturn, 1) := by decide +kernel
theorem dX6_performNext_112 : decode cX6_performNext 112 = .ok (.aload_n 0, 1) := by decide +kernel
theorem dX6_performNext_113 : decode cX6_performNext 113 = .ok (.getfield 10, 3) := by decide +kernel
theorem dX6_performNext_116 : decode cX6_performNext 116 = .ok (.aload_n 0, 1) := by decide +kernel
theorem dX6_performNext_117 : decode cX6_performNext 117 = .ok (.getfield 29, 3) := by decide +kernel
theorem dX6_performNext_120 : decode cX6_performNext 120 = .ok (.getfield 192, 3) := by decide +kernel
theorem dX6_performNext_123 : decode cX6_performNext 123 = .ok (.invokevirtual 59, 3) := by decide +kernel
theorem dX6_performNext_126 : decode cX6_performNext 126 = .ok (.ireturn, 1) := by decide +kernel
theorem dX6_performNext_127 : decode cX6_performNext 127 = .ok (.aload_n 0, 1) := by decide +kernel
theorem dX6_performNext_128 : decode cX6_performNext 128 = .ok (.getfield 10, 3) := by decide +kernel
theorem dX6_performNext_131 : decode cX6_performNext 131 = .ok (.aload_n 0, 1) := by decide +kernel
theorem dX6_performNext_132 : decode cX6_performNext 132 = .ok (.getfield 29, 3) := by decide +kernel
theorem dX6_performNext_135 : decode cX6_performNext 135 = .ok (.getfield 192, 3) := by decide +kernel
theorem dX6_performNext_138 : decode cX6_performNext 138 = .ok (.invokevirtual 68, 3) := by decide +kernel
theorem dX6_performNext_141 : decode cX6_performNext 141 = .ok (.ireturn, 1) := by decide +kernel
theorem dX6_performNext_142 : decode cX6_performNext 142 = .ok (.aload_n 0, 1) := by decide +kernel
theorem dX6_performNext_143 : decode cX6_performNext 143 = .ok (.getfield 10, 3) := by decide +kernel
theorem dX6_performNext_146 : decode cX6_performNext 146 = .ok (.aload_n 0, 1) := by decide +kernel
theorem dX6_performNext_147 : decode cX6_performNext 147 = .ok (.getfield 29, 3) := by decide +kernel
theorem dX6_performNext_150 : decode cX6_performNext 150 = .ok (.getfield 192, 3) := by decide +kernel
theorem dX6_performNext_153 : decode cX6_performNext 153 = .ok (.aload_n 0, 1) := by decide +kernel
theorem dX6_performNext_154 : decode cX6_performNext 154 = .ok (.getfield 29, 3) := by decide +kernel
theorem dX6_performNext_157 : decode cX6_performNext 157 = .ok (.getfield 195, 3) := by decide +kernel
theorem dX6_performNext_160 : decode cX6_performNext 160 = .ok (.invokevirtual 62, 3) := by decide +kernel
theorem dX6_performNext_163 : decode cX6_performNext 163 = .ok (.ireturn, 1) := by decide +kernel
theorem dX6_isHolder_0 : decode cX6_isHolder 0 = .ok (.iload_n 0, 1) := by decide +kernel
theorem dX6_isHolder_1 : decode cX6_isHolder 1 = .ok (.ifCond .lt 13, 3) := by decide +kernel
theorem dX6_isHolder_4 : decode cX6_isHolder 4 = .ok (.iload_n 0, 1) := by decide +kernel
theorem dX6_isHolder_5 : decode cX6_isHolder 5 = .ok (.bipush 10, 2) := by decide +kernel
theorem dX6_isHolder_7 : decode cX6_isHolder 7 = .ok (.if_icmp .ge 7, 3) := by decide +kernel
theorem dX6_isHolder_10 : decode cX6_isHolder 10 = .ok (.iconst 1, 1) := by decide +kernel
theorem dX6_isHolder_11 : decode cX6_isHolder 11 = .ok (.goto 4, 3) := by decide +kernel
theorem dX6_isHolder_14 : decode cX6_isHolder 14 = .ok (.iconst 0, 1) := by decide +kernel
theorem dX6_isHolder_15 : decode cX6_isHolder 15 = .ok (.ireturn, 1) := by decide +kernel
theorem dX6_copyAll_0 : decode cX6_copyAll 0 = .ok (.iconst 0, 1) := by decide +kernel
theorem dX6_copyAll_1 : decode cX6_copyAll 1 = .ok (.istore_n 2, 1) := by decide +kernel
theorem dX6_copyAll_2 : decode cX6_copyAll 2 = .ok (.iload_n 2, 1) := by decide +kernel
theorem dX6_copyAll_3 : decode cX6_copyAll 3 = .ok (.aload_n 0, 1) := by decide +kernel
theorem dX6_copyAll_4 : decode cX6_copyAll 4 = .ok (.arraylength, 1) := by decide +kernel
theorem dX6_copyAll_5 : decode cX6_copyAll 5 = .ok (.if_icmp .ge 21, 3) := by decide +kernel
theorem dX6_copyAll_8 : decode cX6_copyAll 8 = .ok (.iload_n 2, 1) := by decide +kernel
theorem dX6_copyAll_9 : decode cX6_copyAll 9 = .ok (.aload_n 1, 1) := by decide +kernel
theorem dX6_copyAll_10 : decode cX6_copyAll 10 = .ok (.arraylength, 1) := by decide +kernel
theorem dX6_copyAll_11 : decode cX6_copyAll 11 = .ok (.if_icmp .ge 15, 3) := by decide +kernel
theorem dX6_copyAll_14 : decode cX6_copyAll 14 = .ok (.aload_n 1, 1) := by decide +kernel
theorem dX6_copyAll_15 : decode cX6_copyAll 15 = .ok (.iload_n 2, 1) := by decide +kernel
theorem dX6_copyAll_16 : decode cX6_copyAll 16 = .ok (.aload_n 0, 1) := by decide +kernel
theorem dX6_copyAll_17 : decode cX6_copyAll 17 = .ok (.iload_n 2, 1) := by decide +kernel
theorem dX6_copyAll_18 : decode cX6_copyAll 18 = .ok (.iaload, 1) := by decide +kernel
theorem dX6_copyAll_19 : decode cX6_copyAll 19 = .ok (.iastore, 1) := by decide +kernel
theorem dX6_copyAll_20 : decode cX6_copyAll 20 = .ok (.iinc 2 1, 3) := by decide +kernel
theorem dX6_copyAll_23 : decode cX6_copyAll 23 = .ok (.goto (-21), 3) := by decide +kernel
theorem dX6_copyAll_26 : decode cX6_copyAll 26 = .ok (.return_, 1) := by decide +kernel
end
section
theorem dX7_init_0 : decode cX7_init 0 = .ok (.aload_n 0, 1) := by decide +kernel
theorem dX7_init_1 : decode cX7_init 1 = .ok (.invokespecial 1, 3) := by decide +kernel
theorem dX7_init_4 : decode cX7_init 4 = .ok (.aload_n 0, 1) := by decide +kernel
theorem dX7_init_5 : decode cX7_init 5 = .ok (.sipush 607, 3) := by decide +kernel
theorem dX7_init_8 : decode cX7_init 8 = .ok (.newarray .int, 2) := by decide +kernel
theorem dX7_init_10 : decode cX7_init 10 = .ok (.putfield 7, 3) := by decide +kernel
theorem dX7_init_13 : decode cX7_init 13 = .ok (.aload_n 0, 1) := by decide +kernel
theorem dX7_init_14 : decode cX7_init 14 = .ok (.sipush 607, 3) := by decide +kernel
theorem dX7_init_17 : decode cX7_init 17 = .ok (.newarray .int, 2) := by decide +kernel
theorem dX7_init_19 : decode cX7_init 19 = .ok (.putfield 13, 3) := by decide +kernel
theorem dX7_init_22 : decode cX7_init 22 = .ok (.aload_n 0, 1) := by decide +kernel
theorem dX7_init_23 : decode cX7_init 23 = .ok (.sipush 2428, 3) := by decide +kernel
theorem dX7_init_26 : decode cX7_init 26 = .ok (.newarray .int, 2) := by decide +kernel
theorem dX7_init_28 : decode cX7_init 28 = .ok (.putfield 16, 3) := by decide +kernel
theorem dX7_init_31 : decode cX7_init 31 = .ok (.aload_n 0, 1) := by decide +kernel
theorem dX7_init_32 : decode cX7_init 32 = .ok (.sipush 607, 3) := by decide +kernel
theorem dX7_init_35 : decode cX7_init 35 = .ok (.newarray .int, 2) := by decide +kernel
theorem dX7_init_37 : decode cX7_init 37 = .ok (.putfield 19, 3) := by decide +kernel
theorem dX7_init_40 : decode cX7_init 40 = .ok (.aload_n 0, 1) := by decide +kernel
theorem dX7_init_41 : decode cX7_init 41 = .ok (.bipush 60, 2) := by decide +kernel
theorem dX7_init_43 : decode cX7_init 43 = .ok (.newarray .int, 2) := by decide +kernel
theorem dX7_init_45 : decode cX7_init 45 = .ok (.putfield 22, 3) := by decide +kernel
theorem dX7_init_48 : decode cX7_init 48 = .ok (.aload_n 0, 1) := by decide +kernel
theorem dX7_init_49 : decode cX7_init 49 = .ok (.iconst 4, 1) := by decide +kernel
theorem dX7_init_50 : decode cX7_init 50 = .ok (.newarray .int, 2) := by decide +kernel
theorem dX7_init_52 : decode cX7_init 52 = .ok (.dup, 1) := by decide +kernel
theorem dX7_init_53 : decode cX7_init 53 = .ok (.iconst 0, 1) := by decide +kernel
theorem dX7_init_54 : decode cX7_init 54 = .ok (.iconst 0, 1) := by decide +kernel
theorem dX7_init_55 : decode cX7_init 55 = .ok (.iastore, 1) := by decide +kernel
theorem dX7_init_56 : decode cX7_init 56 = .ok (.dup, 1) := by decide +kernel
theorem dX7_init_57 : decode cX7_init 57 = .ok (.iconst 1, 1) := by decide +kernel
theorem dX7_init_58 : decode cX7_init 58 = .ok (.iconst 0, 1) := by decide +kernel
theorem dX7_init_59 : decode cX7_init 59 = .ok (.iastore, 1) := by decide +kernel
theorem dX7_init_60 : decode cX7_init 60 = .ok (.dup, 1) := by decide +kernel
theorem dX7_init_61 : decode cX7_init 61 = .ok (.iconst 2, 1) := by decide +kernel
theorem dX7_init_62 : decode cX7_init 62 = .ok (.iconst 1, 1) := by decide +kernel
theorem dX7_init_63 : decode cX7_init 63 = .ok (.iastore, 1) := by decide +kernel
theorem dX7_init_64 : decode cX7_init 64 = .ok (.dup, 1) := by decide +kernel
theorem dX7_init_65 : decode cX7_init 65 = .ok (.iconst 3, 1) := by decide +kernel
theorem dX7_init_66 : decode cX7_init 66 = .ok (.iconst 0, 1) := by decide +kernel
theorem dX7_init_67 : decode cX7_init 67 = .ok (.iastore, 1) := by decide +kernel
theorem dX7_init_68 : decode cX7_init 68 = .ok (.putfield 25, 3) := by decide +kernel
theorem dX7_init_71 : decode cX7_init 71 = .ok (.aload_n 0, 1) := by decide +kernel
theorem dX7_init_72 : decode cX7_init 72 = .ok (.iconst 4, 1) := by decide +kernel
theorem dX7_init_73 : decode cX7_init 73 = .ok (.newarray .int, 2) := by decide +kernel
theorem dX7_init_75 : decode cX7_init 75 = .ok (.dup, 1) := by decide +kernel
theorem dX7_init_76 : decode cX7_init 76 = .ok (.iconst 0, 1) := by decide +kernel
theorem dX7_init_77 : decode cX7_init 77 = .ok (.bipush 9, 2) := by decide +kernel
theorem dX7_init_79 : decode cX7_init 79 = .ok (.iastore, 1) := by decide +kernel
theorem dX7_init_80 : decode cX7_init 80 = .ok (.dup, 1) := by decide +kernel
theorem dX7_init_81 : decode cX7_init 81 = .ok (.iconst 1, 1) := by decide +kernel
theorem dX7_init_82 : decode cX7_init 82 = .ok (.bipush 50, 2) := by decide +kernel
theorem dX7_init_84 : decode cX7_init 84 = .ok (.iastore, 1) := by decide +kernel
theorem dX7_init_85 : decode cX7_init 85 = .ok (.dup, 1) := by decide +kernel
theorem dX7_init_86 : decode cX7_init 86 = .ok (.iconst 2, 1) := by decide +kernel
theorem dX7_init_87 : decode cX7_init 87 = .ok (.bipush 60, 2) := by decide +kernel
theorem dX7_init_89 : decode cX7_init 89 = .ok (.iastore, 1) := by decide +kernel
theorem dX7_init_90 : decode cX7_init 90 = .ok (.dup, 1) := by decide +kernel
theorem dX7_init_91 : decode cX7_init 91 = .ok (.iconst 3, 1) := by decide +kernel
theorem dX7_init_92 : decode cX7_init 92 = .ok (.sipush 9999, 3) := by decide +kernel
theorem dX7_init_95 : decode cX7_init 95 = .ok (.iastore, 1) := by decide +kernel
theorem dX7_init_96 : decode cX7_init 96 = .ok (.putfield 28, 3) := by decide +kernel
theorem dX7_init_99 : decode cX7_init 99 = .ok (.aload_n 0, 1) := by decide +kernel
theorem dX7_init_100 : decode cX7_init 100 = .ok (.getfield 7, 3) := by decide +kernel
theorem dX7_init_103 : decode cX7_init 103 = .ok (.iconst 3, 1) := by decide +kernel
theorem dX7_init_104 : decode cX7_init 104 = .ok (.iconst 3, 1) := by decide +kernel
theorem dX7_init_105 : decode cX7_init 105 = .ok (.iastore, 1) := by decide +kernel
theorem dX7_init_106 : decode cX7_init 106 = .ok (.aload_n 0, 1) := by decide +kernel
theorem dX7_init_107 : decode cX7_init 107 = .ok (.getfield 7, 3) := by decide +kernel
theorem dX7_init_110 : decode cX7_init 110 = .ok (.iconst 4, 1) := by decide +kernel
theorem dX7_init_111 : decode cX7_init 111 = .ok (.bipush 10, 2) := by decide +kernel
theorem dX7_init_113 : decode cX7_init 113 = .ok (.iastore, 1) := by decide +kernel
theorem dX7_init_114 : decode cX7_init 114 = .ok (.aload_n 0, 1) := by decide +kernel
theorem dX7_init_115 : decode cX7_init 115 = .ok (.getfield 7, 3) := by decide +kernel
theorem dX7_init_118 : decode cX7_init 118 = .ok (.iconst 5, 1) := by decide +kernel
theorem dX7_init_119 : decode cX7_init 119 = .ok (.bipush 20, 2) := by decide +kernel
theorem dX7_init_121 : decode cX7_init 121 = .ok (.iastore, 1) := by decide +kernel
theorem dX7_init_122 : decode cX7_init 122 = .ok (.aload_n 0, 1) := by decide +kernel
theorem dX7_init_123 : decode cX7_init 123 = .ok (.getfield 7, 3) := by decide +kernel
theorem dX7_init_126 : decode cX7_init 126 = .ok (.bipush 6, 2) := by decide +kernel
theorem dX7_init_128 : decode cX7_init 128 = .ok (.sipush 500, 3) := by decide +kernel
theorem dX7_init_131 : decode cX7_init 131 = .ok (.iastore, 1) := by decide +kernel
theorem dX7_init_132 : decode cX7_init 132 = .ok (.aload_n 0, 1) := by decide +kernel
theorem dX7_init_133 : decode cX7_init 133 = .ok (.getfield 7, 3) := by decide +kernel
theorem dX7_init_136 : decode cX7_init 136 = .ok (.bipush 9, 2) := by decide +kernel
theorem dX7_init_138 : decode cX7_init 138 = .ok (.bipush 30, 2) := by decide +kernel
theorem dX7_init_140 : decode cX7_init 140 = .ok (.iastore, 1) := by decide +kernel
theorem dX7_init_141 : decode cX7_init 141 = .ok (.aload_n 0, 1) := by decide +kernel
theorem dX7_init_142 : decode cX7_init 142 = .ok (.getfield 7, 3) := by decide +kernel
theorem dX7_init_145 : decode cX7_init 145 = .ok (.bipush 10, 2) := by decide +kernel
theorem dX7_init_147 : decode cX7_init 147 = .ok (.bipush 10, 2) := by decide +kernel
theorem dX7_init_149 : decode cX7_init 149 = .ok (.iastore, 1) := by decide +kernel
theorem dX7_init_150 : decode cX7_init 150 = .ok (.aload_n 0, 1) := by decide +kernel
theorem dX7_init_151 : decode cX7_init 151 = .ok (.getfield 7, 3) := by decide +kernel
theorem dX7_init_154 : decode cX7_init 154 = .ok (.bipush 11, 2) := by decide +kernel
theorem dX7_init_156 : decode cX7_init 156 = .ok (.bipush 14, 2) := by decide +kernel
theorem dX7_init_158 : decode cX7_init 158 = .ok (.iastore, 1) := by decide +kernel
theorem dX7_init_159 : decode cX7_init 159 = .ok (.aload_n 0, 1) := by decide +kernel
theorem dX7_init_160 : decode cX7_init 160 = .ok (.getfield 7, 3) := by decide +kernel
theorem dX7_init_163 : decode cX7_init 163 = .ok (.bipush 12, 2) := by decide +kernel
theorem dX7_init_165 : decode cX7_init 165 = .ok (.bipush 30, 2) := by decide +kernel
theorem dX7_init_167 : decode cX7_init 167 = .ok (.iastore, 1) := by decide +kernel
theorem dX7_init_168 : decode cX7_init 168 = .ok (.aload_n 0, 1) := by decide +kernel
theorem dX7_init_169 : decode cX7_init 169 = .ok (.getfield 7, 3) := by decide +kernel
theorem dX7_init_172 : decode cX7_init 172 = .ok (.bipush 13, 2) := by decide +kernel
theorem dX7_init_174 : decode cX7_init 174 = .ok (.bipush 7, 2) := by decide +kernel
theorem dX7_init_176 : decode cX7_init 176 = .ok (.iastore, 1) := by decide +kernel
theorem dX7_init_177 : decode cX7_init 177 = .ok (.aload_n 0, 1) := by decide +kernel
theorem dX7_init_178 : decode cX7_init 178 = .ok (.getfield 7, 3) := by decide +kernel
theorem dX7_init_181 : decode cX7_init 181 = .ok (.bipush 14, 2) := by decide +kernel
theorem dX7_init_183 : decode cX7_init 183 = .ok (.bipush 60, 2) := by decide +kernel
theorem dX7_init_185 : decode cX7_init 185 = .ok (.iastore, 1) := by decide +kernel
theorem dX7_init_186 : decode cX7_init 186 = .ok (.aload_n 0, 1) := by decide +kernel
theorem dX7_init_187 : decode cX7_init 187 = .ok (.getfield 7, 3) := by decide +kernel
theorem dX7_init_190 : decode cX7_init 190 = .ok (.bipush 16, 2) := by decide +kernel
theorem dX7_init_192 : decode cX7_init 192 = .ok (.bipush 100, 2) := by decide +kernel
theorem dX7_init_194 : decode cX7_init 194 = .ok (.iastore, 1) := by decide +kernel
theorem dX7_init_195 : decode cX7_init 195 = .ok (.return_, 1) := by decide +kernel
theorem dX7_in_0 : decode cX7_in 0 = .ok (.iload_n 0, 1) := by decide +kernel
theorem dX7_in_1 : decode cX7_in 1 = .ok (.iload_n 1, 1) := by decide +kernel
theorem dX7_in_2 : decode cX7_in 2 = .ok (.if_icmp .lt 12, 3) := by decide +kernel
theorem dX7_in_5 : decode cX7_in 5 = .ok (.iload_n 0, 1) := by decide +kernel
theorem dX7_in_6 : decode cX7_in 6 = .ok (.iload_n 2, 1) := by decide +kernel
theorem dX7_in_7 : decode cX7_in 7 = .ok (.if_icmp .gt 7, 3) := by decide +kernel
theorem dX7_in_10 : decode cX7_in 10 = .ok (.iconst 1, 1) := by decide +kernel
theorem dX7_in_11 : decode cX7_in 11 = .ok (.goto 4, 3) := by decide +kernel
theorem dX7_in_14 : decode cX7_in 14 = .ok (.iconst 0, 1) := by decide +kernel
theorem dX7_in_15 : decode cX7_in 15 = .ok (.ireturn, 1) := by decide +kernel
theorem dX7_record_0 : decode cX7_record 0 = .ok (.aload_n 0, 1) := by decide +kernel
theorem dX7_record_1 : decode cX7_record 1 = .ok (.getfield 31, 3) := by decide +kernel
theorem dX7_record_4 : decode cX7_record 4 = .ok (.iconst 4, 1) := by decide +kernel
theorem dX7_record_5 : decode cX7_record 5 = .ok (.if_icmp .ne 44, 3) := by decide +kernel
theorem dX7_record_8 : decode cX7_record 8 = .ok (.iconst 0, 1) := by decide +kernel
theorem dX7_record_9 : decode cX7_record 9 = .ok (.istore_n 1, 1) := by decide +kernel
theorem dX7_record_10 : decode cX7_record 10 = .ok (.iload_n 1, 1) := by decide +kernel
theorem dX7_record_11 : decode cX7_record 11 = .ok (.sipush 1821, 3) := by decide +kernel
theorem dX7_record_14 : decode cX7_record 14 = .ok (.if_icmp .ge 25, 3) := by decide +kernel
theorem dX7_record_17 : decode cX7_record 17 = .ok (.aload_n 0, 1) := by decide +kernel
theorem dX7_record_18 : decode cX7_record 18 = .ok (.getfield 16, 3) := by decide +kernel
theorem dX7_record_21 : decode cX7_record 21 = .ok (.iload_n 1, 1) := by decide +kernel
theorem dX7_record_22 : decode cX7_record 22 = .ok (.aload_n 0, 1) := by decide +kernel
theorem dX7_record_23 : decode cX7_record 23 = .ok (.getfield 16, 3) := by decide +kernel
theorem dX7_record_26 : decode cX7_record 26 = .ok (.iload_n 1, 1) := by decide +kernel
theorem dX7_record_27 : decode cX7_record 27 = .ok (.sipush 607, 3) := by decide +kernel
theorem dX7_record_30 : decode cX7_record 30 = .ok (.iadd, 1) := by decide +kernel
theorem dX7_record_31 : decode cX7_record 31 = .ok (.iaload, 1) := by decide +kernel
theorem dX7_record_32 : decode cX7_record 32 = .ok (.iastore, 1) := by decide +kernel
theorem dX7_record_33 : decode cX7_record 33 = .ok (.iinc 1 1, 3) := by decide +kernel
theorem dX7_record_36 : decode cX7_record 36 = .ok (.goto (-26), 3) := by decide +kernel
theorem dX7_record_39 : decode cX7_record 39 = .ok (.aload_n 0, 1) := by decide +kernel
theorem dX7_record_40 : decode cX7_record 40 = .ok (.dup, 1) := by decide +kernel
theorem dX7_record_41 : decode cX7_record 41 = .ok (.getfield 31, 3) := by decide +kernel
theorem dX7_record_44 : decode cX7_record 44 = .ok (.iconst 1, 1) := by decide +kernel
theorem dX7_record_45 : decode cX7_record 45 = .ok (.isub, 1) := by decide +kernel
theorem dX7_record_46 : decode cX7_record 46 = .ok (.putfield 31, 3) := by decide +kernel
theorem dX7_record_49 : decode cX7_record 49 = .ok (.iconst 0, 1) := by decide +kernel
theorem dX7_record_50 : decode cX7_record 50 = .ok (.istore_n 1, 1) := by decide +kernel
theorem dX7_record_51 : decode cX7_record 51 = .ok (.iload_n 1, 1) := by decide +kernel
theorem dX7_record_52 : decode cX7_record 52 = .ok (.sipush 607, 3) := by decide +kernel
theorem dX7_record_55 : decode cX7_record 55 = .ok (.if_icmp .ge 30, 3) := by decide +kernel
theorem dX7_record_58 : decode cX7_record 58 = .ok (.aload_n 0, 1) := by decide +kernel
theorem dX7_record_59 : decode cX7_record 59 = .ok (.getfield 16, 3) := by decide +kernel
theorem dX7_record_62 : decode cX7_record 62 = .ok (.sipush 607, 3) := by decide +kernel
theorem dX7_record_65 : decode cX7_record 65 = .ok (.aload_n 0, 1) := by decide +kernel
theorem dX7_record_66 : decode cX7_record 66 = .ok (.getfield 31, 3) := by decide +kernel
theorem dX7_record_69 : decode cX7_record 69 = .ok (.imul, 1) := by decide +kernel
theorem dX7_record_70 : decode cX7_record 70 = .ok (.iload_n 1, 1) := by decide +kernel
theorem dX7_record_71 : decode cX7_record 71 = .ok (.iadd, 1) := by decide +kernel
theorem dX7_record_72 : decode cX7_record 72 = .ok (.aload_n 0, 1) := by decide +kernel
theorem dX7_record_73 : decode cX7_record 73 = .ok (.getfield 7, 3) := by decide +kernel
theorem dX7_record_76 : decode cX7_record 76 = .ok (.iload_n 1, 1) := by decide +kernel
theorem dX7_record_77 : decode cX7_record 77 = .ok (.iaload, 1) := by decide +kernel
theorem dX7_record_78 : decode cX7_record 78 = .ok (.iastore, 1) := by decide +kernel
theorem dX7_record_79 : decode cX7_record 79 = .ok (.iinc 1 1, 3) := by decide +kernel
theorem dX7_record_82 : decode cX7_record 82 = .ok (.goto (-31), 3) := by decide +kernel
theorem dX7_record_85 : decode cX7_record 85 = .ok (.aload_n 0, 1) := by decide +kernel
theorem dX7_record_86 : decode cX7_record 86 = .ok (.dup, 1) := by decide +kernel
theorem dX7_record_87 : decode cX7_record 87 = .ok (.getfield 31, 3) := by decide +kernel
theorem dX7_record_90 : decode cX7_record 90 = .ok (.iconst 1, 1) := by decide +kernel
theorem dX7_record_91 : decode cX7_record 91 = .ok (.iadd, 1) := by decide +kernel
theorem dX7_record_92 : decode cX7_record 92 = .ok (.putfield 31, 3) := by decide +kernel
theorem dX7_record_95 : decode cX7_record 95 = .ok (.return_, 1) := by decide +kernel
theorem dX7_isDate_0 : decode cX7_isDate 0 = .ok (.iload_n 1, 1) := by decide +kernel
theorem dX7_isDate_1 : decode cX7_isDate 1 = .ok (.iconst 0, 1) := by decide +kernel
theorem dX7_isDate_2 : decode cX7_isDate 2 = .ok (.aload_n 0, 1) := by decide +kernel
theorem dX7_isDate_3 : decode cX7_isDate 3 = .ok (.getfield 7, 3) := by decide +kernel
theorem dX7_isDate_6 : decode cX7_isDate 6 = .ok (.iconst 1, 1) := by decide +kernel
theorem dX7_isDate_7 : decode cX7_isDate 7 = .ok (.iaload, 1) := by decide +kernel
theorem dX7_isDate_8 : decode cX7_isDate 8 = .ok (.iconst 1, 1) := by decide +kernel
theorem dX7_isDate_9 : decode cX7_isDate 9 = .ok (.isub, 1) := by decide +kernel
theorem dX7_isDate_10 : decode cX7_isDate 10 = .ok (.invokestatic 35, 3) := by decide +kernel
theorem dX7_isDate_13 : decode cX7_isDate 13 = .ok (.ireturn, 1) := by decide +kernel
theorem dX7_isRight_0 : decode cX7_isRight 0 = .ok (.iload_n 1, 1) := by decide +kernel
theorem dX7_isRight_1 : decode cX7_isRight 1 = .ok (.iconst 0, 1) := by decide +kernel
theorem dX7_isRight_2 : decode cX7_isRight 2 = .ok (.aload_n 0, 1) := by decide +kernel
theorem dX7_isRight_3 : decode cX7_isRight 3 = .ok (.getfield 7, 3) := by decide +kernel
theorem dX7_isRight_6 : decode cX7_isRight 6 = .ok (.iconst 2, 1) := by decide +kernel
theorem dX7_isRight_7 : decode cX7_isRight 7 = .ok (.iaload, 1) := by decide +kernel
theorem dX7_isRight_8 : decode cX7_isRight 8 = .ok (.iconst 1, 1) := by decide +kernel
theorem dX7_isRight_9 : decode cX7_isRight 9 = .ok (.isub, 1) := by decide +kernel
theorem dX7_isRight_10 : decode cX7_isRight 10 = .ok (.invokestatic 35, 3) := by decide +kernel
theorem dX7_isRight_13 : decode cX7_isRight 13 = .ok (.ireturn, 1) := by decide +kernel
theorem dX7_isHolder_0 : decode cX7_isHolder 0 = .ok (.iload_n 0, 1) := by decide +kernel
theorem dX7_isHolder_1 : decode cX7_isHolder 1 = .ok (.iconst 0, 1) := by decide +kernel
theorem dX7_isHolder_2 : decode cX7_isHolder 2 = .ok (.bipush 9, 2) := by decide +kernel
theorem dX7_isHolder_4 : decode cX7_isHolder 4 = .ok (.invokestatic 35, 3) := by decide +kernel
theorem dX7_isHolder_7 : decode cX7_isHolder 7 = .ok (.ireturn, 1) := by decide +kernel
theorem dX7_dateAt_0 : decode cX7_dateAt 0 = .ok (.bipush 27, 2) := by decide +kernel
theorem dX7_dateAt_2 : decode cX7_dateAt 2 = .ok (.bipush 12, 2) := by decide +kernel
theorem dX7_dateAt_4 : decode cX7_dateAt 4 = .ok (.iload_n 0, 1) := by decide +kernel
theorem dX7_dateAt_5 : decode cX7_dateAt 5 = .ok (.imul, 1) := by decide +kernel
theorem dX7_dateAt_6 : decode cX7_dateAt 6 = .ok (.iadd, 1) := by decide +kernel
theorem dX7_dateAt_7 : decode cX7_dateAt 7 = .ok (.iload_n 1, 1) := by decide +kernel
theorem dX7_dateAt_8 : decode cX7_dateAt 8 = .ok (.iadd, 1) := by decide +kernel
theorem dX7_dateAt_9 : decode cX7_dateAt 9 = .ok (.ireturn, 1) := by decide +kernel
theorem dX7_rightAt_0 : decode cX7_rightAt 0 = .ok (.sipush 147, 3) := by decide +kernel
theorem dX7_rightAt_3 : decode cX7_rightAt 3 = .ok (.bipush 7, 2) := by decide +kernel
theorem dX7_rightAt_5 : decode cX7_rightAt 5 = .ok (.iload_n 0, 1) := by decide +kernel
theorem dX7_rightAt_6 : decode cX7_rightAt 6 = .ok (.imul, 1) := by decide +kernel
theorem dX7_rightAt_7 : decode cX7_rightAt 7 = .ok (.iadd, 1) := by decide +kernel
theorem dX7_rightAt_8 : decode cX7_rightAt 8 = .ok (.iload_n 1, 1) := by decide +kernel
theorem dX7_rightAt_9 : decode cX7_rightAt 9 = .ok (.iadd, 1) := by decide +kernel
theorem dX7_rightAt_10 : decode cX7_rightAt 10 = .ok (.ireturn, 1) := by decide +kernel
theorem dX7_ofDate_0 : decode cX7_ofDate 0 = .ok (.aload_n 0, 1) := by decide +kernel
theorem dX7_ofDate_1 : decode cX7_ofDate 1 = .ok (.getfield 7, 3) := by decide +kernel
theorem dX7_ofDate_4 : decode cX7_ofDate 4 = .ok (.iload_n 1, 1) := by decide +kernel
theorem dX7_ofDate_5 : decode cX7_ofDate 5 = .ok (.iload_n 2, 1) := by decide +kernel
theorem dX7_ofDate_6 : decode cX7_ofDate 6 = .ok (.invokestatic 39, 3) := by decide +kernel
theorem dX7_ofDate_9 : decode cX7_ofDate 9 = .ok (.iaload, 1) := by decide +kernel
theorem dX7_ofDate_10 : decode cX7_ofDate 10 = .ok (.ireturn, 1) := by decide +kernel
theorem dX7_of_0 : decode cX7_of 0 = .ok (.aload_n 0, 1) := by decide +kernel
theorem dX7_of_1 : decode cX7_of 1 = .ok (.getfield 7, 3) := by decide +kernel
theorem dX7_of_4 : decode cX7_of 4 = .ok (.iload_n 1, 1) := by decide +kernel
theorem dX7_of_5 : decode cX7_of 5 = .ok (.iload_n 2, 1) := by decide +kernel
theorem dX7_of_6 : decode cX7_of 6 = .ok (.invokestatic 43, 3) := by decide +kernel
theorem dX7_of_9 : decode cX7_of 9 = .ok (.iaload, 1) := by decide +kernel
theorem dX7_of_10 : decode cX7_of 10 = .ok (.ireturn, 1) := by decide +kernel
theorem dX7_log_0 : decode cX7_log 0 = .ok (.bipush 39, 2) := by decide +kernel
theorem dX7_log_2 : decode cX7_log 2 = .ok (.istore 4, 2) := by decide +kernel
theorem dX7_log_4 : decode cX7_log 4 = .ok (.iload 4, 2) := by decide +kernel
theorem dX7_log_6 : decode cX7_log 6 = .ok (.iconst 3, 1) := by decide +kernel
theorem dX7_log_7 : decode cX7_log 7 = .ok (.if_icmp .le 33, 3) := by decide +kernel
theorem dX7_log_10 : decode cX7_log 10 = .ok (.aload_n 0, 1) := by decide +kernel
theorem dX7_log_11 : decode cX7_log 11 = .ok (.getfield 7, 3) := by decide +kernel
theorem dX7_log_14 : decode cX7_log 14 = .ok (.sipush 567, 3) := by decide +kernel
theorem dX7_log_17 : decode cX7_log 17 = .ok (.iload 4, 2) := by decide +kernel
theorem dX7_log_19 : decode cX7_log 19 = .ok (.iadd, 1) := by decide +kernel
theorem dX7_log_20 : decode cX7_log 20 = .ok (.aload_n 0, 1) := by decide +kernel
theorem dX7_log_21 : decode cX7_log 21 = .ok (.getfield 7, 3) := by decide +kernel
theorem dX7_log_24 : decode cX7_log 24 = .ok (.sipush 567, 3) := by decide +kernel
theorem dX7_log_27 : decode cX7_log 27 = .ok (.iload 4, 2) := by decide +kernel
theorem dX7_log_29 : decode cX7_log 29 = .ok (.iadd, 1) := by decide +kernel
theorem dX7_log_30 : decode cX7_log 30 = .ok (.iconst 4, 1) := by decide +kernel
theorem dX7_log_31 : decode cX7_log 31 = .ok (.isub, 1) := by decide +kernel
theorem dX7_log_32 : decode cX7_log 32 = .ok (.iaload, 1) := by decide +kernel
theorem dX7_log_33 : decode cX7_log 33 = .ok (.iastore, 1) := by decide +kernel
theorem dX7_log_34 : decode cX7_log 34 = .ok (.iinc 4 (-1), 3) := by decide +kernel
theorem dX7_log_37 : decode cX7_log 37 = .ok (.goto (-33), 3) := by decide +kernel
theorem dX7_log_40 : decode cX7_log 40 = .ok (.aload_n 0, 1) := by decide +kernel
theorem dX7_log_41 : decode cX7_log 41 = .ok (.getfield 7, 3) := by decide +kernel
theorem dX7_log_44 : decode cX7_log 44 = .ok (.sipush 567, 3) := by decide +kernel
theorem dX7_log_47 : decode cX7_log 47 = .ok (.iload_n 1, 1) := by decide +kernel
theorem dX7_log_48 : decode cX7_log 48 = .ok (.iastore, 1) := by decide +kernel
theorem dX7_log_49 : decode cX7_log 49 = .ok (.aload_n 0, 1) := by decide +kernel
theorem dX7_log_50 : decode cX7_log 50 = .ok (.getfield 7, 3) := by decide +kernel
theorem dX7_log_53 : decode cX7_log 53 = .ok (.sipush 568, 3) := by decide +kernel
theorem dX7_log_56 : decode cX7_log 56 = .ok (.iload_n 2, 1) := by decide +kernel
theorem dX7_log_57 : decode cX7_log 57 = .ok (.iastore, 1) := by decide +kernel
theorem dX7_log_58 : decode cX7_log 58 = .ok (.aload_n 0, 1) := by decide +kernel
theorem dX7_log_59 : decode cX7_log 59 = .ok (.getfield 7, 3) := by decide +kernel
theorem dX7_log_62 : decode cX7_log 62 = .ok (.sipush 569, 3) := by decide +kernel
theorem dX7_log_65 : decode cX7_log 65 = .ok (.iload_n 3, 1) := by decide +kernel
theorem dX7_log_66 : decode cX7_log 66 = .ok (.iastore, 1) := by decide +kernel
theorem dX7_log_67 : decode cX7_log 67 = .ok (.aload_n 0, 1) := by decide +kernel
theorem dX7_log_68 : decode cX7_log 68 = .ok (.getfield 7, 3) := by decide +kernel
theorem dX7_log_71 : decode cX7_log 71 = .ok (.sipush 570, 3) := by decide +kernel
theorem dX7_log_74 : decode cX7_log 74 = .ok (.aload_n 0, 1) := by decide +kernel
theorem dX7_log_75 : decode cX7_log 75 = .ok (.getfield 7, 3) := by decide +kernel
theorem dX7_log_78 : decode cX7_log 78 = .ok (.iconst 0, 1) := by decide +kernel
theorem dX7_log_79 : decode cX7_log 79 = .ok (.iaload, 1) := by decide +kernel
theorem dX7_log_80 : decode cX7_log 80 = .ok (.iastore, 1) := by decide +kernel
theorem dX7_log_81 : decode cX7_log 81 = .ok (.aload_n 0, 1) := by decide +kernel
theorem dX7_log_82 : decode cX7_log 82 = .ok (.getfield 7, 3) := by decide +kernel
theorem dX7_log_85 : decode cX7_log 85 = .ok (.bipush 8, 2) := by decide +kernel
theorem dX7_log_87 : decode cX7_log 87 = .ok (.dup2, 1) := by decide +kernel
theorem dX7_log_88 : decode cX7_log 88 = .ok (.iaload, 1) := by decide +kernel
theorem dX7_log_89 : decode cX7_log 89 = .ok (.aload_n 0, 1) := by decide +kernel
theorem dX7_log_90 : decode cX7_log 90 = .ok (.getfield 7, 3) := by decide +kernel
theorem dX7_log_93 : decode cX7_log 93 = .ok (.bipush 8, 2) := by decide +kernel
theorem dX7_log_95 : decode cX7_log 95 = .ok (.iaload, 1) := by decide +kernel
theorem dX7_log_96 : decode cX7_log 96 = .ok (.bipush 10, 2) := by decide +kernel
theorem dX7_log_98 : decode cX7_log 98 = .ok (.if_icmp .ge 7, 3) := by decide +kernel
theorem dX7_log_101 : decode cX7_log 101 = .ok (.iconst 1, 1) := by decide +kernel
theorem dX7_log_102 : decode cX7_log 102 = .ok (.goto 4, 3) := by decide +kernel
theorem dX7_log_105 : decode cX7_log 105 = .ok (.iconst 0, 1) := by decide +kernel
theorem dX7_log_106 : decode cX7_log 106 = .ok (.iadd, 1) := by decide +kernel
theorem dX7_log_107 : decode cX7_log 107 = .ok (.iastore, 1) := by decide +kernel
theorem dX7_log_108 : decode cX7_log 108 = .ok (.return_, 1) := by decide +kernel
theorem dX7_pays_0 : decode cX7_pays 0 = .ok (.aload_n 0, 1) := by decide +kernel
theorem dX7_pays_1 : decode cX7_pays 1 = .ok (.getfield 7, 3) := by decide +kernel
theorem dX7_pays_4 : decode cX7_pays 4 = .ok (.bipush 17, 2) := by decide +kernel
theorem dX7_pays_6 : decode cX7_pays 6 = .ok (.iload_n 1, 1) := by decide +kernel
theorem dX7_pays_7 : decode cX7_pays 7 = .ok (.iadd, 1) := by decide +kernel
theorem dX7_pays_8 : decode cX7_pays 8 = .ok (.dup2, 1) := by decide +kernel
theorem dX7_pays_9 : decode cX7_pays 9 = .ok (.iaload, 1) := by decide +kernel
theorem dX7_pays_10 : decode cX7_pays 10 = .ok (.iload_n 2, 1) := by decide +kernel
theorem dX7_pays_11 : decode cX7_pays 11 = .ok (.isub, 1) := by decide +kernel
theorem dX7_pays_12 : decode cX7_pays 12 = .ok (.iastore, 1) := by decide +kernel
theorem dX7_pays_13 : decode cX7_pays 13 = .ok (.aload_n 0, 1) := by decide +kernel
theorem dX7_pays_14 : decode cX7_pays 14 = .ok (.getfield 7, 3) := by decide +kernel
theorem dX7_pays_17 : decode cX7_pays 17 = .ok (.bipush 7, 2) := by decide +kernel
theorem dX7_pays_19 : decode cX7_pays 19 = .ok (.dup2, 1) := by decide +kernel
theorem dX7_pays_20 : decode cX7_pays 20 = .ok (.iaload, 1) := by decide +kernel
theorem dX7_pays_21 : decode cX7_pays 21 = .ok (.iload_n 2, 1) := by decide +kernel
theorem dX7_pays_22 : decode cX7_pays 22 = .ok (.iadd, 1) := by decide +kernel
theorem dX7_pays_23 : decode cX7_pays 23 = .ok (.iastore, 1) := by decide +kernel
theorem dX7_pays_24 : decode cX7_pays 24 = .ok (.return_, 1) := by decide +kernel
theorem dX7_daysLeft_0 : decode cX7_daysLeft 0 = .ok (.aload_n 0, 1) := by decide +kernel
theorem dX7_daysLeft_1 : decode cX7_daysLeft 1 = .ok (.iload_n 1, 1) := by decide +kernel
theorem dX7_daysLeft_2 : decode cX7_daysLeft 2 = .ok (.iconst 0, 1) := by decide +kernel
theorem dX7_daysLeft_3 : decode cX7_daysLeft 3 = .ok (.invokevirtual 46, 3) := by decide +kernel
theorem dX7_daysLeft_6 : decode cX7_daysLeft 6 = .ok (.aload_n 0, 1) := by decide +kernel
theorem dX7_daysLeft_7 : decode cX7_daysLeft 7 = .ok (.getfield 7, 3) := by decide +kernel
theorem dX7_daysLeft_10 : decode cX7_daysLeft 10 = .ok (.iconst 0, 1) := by decide +kernel
theorem dX7_daysLeft_11 : decode cX7_daysLeft 11 = .ok (.iaload, 1) := by decide +kernel
theorem dX7_daysLeft_12 : decode cX7_daysLeft 12 = .ok (.isub, 1) := by decide +kernel
theorem dX7_daysLeft_13 : decode cX7_daysLeft 13 = .ok (.ireturn, 1) := by decide +kernel
theorem dX7_isOpen_0 : decode cX7_isOpen 0 = .ok (.aload_n 0, 1) := by decide +kernel
theorem dX7_isOpen_1 : decode cX7_isOpen 1 = .ok (.iload_n 1, 1) := by decide +kernel
theorem dX7_isOpen_2 : decode cX7_isOpen 2 = .ok (.invokevirtual 49, 3) := by decide +kernel
theorem dX7_isOpen_5 : decode cX7_isOpen 5 = .ok (.ifCond .le 7, 3) := by decide +kernel
theorem dX7_isOpen_8 : decode cX7_isOpen 8 = .ok (.iconst 1, 1) := by decide +kernel
theorem dX7_isOpen_9 : decode cX7_isOpen 9 = .ok (.goto 4, 3) := by decide +kernel
theorem dX7_isOpen_12 : decode cX7_isOpen 12 = .ok (.iconst 0, 1) := by decide +kernel
theorem dX7_isOpen_13 : decode cX7_isOpen 13 = .ok (.ireturn, 1) := by decide +kernel
theorem dX7_rightsOf_0 : decode cX7_rightsOf 0 = .ok (.iconst 0, 1) := by decide +kernel
theorem dX7_rightsOf_1 : decode cX7_rightsOf 1 = .ok (.istore 4, 2) := by decide +kernel
theorem dX7_rightsOf_3 : decode cX7_rightsOf 3 = .ok (.iconst 0, 1) := by decide +kernel
theorem dX7_rightsOf_4 : decode cX7_rightsOf 4 = .ok (.istore 5, 2) := by decide +kernel
theorem dX7_rightsOf_6 : decode cX7_rightsOf 6 = .ok (.iload 5, 2) := by decide +kernel
theorem dX7_rightsOf_8 : decode cX7_rightsOf 8 = .ok (.aload_n 0, 1) := by decide +kernel
theorem dX7_rightsOf_9 : decode cX7_rightsOf 9 = .ok (.getfield 7, 3) := by decide +kernel
theorem dX7_rightsOf_12 : decode cX7_rightsOf 12 = .ok (.iconst 2, 1) := by decide +kernel
theorem dX7_rightsOf_13 : decode cX7_rightsOf 13 = .ok (.iaload, 1) := by decide +kernel
theorem dX7_rightsOf_14 : decode cX7_rightsOf 14 = .ok (.if_icmp .ge 45, 3) := by decide +kernel
theorem dX7_rightsOf_17 : decode cX7_rightsOf 17 = .ok (.iload 4, 2) := by decide +kernel
theorem dX7_rightsOf_19 : decode cX7_rightsOf 19 = .ok (.aload_n 0, 1) := by decide +kernel
theorem dX7_rightsOf_20 : decode cX7_rightsOf 20 = .ok (.iload 5, 2) := by decide +kernel
theorem dX7_rightsOf_22 : decode cX7_rightsOf 22 = .ok (.iconst 0, 1) := by decide +kernel
theorem dX7_rightsOf_23 : decode cX7_rightsOf 23 = .ok (.invokevirtual 53, 3) := by decide +kernel
theorem dX7_rightsOf_26 : decode cX7_rightsOf 26 = .ok (.iload_n 1, 1) := by decide +kernel
theorem dX7_rightsOf_27 : decode cX7_rightsOf 27 = .ok (.if_icmp .ne 22, 3) := by decide +kernel
theorem dX7_rightsOf_30 : decode cX7_rightsOf 30 = .ok (.aload_n 0, 1) := by decide +kernel
theorem dX7_rightsOf_31 : decode cX7_rightsOf 31 = .ok (.iload 5, 2) := by decide +kernel
theorem dX7_rightsOf_33 : decode cX7_rightsOf 33 = .ok (.iconst 3, 1) := by decide +kernel
theorem dX7_rightsOf_34 : decode cX7_rightsOf 34 = .ok (.invokevirtual 53, 3) := by decide +kernel
theorem dX7_rightsOf_37 : decode cX7_rightsOf 37 = .ok (.iload_n 2, 1) := by decide +kernel
theorem dX7_rightsOf_38 : decode cX7_rightsOf 38 = .ok (.iload_n 3, 1) := by decide +kernel
theorem dX7_rightsOf_39 : decode cX7_rightsOf 39 = .ok (.invokestatic 35, 3) := by decide +kernel
theorem dX7_rightsOf_42 : decode cX7_rightsOf 42 = .ok (.ifCond .eq 7, 3) := by decide +kernel
theorem dX7_rightsOf_45 : decode cX7_rightsOf 45 = .ok (.iconst 1, 1) := by decide +kernel
theorem dX7_rightsOf_46 : decode cX7_rightsOf 46 = .ok (.goto 4, 3) := by decide +kernel
theorem dX7_rightsOf_49 : decode cX7_rightsOf 49 = .ok (.iconst 0, 1) := by decide +kernel
theorem dX7_rightsOf_50 : decode cX7_rightsOf 50 = .ok (.iadd, 1) := by decide +kernel
theorem dX7_rightsOf_51 : decode cX7_rightsOf 51 = .ok (.istore 4, 2) := by decide +kernel
theorem dX7_rightsOf_53 : decode cX7_rightsOf 53 = .ok (.iinc 5 1, 3) := by decide +kernel
theorem dX7_rightsOf_56 : decode cX7_rightsOf 56 = .ok (.goto (-50), 3) := by decide +kernel
theorem dX7_rightsOf_59 : decode cX7_rightsOf 59 = .ok (.iload 4, 2) := by decide +kernel
theorem dX7_rightsOf_61 : decode cX7_rightsOf 61 = .ok (.ireturn, 1) := by decide +kernel
theorem dX7_out_0 : decode cX7_out 0 = .ok (.aload_n 0, 1) := by decide +kernel
theorem dX7_out_1 : decode cX7_out 1 = .ok (.iload_n 1, 1) := by decide +kernel
theorem dX7_out_2 : decode cX7_out 2 = .ok (.iconst 0, 1) := by decide +kernel
theorem dX7_out_3 : decode cX7_out 3 = .ok (.iconst 2, 1) := by decide +kernel
theorem dX7_out_4 : decode cX7_out 4 = .ok (.invokevirtual 56, 3) := by decide +kernel
theorem dX7_out_7 : decode cX7_out 7 = .ok (.ireturn, 1) := by decide +kernel
theorem dX7_price_0 : decode cX7_price 0 = .ok (.aload_n 0, 1) := by decide +kernel
theorem dX7_price_1 : decode cX7_price 1 = .ok (.iload_n 1, 1) := by decide +kernel
theorem dX7_price_2 : decode cX7_price 2 = .ok (.iconst 3, 1) := by decide +kernel
theorem dX7_price_3 : decode cX7_price 3 = .ok (.invokevirtual 46, 3) := by decide +kernel
theorem dX7_price_6 : decode cX7_price 6 = .ok (.istore_n 3, 1) := by decide +kernel
theorem dX7_price_7 : decode cX7_price 7 = .ok (.aload_n 0, 1) := by decide +kernel
theorem dX7_price_8 : decode cX7_price 8 = .ok (.iload_n 1, 1) := by decide +kernel
theorem dX7_price_9 : decode cX7_price 9 = .ok (.iconst 4, 1) := by decide +kernel
theorem dX7_price_10 : decode cX7_price 10 = .ok (.invokevirtual 46, 3) := by decide +kernel
theorem dX7_price_13 : decode cX7_price 13 = .ok (.iconst 1, 1) := by decide +kernel
theorem dX7_price_14 : decode cX7_price 14 = .ok (.if_icmp .ne 20, 3) := by decide +kernel
theorem dX7_price_17 : decode cX7_price 17 = .ok (.iload_n 3, 1) := by decide +kernel
theorem dX7_price_18 : decode cX7_price 18 = .ok (.iload_n 3, 1) := by decide +kernel
theorem dX7_price_19 : decode cX7_price 19 = .ok (.aload_n 0, 1) := by decide +kernel
theorem dX7_price_20 : decode cX7_price 20 = .ok (.iload_n 1, 1) := by decide +kernel
theorem dX7_price_21 : decode cX7_price 21 = .ok (.invokevirtual 60, 3) := by decide +kernel
theorem dX7_price_24 : decode cX7_price 24 = .ok (.imul, 1) := by decide +kernel
theorem dX7_price_25 : decode cX7_price 25 = .ok (.aload_n 0, 1) := by decide +kernel
theorem dX7_price_26 : decode cX7_price 26 = .ok (.iload_n 1, 1) := by decide +kernel
theorem dX7_price_27 : decode cX7_price 27 = .ok (.iconst 1, 1) := by decide +kernel
theorem dX7_price_28 : decode cX7_price 28 = .ok (.invokevirtual 46, 3) := by decide +kernel
theorem dX7_price_31 : decode cX7_price 31 = .ok (.idiv, 1) := by decide +kernel
theorem dX7_price_32 : decode cX7_price 32 = .ok (.iadd, 1) := by decide +kernel
theorem dX7_price_33 : decode cX7_price 33 = .ok (.ireturn, 1) := by decide +kernel
theorem dX7_price_34 : decode cX7_price 34 = .ok (.iload_n 2, 1) := by decide +kernel
theorem dX7_price_35 : decode cX7_price 35 = .ok (.bipush 30, 2) := by decide +kernel
theorem dX7_price_37 : decode cX7_price 37 = .ok (.if_icmp .le 7, 3) := by decide +kernel
theorem dX7_price_40 : decode cX7_price 40 = .ok (.iconst 0, 1) := by decide +kernel
theorem dX7_price_41 : decode cX7_price 41 = .ok (.goto 7, 3) := by decide +kernel
theorem dX7_price_44 : decode cX7_price 44 = .ok (.bipush 30, 2) := by decide +kernel
theorem dX7_price_46 : decode cX7_price 46 = .ok (.iload_n 2, 1) := by decide +kernel
theorem dX7_price_47 : decode cX7_price 47 = .ok (.isub, 1) := by decide +kernel
theorem dX7_price_48 : decode cX7_price 48 = .ok (.istore 4, 2) := by decide +kernel
theorem dX7_price_50 : decode cX7_price 50 = .ok (.aload_n 0, 1) := by decide +kernel
theorem dX7_price_51 : decode cX7_price 51 = .ok (.iload_n 1, 1) := by decide +kernel
theorem dX7_price_52 : decode cX7_price 52 = .ok (.iconst 4, 1) := by decide +kernel
theorem dX7_price_53 : decode cX7_price 53 = .ok (.invokevirtual 46, 3) := by decide +kernel
theorem dX7_price_56 : decode cX7_price 56 = .ok (.ifCond .ne 7, 3) := by decide +kernel
theorem dX7_price_59 : decode cX7_price 59 = .ok (.iload_n 3, 1) := by decide +kernel
theorem dX7_price_60 : decode cX7_price 60 = .ok (.goto 15, 3) := by decide +kernel
theorem dX7_price_63 : decode cX7_price 63 = .ok (.iload_n 3, 1) := by decide +kernel
theorem dX7_price_64 : decode cX7_price 64 = .ok (.bipush 100, 2) := by decide +kernel
theorem dX7_price_66 : decode cX7_price 66 = .ok (.iconst 2, 1) := by decide +kernel
theorem dX7_price_67 : decode cX7_price 67 = .ok (.iload 4, 2) := by decide +kernel
theorem dX7_price_69 : decode cX7_price 69 = .ok (.imul, 1) := by decide +kernel
theorem dX7_price_70 : decode cX7_price 70 = .ok (.iadd, 1) := by decide +kernel
theorem dX7_price_71 : decode cX7_price 71 = .ok (.imul, 1) := by decide +kernel
theorem dX7_price_72 : decode cX7_price 72 = .ok (.bipush 100, 2) := by decide +kernel
theorem dX7_price_74 : decode cX7_price 74 = .ok (.idiv, 1) := by decide +kernel
theorem dX7_price_75 : decode cX7_price 75 = .ok (.ireturn, 1) := by decide +kernel
theorem dX7_canSell_0 : decode cX7_canSell 0 = .ok (.aload_n 0, 1) := by decide +kernel
theorem dX7_canSell_1 : decode cX7_canSell 1 = .ok (.iload_n 1, 1) := by decide +kernel
theorem dX7_canSell_2 : decode cX7_canSell 2 = .ok (.iconst 1, 1) := by decide +kernel
theorem dX7_canSell_3 : decode cX7_canSell 3 = .ok (.invokevirtual 46, 3) := by decide +kernel
theorem dX7_canSell_6 : decode cX7_canSell 6 = .ok (.aload_n 0, 1) := by decide +kernel
theorem dX7_canSell_7 : decode cX7_canSell 7 = .ok (.iload_n 1, 1) := by decide +kernel
theorem dX7_canSell_8 : decode cX7_canSell 8 = .ok (.invokevirtual 49, 3) := by decide +kernel
theorem dX7_canSell_11 : decode cX7_canSell 11 = .ok (.aload_n 0, 1) := by decide +kernel
theorem dX7_canSell_12 : decode cX7_canSell 12 = .ok (.getfield 7, 3) := by decide +kernel
theorem dX7_canSell_15 : decode cX7_canSell 15 = .ok (.iconst 3, 1) := by decide +kernel
theorem dX7_canSell_16 : decode cX7_canSell 16 = .ok (.iaload, 1) := by decide +kernel
theorem dX7_canSell_17 : decode cX7_canSell 17 = .ok (.if_icmp .le 12, 3) := by decide +kernel
theorem dX7_canSell_20 : decode cX7_canSell 20 = .ok (.aload_n 0, 1) := by decide +kernel
theorem dX7_canSell_21 : decode cX7_canSell 21 = .ok (.iload_n 1, 1) := by decide +kernel
theorem dX7_canSell_22 : decode cX7_canSell 22 = .ok (.iconst 2, 1) := by decide +kernel
theorem dX7_canSell_23 : decode cX7_canSell 23 = .ok (.invokevirtual 46, 3) := by decide +kernel
theorem dX7_canSell_26 : decode cX7_canSell 26 = .ok (.goto 4, 3) := by decide +kernel
theorem dX7_canSell_29 : decode cX7_canSell 29 = .ok (.iconst 0, 1) := by decide +kernel
theorem dX7_canSell_30 : decode cX7_canSell 30 = .ok (.iadd, 1) := by decide +kernel
theorem dX7_canSell_31 : decode cX7_canSell 31 = .ok (.aload_n 0, 1) := by decide +kernel
theorem dX7_canSell_32 : decode cX7_canSell 32 = .ok (.iload_n 1, 1) := by decide +kernel
theorem dX7_canSell_33 : decode cX7_canSell 33 = .ok (.invokevirtual 60, 3) := by decide +kernel
theorem dX7_canSell_36 : decode cX7_canSell 36 = .ok (.isub, 1) := by decide +kernel
theorem dX7_canSell_37 : decode cX7_canSell 37 = .ok (.istore_n 2, 1) := by decide +kernel
theorem dX7_canSell_38 : decode cX7_canSell 38 = .ok (.bipush 60, 2) := by decide +kernel
theorem dX7_canSell_40 : decode cX7_canSell 40 = .ok (.aload_n 0, 1) := by decide +kernel
theorem dX7_canSell_41 : decode cX7_canSell 41 = .ok (.getfield 7, 3) := by decide +kernel
theorem dX7_canSell_44 : decode cX7_canSell 44 = .ok (.iconst 2, 1) := by decide +kernel
theorem dX7_canSell_45 : decode cX7_canSell 45 = .ok (.iaload, 1) := by decide +kernel
theorem dX7_canSell_46 : decode cX7_canSell 46 = .ok (.isub, 1) := by decide +kernel
theorem dX7_canSell_47 : decode cX7_canSell 47 = .ok (.istore_n 3, 1) := by decide +kernel
theorem dX7_canSell_48 : decode cX7_canSell 48 = .ok (.iload_n 2, 1) := by decide +kernel
theorem dX7_canSell_49 : decode cX7_canSell 49 = .ok (.iload_n 3, 1) := by decide +kernel
theorem dX7_canSell_50 : decode cX7_canSell 50 = .ok (.if_icmp .ge 7, 3) := by decide +kernel
theorem dX7_canSell_53 : decode cX7_canSell 53 = .ok (.iload_n 2, 1) := by decide +kernel
theorem dX7_canSell_54 : decode cX7_canSell 54 = .ok (.goto 4, 3) := by decide +kernel
theorem dX7_canSell_57 : decode cX7_canSell 57 = .ok (.iload_n 3, 1) := by decide +kernel
theorem dX7_canSell_58 : decode cX7_canSell 58 = .ok (.istore_n 2, 1) := by decide +kernel
theorem dX7_canSell_59 : decode cX7_canSell 59 = .ok (.iload_n 2, 1) := by decide +kernel
theorem dX7_canSell_60 : decode cX7_canSell 60 = .ok (.ifCond .le 15, 3) := by decide +kernel
theorem dX7_canSell_63 : decode cX7_canSell 63 = .ok (.aload_n 0, 1) := by decide +kernel
theorem dX7_canSell_64 : decode cX7_canSell 64 = .ok (.iload_n 1, 1) := by decide +kernel
theorem dX7_canSell_65 : decode cX7_canSell 65 = .ok (.invokevirtual 63, 3) := by decide +kernel
theorem dX7_canSell_68 : decode cX7_canSell 68 = .ok (.ifCond .eq 7, 3) := by decide +kernel
theorem dX7_canSell_71 : decode cX7_canSell 71 = .ok (.iload_n 2, 1) := by decide +kernel
theorem dX7_canSell_72 : decode cX7_canSell 72 = .ok (.goto 4, 3) := by decide +kernel
theorem dX7_canSell_75 : decode cX7_canSell 75 = .ok (.iconst 0, 1) := by decide +kernel
theorem dX7_canSell_76 : decode cX7_canSell 76 = .ok (.ireturn, 1) := by decide +kernel
theorem dX7_stageOf_0 : decode cX7_stageOf 0 = .ok (.iconst 0, 1) := by decide +kernel
theorem dX7_stageOf_1 : decode cX7_stageOf 1 = .ok (.istore_n 2, 1) := by decide +kernel
theorem dX7_stageOf_2 : decode cX7_stageOf 2 = .ok (.aload_n 0, 1) := by decide +kernel
theorem dX7_stageOf_3 : decode cX7_stageOf 3 = .ok (.getfield 7, 3) := by decide +kernel
theorem dX7_stageOf_6 : decode cX7_stageOf 6 = .ok (.bipush 9, 2) := by decide +kernel
theorem dX7_stageOf_8 : decode cX7_stageOf 8 = .ok (.iconst 2, 1) := by decide +kernel
theorem dX7_stageOf_9 : decode cX7_stageOf 9 = .ok (.iload_n 2, 1) := by decide +kernel
theorem dX7_stageOf_10 : decode cX7_stageOf 10 = .ok (.imul, 1) := by decide +kernel
theorem dX7_stageOf_11 : decode cX7_stageOf 11 = .ok (.iadd, 1) := by decide +kernel
theorem dX7_stageOf_12 : decode cX7_stageOf 12 = .ok (.iaload, 1) := by decide +kernel
theorem dX7_stageOf_13 : decode cX7_stageOf 13 = .ok (.aload_n 0, 1) := by decide +kernel
theorem dX7_stageOf_14 : decode cX7_stageOf 14 = .ok (.iload_n 1, 1) := by decide +kernel
theorem dX7_stageOf_15 : decode cX7_stageOf 15 = .ok (.invokevirtual 49, 3) := by decide +kernel
theorem dX7_stageOf_18 : decode cX7_stageOf 18 = .ok (.if_icmp .le 9, 3) := by decide +kernel
theorem dX7_stageOf_21 : decode cX7_stageOf 21 = .ok (.iinc 2 1, 3) := by decide +kernel
theorem dX7_stageOf_24 : decode cX7_stageOf 24 = .ok (.goto (-22), 3) := by decide +kernel
theorem dX7_stageOf_27 : decode cX7_stageOf 27 = .ok (.iload_n 2, 1) := by decide +kernel
theorem dX7_stageOf_28 : decode cX7_stageOf 28 = .ok (.ireturn, 1) := by decide +kernel
theorem dX7_sells_0 : decode cX7_sells 0 = .ok (.aload_n 0, 1) := by decide +kernel
theorem dX7_sells_1 : decode cX7_sells 1 = .ok (.getfield 7, 3) := by decide +kernel
theorem dX7_sells_4 : decode cX7_sells 4 = .ok (.iconst 2, 1) := by decide +kernel
theorem dX7_sells_5 : decode cX7_sells 5 = .ok (.iaload, 1) := by decide +kernel
theorem dX7_sells_6 : decode cX7_sells 6 = .ok (.istore_n 3, 1) := by decide +kernel
theorem dX7_sells_7 : decode cX7_sells 7 = .ok (.aload_n 0, 1) := by decide +kernel
theorem dX7_sells_8 : decode cX7_sells 8 = .ok (.iload_n 2, 1) := by decide +kernel
theorem dX7_sells_9 : decode cX7_sells 9 = .ok (.aload_n 0, 1) := by decide +kernel
theorem dX7_sells_10 : decode cX7_sells 10 = .ok (.iload_n 2, 1) := by decide +kernel
theorem dX7_sells_11 : decode cX7_sells 11 = .ok (.invokevirtual 49, 3) := by decide +kernel
theorem dX7_sells_14 : decode cX7_sells 14 = .ok (.invokevirtual 67, 3) := by decide +kernel
theorem dX7_sells_17 : decode cX7_sells 17 = .ok (.istore 4, 2) := by decide +kernel
theorem dX7_sells_19 : decode cX7_sells 19 = .ok (.aload_n 0, 1) := by decide +kernel
theorem dX7_sells_20 : decode cX7_sells 20 = .ok (.getfield 7, 3) := by decide +kernel
theorem dX7_sells_23 : decode cX7_sells 23 = .ok (.iload_n 3, 1) := by decide +kernel
theorem dX7_sells_24 : decode cX7_sells 24 = .ok (.iconst 0, 1) := by decide +kernel
theorem dX7_sells_25 : decode cX7_sells 25 = .ok (.invokestatic 43, 3) := by decide +kernel
theorem dX7_sells_28 : decode cX7_sells 28 = .ok (.iload_n 2, 1) := by decide +kernel
theorem dX7_sells_29 : decode cX7_sells 29 = .ok (.iastore, 1) := by decide +kernel
theorem dX7_sells_30 : decode cX7_sells 30 = .ok (.aload_n 0, 1) := by decide +kernel
theorem dX7_sells_31 : decode cX7_sells 31 = .ok (.getfield 7, 3) := by decide +kernel
theorem dX7_sells_34 : decode cX7_sells 34 = .ok (.iload_n 3, 1) := by decide +kernel
theorem dX7_sells_35 : decode cX7_sells 35 = .ok (.iconst 1, 1) := by decide +kernel
theorem dX7_sells_36 : decode cX7_sells 36 = .ok (.invokestatic 43, 3) := by decide +kernel
theorem dX7_sells_39 : decode cX7_sells 39 = .ok (.iload_n 1, 1) := by decide +kernel
theorem dX7_sells_40 : decode cX7_sells 40 = .ok (.iastore, 1) := by decide +kernel
theorem dX7_sells_41 : decode cX7_sells 41 = .ok (.aload_n 0, 1) := by decide +kernel
theorem dX7_sells_42 : decode cX7_sells 42 = .ok (.getfield 7, 3) := by decide +kernel
theorem dX7_sells_45 : decode cX7_sells 45 = .ok (.iload_n 3, 1) := by decide +kernel
theorem dX7_sells_46 : decode cX7_sells 46 = .ok (.iconst 2, 1) := by decide +kernel
theorem dX7_sells_47 : decode cX7_sells 47 = .ok (.invokestatic 43, 3) := by decide +kernel
theorem dX7_sells_50 : decode cX7_sells 50 = .ok (.iload 4, 2) := by decide +kernel
theorem dX7_sells_52 : decode cX7_sells 52 = .ok (.iastore, 1) := by decide +kernel
theorem dX7_sells_53 : decode cX7_sells 53 = .ok (.aload_n 0, 1) := by decide +kernel
theorem dX7_sells_54 : decode cX7_sells 54 = .ok (.getfield 7, 3) := by decide +kernel
theorem dX7_sells_57 : decode cX7_sells 57 = .ok (.iload_n 3, 1) := by decide +kernel
theorem dX7_sells_58 : decode cX7_sells 58 = .ok (.iconst 3, 1) := by decide +kernel
theorem dX7_sells_59 : decode cX7_sells 59 = .ok (.invokestatic 43, 3) := by decide +kernel
theorem dX7_sells_62 : decode cX7_sells 62 = .ok (.iconst 0, 1) := by decide +kernel
theorem dX7_sells_63 : decode cX7_sells 63 = .ok (.iastore, 1) := by decide +kernel
theorem dX7_sells_64 : decode cX7_sells 64 = .ok (.aload_n 0, 1) := by decide +kernel
theorem dX7_sells_65 : decode cX7_sells 65 = .ok (.getfield 7, 3) := by decide +kernel
theorem dX7_sells_68 : decode cX7_sells 68 = .ok (.iload_n 3, 1) := by decide +kernel
theorem dX7_sells_69 : decode cX7_sells 69 = .ok (.iconst 4, 1) := by decide +kernel
theorem dX7_sells_70 : decode cX7_sells 70 = .ok (.invokestatic 43, 3) := by decide +kernel
theorem dX7_sells_73 : decode cX7_sells 73 = .ok (.bipush (-5), 2) := by decide +kernel
theorem dX7_sells_75 : decode cX7_sells 75 = .ok (.iastore, 1) := by decide +kernel
theorem dX7_sells_76 : decode cX7_sells 76 = .ok (.aload_n 0, 1) := by decide +kernel
theorem dX7_sells_77 : decode cX7_sells 77 = .ok (.getfield 7, 3) := by decide +kernel
theorem dX7_sells_80 : decode cX7_sells 80 = .ok (.iload_n 3, 1) := by decide +kernel
theorem dX7_sells_81 : decode cX7_sells 81 = .ok (.iconst 5, 1) := by decide +kernel
theorem dX7_sells_82 : decode cX7_sells 82 = .ok (.invokestatic 43, 3) := by decide +kernel
theorem dX7_sells_85 : decode cX7_sells 85 = .ok (.aload_n 0, 1) := by decide +kernel
theorem dX7_sells_86 : decode cX7_sells 86 = .ok (.getfield 7, 3) := by decide +kernel
theorem dX7_sells_89 : decode cX7_sells 89 = .ok (.iconst 0, 1) := by decide +kernel
theorem dX7_sells_90 : decode cX7_sells 90 = .ok (.iaload, 1) := by decide +kernel
theorem dX7_sells_91 : decode cX7_sells 91 = .ok (.iastore, 1) := by decide +kernel
theorem dX7_sells_92 : decode cX7_sells 92 = .ok (.aload_n 0, 1) := by decide +kernel
theorem dX7_sells_93 : decode cX7_sells 93 = .ok (.getfield 7, 3) := by decide +kernel
theorem dX7_sells_96 : decode cX7_sells 96 = .ok (.iload_n 3, 1) := by decide +kernel
theorem dX7_sells_97 : decode cX7_sells 97 = .ok (.bipush 6, 2) := by decide +kernel
theorem dX7_sells_99 : decode cX7_sells 99 = .ok (.invokestatic 43, 3) := by decide +kernel
theorem dX7_sells_102 : decode cX7_sells 102 = .ok (.iconst 0, 1) := by decide +kernel
theorem dX7_sells_103 : decode cX7_sells 103 = .ok (.iastore, 1) := by decide +kernel
theorem dX7_sells_104 : decode cX7_sells 104 = .ok (.aload_n 0, 1) := by decide +kernel
theorem dX7_sells_105 : decode cX7_sells 105 = .ok (.getfield 7, 3) := by decide +kernel
theorem dX7_sells_108 : decode cX7_sells 108 = .ok (.iconst 2, 1) := by decide +kernel
theorem dX7_sells_109 : decode cX7_sells 109 = .ok (.dup2, 1) := by decide +kernel
theorem dX7_sells_110 : decode cX7_sells 110 = .ok (.iaload, 1) := by decide +kernel
theorem dX7_sells_111 : decode cX7_sells 111 = .ok (.iconst 1, 1) := by decide +kernel
theorem dX7_sells_112 : decode cX7_sells 112 = .ok (.iadd, 1) := by decide +kernel
theorem dX7_sells_113 : decode cX7_sells 113 = .ok (.iastore, 1) := by decide +kernel
theorem dX7_sells_114 : decode cX7_sells 114 = .ok (.aload_n 0, 1) := by decide +kernel
theorem dX7_sells_115 : decode cX7_sells 115 = .ok (.iload_n 1, 1) := by decide +kernel
theorem dX7_sells_116 : decode cX7_sells 116 = .ok (.iload 4, 2) := by decide +kernel
theorem dX7_sells_118 : decode cX7_sells 118 = .ok (.invokevirtual 70, 3) := by decide +kernel
theorem dX7_sells_121 : decode cX7_sells 121 = .ok (.aload_n 0, 1) := by decide +kernel
theorem dX7_sells_122 : decode cX7_sells 122 = .ok (.iconst 0, 1) := by decide +kernel
theorem dX7_sells_123 : decode cX7_sells 123 = .ok (.iload_n 3, 1) := by decide +kernel
theorem dX7_sells_124 : decode cX7_sells 124 = .ok (.iload 4, 2) := by decide +kernel
theorem dX7_sells_126 : decode cX7_sells 126 = .ok (.invokevirtual 74, 3) := by decide +kernel
theorem dX7_sells_129 : decode cX7_sells 129 = .ok (.iload_n 3, 1) := by decide +kernel
theorem dX7_sells_130 : decode cX7_sells 130 = .ok (.ireturn, 1) := by decide +kernel
theorem dX7_dropFirst_0 : decode cX7_dropFirst 0 = .ok (.iload_n 2, 1) := by decide +kernel
theorem dX7_dropFirst_1 : decode cX7_dropFirst 1 = .ok (.istore_n 3, 1) := by decide +kernel
theorem dX7_dropFirst_2 : decode cX7_dropFirst 2 = .ok (.iload_n 3, 1) := by decide +kernel
theorem dX7_dropFirst_3 : decode cX7_dropFirst 3 = .ok (.aload_n 0, 1) := by decide +kernel
theorem dX7_dropFirst_4 : decode cX7_dropFirst 4 = .ok (.iload_n 1, 1) := by decide +kernel
theorem dX7_dropFirst_5 : decode cX7_dropFirst 5 = .ok (.iconst 5, 1) := by decide +kernel
theorem dX7_dropFirst_6 : decode cX7_dropFirst 6 = .ok (.invokevirtual 46, 3) := by decide +kernel
theorem dX7_dropFirst_9 : decode cX7_dropFirst 9 = .ok (.iconst 1, 1) := by decide +kernel
theorem dX7_dropFirst_10 : decode cX7_dropFirst 10 = .ok (.isub, 1) := by decide +kernel
theorem dX7_dropFirst_11 : decode cX7_dropFirst 11 = .ok (.if_icmp .ge 33, 3) := by decide +kernel
theorem dX7_dropFirst_14 : decode cX7_dropFirst 14 = .ok (.aload_n 0, 1) := by decide +kernel
theorem dX7_dropFirst_15 : decode cX7_dropFirst 15 = .ok (.getfield 7, 3) := by decide +kernel
theorem dX7_dropFirst_18 : decode cX7_dropFirst 18 = .ok (.iload_n 1, 1) := by decide +kernel
theorem dX7_dropFirst_19 : decode cX7_dropFirst 19 = .ok (.bipush 6, 2) := by decide +kernel
theorem dX7_dropFirst_21 : decode cX7_dropFirst 21 = .ok (.iload_n 3, 1) := by decide +kernel
theorem dX7_dropFirst_22 : decode cX7_dropFirst 22 = .ok (.iadd, 1) := by decide +kernel
theorem dX7_dropFirst_23 : decode cX7_dropFirst 23 = .ok (.invokestatic 39, 3) := by decide +kernel
theorem dX7_dropFirst_26 : decode cX7_dropFirst 26 = .ok (.aload_n 0, 1) := by decide +kernel
theorem dX7_dropFirst_27 : decode cX7_dropFirst 27 = .ok (.iload_n 1, 1) := by decide +kernel
theorem dX7_dropFirst_28 : decode cX7_dropFirst 28 = .ok (.bipush 6, 2) := by decide +kernel
theorem dX7_dropFirst_30 : decode cX7_dropFirst 30 = .ok (.iload_n 3, 1) := by decide +kernel
theorem dX7_dropFirst_31 : decode cX7_dropFirst 31 = .ok (.iadd, 1) := by decide +kernel
theorem dX7_dropFirst_32 : decode cX7_dropFirst 32 = .ok (.iconst 1, 1) := by decide +kernel
theorem dX7_dropFirst_33 : decode cX7_dropFirst 33 = .ok (.iadd, 1) := by decide +kernel
theorem dX7_dropFirst_34 : decode cX7_dropFirst 34 = .ok (.invokevirtual 46, 3) := by decide +kernel
theorem dX7_dropFirst_37 : decode cX7_dropFirst 37 = .ok (.iastore, 1) := by decide +kernel
theorem dX7_dropFirst_38 : decode cX7_dropFirst 38 = .ok (.iinc 3 1, 3) := by decide +kernel
theorem dX7_dropFirst_41 : decode cX7_dropFirst 41 = .ok (.goto (-39), 3) := by decide +kernel
theorem dX7_dropFirst_44 : decode cX7_dropFirst 44 = .ok (.aload_n 0, 1) := by decide +kernel
theorem dX7_dropFirst_45 : decode cX7_dropFirst 45 = .ok (.getfield 7, 3) := by decide +kernel
theorem dX7_dropFirst_48 : decode cX7_dropFirst 48 = .ok (.iload_n 1, 1) := by decide +kernel
theorem dX7_dropFirst_49 : decode cX7_dropFirst 49 = .ok (.iconst 5, 1) := by decide +kernel
theorem dX7_dropFirst_50 : decode cX7_dropFirst 50 = .ok (.invokestatic 39, 3) := by decide +kernel
theorem dX7_dropFirst_53 : decode cX7_dropFirst 53 = .ok (.dup2, 1) := by decide +kernel
theorem dX7_dropFirst_54 : decode cX7_dropFirst 54 = .ok (.iaload, 1) := by decide +kernel
theorem dX7_dropFirst_55 : decode cX7_dropFirst 55 = .ok (.iconst 1, 1) := by decide +kernel
theorem dX7_dropFirst_56 : decode cX7_dropFirst 56 = .ok (.isub, 1) := by decide +kernel
theorem dX7_dropFirst_57 : decode cX7_dropFirst 57 = .ok (.iastore, 1) := by decide +kernel
theorem dX7_dropFirst_58 : decode cX7_dropFirst 58 = .ok (.return_, 1) := by decide +kernel
theorem dX7_listBuys_0 : decode cX7_listBuys 0 = .ok (.aload_n 0, 1) := by decide +kernel
theorem dX7_listBuys_1 : decode cX7_listBuys 1 = .ok (.iload_n 1, 1) := by decide +kernel
theorem dX7_listBuys_2 : decode cX7_listBuys 2 = .ok (.iconst 5, 1) := by decide +kernel
theorem dX7_listBuys_3 : decode cX7_listBuys 3 = .ok (.invokevirtual 46, 3) := by decide +kernel
theorem dX7_listBuys_6 : decode cX7_listBuys 6 = .ok (.ifCond .le 35, 3) := by decide +kernel
theorem dX7_listBuys_9 : decode cX7_listBuys 9 = .ok (.aload_n 0, 1) := by decide +kernel
theorem dX7_listBuys_10 : decode cX7_listBuys 10 = .ok (.iload_n 1, 1) := by decide +kernel
theorem dX7_listBuys_11 : decode cX7_listBuys 11 = .ok (.invokevirtual 78, 3) := by decide +kernel
theorem dX7_listBuys_14 : decode cX7_listBuys 14 = .ok (.ifCond .le 27, 3) := by decide +kernel
theorem dX7_listBuys_17 : decode cX7_listBuys 17 = .ok (.aload_n 0, 1) := by decide +kernel
theorem dX7_listBuys_18 : decode cX7_listBuys 18 = .ok (.iload_n 1, 1) := by decide +kernel
theorem dX7_listBuys_19 : decode cX7_listBuys 19 = .ok (.bipush 6, 2) := by decide +kernel
theorem dX7_listBuys_21 : decode cX7_listBuys 21 = .ok (.invokevirtual 46, 3) := by decide +kernel
theorem dX7_listBuys_24 : decode cX7_listBuys 24 = .ok (.istore_n 2, 1) := by decide +kernel
theorem dX7_listBuys_25 : decode cX7_listBuys 25 = .ok (.aload_n 0, 1) := by decide +kernel
theorem dX7_listBuys_26 : decode cX7_listBuys 26 = .ok (.iload_n 1, 1) := by decide +kernel
theorem dX7_listBuys_27 : decode cX7_listBuys 27 = .ok (.iconst 0, 1) := by decide +kernel
theorem dX7_listBuys_28 : decode cX7_listBuys 28 = .ok (.invokevirtual 81, 3) := by decide +kernel
theorem dX7_listBuys_31 : decode cX7_listBuys 31 = .ok (.aload_n 0, 1) := by decide +kernel
theorem dX7_listBuys_32 : decode cX7_listBuys 32 = .ok (.iload_n 2, 1) := by decide +kernel
theorem dX7_listBuys_33 : decode cX7_listBuys 33 = .ok (.iload_n 1, 1) := by decide +kernel
theorem dX7_listBuys_34 : decode cX7_listBuys 34 = .ok (.invokevirtual 84, 3) := by decide +kernel
theorem dX7_listBuys_37 : decode cX7_listBuys 37 = .ok (.pop, 1) := by decide +kernel
theorem dX7_listBuys_38 : decode cX7_listBuys 38 = .ok (.goto (-38), 3) := by decide +kernel
theorem dX7_listBuys_41 : decode cX7_listBuys 41 = .ok (.return_, 1) := by decide +kernel
theorem dX7_lowest_0 : decode cX7_lowest 0 = .ok (.iconst (-1), 1) := by decide +kernel
theorem dX7_lowest_1 : decode cX7_lowest 1 = .ok (.istore 4, 2) := by decide +kernel
theorem dX7_lowest_3 : decode cX7_lowest 3 = .ok (.iconst 0, 1) := by decide +kernel
theorem dX7_lowest_4 : decode cX7_lowest 4 = .ok (.istore 5, 2) := by decide +kernel
theorem dX7_lowest_6 : decode cX7_lowest 6 = .ok (.iload 5, 2) := by decide +kernel
theorem dX7_lowest_8 : decode cX7_lowest 8 = .ok (.aload_n 0, 1) := by decide +kernel
theorem dX7_lowest_9 : decode cX7_lowest 9 = .ok (.getfield 7, 3) := by decide +kernel
theorem dX7_lowest_12 : decode cX7_lowest 12 = .ok (.iconst 2, 1) := by decide +kernel
theorem dX7_lowest_13 : decode cX7_lowest 13 = .ok (.iaload, 1) := by decide +kernel
theorem dX7_lowest_14 : decode cX7_lowest 14 = .ok (.if_icmp .ge 74, 3) := by decide +kernel
theorem dX7_lowest_17 : decode cX7_lowest 17 = .ok (.aload_n 0, 1) := by decide +kernel
theorem dX7_lowest_18 : decode cX7_lowest 18 = .ok (.iload 5, 2) := by decide +kernel
theorem dX7_lowest_20 : decode cX7_lowest 20 = .ok (.iconst 0, 1) := by decide +kernel
theorem dX7_lowest_21 : decode cX7_lowest 21 = .ok (.invokevirtual 53, 3) := by decide +kernel
theorem dX7_lowest_24 : decode cX7_lowest 24 = .ok (.iload_n 1, 1) := by decide +kernel
theorem dX7_lowest_25 : decode cX7_lowest 25 = .ok (.if_icmp .ne 18, 3) := by decide +kernel
theorem dX7_lowest_28 : decode cX7_lowest 28 = .ok (.aload_n 0, 1) := by decide +kernel
theorem dX7_lowest_29 : decode cX7_lowest 29 = .ok (.iload 5, 2) := by decide +kernel
theorem dX7_lowest_31 : decode cX7_lowest 31 = .ok (.iconst 3, 1) := by decide +kernel
theorem dX7_lowest_32 : decode cX7_lowest 32 = .ok (.invokevirtual 53, 3) := by decide +kernel
theorem dX7_lowest_35 : decode cX7_lowest 35 = .ok (.iload_n 2, 1) := by decide +kernel
theorem dX7_lowest_36 : decode cX7_lowest 36 = .ok (.if_icmp .ne 7, 3) := by decide +kernel
theorem dX7_lowest_39 : decode cX7_lowest 39 = .ok (.iconst 1, 1) := by decide +kernel
theorem dX7_lowest_40 : decode cX7_lowest 40 = .ok (.goto 4, 3) := by decide +kernel
theorem dX7_lowest_43 : decode cX7_lowest 43 = .ok (.iconst 0, 1) := by decide +kernel
theorem dX7_lowest_44 : decode cX7_lowest 44 = .ok (.istore 6, 2) := by decide +kernel
theorem dX7_lowest_46 : decode cX7_lowest 46 = .ok (.iload 6, 2) := by decide +kernel
theorem dX7_lowest_48 : decode cX7_lowest 48 = .ok (.ifCond .eq 30, 3) := by decide +kernel
theorem dX7_lowest_51 : decode cX7_lowest 51 = .ok (.iload 4, 2) := by decide +kernel
theorem dX7_lowest_53 : decode cX7_lowest 53 = .ok (.ifCond .lt 20, 3) := by decide +kernel
theorem dX7_lowest_56 : decode cX7_lowest 56 = .ok (.aload_n 0, 1) := by decide +kernel
theorem dX7_lowest_57 : decode cX7_lowest 57 = .ok (.iload 5, 2) := by decide +kernel
theorem dX7_lowest_59 : decode cX7_lowest 59 = .ok (.iload_n 3, 1) := by decide +kernel
theorem dX7_lowest_60 : decode cX7_lowest 60 = .ok (.invokevirtual 53, 3) := by decide +kernel
theorem dX7_lowest_63 : decode cX7_lowest 63 = .ok (.aload_n 0, 1) := by decide +kernel
theorem dX7_lowest_64 : decode cX7_lowest 64 = .ok (.iload 4, 2) := by decide +kernel
theorem dX7_lowest_66 : decode cX7_lowest 66 = .ok (.iload_n 3, 1) := by decide +kernel
theorem dX7_lowest_67 : decode cX7_lowest 67 = .ok (.invokevirtual 53, 3) := by decide +kernel
theorem dX7_lowest_70 : decode cX7_lowest 70 = .ok (.if_icmp .ge 8, 3) := by decide +kernel
theorem dX7_lowest_73 : decode cX7_lowest 73 = .ok (.iload 5, 2) := by decide +kernel
theorem dX7_lowest_75 : decode cX7_lowest 75 = .ok (.goto 5, 3) := by decide +kernel
theorem dX7_lowest_78 : decode cX7_lowest 78 = .ok (.iload 4, 2) := by decide +kernel
theorem dX7_lowest_80 : decode cX7_lowest 80 = .ok (.istore 4, 2) := by decide +kernel
theorem dX7_lowest_82 : decode cX7_lowest 82 = .ok (.iinc 5 1, 3) := by decide +kernel
theorem dX7_lowest_85 : decode cX7_lowest 85 = .ok (.goto (-79), 3) := by decide +kernel
theorem dX7_lowest_88 : decode cX7_lowest 88 = .ok (.iload 4, 2) := by decide +kernel
theorem dX7_lowest_90 : decode cX7_lowest 90 = .ok (.ireturn, 1) := by decide +kernel
theorem dX7_refund_0 : decode cX7_refund 0 = .ok (.aload_n 0, 1) := by decide +kernel
theorem dX7_refund_1 : decode cX7_refund 1 = .ok (.getfield 7, 3) := by decide +kernel
theorem dX7_refund_4 : decode cX7_refund 4 = .ok (.bipush 9, 2) := by decide +kernel
theorem dX7_refund_6 : decode cX7_refund 6 = .ok (.iconst 2, 1) := by decide +kernel
theorem dX7_refund_7 : decode cX7_refund 7 = .ok (.aload_n 0, 1) := by decide +kernel
theorem dX7_refund_8 : decode cX7_refund 8 = .ok (.aload_n 0, 1) := by decide +kernel
theorem dX7_refund_9 : decode cX7_refund 9 = .ok (.iload_n 1, 1) := by decide +kernel
theorem dX7_refund_10 : decode cX7_refund 10 = .ok (.iconst 0, 1) := by decide +kernel
theorem dX7_refund_11 : decode cX7_refund 11 = .ok (.invokevirtual 53, 3) := by decide +kernel
theorem dX7_refund_14 : decode cX7_refund 14 = .ok (.invokevirtual 87, 3) := by decide +kernel
theorem dX7_refund_17 : decode cX7_refund 17 = .ok (.imul, 1) := by decide +kernel
theorem dX7_refund_18 : decode cX7_refund 18 = .ok (.iadd, 1) := by decide +kernel
theorem dX7_refund_19 : decode cX7_refund 19 = .ok (.iconst 1, 1) := by decide +kernel
theorem dX7_refund_20 : decode cX7_refund 20 = .ok (.iadd, 1) := by decide +kernel
theorem dX7_refund_21 : decode cX7_refund 21 = .ok (.iaload, 1) := by decide +kernel
theorem dX7_refund_22 : decode cX7_refund 22 = .ok (.istore_n 2, 1) := by decide +kernel
theorem dX7_refund_23 : decode cX7_refund 23 = .ok (.aload_n 0, 1) := by decide +kernel
theorem dX7_refund_24 : decode cX7_refund 24 = .ok (.iload_n 1, 1) := by decide +kernel
theorem dX7_refund_25 : decode cX7_refund 25 = .ok (.iconst 2, 1) := by decide +kernel
theorem dX7_refund_26 : decode cX7_refund 26 = .ok (.invokevirtual 53, 3) := by decide +kernel
theorem dX7_refund_29 : decode cX7_refund 29 = .ok (.aload_n 0, 1) := by decide +kernel
theorem dX7_refund_30 : decode cX7_refund 30 = .ok (.iload_n 1, 1) := by decide +kernel
theorem dX7_refund_31 : decode cX7_refund 31 = .ok (.iconst 2, 1) := by decide +kernel
theorem dX7_refund_32 : decode cX7_refund 32 = .ok (.invokevirtual 53, 3) := by decide +kernel
theorem dX7_refund_35 : decode cX7_refund 35 = .ok (.iload_n 2, 1) := by decide +kernel
theorem dX7_refund_36 : decode cX7_refund 36 = .ok (.imul, 1) := by decide +kernel
theorem dX7_refund_37 : decode cX7_refund 37 = .ok (.bipush 100, 2) := by decide +kernel
theorem dX7_refund_39 : decode cX7_refund 39 = .ok (.idiv, 1) := by decide +kernel
theorem dX7_refund_40 : decode cX7_refund 40 = .ok (.isub, 1) := by decide +kernel
theorem dX7_refund_41 : decode cX7_refund 41 = .ok (.ireturn, 1) := by decide +kernel
theorem dX7_canExercise_0 : decode cX7_canExercise 0 = .ok (.aload_n 0, 1) := by decide +kernel
theorem dX7_canExercise_1 : decode cX7_canExercise 1 = .ok (.iload_n 1, 1) := by decide +kernel
theorem dX7_canExercise_2 : decode cX7_canExercise 2 = .ok (.iconst 0, 1) := by decide +kernel
theorem dX7_canExercise_3 : decode cX7_canExercise 3 = .ok (.invokevirtual 53, 3) := by decide +kernel
theorem dX7_canExercise_6 : decode cX7_canExercise 6 = .ok (.istore_n 2, 1) := by decide +kernel
theorem dX7_canExercise_7 : decode cX7_canExercise 7 = .ok (.aload_n 0, 1) := by decide +kernel
theorem dX7_canExercise_8 : decode cX7_canExercise 8 = .ok (.iload_n 1, 1) := by decide +kernel
theorem dX7_canExercise_9 : decode cX7_canExercise 9 = .ok (.iconst 3, 1) := by decide +kernel
theorem dX7_canExercise_10 : decode cX7_canExercise 10 = .ok (.invokevirtual 53, 3) := by decide +kernel
theorem dX7_canExercise_13 : decode cX7_canExercise 13 = .ok (.ifCond .ne 41, 3) := by decide +kernel
theorem dX7_canExercise_16 : decode cX7_canExercise 16 = .ok (.aload_n 0, 1) := by decide +kernel
theorem dX7_canExercise_17 : decode cX7_canExercise 17 = .ok (.iload_n 2, 1) := by decide +kernel
theorem dX7_canExercise_18 : decode cX7_canExercise 18 = .ok (.invokevirtual 49, 3) := by decide +kernel
theorem dX7_canExercise_21 : decode cX7_canExercise 21 = .ok (.iconst 1, 1) := by decide +kernel
theorem dX7_canExercise_22 : decode cX7_canExercise 22 = .ok (.aload_n 0, 1) := by decide +kernel
theorem dX7_canExercise_23 : decode cX7_canExercise 23 = .ok (.getfield 7, 3) := by decide +kernel
theorem dX7_canExercise_26 : decode cX7_canExercise 26 = .ok (.iconst 5, 1) := by decide +kernel
theorem dX7_canExercise_27 : decode cX7_canExercise 27 = .ok (.iaload, 1) := by decide +kernel
theorem dX7_canExercise_28 : decode cX7_canExercise 28 = .ok (.invokestatic 35, 3) := by decide +kernel
theorem dX7_canExercise_31 : decode cX7_canExercise 31 = .ok (.ifCond .eq 23, 3) := by decide +kernel
theorem dX7_canExercise_34 : decode cX7_canExercise 34 = .ok (.aload_n 0, 1) := by decide +kernel
theorem dX7_canExercise_35 : decode cX7_canExercise 35 = .ok (.iload_n 2, 1) := by decide +kernel
theorem dX7_canExercise_36 : decode cX7_canExercise 36 = .ok (.iconst 2, 1) := by decide +kernel
theorem dX7_canExercise_37 : decode cX7_canExercise 37 = .ok (.iconst 2, 1) := by decide +kernel
theorem dX7_canExercise_38 : decode cX7_canExercise 38 = .ok (.invokevirtual 56, 3) := by decide +kernel
theorem dX7_canExercise_41 : decode cX7_canExercise 41 = .ok (.aload_n 0, 1) := by decide +kernel
theorem dX7_canExercise_42 : decode cX7_canExercise 42 = .ok (.iload_n 2, 1) := by decide +kernel
theorem dX7_canExercise_43 : decode cX7_canExercise 43 = .ok (.iconst 1, 1) := by decide +kernel
theorem dX7_canExercise_44 : decode cX7_canExercise 44 = .ok (.invokevirtual 46, 3) := by decide +kernel
theorem dX7_canExercise_47 : decode cX7_canExercise 47 = .ok (.if_icmp .ge 7, 3) := by decide +kernel
theorem dX7_canExercise_50 : decode cX7_canExercise 50 = .ok (.iconst 1, 1) := by decide +kernel
theorem dX7_canExercise_51 : decode cX7_canExercise 51 = .ok (.goto 4, 3) := by decide +kernel
theorem dX7_canExercise_54 : decode cX7_canExercise 54 = .ok (.iconst 0, 1) := by decide +kernel
theorem dX7_canExercise_55 : decode cX7_canExercise 55 = .ok (.ireturn, 1) := by decide +kernel
theorem dX7_isFree_0 : decode cX7_isFree 0 = .ok (.aload_n 0, 1) := by decide +kernel
theorem dX7_isFree_1 : decode cX7_isFree 1 = .ok (.iload_n 1, 1) := by decide +kernel
theorem dX7_isFree_2 : decode cX7_isFree 2 = .ok (.iconst 3, 1) := by decide +kernel
theorem dX7_isFree_3 : decode cX7_isFree 3 = .ok (.invokevirtual 53, 3) := by decide +kernel
theorem dX7_isFree_6 : decode cX7_isFree 6 = .ok (.iconst 2, 1) := by decide +kernel
theorem dX7_isFree_7 : decode cX7_isFree 7 = .ok (.if_icmp .ge 7, 3) := by decide +kernel
theorem dX7_isFree_10 : decode cX7_isFree 10 = .ok (.iconst 1, 1) := by decide +kernel
theorem dX7_isFree_11 : decode cX7_isFree 11 = .ok (.goto 4, 3) := by decide +kernel
theorem dX7_isFree_14 : decode cX7_isFree 14 = .ok (.iconst 0, 1) := by decide +kernel
theorem dX7_isFree_15 : decode cX7_isFree 15 = .ok (.ireturn, 1) := by decide +kernel
theorem dX7_becomes_0 : decode cX7_becomes 0 = .ok (.aload_n 0, 1) := by decide +kernel
theorem dX7_becomes_1 : decode cX7_becomes 1 = .ok (.getfield 7, 3) := by decide +kernel
theorem dX7_becomes_4 : decode cX7_becomes 4 = .ok (.iload_n 1, 1) := by decide +kernel
theorem dX7_becomes_5 : decode cX7_becomes 5 = .ok (.iconst 3, 1) := by decide +kernel
theorem dX7_becomes_6 : decode cX7_becomes 6 = .ok (.invokestatic 43, 3) := by decide +kernel
theorem dX7_becomes_9 : decode cX7_becomes 9 = .ok (.iload_n 2, 1) := by decide +kernel
theorem dX7_becomes_10 : decode cX7_becomes 10 = .ok (.iastore, 1) := by decide +kernel
theorem dX7_becomes_11 : decode cX7_becomes 11 = .ok (.aload_n 0, 1) := by decide +kernel
theorem dX7_becomes_12 : decode cX7_becomes 12 = .ok (.getfield 7, 3) := by decide +kernel
theorem dX7_becomes_15 : decode cX7_becomes 15 = .ok (.iload_n 1, 1) := by decide +kernel
theorem dX7_becomes_16 : decode cX7_becomes 16 = .ok (.iconst 4, 1) := by decide +kernel
theorem dX7_becomes_17 : decode cX7_becomes 17 = .ok (.invokestatic 43, 3) := by decide +kernel
theorem dX7_becomes_20 : decode cX7_becomes 20 = .ok (.bipush (-5), 2) := by decide +kernel
theorem dX7_becomes_22 : decode cX7_becomes 22 = .ok (.iastore, 1) := by decide +kernel
theorem dX7_becomes_23 : decode cX7_becomes 23 = .ok (.return_, 1) := by decide +kernel
theorem dX7_doBuy_0 : decode cX7_doBuy 0 = .ok (.iload_n 1, 1) := by decide +kernel
theorem dX7_doBuy_1 : decode cX7_doBuy 1 = .ok (.invokestatic 90, 3) := by decide +kernel
theorem dX7_doBuy_4 : decode cX7_doBuy 4 = .ok (.ifCond .eq 11, 3) := by decide +kernel
theorem dX7_doBuy_7 : decode cX7_doBuy 7 = .ok (.aload_n 0, 1) := by decide +kernel
theorem dX7_doBuy_8 : decode cX7_doBuy 8 = .ok (.iload_n 2, 1) := by decide +kernel
theorem dX7_doBuy_9 : decode cX7_doBuy 9 = .ok (.invokevirtual 93, 3) := by decide +kernel
theorem dX7_doBuy_12 : decode cX7_doBuy 12 = .ok (.ifCond .ne 5, 3) := by decide +kernel
theorem dX7_doBuy_15 : decode cX7_doBuy 15 = .ok (.iconst (-1), 1) := by decide +kernel
theorem dX7_doBuy_16 : decode cX7_doBuy 16 = .ok (.ireturn, 1) := by decide +kernel
theorem dX7_doBuy_17 : decode cX7_doBuy 17 = .ok (.aload_n 0, 1) := by decide +kernel
theorem dX7_doBuy_18 : decode cX7_doBuy 18 = .ok (.iload_n 2, 1) := by decide +kernel
theorem dX7_doBuy_19 : decode cX7_doBuy 19 = .ok (.invokevirtual 63, 3) := by decide +kernel
theorem dX7_doBuy_22 : decode cX7_doBuy 22 = .ok (.ifCond .ne 6, 3) := by decide +kernel
theorem dX7_doBuy_25 : decode cX7_doBuy 25 = .ok (.bipush (-4), 2) := by decide +kernel
theorem dX7_doBuy_27 : decode cX7_doBuy 27 = .ok (.ireturn, 1) := by decide +kernel
theorem dX7_doBuy_28 : decode cX7_doBuy 28 = .ok (.aload_n 0, 1) := by decide +kernel
theorem dX7_doBuy_29 : decode cX7_doBuy 29 = .ok (.iload_n 2, 1) := by decide +kernel
theorem dX7_doBuy_30 : decode cX7_doBuy 30 = .ok (.invokevirtual 78, 3) := by decide +kernel
theorem dX7_doBuy_33 : decode cX7_doBuy 33 = .ok (.ifCond .ne 8, 3) := by decide +kernel
theorem dX7_doBuy_36 : decode cX7_doBuy 36 = .ok (.bipush (-3), 2) := by decide +kernel
theorem dX7_doBuy_38 : decode cX7_doBuy 38 = .ok (.goto 9, 3) := by decide +kernel
theorem dX7_doBuy_41 : decode cX7_doBuy 41 = .ok (.aload_n 0, 1) := by decide +kernel
theorem dX7_doBuy_42 : decode cX7_doBuy 42 = .ok (.iload_n 1, 1) := by decide +kernel
theorem dX7_doBuy_43 : decode cX7_doBuy 43 = .ok (.iload_n 2, 1) := by decide +kernel
theorem dX7_doBuy_44 : decode cX7_doBuy 44 = .ok (.invokevirtual 84, 3) := by decide +kernel
theorem dX7_doBuy_47 : decode cX7_doBuy 47 = .ok (.ireturn, 1) := by decide +kernel
theorem dX7_doBuyOffered_0 : decode cX7_doBuyOffered 0 = .ok (.iload_n 1, 1) := by decide +kernel
theorem dX7_doBuyOffered_1 : decode cX7_doBuyOffered 1 = .ok (.invokestatic 90, 3) := by decide +kernel
theorem dX7_doBuyOffered_4 : decode cX7_doBuyOffered 4 = .ok (.ifCond .eq 11, 3) := by decide +kernel
theorem dX7_doBuyOffered_7 : decode cX7_doBuyOffered 7 = .ok (.aload_n 0, 1) := by decide +kernel
theorem dX7_doBuyOffered_8 : decode cX7_doBuyOffered 8 = .ok (.iload_n 2, 1) := by decide +kernel
theorem dX7_doBuyOffered_9 : decode cX7_doBuyOffered 9 = .ok (.invokevirtual 93, 3) := by decide +kernel
theorem dX7_doBuyOffered_12 : decode cX7_doBuyOffered 12 = .ok (.ifCond .ne 5, 3) := by decide +kernel
theorem dX7_doBuyOffered_15 : decode cX7_doBuyOffered 15 = .ok (.iconst (-1), 1) := by decide +kernel
theorem dX7_doBuyOffered_16 : decode cX7_doBuyOffered 16 = .ok (.ireturn, 1) := by decide +kernel
theorem dX7_doBuyOffered_17 : decode cX7_doBuyOffered 17 = .ok (.aload_n 0, 1) := by decide +kernel
theorem dX7_doBuyOffered_18 : decode cX7_doBuyOffered 18 = .ok (.iload_n 2, 1) := by decide +kernel
theorem dX7_doBuyOffered_19 : decode cX7_doBuyOffered 19 = .ok (.iconst 1, 1) := by decide +kernel
theorem dX7_doBuyOffered_20 : decode cX7_doBuyOffered 20 = .ok (.iconst 4, 1) := by decide +kernel
theorem dX7_doBuyOffered_21 : decode cX7_doBuyOffered 21 = .ok (.invokevirtual 96, 3) := by decide +kernel
theorem dX7_doBuyOffered_24 : decode cX7_doBuyOffered 24 = .ok (.istore_n 3, 1) := by decide +kernel
theorem dX7_doBuyOffered_25 : decode cX7_doBuyOffered 25 = .ok (.iload_n 3, 1) := by decide +kernel
theorem dX7_doBuyOffered_26 : decode cX7_doBuyOffered 26 = .ok (.ifCond .lt 13, 3) := by decide +kernel
theorem dX7_doBuyOffered_29 : decode cX7_doBuyOffered 29 = .ok (.aload_n 0, 1) := by decide +kernel
theorem dX7_doBuyOffered_30 : decode cX7_doBuyOffered 30 = .ok (.iload_n 3, 1) := by decide +kernel
theorem dX7_doBuyOffered_31 : decode cX7_doBuyOffered 31 = .ok (.iconst 1, 1) := by decide +kernel
theorem dX7_doBuyOffered_32 : decode cX7_doBuyOffered 32 = .ok (.invokevirtual 53, 3) := by decide +kernel
theorem dX7_doBuyOffered_35 : decode cX7_doBuyOffered 35 = .ok (.iload_n 1, 1) := by decide +kernel
theorem dX7_doBuyOffered_36 : decode cX7_doBuyOffered 36 = .ok (.if_icmp .ne 6, 3) := by decide +kernel
theorem dX7_doBuyOffered_39 : decode cX7_doBuyOffered 39 = .ok (.bipush (-4), 2) := by decide +kernel
theorem dX7_doBuyOffered_41 : decode cX7_doBuyOffered 41 = .ok (.ireturn, 1) := by decide +kernel
theorem dX7_doBuyOffered_42 : decode cX7_doBuyOffered 42 = .ok (.aload_n 0, 1) := by decide +kernel
theorem dX7_doBuyOffered_43 : decode cX7_doBuyOffered 43 = .ok (.iload_n 3, 1) := by decide +kernel
theorem dX7_doBuyOffered_44 : decode cX7_doBuyOffered 44 = .ok (.iconst 4, 1) := by decide +kernel
theorem dX7_doBuyOffered_45 : decode cX7_doBuyOffered 45 = .ok (.invokevirtual 53, 3) := by decide +kernel
theorem dX7_doBuyOffered_48 : decode cX7_doBuyOffered 48 = .ok (.istore 4, 2) := by decide +kernel
theorem dX7_doBuyOffered_50 : decode cX7_doBuyOffered 50 = .ok (.iload 4, 2) := by decide +kernel
theorem dX7_doBuyOffered_52 : decode cX7_doBuyOffered 52 = .ok (.aload_n 0, 1) := by decide +kernel
theorem dX7_doBuyOffered_53 : decode cX7_doBuyOffered 53 = .ok (.getfield 7, 3) := by decide +kernel
theorem dX7_doBuyOffered_56 : decode cX7_doBuyOffered 56 = .ok (.iconst 4, 1) := by decide +kernel
theorem dX7_doBuyOffered_57 : decode cX7_doBuyOffered 57 = .ok (.iaload, 1) := by decide +kernel
theorem dX7_doBuyOffered_58 : decode cX7_doBuyOffered 58 = .ok (.imul, 1) := by decide +kernel
theorem dX7_doBuyOffered_59 : decode cX7_doBuyOffered 59 = .ok (.bipush 100, 2) := by decide +kernel
theorem dX7_doBuyOffered_61 : decode cX7_doBuyOffered 61 = .ok (.idiv, 1) := by decide +kernel
theorem dX7_doBuyOffered_62 : decode cX7_doBuyOffered 62 = .ok (.istore 5, 2) := by decide +kernel
theorem dX7_doBuyOffered_64 : decode cX7_doBuyOffered 64 = .ok (.aload_n 0, 1) := by decide +kernel
theorem dX7_doBuyOffered_65 : decode cX7_doBuyOffered 65 = .ok (.iload_n 1, 1) := by decide +kernel
theorem dX7_doBuyOffered_66 : decode cX7_doBuyOffered 66 = .ok (.iload 4, 2) := by decide +kernel
theorem dX7_doBuyOffered_68 : decode cX7_doBuyOffered 68 = .ok (.invokevirtual 70, 3) := by decide +kernel
theorem dX7_doBuyOffered_71 : decode cX7_doBuyOffered 71 = .ok (.aload_n 0, 1) := by decide +kernel
theorem dX7_doBuyOffered_72 : decode cX7_doBuyOffered 72 = .ok (.aload_n 0, 1) := by decide +kernel
theorem dX7_doBuyOffered_73 : decode cX7_doBuyOffered 73 = .ok (.iload_n 3, 1) := by decide +kernel
theorem dX7_doBuyOffered_74 : decode cX7_doBuyOffered 74 = .ok (.iconst 1, 1) := by decide +kernel
theorem dX7_doBuyOffered_75 : decode cX7_doBuyOffered 75 = .ok (.invokevirtual 53, 3) := by decide +kernel
theorem dX7_doBuyOffered_78 : decode cX7_doBuyOffered 78 = .ok (.iload 5, 2) := by decide +kernel
theorem dX7_doBuyOffered_80 : decode cX7_doBuyOffered 80 = .ok (.iload 4, 2) := by decide +kernel
theorem dX7_doBuyOffered_82 : decode cX7_doBuyOffered 82 = .ok (.isub, 1) := by decide +kernel
theorem dX7_doBuyOffered_83 : decode cX7_doBuyOffered 83 = .ok (.invokevirtual 70, 3) := by decide +kernel
theorem dX7_doBuyOffered_86 : decode cX7_doBuyOffered 86 = .ok (.aload_n 0, 1) := by decide +kernel
theorem dX7_doBuyOffered_87 : decode cX7_doBuyOffered 87 = .ok (.getfield 7, 3) := by decide +kernel
theorem dX7_doBuyOffered_90 : decode cX7_doBuyOffered 90 = .ok (.iload_n 3, 1) := by decide +kernel
theorem dX7_doBuyOffered_91 : decode cX7_doBuyOffered 91 = .ok (.iconst 1, 1) := by decide +kernel
theorem dX7_doBuyOffered_92 : decode cX7_doBuyOffered 92 = .ok (.invokestatic 43, 3) := by decide +kernel
theorem dX7_doBuyOffered_95 : decode cX7_doBuyOffered 95 = .ok (.iload_n 1, 1) := by decide +kernel
theorem dX7_doBuyOffered_96 : decode cX7_doBuyOffered 96 = .ok (.iastore, 1) := by decide +kernel
theorem dX7_doBuyOffered_97 : decode cX7_doBuyOffered 97 = .ok (.aload_n 0, 1) := by decide +kernel
theorem dX7_doBuyOffered_98 : decode cX7_doBuyOffered 98 = .ok (.getfield 7, 3) := by decide +kernel
theorem dX7_doBuyOffered_101 : decode cX7_doBuyOffered 101 = .ok (.iload_n 3, 1) := by decide +kernel
theorem dX7_doBuyOffered_102 : decode cX7_doBuyOffered 102 = .ok (.bipush 6, 2) := by decide +kernel
theorem dX7_doBuyOffered_104 : decode cX7_doBuyOffered 104 = .ok (.invokestatic 43, 3) := by decide +kernel
theorem dX7_doBuyOffered_107 : decode cX7_doBuyOffered 107 = .ok (.dup2, 1) := by decide +kernel
theorem dX7_doBuyOffered_108 : decode cX7_doBuyOffered 108 = .ok (.iaload, 1) := by decide +kernel
theorem dX7_doBuyOffered_109 : decode cX7_doBuyOffered 109 = .ok (.iconst 1, 1) := by decide +kernel
theorem dX7_doBuyOffered_110 : decode cX7_doBuyOffered 110 = .ok (.iadd, 1) := by decide +kernel
theorem dX7_doBuyOffered_111 : decode cX7_doBuyOffered 111 = .ok (.iastore, 1) := by decide +kernel
theorem dX7_doBuyOffered_112 : decode cX7_doBuyOffered 112 = .ok (.aload_n 0, 1) := by decide +kernel
theorem dX7_doBuyOffered_113 : decode cX7_doBuyOffered 113 = .ok (.iload_n 3, 1) := by decide +kernel
theorem dX7_doBuyOffered_114 : decode cX7_doBuyOffered 114 = .ok (.iconst 0, 1) := by decide +kernel
theorem dX7_doBuyOffered_115 : decode cX7_doBuyOffered 115 = .ok (.invokevirtual 99, 3) := by decide +kernel
theorem dX7_doBuyOffered_118 : decode cX7_doBuyOffered 118 = .ok (.aload_n 0, 1) := by decide +kernel
theorem dX7_doBuyOffered_119 : decode cX7_doBuyOffered 119 = .ok (.iconst 1, 1) := by decide +kernel
theorem dX7_doBuyOffered_120 : decode cX7_doBuyOffered 120 = .ok (.iload_n 3, 1) := by decide +kernel
theorem dX7_doBuyOffered_121 : decode cX7_doBuyOffered 121 = .ok (.iload 4, 2) := by decide +kernel
theorem dX7_doBuyOffered_123 : decode cX7_doBuyOffered 123 = .ok (.invokevirtual 74, 3) := by decide +kernel
theorem dX7_doBuyOffered_126 : decode cX7_doBuyOffered 126 = .ok (.iload_n 3, 1) := by decide +kernel
theorem dX7_doBuyOffered_127 : decode cX7_doBuyOffered 127 = .ok (.ireturn, 1) := by decide +kernel
theorem dX7_doCancel_0 : decode cX7_doCancel 0 = .ok (.aload_n 0, 1) := by decide +kernel
theorem dX7_doCancel_1 : decode cX7_doCancel 1 = .ok (.iload_n 1, 1) := by decide +kernel
theorem dX7_doCancel_2 : decode cX7_doCancel 2 = .ok (.invokevirtual 102, 3) := by decide +kernel
theorem dX7_doCancel_5 : decode cX7_doCancel 5 = .ok (.ifCond .ne 5, 3) := by decide +kernel
theorem dX7_doCancel_8 : decode cX7_doCancel 8 = .ok (.iconst (-1), 1) := by decide +kernel
theorem dX7_doCancel_9 : decode cX7_doCancel 9 = .ok (.ireturn, 1) := by decide +kernel
theorem dX7_doCancel_10 : decode cX7_doCancel 10 = .ok (.aload_n 0, 1) := by decide +kernel
theorem dX7_doCancel_11 : decode cX7_doCancel 11 = .ok (.iload_n 1, 1) := by decide +kernel
theorem dX7_doCancel_12 : decode cX7_doCancel 12 = .ok (.invokevirtual 105, 3) := by decide +kernel
theorem dX7_doCancel_15 : decode cX7_doCancel 15 = .ok (.ifCond .ne 6, 3) := by decide +kernel
theorem dX7_doCancel_18 : decode cX7_doCancel 18 = .ok (.bipush (-4), 2) := by decide +kernel
theorem dX7_doCancel_20 : decode cX7_doCancel 20 = .ok (.ireturn, 1) := by decide +kernel
theorem dX7_doCancel_21 : decode cX7_doCancel 21 = .ok (.aload_n 0, 1) := by decide +kernel
theorem dX7_doCancel_22 : decode cX7_doCancel 22 = .ok (.iload_n 1, 1) := by decide +kernel
theorem dX7_doCancel_23 : decode cX7_doCancel 23 = .ok (.invokevirtual 108, 3) := by decide +kernel
theorem dX7_doCancel_26 : decode cX7_doCancel 26 = .ok (.istore_n 2, 1) := by decide +kernel
theorem dX7_doCancel_27 : decode cX7_doCancel 27 = .ok (.aload_n 0, 1) := by decide +kernel
theorem dX7_doCancel_28 : decode cX7_doCancel 28 = .ok (.aload_n 0, 1) := by decide +kernel
theorem dX7_doCancel_29 : decode cX7_doCancel 29 = .ok (.iload_n 1, 1) := by decide +kernel
theorem dX7_doCancel_30 : decode cX7_doCancel 30 = .ok (.iconst 1, 1) := by decide +kernel
theorem dX7_doCancel_31 : decode cX7_doCancel 31 = .ok (.invokevirtual 53, 3) := by decide +kernel
theorem dX7_doCancel_34 : decode cX7_doCancel 34 = .ok (.iload_n 2, 1) := by decide +kernel
theorem dX7_doCancel_35 : decode cX7_doCancel 35 = .ok (.ineg, 1) := by decide +kernel
theorem dX7_doCancel_36 : decode cX7_doCancel 36 = .ok (.invokevirtual 70, 3) := by decide +kernel
theorem dX7_doCancel_39 : decode cX7_doCancel 39 = .ok (.aload_n 0, 1) := by decide +kernel
theorem dX7_doCancel_40 : decode cX7_doCancel 40 = .ok (.iload_n 1, 1) := by decide +kernel
theorem dX7_doCancel_41 : decode cX7_doCancel 41 = .ok (.iconst 3, 1) := by decide +kernel
theorem dX7_doCancel_42 : decode cX7_doCancel 42 = .ok (.invokevirtual 99, 3) := by decide +kernel
theorem dX7_doCancel_45 : decode cX7_doCancel 45 = .ok (.aload_n 0, 1) := by decide +kernel
theorem dX7_doCancel_46 : decode cX7_doCancel 46 = .ok (.iconst 4, 1) := by decide +kernel
theorem dX7_doCancel_47 : decode cX7_doCancel 47 = .ok (.iload_n 1, 1) := by decide +kernel
theorem dX7_doCancel_48 : decode cX7_doCancel 48 = .ok (.iload_n 2, 1) := by decide +kernel
theorem dX7_doCancel_49 : decode cX7_doCancel 49 = .ok (.invokevirtual 74, 3) := by decide +kernel
theorem dX7_doCancel_52 : decode cX7_doCancel 52 = .ok (.aload_n 0, 1) := by decide +kernel
theorem dX7_doCancel_53 : decode cX7_doCancel 53 = .ok (.aload_n 0, 1) := by decide +kernel
theorem dX7_doCancel_54 : decode cX7_doCancel 54 = .ok (.iload_n 1, 1) := by decide +kernel
theorem dX7_doCancel_55 : decode cX7_doCancel 55 = .ok (.iconst 0, 1) := by decide +kernel
theorem dX7_doCancel_56 : decode cX7_doCancel 56 = .ok (.invokevirtual 53, 3) := by decide +kernel
theorem dX7_doCancel_59 : decode cX7_doCancel 59 = .ok (.invokevirtual 111, 3) := by decide +kernel
theorem dX7_doCancel_62 : decode cX7_doCancel 62 = .ok (.iload_n 2, 1) := by decide +kernel
theorem dX7_doCancel_63 : decode cX7_doCancel 63 = .ok (.ireturn, 1) := by decide +kernel
theorem dX7_doOffer_0 : decode cX7_doOffer 0 = .ok (.aload_n 0, 1) := by decide +kernel
theorem dX7_doOffer_1 : decode cX7_doOffer 1 = .ok (.iload_n 1, 1) := by decide +kernel
theorem dX7_doOffer_2 : decode cX7_doOffer 2 = .ok (.invokevirtual 102, 3) := by decide +kernel
theorem dX7_doOffer_5 : decode cX7_doOffer 5 = .ok (.ifCond .ne 5, 3) := by decide +kernel
theorem dX7_doOffer_8 : decode cX7_doOffer 8 = .ok (.iconst (-1), 1) := by decide +kernel
theorem dX7_doOffer_9 : decode cX7_doOffer 9 = .ok (.ireturn, 1) := by decide +kernel
theorem dX7_doOffer_10 : decode cX7_doOffer 10 = .ok (.aload_n 0, 1) := by decide +kernel
theorem dX7_doOffer_11 : decode cX7_doOffer 11 = .ok (.iload_n 1, 1) := by decide +kernel
theorem dX7_doOffer_12 : decode cX7_doOffer 12 = .ok (.invokevirtual 105, 3) := by decide +kernel
theorem dX7_doOffer_15 : decode cX7_doOffer 15 = .ok (.ifCond .ne 6, 3) := by decide +kernel
theorem dX7_doOffer_18 : decode cX7_doOffer 18 = .ok (.bipush (-4), 2) := by decide +kernel
theorem dX7_doOffer_20 : decode cX7_doOffer 20 = .ok (.ireturn, 1) := by decide +kernel
theorem dX7_doOffer_21 : decode cX7_doOffer 21 = .ok (.iload_n 2, 1) := by decide +kernel
theorem dX7_doOffer_22 : decode cX7_doOffer 22 = .ok (.iconst 1, 1) := by decide +kernel
theorem dX7_doOffer_23 : decode cX7_doOffer 23 = .ok (.iconst 2, 1) := by decide +kernel
theorem dX7_doOffer_24 : decode cX7_doOffer 24 = .ok (.aload_n 0, 1) := by decide +kernel
theorem dX7_doOffer_25 : decode cX7_doOffer 25 = .ok (.aload_n 0, 1) := by decide +kernel
theorem dX7_doOffer_26 : decode cX7_doOffer 26 = .ok (.iload_n 1, 1) := by decide +kernel
theorem dX7_doOffer_27 : decode cX7_doOffer 27 = .ok (.iconst 0, 1) := by decide +kernel
theorem dX7_doOffer_28 : decode cX7_doOffer 28 = .ok (.invokevirtual 53, 3) := by decide +kernel
theorem dX7_doOffer_31 : decode cX7_doOffer 31 = .ok (.iconst 3, 1) := by decide +kernel
theorem dX7_doOffer_32 : decode cX7_doOffer 32 = .ok (.invokevirtual 46, 3) := by decide +kernel
theorem dX7_doOffer_35 : decode cX7_doOffer 35 = .ok (.imul, 1) := by decide +kernel
theorem dX7_doOffer_36 : decode cX7_doOffer 36 = .ok (.invokestatic 35, 3) := by decide +kernel
theorem dX7_doOffer_39 : decode cX7_doOffer 39 = .ok (.ifCond .ne 6, 3) := by decide +kernel
theorem dX7_doOffer_42 : decode cX7_doOffer 42 = .ok (.bipush (-2), 2) := by decide +kernel
theorem dX7_doOffer_44 : decode cX7_doOffer 44 = .ok (.ireturn, 1) := by decide +kernel
theorem dX7_doOffer_45 : decode cX7_doOffer 45 = .ok (.aload_n 0, 1) := by decide +kernel
theorem dX7_doOffer_46 : decode cX7_doOffer 46 = .ok (.iload_n 1, 1) := by decide +kernel
theorem dX7_doOffer_47 : decode cX7_doOffer 47 = .ok (.iconst 4, 1) := by decide +kernel
theorem dX7_doOffer_48 : decode cX7_doOffer 48 = .ok (.invokevirtual 53, 3) := by decide +kernel
theorem dX7_doOffer_51 : decode cX7_doOffer 51 = .ok (.istore_n 3, 1) := by decide +kernel
theorem dX7_doOffer_52 : decode cX7_doOffer 52 = .ok (.iload_n 3, 1) := by decide +kernel
theorem dX7_doOffer_53 : decode cX7_doOffer 53 = .ok (.iload_n 2, 1) := by decide +kernel
theorem dX7_doOffer_54 : decode cX7_doOffer 54 = .ok (.if_icmp .ne 6, 3) := by decide +kernel
theorem dX7_doOffer_57 : decode cX7_doOffer 57 = .ok (.bipush (-5), 2) := by decide +kernel
theorem dX7_doOffer_59 : decode cX7_doOffer 59 = .ok (.ireturn, 1) := by decide +kernel
theorem dX7_doOffer_60 : decode cX7_doOffer 60 = .ok (.aload_n 0, 1) := by decide +kernel
theorem dX7_doOffer_61 : decode cX7_doOffer 61 = .ok (.getfield 7, 3) := by decide +kernel
theorem dX7_doOffer_64 : decode cX7_doOffer 64 = .ok (.iload_n 1, 1) := by decide +kernel
theorem dX7_doOffer_65 : decode cX7_doOffer 65 = .ok (.iconst 3, 1) := by decide +kernel
theorem dX7_doOffer_66 : decode cX7_doOffer 66 = .ok (.invokestatic 43, 3) := by decide +kernel
theorem dX7_doOffer_69 : decode cX7_doOffer 69 = .ok (.iconst 1, 1) := by decide +kernel
theorem dX7_doOffer_70 : decode cX7_doOffer 70 = .ok (.iastore, 1) := by decide +kernel
theorem dX7_doOffer_71 : decode cX7_doOffer 71 = .ok (.aload_n 0, 1) := by decide +kernel
theorem dX7_doOffer_72 : decode cX7_doOffer 72 = .ok (.getfield 7, 3) := by decide +kernel
theorem dX7_doOffer_75 : decode cX7_doOffer 75 = .ok (.iload_n 1, 1) := by decide +kernel
theorem dX7_doOffer_76 : decode cX7_doOffer 76 = .ok (.iconst 4, 1) := by decide +kernel
theorem dX7_doOffer_77 : decode cX7_doOffer 77 = .ok (.invokestatic 43, 3) := by decide +kernel
theorem dX7_doOffer_80 : decode cX7_doOffer 80 = .ok (.iload_n 2, 1) := by decide +kernel
theorem dX7_doOffer_81 : decode cX7_doOffer 81 = .ok (.iastore, 1) := by decide +kernel
theorem dX7_doOffer_82 : decode cX7_doOffer 82 = .ok (.aload_n 0, 1) := by decide +kernel
theorem dX7_doOffer_83 : decode cX7_doOffer 83 = .ok (.iconst 2, 1) := by decide +kernel
theorem dX7_doOffer_84 : decode cX7_doOffer 84 = .ok (.iload_n 1, 1) := by decide +kernel
theorem dX7_doOffer_85 : decode cX7_doOffer 85 = .ok (.iload_n 2, 1) := by decide +kernel
theorem dX7_doOffer_86 : decode cX7_doOffer 86 = .ok (.invokevirtual 74, 3) := by decide +kernel
theorem dX7_doOffer_89 : decode cX7_doOffer 89 = .ok (.iload_n 3, 1) := by decide +kernel
theorem dX7_doOffer_90 : decode cX7_doOffer 90 = .ok (.ifCond .ge 7, 3) := by decide +kernel
theorem dX7_doOffer_93 : decode cX7_doOffer 93 = .ok (.iconst 0, 1) := by decide +kernel
theorem dX7_doOffer_94 : decode cX7_doOffer 94 = .ok (.goto 4, 3) := by decide +kernel
theorem dX7_doOffer_97 : decode cX7_doOffer 97 = .ok (.iload_n 3, 1) := by decide +kernel
theorem dX7_doOffer_98 : decode cX7_doOffer 98 = .ok (.ireturn, 1) := by decide +kernel
theorem dX7_doExercise_0 : decode cX7_doExercise 0 = .ok (.aload_n 0, 1) := by decide +kernel
theorem dX7_doExercise_1 : decode cX7_doExercise 1 = .ok (.iload_n 1, 1) := by decide +kernel
theorem dX7_doExercise_2 : decode cX7_doExercise 2 = .ok (.invokevirtual 102, 3) := by decide +kernel
theorem dX7_doExercise_5 : decode cX7_doExercise 5 = .ok (.ifCond .ne 5, 3) := by decide +kernel
theorem dX7_doExercise_8 : decode cX7_doExercise 8 = .ok (.iconst (-1), 1) := by decide +kernel
theorem dX7_doExercise_9 : decode cX7_doExercise 9 = .ok (.ireturn, 1) := by decide +kernel
theorem dX7_doExercise_10 : decode cX7_doExercise 10 = .ok (.aload_n 0, 1) := by decide +kernel
theorem dX7_doExercise_11 : decode cX7_doExercise 11 = .ok (.iload_n 1, 1) := by decide +kernel
theorem dX7_doExercise_12 : decode cX7_doExercise 12 = .ok (.invokevirtual 115, 3) := by decide +kernel
theorem dX7_doExercise_15 : decode cX7_doExercise 15 = .ok (.ifCond .ne 6, 3) := by decide +kernel
theorem dX7_doExercise_18 : decode cX7_doExercise 18 = .ok (.bipush (-4), 2) := by decide +kernel
theorem dX7_doExercise_20 : decode cX7_doExercise 20 = .ok (.ireturn, 1) := by decide +kernel
theorem dX7_doExercise_21 : decode cX7_doExercise 21 = .ok (.aload_n 0, 1) := by decide +kernel
theorem dX7_doExercise_22 : decode cX7_doExercise 22 = .ok (.aload_n 0, 1) := by decide +kernel
theorem dX7_doExercise_23 : decode cX7_doExercise 23 = .ok (.iload_n 1, 1) := by decide +kernel
theorem dX7_doExercise_24 : decode cX7_doExercise 24 = .ok (.iconst 1, 1) := by decide +kernel
theorem dX7_doExercise_25 : decode cX7_doExercise 25 = .ok (.invokevirtual 53, 3) := by decide +kernel
theorem dX7_doExercise_28 : decode cX7_doExercise 28 = .ok (.aload_n 0, 1) := by decide +kernel
theorem dX7_doExercise_29 : decode cX7_doExercise 29 = .ok (.getfield 7, 3) := by decide +kernel
theorem dX7_doExercise_32 : decode cX7_doExercise 32 = .ok (.bipush 6, 2) := by decide +kernel
theorem dX7_doExercise_34 : decode cX7_doExercise 34 = .ok (.iaload, 1) := by decide +kernel
theorem dX7_doExercise_35 : decode cX7_doExercise 35 = .ok (.invokevirtual 70, 3) := by decide +kernel
theorem dX7_doExercise_38 : decode cX7_doExercise 38 = .ok (.aload_n 0, 1) := by decide +kernel
theorem dX7_doExercise_39 : decode cX7_doExercise 39 = .ok (.iload_n 1, 1) := by decide +kernel
theorem dX7_doExercise_40 : decode cX7_doExercise 40 = .ok (.iconst 2, 1) := by decide +kernel
theorem dX7_doExercise_41 : decode cX7_doExercise 41 = .ok (.invokevirtual 99, 3) := by decide +kernel
theorem dX7_doExercise_44 : decode cX7_doExercise 44 = .ok (.aload_n 0, 1) := by decide +kernel
theorem dX7_doExercise_45 : decode cX7_doExercise 45 = .ok (.iconst 3, 1) := by decide +kernel
theorem dX7_doExercise_46 : decode cX7_doExercise 46 = .ok (.iload_n 1, 1) := by decide +kernel
theorem dX7_doExercise_47 : decode cX7_doExercise 47 = .ok (.aload_n 0, 1) := by decide +kernel
theorem dX7_doExercise_48 : decode cX7_doExercise 48 = .ok (.getfield 7, 3) := by decide +kernel
theorem dX7_doExercise_51 : decode cX7_doExercise 51 = .ok (.bipush 6, 2) := by decide +kernel
theorem dX7_doExercise_53 : decode cX7_doExercise 53 = .ok (.iaload, 1) := by decide +kernel
theorem dX7_doExercise_54 : decode cX7_doExercise 54 = .ok (.invokevirtual 74, 3) := by decide +kernel
theorem dX7_doExercise_57 : decode cX7_doExercise 57 = .ok (.aload_n 0, 1) := by decide +kernel
theorem dX7_doExercise_58 : decode cX7_doExercise 58 = .ok (.aload_n 0, 1) := by decide +kernel
theorem dX7_doExercise_59 : decode cX7_doExercise 59 = .ok (.iload_n 1, 1) := by decide +kernel
theorem dX7_doExercise_60 : decode cX7_doExercise 60 = .ok (.iconst 0, 1) := by decide +kernel
theorem dX7_doExercise_61 : decode cX7_doExercise 61 = .ok (.invokevirtual 53, 3) := by decide +kernel
theorem dX7_doExercise_64 : decode cX7_doExercise 64 = .ok (.iconst 2, 1) := by decide +kernel
theorem dX7_doExercise_65 : decode cX7_doExercise 65 = .ok (.iconst 2, 1) := by decide +kernel
theorem dX7_doExercise_66 : decode cX7_doExercise 66 = .ok (.invokevirtual 56, 3) := by decide +kernel
theorem dX7_doExercise_69 : decode cX7_doExercise 69 = .ok (.ireturn, 1) := by decide +kernel
theorem dX7_lapses_0 : decode cX7_lapses 0 = .ok (.iconst 0, 1) := by decide +kernel
theorem dX7_lapses_1 : decode cX7_lapses 1 = .ok (.istore_n 2, 1) := by decide +kernel
theorem dX7_lapses_2 : decode cX7_lapses 2 = .ok (.iconst 0, 1) := by decide +kernel
theorem dX7_lapses_3 : decode cX7_lapses 3 = .ok (.istore_n 3, 1) := by decide +kernel
theorem dX7_lapses_4 : decode cX7_lapses 4 = .ok (.iload_n 3, 1) := by decide +kernel
theorem dX7_lapses_5 : decode cX7_lapses 5 = .ok (.aload_n 0, 1) := by decide +kernel
theorem dX7_lapses_6 : decode cX7_lapses 6 = .ok (.getfield 7, 3) := by decide +kernel
theorem dX7_lapses_9 : decode cX7_lapses 9 = .ok (.iconst 2, 1) := by decide +kernel
theorem dX7_lapses_10 : decode cX7_lapses 10 = .ok (.iaload, 1) := by decide +kernel
theorem dX7_lapses_11 : decode cX7_lapses 11 = .ok (.if_icmp .ge 49, 3) := by decide +kernel
theorem dX7_lapses_14 : decode cX7_lapses 14 = .ok (.aload_n 0, 1) := by decide +kernel
theorem dX7_lapses_15 : decode cX7_lapses 15 = .ok (.iload_n 3, 1) := by decide +kernel
theorem dX7_lapses_16 : decode cX7_lapses 16 = .ok (.iconst 0, 1) := by decide +kernel
theorem dX7_lapses_17 : decode cX7_lapses 17 = .ok (.invokevirtual 53, 3) := by decide +kernel
theorem dX7_lapses_20 : decode cX7_lapses 20 = .ok (.iload_n 1, 1) := by decide +kernel
theorem dX7_lapses_21 : decode cX7_lapses 21 = .ok (.if_icmp .ne 33, 3) := by decide +kernel
theorem dX7_lapses_24 : decode cX7_lapses 24 = .ok (.aload_n 0, 1) := by decide +kernel
theorem dX7_lapses_25 : decode cX7_lapses 25 = .ok (.iload_n 3, 1) := by decide +kernel
theorem dX7_lapses_26 : decode cX7_lapses 26 = .ok (.invokevirtual 105, 3) := by decide +kernel
theorem dX7_lapses_29 : decode cX7_lapses 29 = .ok (.ifCond .eq 25, 3) := by decide +kernel
theorem dX7_lapses_32 : decode cX7_lapses 32 = .ok (.aload_n 0, 1) := by decide +kernel
theorem dX7_lapses_33 : decode cX7_lapses 33 = .ok (.iload_n 3, 1) := by decide +kernel
theorem dX7_lapses_34 : decode cX7_lapses 34 = .ok (.iconst 5, 1) := by decide +kernel
theorem dX7_lapses_35 : decode cX7_lapses 35 = .ok (.invokevirtual 99, 3) := by decide +kernel
theorem dX7_lapses_38 : decode cX7_lapses 38 = .ok (.aload_n 0, 1) := by decide +kernel
theorem dX7_lapses_39 : decode cX7_lapses 39 = .ok (.bipush 6, 2) := by decide +kernel
theorem dX7_lapses_41 : decode cX7_lapses 41 = .ok (.iload_n 3, 1) := by decide +kernel
theorem dX7_lapses_42 : decode cX7_lapses 42 = .ok (.aload_n 0, 1) := by decide +kernel
theorem dX7_lapses_43 : decode cX7_lapses 43 = .ok (.iload_n 3, 1) := by decide +kernel
theorem dX7_lapses_44 : decode cX7_lapses 44 = .ok (.iconst 2, 1) := by decide +kernel
theorem dX7_lapses_45 : decode cX7_lapses 45 = .ok (.invokevirtual 53, 3) := by decide +kernel
theorem dX7_lapses_48 : decode cX7_lapses 48 = .ok (.invokevirtual 74, 3) := by decide +kernel
theorem dX7_lapses_51 : decode cX7_lapses 51 = .ok (.iinc 2 1, 3) := by decide +kernel
theorem dX7_lapses_54 : decode cX7_lapses 54 = .ok (.iinc 3 1, 3) := by decide +kernel
theorem dX7_lapses_57 : decode cX7_lapses 57 = .ok (.goto (-53), 3) := by decide +kernel
theorem dX7_lapses_60 : decode cX7_lapses 60 = .ok (.aload_n 0, 1) := by decide +kernel
theorem dX7_lapses_61 : decode cX7_lapses 61 = .ok (.getfield 7, 3) := by decide +kernel
theorem dX7_lapses_64 : decode cX7_lapses 64 = .ok (.iload_n 1, 1) := by decide +kernel
theorem dX7_lapses_65 : decode cX7_lapses 65 = .ok (.iconst 5, 1) := by decide +kernel
theorem dX7_lapses_66 : decode cX7_lapses 66 = .ok (.invokestatic 39, 3) := by decide +kernel
theorem dX7_lapses_69 : decode cX7_lapses 69 = .ok (.iconst 0, 1) := by decide +kernel
theorem dX7_lapses_70 : decode cX7_lapses 70 = .ok (.iastore, 1) := by decide +kernel
theorem dX7_lapses_71 : decode cX7_lapses 71 = .ok (.iload_n 2, 1) := by decide +kernel
theorem dX7_lapses_72 : decode cX7_lapses 72 = .ok (.ireturn, 1) := by decide +kernel
theorem dX7_covers_0 : decode cX7_covers 0 = .ok (.iconst 0, 1) := by decide +kernel
theorem dX7_covers_1 : decode cX7_covers 1 = .ok (.istore_n 2, 1) := by decide +kernel
theorem dX7_covers_2 : decode cX7_covers 2 = .ok (.aload_n 0, 1) := by decide +kernel
theorem dX7_covers_3 : decode cX7_covers 3 = .ok (.iload_n 1, 1) := by decide +kernel
theorem dX7_covers_4 : decode cX7_covers 4 = .ok (.invokevirtual 60, 3) := by decide +kernel
theorem dX7_covers_7 : decode cX7_covers 7 = .ok (.aload_n 0, 1) := by decide +kernel
theorem dX7_covers_8 : decode cX7_covers 8 = .ok (.iload_n 1, 1) := by decide +kernel
theorem dX7_covers_9 : decode cX7_covers 9 = .ok (.iconst 1, 1) := by decide +kernel
theorem dX7_covers_10 : decode cX7_covers 10 = .ok (.invokevirtual 46, 3) := by decide +kernel
theorem dX7_covers_13 : decode cX7_covers 13 = .ok (.if_icmp .le 96, 3) := by decide +kernel
theorem dX7_covers_16 : decode cX7_covers 16 = .ok (.aload_n 0, 1) := by decide +kernel
theorem dX7_covers_17 : decode cX7_covers 17 = .ok (.iload_n 1, 1) := by decide +kernel
theorem dX7_covers_18 : decode cX7_covers 18 = .ok (.iconst 0, 1) := by decide +kernel
theorem dX7_covers_19 : decode cX7_covers 19 = .ok (.iconst 1, 1) := by decide +kernel
theorem dX7_covers_20 : decode cX7_covers 20 = .ok (.invokevirtual 56, 3) := by decide +kernel
theorem dX7_covers_23 : decode cX7_covers 23 = .ok (.ifCond .le 86, 3) := by decide +kernel
theorem dX7_covers_26 : decode cX7_covers 26 = .ok (.aload_n 0, 1) := by decide +kernel
theorem dX7_covers_27 : decode cX7_covers 27 = .ok (.iload_n 1, 1) := by decide +kernel
theorem dX7_covers_28 : decode cX7_covers 28 = .ok (.iconst 1, 1) := by decide +kernel
theorem dX7_covers_29 : decode cX7_covers 29 = .ok (.iconst 4, 1) := by decide +kernel
theorem dX7_covers_30 : decode cX7_covers 30 = .ok (.invokevirtual 96, 3) := by decide +kernel
theorem dX7_covers_33 : decode cX7_covers 33 = .ok (.istore_n 3, 1) := by decide +kernel
theorem dX7_covers_34 : decode cX7_covers 34 = .ok (.iload_n 3, 1) := by decide +kernel
theorem dX7_covers_35 : decode cX7_covers 35 = .ok (.ifCond .ge 7, 3) := by decide +kernel
theorem dX7_covers_38 : decode cX7_covers 38 = .ok (.iconst 0, 1) := by decide +kernel
theorem dX7_covers_39 : decode cX7_covers 39 = .ok (.goto 9, 3) := by decide +kernel
theorem dX7_covers_42 : decode cX7_covers 42 = .ok (.aload_n 0, 1) := by decide +kernel
theorem dX7_covers_43 : decode cX7_covers 43 = .ok (.iload_n 3, 1) := by decide +kernel
theorem dX7_covers_44 : decode cX7_covers 44 = .ok (.iconst 4, 1) := by decide +kernel
theorem dX7_covers_45 : decode cX7_covers 45 = .ok (.invokevirtual 53, 3) := by decide +kernel
theorem dX7_covers_48 : decode cX7_covers 48 = .ok (.istore 4, 2) := by decide +kernel
theorem dX7_covers_50 : decode cX7_covers 50 = .ok (.iload_n 3, 1) := by decide +kernel
theorem dX7_covers_51 : decode cX7_covers 51 = .ok (.ifCond .ge 23, 3) := by decide +kernel
theorem dX7_covers_54 : decode cX7_covers 54 = .ok (.aload_n 0, 1) := by decide +kernel
theorem dX7_covers_55 : decode cX7_covers 55 = .ok (.iload_n 1, 1) := by decide +kernel
theorem dX7_covers_56 : decode cX7_covers 56 = .ok (.iconst 0, 1) := by decide +kernel
theorem dX7_covers_57 : decode cX7_covers 57 = .ok (.iconst 2, 1) := by decide +kernel
theorem dX7_covers_58 : decode cX7_covers 58 = .ok (.invokevirtual 96, 3) := by decide +kernel
theorem dX7_covers_61 : decode cX7_covers 61 = .ok (.istore_n 3, 1) := by decide +kernel
theorem dX7_covers_62 : decode cX7_covers 62 = .ok (.aload_n 0, 1) := by decide +kernel
theorem dX7_covers_63 : decode cX7_covers 63 = .ok (.iload_n 3, 1) := by decide +kernel
theorem dX7_covers_64 : decode cX7_covers 64 = .ok (.iconst 2, 1) := by decide +kernel
theorem dX7_covers_65 : decode cX7_covers 65 = .ok (.invokevirtual 53, 3) := by decide +kernel
theorem dX7_covers_68 : decode cX7_covers 68 = .ok (.iconst 3, 1) := by decide +kernel
theorem dX7_covers_69 : decode cX7_covers 69 = .ok (.imul, 1) := by decide +kernel
theorem dX7_covers_70 : decode cX7_covers 70 = .ok (.iconst 2, 1) := by decide +kernel
theorem dX7_covers_71 : decode cX7_covers 71 = .ok (.idiv, 1) := by decide +kernel
theorem dX7_covers_72 : decode cX7_covers 72 = .ok (.istore 4, 2) := by decide +kernel
theorem dX7_covers_74 : decode cX7_covers 74 = .ok (.aload_n 0, 1) := by decide +kernel
theorem dX7_covers_75 : decode cX7_covers 75 = .ok (.aload_n 0, 1) := by decide +kernel
theorem dX7_covers_76 : decode cX7_covers 76 = .ok (.iload_n 3, 1) := by decide +kernel
theorem dX7_covers_77 : decode cX7_covers 77 = .ok (.iconst 1, 1) := by decide +kernel
theorem dX7_covers_78 : decode cX7_covers 78 = .ok (.invokevirtual 53, 3) := by decide +kernel
theorem dX7_covers_81 : decode cX7_covers 81 = .ok (.iload 4, 2) := by decide +kernel
theorem dX7_covers_83 : decode cX7_covers 83 = .ok (.ineg, 1) := by decide +kernel
theorem dX7_covers_84 : decode cX7_covers 84 = .ok (.invokevirtual 70, 3) := by decide +kernel
theorem dX7_covers_87 : decode cX7_covers 87 = .ok (.aload_n 0, 1) := by decide +kernel
theorem dX7_covers_88 : decode cX7_covers 88 = .ok (.iload_n 3, 1) := by decide +kernel
theorem dX7_covers_89 : decode cX7_covers 89 = .ok (.iconst 4, 1) := by decide +kernel
theorem dX7_covers_90 : decode cX7_covers 90 = .ok (.invokevirtual 99, 3) := by decide +kernel
theorem dX7_covers_93 : decode cX7_covers 93 = .ok (.aload_n 0, 1) := by decide +kernel
theorem dX7_covers_94 : decode cX7_covers 94 = .ok (.iconst 5, 1) := by decide +kernel
theorem dX7_covers_95 : decode cX7_covers 95 = .ok (.iload_n 3, 1) := by decide +kernel
theorem dX7_covers_96 : decode cX7_covers 96 = .ok (.iload 4, 2) := by decide +kernel
theorem dX7_covers_98 : decode cX7_covers 98 = .ok (.invokevirtual 74, 3) := by decide +kernel
theorem dX7_covers_101 : decode cX7_covers 101 = .ok (.iload_n 2, 1) := by decide +kernel
theorem dX7_covers_102 : decode cX7_covers 102 = .ok (.iload 4, 2) := by decide +kernel
theorem dX7_covers_104 : decode cX7_covers 104 = .ok (.iadd, 1) := by decide +kernel
theorem dX7_covers_105 : decode cX7_covers 105 = .ok (.istore_n 2, 1) := by decide +kernel
theorem dX7_covers_106 : decode cX7_covers 106 = .ok (.goto (-104), 3) := by decide +kernel
theorem dX7_covers_109 : decode cX7_covers 109 = .ok (.iload_n 2, 1) := by decide +kernel
theorem dX7_covers_110 : decode cX7_covers 110 = .ok (.ireturn, 1) := by decide +kernel
theorem dX7_oneDay_0 : decode cX7_oneDay 0 = .ok (.aload_n 0, 1) := by decide +kernel
theorem dX7_oneDay_1 : decode cX7_oneDay 1 = .ok (.getfield 7, 3) := by decide +kernel
theorem dX7_oneDay_4 : decode cX7_oneDay 4 = .ok (.iconst 0, 1) := by decide +kernel
theorem dX7_oneDay_5 : decode cX7_oneDay 5 = .ok (.dup2, 1) := by decide +kernel
theorem dX7_oneDay_6 : decode cX7_oneDay 6 = .ok (.iaload, 1) := by decide +kernel
theorem dX7_oneDay_7 : decode cX7_oneDay 7 = .ok (.iconst 1, 1) := by decide +kernel
theorem dX7_oneDay_8 : decode cX7_oneDay 8 = .ok (.iadd, 1) := by decide +kernel
theorem dX7_oneDay_9 : decode cX7_oneDay 9 = .ok (.iastore, 1) := by decide +kernel
theorem dX7_oneDay_10 : decode cX7_oneDay 10 = .ok (.iconst 0, 1) := by decide +kernel
theorem dX7_oneDay_11 : decode cX7_oneDay 11 = .ok (.istore_n 1, 1) := by decide +kernel
theorem dX7_oneDay_12 : decode cX7_oneDay 12 = .ok (.iconst 0, 1) := by decide +kernel
theorem dX7_oneDay_13 : decode cX7_oneDay 13 = .ok (.istore_n 2, 1) := by decide +kernel
theorem dX7_oneDay_14 : decode cX7_oneDay 14 = .ok (.iload_n 2, 1) := by decide +kernel
theorem dX7_oneDay_15 : decode cX7_oneDay 15 = .ok (.aload_n 0, 1) := by decide +kernel
theorem dX7_oneDay_16 : decode cX7_oneDay 16 = .ok (.getfield 7, 3) := by decide +kernel
theorem dX7_oneDay_19 : decode cX7_oneDay 19 = .ok (.iconst 1, 1) := by decide +kernel
theorem dX7_oneDay_20 : decode cX7_oneDay 20 = .ok (.iaload, 1) := by decide +kernel
theorem dX7_oneDay_21 : decode cX7_oneDay 21 = .ok (.if_icmp .ge 29, 3) := by decide +kernel
theorem dX7_oneDay_24 : decode cX7_oneDay 24 = .ok (.iload_n 1, 1) := by decide +kernel
theorem dX7_oneDay_25 : decode cX7_oneDay 25 = .ok (.aload_n 0, 1) := by decide +kernel
theorem dX7_oneDay_26 : decode cX7_oneDay 26 = .ok (.iload_n 2, 1) := by decide +kernel
theorem dX7_oneDay_27 : decode cX7_oneDay 27 = .ok (.invokevirtual 49, 3) := by decide +kernel
theorem dX7_oneDay_30 : decode cX7_oneDay 30 = .ok (.ifCond .ne 11, 3) := by decide +kernel
theorem dX7_oneDay_33 : decode cX7_oneDay 33 = .ok (.aload_n 0, 1) := by decide +kernel
theorem dX7_oneDay_34 : decode cX7_oneDay 34 = .ok (.iload_n 2, 1) := by decide +kernel
theorem dX7_oneDay_35 : decode cX7_oneDay 35 = .ok (.invokevirtual 118, 3) := by decide +kernel
theorem dX7_oneDay_38 : decode cX7_oneDay 38 = .ok (.goto 4, 3) := by decide +kernel
theorem dX7_oneDay_41 : decode cX7_oneDay 41 = .ok (.iconst 0, 1) := by decide +kernel
theorem dX7_oneDay_42 : decode cX7_oneDay 42 = .ok (.iadd, 1) := by decide +kernel
theorem dX7_oneDay_43 : decode cX7_oneDay 43 = .ok (.istore_n 1, 1) := by decide +kernel
theorem dX7_oneDay_44 : decode cX7_oneDay 44 = .ok (.iinc 2 1, 3) := by decide +kernel
theorem dX7_oneDay_47 : decode cX7_oneDay 47 = .ok (.goto (-33), 3) := by decide +kernel
theorem dX7_oneDay_50 : decode cX7_oneDay 50 = .ok (.iconst 0, 1) := by decide +kernel
theorem dX7_oneDay_51 : decode cX7_oneDay 51 = .ok (.istore_n 2, 1) := by decide +kernel
theorem dX7_oneDay_52 : decode cX7_oneDay 52 = .ok (.iload_n 2, 1) := by decide +kernel
theorem dX7_oneDay_53 : decode cX7_oneDay 53 = .ok (.aload_n 0, 1) := by decide +kernel
theorem dX7_oneDay_54 : decode cX7_oneDay 54 = .ok (.getfield 7, 3) := by decide +kernel
theorem dX7_oneDay_57 : decode cX7_oneDay 57 = .ok (.iconst 1, 1) := by decide +kernel
theorem dX7_oneDay_58 : decode cX7_oneDay 58 = .ok (.iaload, 1) := by decide +kernel
theorem dX7_oneDay_59 : decode cX7_oneDay 59 = .ok (.if_icmp .ge 29, 3) := by decide +kernel
theorem dX7_oneDay_62 : decode cX7_oneDay 62 = .ok (.aload_n 0, 1) := by decide +kernel
theorem dX7_oneDay_63 : decode cX7_oneDay 63 = .ok (.iload_n 2, 1) := by decide +kernel
theorem dX7_oneDay_64 : decode cX7_oneDay 64 = .ok (.invokevirtual 49, 3) := by decide +kernel
theorem dX7_oneDay_67 : decode cX7_oneDay 67 = .ok (.aload_n 0, 1) := by decide +kernel
theorem dX7_oneDay_68 : decode cX7_oneDay 68 = .ok (.getfield 7, 3) := by decide +kernel
theorem dX7_oneDay_71 : decode cX7_oneDay 71 = .ok (.iconst 3, 1) := by decide +kernel
theorem dX7_oneDay_72 : decode cX7_oneDay 72 = .ok (.iaload, 1) := by decide +kernel
theorem dX7_oneDay_73 : decode cX7_oneDay 73 = .ok (.if_icmp .ne 9, 3) := by decide +kernel
theorem dX7_oneDay_76 : decode cX7_oneDay 76 = .ok (.aload_n 0, 1) := by decide +kernel
theorem dX7_oneDay_77 : decode cX7_oneDay 77 = .ok (.iload_n 2, 1) := by decide +kernel
theorem dX7_oneDay_78 : decode cX7_oneDay 78 = .ok (.invokevirtual 121, 3) := by decide +kernel
theorem dX7_oneDay_81 : decode cX7_oneDay 81 = .ok (.pop, 1) := by decide +kernel
theorem dX7_oneDay_82 : decode cX7_oneDay 82 = .ok (.iinc 2 1, 3) := by decide +kernel
theorem dX7_oneDay_85 : decode cX7_oneDay 85 = .ok (.goto (-33), 3) := by decide +kernel
theorem dX7_oneDay_88 : decode cX7_oneDay 88 = .ok (.iconst 0, 1) := by decide +kernel
theorem dX7_oneDay_89 : decode cX7_oneDay 89 = .ok (.istore_n 2, 1) := by decide +kernel
theorem dX7_oneDay_90 : decode cX7_oneDay 90 = .ok (.iload_n 2, 1) := by decide +kernel
theorem dX7_oneDay_91 : decode cX7_oneDay 91 = .ok (.aload_n 0, 1) := by decide +kernel
theorem dX7_oneDay_92 : decode cX7_oneDay 92 = .ok (.getfield 7, 3) := by decide +kernel
theorem dX7_oneDay_95 : decode cX7_oneDay 95 = .ok (.iconst 1, 1) := by decide +kernel
theorem dX7_oneDay_96 : decode cX7_oneDay 96 = .ok (.iaload, 1) := by decide +kernel
theorem dX7_oneDay_97 : decode cX7_oneDay 97 = .ok (.if_icmp .ge 14, 3) := by decide +kernel
theorem dX7_oneDay_100 : decode cX7_oneDay 100 = .ok (.aload_n 0, 1) := by decide +kernel
theorem dX7_oneDay_101 : decode cX7_oneDay 101 = .ok (.iload_n 2, 1) := by decide +kernel
theorem dX7_oneDay_102 : decode cX7_oneDay 102 = .ok (.invokevirtual 111, 3) := by decide +kernel
theorem dX7_oneDay_105 : decode cX7_oneDay 105 = .ok (.iinc 2 1, 3) := by decide +kernel
theorem dX7_oneDay_108 : decode cX7_oneDay 108 = .ok (.goto (-18), 3) := by decide +kernel
theorem dX7_oneDay_111 : decode cX7_oneDay 111 = .ok (.iload_n 1, 1) := by decide +kernel
theorem dX7_oneDay_112 : decode cX7_oneDay 112 = .ok (.ireturn, 1) := by decide +kernel
theorem dX7_addDate_0 : decode cX7_addDate 0 = .ok (.iload_n 1, 1) := by decide +kernel
theorem dX7_addDate_1 : decode cX7_addDate 1 = .ok (.aload_n 0, 1) := by decide +kernel
theorem dX7_addDate_2 : decode cX7_addDate 2 = .ok (.getfield 7, 3) := by decide +kernel
theorem dX7_addDate_5 : decode cX7_addDate 5 = .ok (.iconst 0, 1) := by decide +kernel
theorem dX7_addDate_6 : decode cX7_addDate 6 = .ok (.iaload, 1) := by decide +kernel
theorem dX7_addDate_7 : decode cX7_addDate 7 = .ok (.iconst 1, 1) := by decide +kernel
theorem dX7_addDate_8 : decode cX7_addDate 8 = .ok (.iadd, 1) := by decide +kernel
theorem dX7_addDate_9 : decode cX7_addDate 9 = .ok (.sipush 999, 3) := by decide +kernel
theorem dX7_addDate_12 : decode cX7_addDate 12 = .ok (.invokestatic 35, 3) := by decide +kernel
theorem dX7_addDate_15 : decode cX7_addDate 15 = .ok (.ifCond .eq 44, 3) := by decide +kernel
theorem dX7_addDate_18 : decode cX7_addDate 18 = .ok (.iload_n 2, 1) := by decide +kernel
theorem dX7_addDate_19 : decode cX7_addDate 19 = .ok (.iconst 1, 1) := by decide +kernel
theorem dX7_addDate_20 : decode cX7_addDate 20 = .ok (.bipush 20, 2) := by decide +kernel
theorem dX7_addDate_22 : decode cX7_addDate 22 = .ok (.invokestatic 35, 3) := by decide +kernel
theorem dX7_addDate_25 : decode cX7_addDate 25 = .ok (.ifCond .eq 34, 3) := by decide +kernel
theorem dX7_addDate_28 : decode cX7_addDate 28 = .ok (.iload_n 3, 1) := by decide +kernel
theorem dX7_addDate_29 : decode cX7_addDate 29 = .ok (.iconst 0, 1) := by decide +kernel
theorem dX7_addDate_30 : decode cX7_addDate 30 = .ok (.iconst 5, 1) := by decide +kernel
theorem dX7_addDate_31 : decode cX7_addDate 31 = .ok (.invokestatic 35, 3) := by decide +kernel
theorem dX7_addDate_34 : decode cX7_addDate 34 = .ok (.ifCond .eq 25, 3) := by decide +kernel
theorem dX7_addDate_37 : decode cX7_addDate 37 = .ok (.iload 4, 2) := by decide +kernel
theorem dX7_addDate_39 : decode cX7_addDate 39 = .ok (.iconst 1, 1) := by decide +kernel
theorem dX7_addDate_40 : decode cX7_addDate 40 = .ok (.sipush 9999, 3) := by decide +kernel
theorem dX7_addDate_43 : decode cX7_addDate 43 = .ok (.invokestatic 35, 3) := by decide +kernel
theorem dX7_addDate_46 : decode cX7_addDate 46 = .ok (.ifCond .eq 13, 3) := by decide +kernel
theorem dX7_addDate_49 : decode cX7_addDate 49 = .ok (.iload 5, 2) := by decide +kernel
theorem dX7_addDate_51 : decode cX7_addDate 51 = .ok (.iconst 0, 1) := by decide +kernel
theorem dX7_addDate_52 : decode cX7_addDate 52 = .ok (.iconst 2, 1) := by decide +kernel
theorem dX7_addDate_53 : decode cX7_addDate 53 = .ok (.invokestatic 35, 3) := by decide +kernel
theorem dX7_addDate_56 : decode cX7_addDate 56 = .ok (.ifCond .ne 6, 3) := by decide +kernel
theorem dX7_addDate_59 : decode cX7_addDate 59 = .ok (.bipush (-2), 2) := by decide +kernel
theorem dX7_addDate_61 : decode cX7_addDate 61 = .ok (.ireturn, 1) := by decide +kernel
theorem dX7_addDate_62 : decode cX7_addDate 62 = .ok (.aload_n 0, 1) := by decide +kernel
theorem dX7_addDate_63 : decode cX7_addDate 63 = .ok (.getfield 7, 3) := by decide +kernel
theorem dX7_addDate_66 : decode cX7_addDate 66 = .ok (.iconst 1, 1) := by decide +kernel
theorem dX7_addDate_67 : decode cX7_addDate 67 = .ok (.iaload, 1) := by decide +kernel
theorem dX7_addDate_68 : decode cX7_addDate 68 = .ok (.bipush 10, 2) := by decide +kernel
theorem dX7_addDate_70 : decode cX7_addDate 70 = .ok (.if_icmp .ne 6, 3) := by decide +kernel
theorem dX7_addDate_73 : decode cX7_addDate 73 = .ok (.bipush (-3), 2) := by decide +kernel
theorem dX7_addDate_75 : decode cX7_addDate 75 = .ok (.ireturn, 1) := by decide +kernel
theorem dX7_addDate_76 : decode cX7_addDate 76 = .ok (.aload_n 0, 1) := by decide +kernel
theorem dX7_addDate_77 : decode cX7_addDate 77 = .ok (.invokevirtual 124, 3) := by decide +kernel
theorem dX7_addDate_80 : decode cX7_addDate 80 = .ok (.aload_n 0, 1) := by decide +kernel
theorem dX7_addDate_81 : decode cX7_addDate 81 = .ok (.getfield 7, 3) := by decide +kernel
theorem dX7_addDate_84 : decode cX7_addDate 84 = .ok (.iconst 1, 1) := by decide +kernel
theorem dX7_addDate_85 : decode cX7_addDate 85 = .ok (.iaload, 1) := by decide +kernel
theorem dX7_addDate_86 : decode cX7_addDate 86 = .ok (.istore 6, 2) := by decide +kernel
theorem dX7_addDate_88 : decode cX7_addDate 88 = .ok (.aload_n 0, 1) := by decide +kernel
theorem dX7_addDate_89 : decode cX7_addDate 89 = .ok (.getfield 7, 3) := by decide +kernel
theorem dX7_addDate_92 : decode cX7_addDate 92 = .ok (.iload 6, 2) := by decide +kernel
theorem dX7_addDate_94 : decode cX7_addDate 94 = .ok (.iconst 0, 1) := by decide +kernel
theorem dX7_addDate_95 : decode cX7_addDate 95 = .ok (.invokestatic 39, 3) := by decide +kernel
theorem dX7_addDate_98 : decode cX7_addDate 98 = .ok (.iload_n 1, 1) := by decide +kernel
theorem dX7_addDate_99 : decode cX7_addDate 99 = .ok (.iastore, 1) := by decide +kernel
theorem dX7_addDate_100 : decode cX7_addDate 100 = .ok (.aload_n 0, 1) := by decide +kernel
theorem dX7_addDate_101 : decode cX7_addDate 101 = .ok (.getfield 7, 3) := by decide +kernel
theorem dX7_addDate_104 : decode cX7_addDate 104 = .ok (.iload 6, 2) := by decide +kernel
theorem dX7_addDate_106 : decode cX7_addDate 106 = .ok (.iconst 1, 1) := by decide +kernel
theorem dX7_addDate_107 : decode cX7_addDate 107 = .ok (.invokestatic 39, 3) := by decide +kernel
theorem dX7_addDate_110 : decode cX7_addDate 110 = .ok (.iload_n 2, 1) := by decide +kernel
theorem dX7_addDate_111 : decode cX7_addDate 111 = .ok (.iastore, 1) := by decide +kernel
theorem dX7_addDate_112 : decode cX7_addDate 112 = .ok (.aload_n 0, 1) := by decide +kernel
theorem dX7_addDate_113 : decode cX7_addDate 113 = .ok (.getfield 7, 3) := by decide +kernel
theorem dX7_addDate_116 : decode cX7_addDate 116 = .ok (.iload 6, 2) := by decide +kernel
theorem dX7_addDate_118 : decode cX7_addDate 118 = .ok (.iconst 2, 1) := by decide +kernel
theorem dX7_addDate_119 : decode cX7_addDate 119 = .ok (.invokestatic 39, 3) := by decide +kernel
theorem dX7_addDate_122 : decode cX7_addDate 122 = .ok (.iload_n 3, 1) := by decide +kernel
theorem dX7_addDate_123 : decode cX7_addDate 123 = .ok (.iastore, 1) := by decide +kernel
theorem dX7_addDate_124 : decode cX7_addDate 124 = .ok (.aload_n 0, 1) := by decide +kernel
theorem dX7_addDate_125 : decode cX7_addDate 125 = .ok (.getfield 7, 3) := by decide +kernel
theorem dX7_addDate_128 : decode cX7_addDate 128 = .ok (.iload 6, 2) := by decide +kernel
theorem dX7_addDate_130 : decode cX7_addDate 130 = .ok (.iconst 3, 1) := by decide +kernel
theorem dX7_addDate_131 : decode cX7_addDate 131 = .ok (.invokestatic 39, 3) := by decide +kernel
theorem dX7_addDate_134 : decode cX7_addDate 134 = .ok (.iload 4, 2) := by decide +kernel
theorem dX7_addDate_136 : decode cX7_addDate 136 = .ok (.iastore, 1) := by decide +kernel
theorem dX7_addDate_137 : decode cX7_addDate 137 = .ok (.aload_n 0, 1) := by decide +kernel
theorem dX7_addDate_138 : decode cX7_addDate 138 = .ok (.getfield 7, 3) := by decide +kernel
theorem dX7_addDate_141 : decode cX7_addDate 141 = .ok (.iload 6, 2) := by decide +kernel
theorem dX7_addDate_143 : decode cX7_addDate 143 = .ok (.iconst 4, 1) := by decide +kernel
theorem dX7_addDate_144 : decode cX7_addDate 144 = .ok (.invokestatic 39, 3) := by decide +kernel
theorem dX7_addDate_147 : decode cX7_addDate 147 = .ok (.iload 5, 2) := by decide +kernel
theorem dX7_addDate_149 : decode cX7_addDate 149 = .ok (.iastore, 1) := by decide +kernel
theorem dX7_addDate_150 : decode cX7_addDate 150 = .ok (.aload_n 0, 1) := by decide +kernel
theorem dX7_addDate_151 : decode cX7_addDate 151 = .ok (.getfield 7, 3) := by decide +kernel
theorem dX7_addDate_154 : decode cX7_addDate 154 = .ok (.iload 6, 2) := by decide +kernel
theorem dX7_addDate_156 : decode cX7_addDate 156 = .ok (.iconst 5, 1) := by decide +kernel
theorem dX7_addDate_157 : decode cX7_addDate 157 = .ok (.invokestatic 39, 3) := by decide +kernel
theorem dX7_addDate_160 : decode cX7_addDate 160 = .ok (.iconst 0, 1) := by decide +kernel
theorem dX7_addDate_161 : decode cX7_addDate 161 = .ok (.iastore, 1) := by decide +kernel
theorem dX7_addDate_162 : decode cX7_addDate 162 = .ok (.aload_n 0, 1) := by decide +kernel
theorem dX7_addDate_163 : decode cX7_addDate 163 = .ok (.getfield 7, 3) := by decide +kernel
theorem dX7_addDate_166 : decode cX7_addDate 166 = .ok (.iconst 1, 1) := by decide +kernel
theorem dX7_addDate_167 : decode cX7_addDate 167 = .ok (.dup2, 1) := by decide +kernel
theorem dX7_addDate_168 : decode cX7_addDate 168 = .ok (.iaload, 1) := by decide +kernel
theorem dX7_addDate_169 : decode cX7_addDate 169 = .ok (.iconst 1, 1) := by decide +kernel
theorem dX7_addDate_170 : decode cX7_addDate 170 = .ok (.iadd, 1) := by decide +kernel
theorem dX7_addDate_171 : decode cX7_addDate 171 = .ok (.iastore, 1) := by decide +kernel
theorem dX7_addDate_172 : decode cX7_addDate 172 = .ok (.iload 6, 2) := by decide +kernel
theorem dX7_addDate_174 : decode cX7_addDate 174 = .ok (.ireturn, 1) := by decide +kernel
theorem dX7_setStage_0 : decode cX7_setStage 0 = .ok (.iload_n 1, 1) := by decide +kernel
theorem dX7_setStage_1 : decode cX7_setStage 1 = .ok (.iconst 0, 1) := by decide +kernel
theorem dX7_setStage_2 : decode cX7_setStage 2 = .ok (.iconst 3, 1) := by decide +kernel
theorem dX7_setStage_3 : decode cX7_setStage 3 = .ok (.invokestatic 35, 3) := by decide +kernel
theorem dX7_setStage_6 : decode cX7_setStage 6 = .ok (.ifCond .ne 5, 3) := by decide +kernel
theorem dX7_setStage_9 : decode cX7_setStage 9 = .ok (.iconst (-1), 1) := by decide +kernel
theorem dX7_setStage_10 : decode cX7_setStage 10 = .ok (.ireturn, 1) := by decide +kernel
theorem dX7_setStage_11 : decode cX7_setStage 11 = .ok (.bipush 9, 2) := by decide +kernel
theorem dX7_setStage_13 : decode cX7_setStage 13 = .ok (.iconst 2, 1) := by decide +kernel
theorem dX7_setStage_14 : decode cX7_setStage 14 = .ok (.iload_n 1, 1) := by decide +kernel
theorem dX7_setStage_15 : decode cX7_setStage 15 = .ok (.imul, 1) := by decide +kernel
theorem dX7_setStage_16 : decode cX7_setStage 16 = .ok (.iadd, 1) := by decide +kernel
theorem dX7_setStage_17 : decode cX7_setStage 17 = .ok (.istore 4, 2) := by decide +kernel
theorem dX7_setStage_19 : decode cX7_setStage 19 = .ok (.iload_n 1, 1) := by decide +kernel
theorem dX7_setStage_20 : decode cX7_setStage 20 = .ok (.iconst 3, 1) := by decide +kernel
theorem dX7_setStage_21 : decode cX7_setStage 21 = .ok (.if_icmp .ne 7, 3) := by decide +kernel
theorem dX7_setStage_24 : decode cX7_setStage 24 = .ok (.iconst 0, 1) := by decide +kernel
theorem dX7_setStage_25 : decode cX7_setStage 25 = .ok (.goto 14, 3) := by decide +kernel
theorem dX7_setStage_28 : decode cX7_setStage 28 = .ok (.aload_n 0, 1) := by decide +kernel
theorem dX7_setStage_29 : decode cX7_setStage 29 = .ok (.getfield 7, 3) := by decide +kernel
theorem dX7_setStage_32 : decode cX7_setStage 32 = .ok (.iload 4, 2) := by decide +kernel
theorem dX7_setStage_34 : decode cX7_setStage 34 = .ok (.iconst 2, 1) := by decide +kernel
theorem dX7_setStage_35 : decode cX7_setStage 35 = .ok (.iadd, 1) := by decide +kernel
theorem dX7_setStage_36 : decode cX7_setStage 36 = .ok (.iaload, 1) := by decide +kernel
theorem dX7_setStage_37 : decode cX7_setStage 37 = .ok (.iconst 1, 1) := by decide +kernel
theorem dX7_setStage_38 : decode cX7_setStage 38 = .ok (.iadd, 1) := by decide +kernel
theorem dX7_setStage_39 : decode cX7_setStage 39 = .ok (.istore 5, 2) := by decide +kernel
theorem dX7_setStage_41 : decode cX7_setStage 41 = .ok (.iload_n 1, 1) := by decide +kernel
theorem dX7_setStage_42 : decode cX7_setStage 42 = .ok (.iconst 3, 1) := by decide +kernel
theorem dX7_setStage_43 : decode cX7_setStage 43 = .ok (.if_icmp .ne 7, 3) := by decide +kernel
theorem dX7_setStage_46 : decode cX7_setStage 46 = .ok (.iconst 0, 1) := by decide +kernel
theorem dX7_setStage_47 : decode cX7_setStage 47 = .ok (.goto 23, 3) := by decide +kernel
theorem dX7_setStage_50 : decode cX7_setStage 50 = .ok (.iload_n 1, 1) := by decide +kernel
theorem dX7_setStage_51 : decode cX7_setStage 51 = .ok (.ifCond .ne 8, 3) := by decide +kernel
theorem dX7_setStage_54 : decode cX7_setStage 54 = .ok (.bipush 99, 2) := by decide +kernel
theorem dX7_setStage_56 : decode cX7_setStage 56 = .ok (.goto 14, 3) := by decide +kernel
theorem dX7_setStage_59 : decode cX7_setStage 59 = .ok (.aload_n 0, 1) := by decide +kernel
theorem dX7_setStage_60 : decode cX7_setStage 60 = .ok (.getfield 7, 3) := by decide +kernel
theorem dX7_setStage_63 : decode cX7_setStage 63 = .ok (.iload 4, 2) := by decide +kernel
theorem dX7_setStage_65 : decode cX7_setStage 65 = .ok (.iconst 2, 1) := by decide +kernel
theorem dX7_setStage_66 : decode cX7_setStage 66 = .ok (.isub, 1) := by decide +kernel
theorem dX7_setStage_67 : decode cX7_setStage 67 = .ok (.iaload, 1) := by decide +kernel
theorem dX7_setStage_68 : decode cX7_setStage 68 = .ok (.iconst 1, 1) := by decide +kernel
theorem dX7_setStage_69 : decode cX7_setStage 69 = .ok (.isub, 1) := by decide +kernel
theorem dX7_setStage_70 : decode cX7_setStage 70 = .ok (.istore 6, 2) := by decide +kernel
theorem dX7_setStage_72 : decode cX7_setStage 72 = .ok (.iload_n 2, 1) := by decide +kernel
theorem dX7_setStage_73 : decode cX7_setStage 73 = .ok (.iload 5, 2) := by decide +kernel
theorem dX7_setStage_75 : decode cX7_setStage 75 = .ok (.iload 6, 2) := by decide +kernel
theorem dX7_setStage_77 : decode cX7_setStage 77 = .ok (.invokestatic 35, 3) := by decide +kernel
theorem dX7_setStage_80 : decode cX7_setStage 80 = .ok (.ifCond .eq 13, 3) := by decide +kernel
theorem dX7_setStage_83 : decode cX7_setStage 83 = .ok (.iload_n 3, 1) := by decide +kernel
theorem dX7_setStage_84 : decode cX7_setStage 84 = .ok (.iconst 0, 1) := by decide +kernel
theorem dX7_setStage_85 : decode cX7_setStage 85 = .ok (.bipush 100, 2) := by decide +kernel
theorem dX7_setStage_87 : decode cX7_setStage 87 = .ok (.invokestatic 35, 3) := by decide +kernel
theorem dX7_setStage_90 : decode cX7_setStage 90 = .ok (.ifCond .ne 6, 3) := by decide +kernel
theorem dX7_setStage_93 : decode cX7_setStage 93 = .ok (.bipush (-2), 2) := by decide +kernel
theorem dX7_setStage_95 : decode cX7_setStage 95 = .ok (.ireturn, 1) := by decide +kernel
theorem dX7_setStage_96 : decode cX7_setStage 96 = .ok (.aload_n 0, 1) := by decide +kernel
theorem dX7_setStage_97 : decode cX7_setStage 97 = .ok (.getfield 7, 3) := by decide +kernel
theorem dX7_setStage_100 : decode cX7_setStage 100 = .ok (.iload 4, 2) := by decide +kernel
theorem dX7_setStage_102 : decode cX7_setStage 102 = .ok (.iconst 1, 1) := by decide +kernel
theorem dX7_setStage_103 : decode cX7_setStage 103 = .ok (.iadd, 1) := by decide +kernel
theorem dX7_setStage_104 : decode cX7_setStage 104 = .ok (.iaload, 1) := by decide +kernel
theorem dX7_setStage_105 : decode cX7_setStage 105 = .ok (.istore 7, 2) := by decide +kernel
theorem dX7_setStage_107 : decode cX7_setStage 107 = .ok (.aload_n 0, 1) := by decide +kernel
theorem dX7_setStage_108 : decode cX7_setStage 108 = .ok (.getfield 7, 3) := by decide +kernel
theorem dX7_setStage_111 : decode cX7_setStage 111 = .ok (.iload 4, 2) := by decide +kernel
theorem dX7_setStage_113 : decode cX7_setStage 113 = .ok (.iaload, 1) := by decide +kernel
theorem dX7_setStage_114 : decode cX7_setStage 114 = .ok (.iload_n 2, 1) := by decide +kernel
theorem dX7_setStage_115 : decode cX7_setStage 115 = .ok (.if_icmp .ne 12, 3) := by decide +kernel
theorem dX7_setStage_118 : decode cX7_setStage 118 = .ok (.iload 7, 2) := by decide +kernel
theorem dX7_setStage_120 : decode cX7_setStage 120 = .ok (.iload_n 3, 1) := by decide +kernel
theorem dX7_setStage_121 : decode cX7_setStage 121 = .ok (.if_icmp .ne 6, 3) := by decide +kernel
theorem dX7_setStage_124 : decode cX7_setStage 124 = .ok (.bipush (-5), 2) := by decide +kernel
theorem dX7_setStage_126 : decode cX7_setStage 126 = .ok (.ireturn, 1) := by decide +kernel
theorem dX7_setStage_127 : decode cX7_setStage 127 = .ok (.aload_n 0, 1) := by decide +kernel
theorem dX7_setStage_128 : decode cX7_setStage 128 = .ok (.invokevirtual 124, 3) := by decide +kernel
theorem dX7_setStage_131 : decode cX7_setStage 131 = .ok (.aload_n 0, 1) := by decide +kernel
theorem dX7_setStage_132 : decode cX7_setStage 132 = .ok (.getfield 7, 3) := by decide +kernel
theorem dX7_setStage_135 : decode cX7_setStage 135 = .ok (.iload 4, 2) := by decide +kernel
theorem dX7_setStage_137 : decode cX7_setStage 137 = .ok (.iload_n 2, 1) := by decide +kernel
theorem dX7_setStage_138 : decode cX7_setStage 138 = .ok (.iastore, 1) := by decide +kernel
theorem dX7_setStage_139 : decode cX7_setStage 139 = .ok (.aload_n 0, 1) := by decide +kernel
theorem dX7_setStage_140 : decode cX7_setStage 140 = .ok (.getfield 7, 3) := by decide +kernel
theorem dX7_setStage_143 : decode cX7_setStage 143 = .ok (.iload 4, 2) := by decide +kernel
theorem dX7_setStage_145 : decode cX7_setStage 145 = .ok (.iconst 1, 1) := by decide +kernel
theorem dX7_setStage_146 : decode cX7_setStage 146 = .ok (.iadd, 1) := by decide +kernel
theorem dX7_setStage_147 : decode cX7_setStage 147 = .ok (.iload_n 3, 1) := by decide +kernel
theorem dX7_setStage_148 : decode cX7_setStage 148 = .ok (.iastore, 1) := by decide +kernel
theorem dX7_setStage_149 : decode cX7_setStage 149 = .ok (.iload 7, 2) := by decide +kernel
theorem dX7_setStage_151 : decode cX7_setStage 151 = .ok (.ireturn, 1) := by decide +kernel
theorem dX7_set_0 : decode cX7_set 0 = .ok (.iload_n 1, 1) := by decide +kernel
theorem dX7_set_1 : decode cX7_set 1 = .ok (.iconst 0, 1) := by decide +kernel
theorem dX7_set_2 : decode cX7_set 2 = .ok (.iconst 3, 1) := by decide +kernel
theorem dX7_set_3 : decode cX7_set 3 = .ok (.invokestatic 35, 3) := by decide +kernel
theorem dX7_set_6 : decode cX7_set 6 = .ok (.ifCond .eq 22, 3) := by decide +kernel
theorem dX7_set_9 : decode cX7_set 9 = .ok (.iload_n 2, 1) := by decide +kernel
theorem dX7_set_10 : decode cX7_set 10 = .ok (.aload_n 0, 1) := by decide +kernel
theorem dX7_set_11 : decode cX7_set 11 = .ok (.getfield 25, 3) := by decide +kernel
theorem dX7_set_14 : decode cX7_set 14 = .ok (.iload_n 1, 1) := by decide +kernel
theorem dX7_set_15 : decode cX7_set 15 = .ok (.iaload, 1) := by decide +kernel
theorem dX7_set_16 : decode cX7_set 16 = .ok (.aload_n 0, 1) := by decide +kernel
theorem dX7_set_17 : decode cX7_set 17 = .ok (.getfield 28, 3) := by decide +kernel
theorem dX7_set_20 : decode cX7_set 20 = .ok (.iload_n 1, 1) := by decide +kernel
theorem dX7_set_21 : decode cX7_set 21 = .ok (.iaload, 1) := by decide +kernel
theorem dX7_set_22 : decode cX7_set 22 = .ok (.invokestatic 35, 3) := by decide +kernel
theorem dX7_set_25 : decode cX7_set 25 = .ok (.ifCond .ne 6, 3) := by decide +kernel
theorem dX7_set_28 : decode cX7_set 28 = .ok (.bipush (-2), 2) := by decide +kernel
theorem dX7_set_30 : decode cX7_set 30 = .ok (.ireturn, 1) := by decide +kernel
theorem dX7_set_31 : decode cX7_set 31 = .ok (.aload_n 0, 1) := by decide +kernel
theorem dX7_set_32 : decode cX7_set 32 = .ok (.getfield 7, 3) := by decide +kernel
theorem dX7_set_35 : decode cX7_set 35 = .ok (.iconst 3, 1) := by decide +kernel
theorem dX7_set_36 : decode cX7_set 36 = .ok (.iload_n 1, 1) := by decide +kernel
theorem dX7_set_37 : decode cX7_set 37 = .ok (.iadd, 1) := by decide +kernel
theorem dX7_set_38 : decode cX7_set 38 = .ok (.iaload, 1) := by decide +kernel
theorem dX7_set_39 : decode cX7_set 39 = .ok (.istore_n 3, 1) := by decide +kernel
theorem dX7_set_40 : decode cX7_set 40 = .ok (.iload_n 3, 1) := by decide +kernel
theorem dX7_set_41 : decode cX7_set 41 = .ok (.iload_n 2, 1) := by decide +kernel
theorem dX7_set_42 : decode cX7_set 42 = .ok (.if_icmp .ne 6, 3) := by decide +kernel
theorem dX7_set_45 : decode cX7_set 45 = .ok (.bipush (-5), 2) := by decide +kernel
theorem dX7_set_47 : decode cX7_set 47 = .ok (.ireturn, 1) := by decide +kernel
theorem dX7_set_48 : decode cX7_set 48 = .ok (.aload_n 0, 1) := by decide +kernel
theorem dX7_set_49 : decode cX7_set 49 = .ok (.invokevirtual 124, 3) := by decide +kernel
theorem dX7_set_52 : decode cX7_set 52 = .ok (.aload_n 0, 1) := by decide +kernel
theorem dX7_set_53 : decode cX7_set 53 = .ok (.getfield 7, 3) := by decide +kernel
theorem dX7_set_56 : decode cX7_set 56 = .ok (.iconst 3, 1) := by decide +kernel
theorem dX7_set_57 : decode cX7_set 57 = .ok (.iload_n 1, 1) := by decide +kernel
theorem dX7_set_58 : decode cX7_set 58 = .ok (.iadd, 1) := by decide +kernel
theorem dX7_set_59 : decode cX7_set 59 = .ok (.iload_n 2, 1) := by decide +kernel
theorem dX7_set_60 : decode cX7_set 60 = .ok (.iastore, 1) := by decide +kernel
theorem dX7_set_61 : decode cX7_set 61 = .ok (.iload_n 3, 1) := by decide +kernel
theorem dX7_set_62 : decode cX7_set 62 = .ok (.ireturn, 1) := by decide +kernel
theorem dX7_aside_0 : decode cX7_aside 0 = .ok (.iconst 0, 1) := by decide +kernel
theorem dX7_aside_1 : decode cX7_aside 1 = .ok (.istore_n 1, 1) := by decide +kernel
theorem dX7_aside_2 : decode cX7_aside 2 = .ok (.iload_n 1, 1) := by decide +kernel
theorem dX7_aside_3 : decode cX7_aside 3 = .ok (.sipush 607, 3) := by decide +kernel
theorem dX7_aside_6 : decode cX7_aside 6 = .ok (.if_icmp .ge 21, 3) := by decide +kernel
theorem dX7_aside_9 : decode cX7_aside 9 = .ok (.aload_n 0, 1) := by decide +kernel
theorem dX7_aside_10 : decode cX7_aside 10 = .ok (.getfield 13, 3) := by decide +kernel
theorem dX7_aside_13 : decode cX7_aside 13 = .ok (.iload_n 1, 1) := by decide +kernel
theorem dX7_aside_14 : decode cX7_aside 14 = .ok (.aload_n 0, 1) := by decide +kernel
theorem dX7_aside_15 : decode cX7_aside 15 = .ok (.getfield 7, 3) := by decide +kernel
theorem dX7_aside_18 : decode cX7_aside 18 = .ok (.iload_n 1, 1) := by decide +kernel
theorem dX7_aside_19 : decode cX7_aside 19 = .ok (.iaload, 1) := by decide +kernel
theorem dX7_aside_20 : decode cX7_aside 20 = .ok (.iastore, 1) := by decide +kernel
theorem dX7_aside_21 : decode cX7_aside 21 = .ok (.iinc 1 1, 3) := by decide +kernel
theorem dX7_aside_24 : decode cX7_aside 24 = .ok (.goto (-22), 3) := by decide +kernel
theorem dX7_aside_27 : decode cX7_aside 27 = .ok (.return_, 1) := by decide +kernel
theorem dX7_bringBack_0 : decode cX7_bringBack 0 = .ok (.iconst 0, 1) := by decide +kernel
theorem dX7_bringBack_1 : decode cX7_bringBack 1 = .ok (.istore_n 1, 1) := by decide +kernel
theorem dX7_bringBack_2 : decode cX7_bringBack 2 = .ok (.iload_n 1, 1) := by decide +kernel
theorem dX7_bringBack_3 : decode cX7_bringBack 3 = .ok (.sipush 607, 3) := by decide +kernel
theorem dX7_bringBack_6 : decode cX7_bringBack 6 = .ok (.if_icmp .ge 21, 3) := by decide +kernel
theorem dX7_bringBack_9 : decode cX7_bringBack 9 = .ok (.aload_n 0, 1) := by decide +kernel
theorem dX7_bringBack_10 : decode cX7_bringBack 10 = .ok (.getfield 7, 3) := by decide +kernel
theorem dX7_bringBack_13 : decode cX7_bringBack 13 = .ok (.iload_n 1, 1) := by decide +kernel
theorem dX7_bringBack_14 : decode cX7_bringBack 14 = .ok (.aload_n 0, 1) := by decide +kernel
theorem dX7_bringBack_15 : decode cX7_bringBack 15 = .ok (.getfield 13, 3) := by decide +kernel
theorem dX7_bringBack_18 : decode cX7_bringBack 18 = .ok (.iload_n 1, 1) := by decide +kernel
theorem dX7_bringBack_19 : decode cX7_bringBack 19 = .ok (.iaload, 1) := by decide +kernel
theorem dX7_bringBack_20 : decode cX7_bringBack 20 = .ok (.iastore, 1) := by decide +kernel
theorem dX7_bringBack_21 : decode cX7_bringBack 21 = .ok (.iinc 1 1, 3) := by decide +kernel
theorem dX7_bringBack_24 : decode cX7_bringBack 24 = .ok (.goto (-22), 3) := by decide +kernel
theorem dX7_bringBack_27 : decode cX7_bringBack 27 = .ok (.return_, 1) := by decide +kernel
theorem dX7_acted_0 : decode cX7_acted 0 = .ok (.iload_n 1, 1) := by decide +kernel
theorem dX7_acted_1 : decode cX7_acted 1 = .ok (.ifCond .lt 52, 3) := by decide +kernel
theorem dX7_acted_4 : decode cX7_acted 4 = .ok (.iconst 0, 1) := by decide +kernel
theorem dX7_acted_5 : decode cX7_acted 5 = .ok (.istore_n 2, 1) := by decide +kernel
theorem dX7_acted_6 : decode cX7_acted 6 = .ok (.iload_n 2, 1) := by decide +kernel
theorem dX7_acted_7 : decode cX7_acted 7 = .ok (.sipush 607, 3) := by decide +kernel
theorem dX7_acted_10 : decode cX7_acted 10 = .ok (.if_icmp .ge 35, 3) := by decide +kernel
theorem dX7_acted_13 : decode cX7_acted 13 = .ok (.aload_n 0, 1) := by decide +kernel
theorem dX7_acted_14 : decode cX7_acted 14 = .ok (.getfield 7, 3) := by decide +kernel
theorem dX7_acted_17 : decode cX7_acted 17 = .ok (.iload_n 2, 1) := by decide +kernel
theorem dX7_acted_18 : decode cX7_acted 18 = .ok (.iaload, 1) := by decide +kernel
theorem dX7_acted_19 : decode cX7_acted 19 = .ok (.istore_n 3, 1) := by decide +kernel
theorem dX7_acted_20 : decode cX7_acted 20 = .ok (.aload_n 0, 1) := by decide +kernel
theorem dX7_acted_21 : decode cX7_acted 21 = .ok (.getfield 7, 3) := by decide +kernel
theorem dX7_acted_24 : decode cX7_acted 24 = .ok (.iload_n 2, 1) := by decide +kernel
theorem dX7_acted_25 : decode cX7_acted 25 = .ok (.aload_n 0, 1) := by decide +kernel
theorem dX7_acted_26 : decode cX7_acted 26 = .ok (.getfield 13, 3) := by decide +kernel
theorem dX7_acted_29 : decode cX7_acted 29 = .ok (.iload_n 2, 1) := by decide +kernel
theorem dX7_acted_30 : decode cX7_acted 30 = .ok (.iaload, 1) := by decide +kernel
theorem dX7_acted_31 : decode cX7_acted 31 = .ok (.iastore, 1) := by decide +kernel
theorem dX7_acted_32 : decode cX7_acted 32 = .ok (.aload_n 0, 1) := by decide +kernel
theorem dX7_acted_33 : decode cX7_acted 33 = .ok (.getfield 13, 3) := by decide +kernel
theorem dX7_acted_36 : decode cX7_acted 36 = .ok (.iload_n 2, 1) := by decide +kernel
theorem dX7_acted_37 : decode cX7_acted 37 = .ok (.iload_n 3, 1) := by decide +kernel
theorem dX7_acted_38 : decode cX7_acted 38 = .ok (.iastore, 1) := by decide +kernel
theorem dX7_acted_39 : decode cX7_acted 39 = .ok (.iinc 2 1, 3) := by decide +kernel
theorem dX7_acted_42 : decode cX7_acted 42 = .ok (.goto (-36), 3) := by decide +kernel
theorem dX7_acted_45 : decode cX7_acted 45 = .ok (.aload_n 0, 1) := by decide +kernel
theorem dX7_acted_46 : decode cX7_acted 46 = .ok (.invokevirtual 124, 3) := by decide +kernel
theorem dX7_acted_49 : decode cX7_acted 49 = .ok (.aload_n 0, 1) := by decide +kernel
theorem dX7_acted_50 : decode cX7_acted 50 = .ok (.invokevirtual 127, 3) := by decide +kernel
theorem dX7_acted_53 : decode cX7_acted 53 = .ok (.iload_n 1, 1) := by decide +kernel
theorem dX7_acted_54 : decode cX7_acted 54 = .ok (.ireturn, 1) := by decide +kernel
theorem dX7_buy_0 : decode cX7_buy 0 = .ok (.aload_n 0, 1) := by decide +kernel
theorem dX7_buy_1 : decode cX7_buy 1 = .ok (.invokevirtual 130, 3) := by decide +kernel
theorem dX7_buy_4 : decode cX7_buy 4 = .ok (.aload_n 0, 1) := by decide +kernel
theorem dX7_buy_5 : decode cX7_buy 5 = .ok (.aload_n 0, 1) := by decide +kernel
theorem dX7_buy_6 : decode cX7_buy 6 = .ok (.iload_n 1, 1) := by decide +kernel
theorem dX7_buy_7 : decode cX7_buy 7 = .ok (.iload_n 2, 1) := by decide +kernel
theorem dX7_buy_8 : decode cX7_buy 8 = .ok (.invokevirtual 133, 3) := by decide +kernel
theorem dX7_buy_11 : decode cX7_buy 11 = .ok (.invokevirtual 136, 3) := by decide +kernel
theorem dX7_buy_14 : decode cX7_buy 14 = .ok (.ireturn, 1) := by decide +kernel
theorem dX7_buyOffered_0 : decode cX7_buyOffered 0 = .ok (.aload_n 0, 1) := by decide +kernel
theorem dX7_buyOffered_1 : decode cX7_buyOffered 1 = .ok (.invokevirtual 130, 3) := by decide +kernel
theorem dX7_buyOffered_4 : decode cX7_buyOffered 4 = .ok (.aload_n 0, 1) := by decide +kernel
theorem dX7_buyOffered_5 : decode cX7_buyOffered 5 = .ok (.aload_n 0, 1) := by decide +kernel
theorem dX7_buyOffered_6 : decode cX7_buyOffered 6 = .ok (.iload_n 1, 1) := by decide +kernel
theorem dX7_buyOffered_7 : decode cX7_buyOffered 7 = .ok (.iload_n 2, 1) := by decide +kernel
theorem dX7_buyOffered_8 : decode cX7_buyOffered 8 = .ok (.invokevirtual 139, 3) := by decide +kernel
theorem dX7_buyOffered_11 : decode cX7_buyOffered 11 = .ok (.invokevirtual 136, 3) := by decide +kernel
theorem dX7_buyOffered_14 : decode cX7_buyOffered 14 = .ok (.ireturn, 1) := by decide +kernel
theorem dX7_cancel_0 : decode cX7_cancel 0 = .ok (.aload_n 0, 1) := by decide +kernel
theorem dX7_cancel_1 : decode cX7_cancel 1 = .ok (.invokevirtual 130, 3) := by decide +kernel
theorem dX7_cancel_4 : decode cX7_cancel 4 = .ok (.aload_n 0, 1) := by decide +kernel
theorem dX7_cancel_5 : decode cX7_cancel 5 = .ok (.aload_n 0, 1) := by decide +kernel
theorem dX7_cancel_6 : decode cX7_cancel 6 = .ok (.iload_n 1, 1) := by decide +kernel
theorem dX7_cancel_7 : decode cX7_cancel 7 = .ok (.invokevirtual 142, 3) := by decide +kernel
theorem dX7_cancel_10 : decode cX7_cancel 10 = .ok (.invokevirtual 136, 3) := by decide +kernel
theorem dX7_cancel_13 : decode cX7_cancel 13 = .ok (.ireturn, 1) := by decide +kernel
theorem dX7_offer_0 : decode cX7_offer 0 = .ok (.aload_n 0, 1) := by decide +kernel
theorem dX7_offer_1 : decode cX7_offer 1 = .ok (.invokevirtual 130, 3) := by decide +kernel
theorem dX7_offer_4 : decode cX7_offer 4 = .ok (.aload_n 0, 1) := by decide +kernel
theorem dX7_offer_5 : decode cX7_offer 5 = .ok (.aload_n 0, 1) := by decide +kernel
theorem dX7_offer_6 : decode cX7_offer 6 = .ok (.iload_n 1, 1) := by decide +kernel
theorem dX7_offer_7 : decode cX7_offer 7 = .ok (.iload_n 2, 1) := by decide +kernel
theorem dX7_offer_8 : decode cX7_offer 8 = .ok (.invokevirtual 145, 3) := by decide +kernel
theorem dX7_offer_11 : decode cX7_offer 11 = .ok (.invokevirtual 136, 3) := by decide +kernel
theorem dX7_offer_14 : decode cX7_offer 14 = .ok (.ireturn, 1) := by decide +kernel
theorem dX7_takeBack_0 : decode cX7_takeBack 0 = .ok (.aload_n 0, 1) := by decide +kernel
theorem dX7_takeBack_1 : decode cX7_takeBack 1 = .ok (.iload_n 1, 1) := by decide +kernel
theorem dX7_takeBack_2 : decode cX7_takeBack 2 = .ok (.invokevirtual 102, 3) := by decide +kernel
theorem dX7_takeBack_5 : decode cX7_takeBack 5 = .ok (.ifCond .ne 5, 3) := by decide +kernel
theorem dX7_takeBack_8 : decode cX7_takeBack 8 = .ok (.iconst (-1), 1) := by decide +kernel
theorem dX7_takeBack_9 : decode cX7_takeBack 9 = .ok (.ireturn, 1) := by decide +kernel
theorem dX7_takeBack_10 : decode cX7_takeBack 10 = .ok (.aload_n 0, 1) := by decide +kernel
theorem dX7_takeBack_11 : decode cX7_takeBack 11 = .ok (.iload_n 1, 1) := by decide +kernel
theorem dX7_takeBack_12 : decode cX7_takeBack 12 = .ok (.iconst 3, 1) := by decide +kernel
theorem dX7_takeBack_13 : decode cX7_takeBack 13 = .ok (.invokevirtual 53, 3) := by decide +kernel
theorem dX7_takeBack_16 : decode cX7_takeBack 16 = .ok (.iconst 1, 1) := by decide +kernel
theorem dX7_takeBack_17 : decode cX7_takeBack 17 = .ok (.if_icmp .eq 6, 3) := by decide +kernel
theorem dX7_takeBack_20 : decode cX7_takeBack 20 = .ok (.bipush (-4), 2) := by decide +kernel
theorem dX7_takeBack_22 : decode cX7_takeBack 22 = .ok (.ireturn, 1) := by decide +kernel
theorem dX7_takeBack_23 : decode cX7_takeBack 23 = .ok (.aload_n 0, 1) := by decide +kernel
theorem dX7_takeBack_24 : decode cX7_takeBack 24 = .ok (.invokevirtual 124, 3) := by decide +kernel
theorem dX7_takeBack_27 : decode cX7_takeBack 27 = .ok (.aload_n 0, 1) := by decide +kernel
theorem dX7_takeBack_28 : decode cX7_takeBack 28 = .ok (.iload_n 1, 1) := by decide +kernel
theorem dX7_takeBack_29 : decode cX7_takeBack 29 = .ok (.iconst 4, 1) := by decide +kernel
theorem dX7_takeBack_30 : decode cX7_takeBack 30 = .ok (.invokevirtual 53, 3) := by decide +kernel
theorem dX7_takeBack_33 : decode cX7_takeBack 33 = .ok (.istore_n 2, 1) := by decide +kernel
theorem dX7_takeBack_34 : decode cX7_takeBack 34 = .ok (.aload_n 0, 1) := by decide +kernel
theorem dX7_takeBack_35 : decode cX7_takeBack 35 = .ok (.iload_n 1, 1) := by decide +kernel
theorem dX7_takeBack_36 : decode cX7_takeBack 36 = .ok (.iconst 0, 1) := by decide +kernel
theorem dX7_takeBack_37 : decode cX7_takeBack 37 = .ok (.invokevirtual 99, 3) := by decide +kernel
theorem dX7_takeBack_40 : decode cX7_takeBack 40 = .ok (.iload_n 2, 1) := by decide +kernel
theorem dX7_takeBack_41 : decode cX7_takeBack 41 = .ok (.ireturn, 1) := by decide +kernel
theorem dX7_exercise_0 : decode cX7_exercise 0 = .ok (.aload_n 0, 1) := by decide +kernel
theorem dX7_exercise_1 : decode cX7_exercise 1 = .ok (.invokevirtual 130, 3) := by decide +kernel
theorem dX7_exercise_4 : decode cX7_exercise 4 = .ok (.aload_n 0, 1) := by decide +kernel
theorem dX7_exercise_5 : decode cX7_exercise 5 = .ok (.aload_n 0, 1) := by decide +kernel
theorem dX7_exercise_6 : decode cX7_exercise 6 = .ok (.iload_n 1, 1) := by decide +kernel
theorem dX7_exercise_7 : decode cX7_exercise 7 = .ok (.invokevirtual 148, 3) := by decide +kernel
theorem dX7_exercise_10 : decode cX7_exercise 10 = .ok (.invokevirtual 136, 3) := by decide +kernel
theorem dX7_exercise_13 : decode cX7_exercise 13 = .ok (.ireturn, 1) := by decide +kernel
theorem dX7_placeOf_0 : decode cX7_placeOf 0 = .ok (.bipush (-5), 2) := by decide +kernel
theorem dX7_placeOf_2 : decode cX7_placeOf 2 = .ok (.istore_n 3, 1) := by decide +kernel
theorem dX7_placeOf_3 : decode cX7_placeOf 3 = .ok (.iconst 0, 1) := by decide +kernel
theorem dX7_placeOf_4 : decode cX7_placeOf 4 = .ok (.istore 4, 2) := by decide +kernel
theorem dX7_placeOf_6 : decode cX7_placeOf 6 = .ok (.iload 4, 2) := by decide +kernel
theorem dX7_placeOf_8 : decode cX7_placeOf 8 = .ok (.aload_n 0, 1) := by decide +kernel
theorem dX7_placeOf_9 : decode cX7_placeOf 9 = .ok (.iload_n 2, 1) := by decide +kernel
theorem dX7_placeOf_10 : decode cX7_placeOf 10 = .ok (.iconst 5, 1) := by decide +kernel
theorem dX7_placeOf_11 : decode cX7_placeOf 11 = .ok (.invokevirtual 46, 3) := by decide +kernel
theorem dX7_placeOf_14 : decode cX7_placeOf 14 = .ok (.if_icmp .ge 30, 3) := by decide +kernel
theorem dX7_placeOf_17 : decode cX7_placeOf 17 = .ok (.aload_n 0, 1) := by decide +kernel
theorem dX7_placeOf_18 : decode cX7_placeOf 18 = .ok (.iload_n 2, 1) := by decide +kernel
theorem dX7_placeOf_19 : decode cX7_placeOf 19 = .ok (.bipush 6, 2) := by decide +kernel
theorem dX7_placeOf_21 : decode cX7_placeOf 21 = .ok (.iload 4, 2) := by decide +kernel
theorem dX7_placeOf_23 : decode cX7_placeOf 23 = .ok (.iadd, 1) := by decide +kernel
theorem dX7_placeOf_24 : decode cX7_placeOf 24 = .ok (.invokevirtual 46, 3) := by decide +kernel
theorem dX7_placeOf_27 : decode cX7_placeOf 27 = .ok (.iload_n 1, 1) := by decide +kernel
theorem dX7_placeOf_28 : decode cX7_placeOf 28 = .ok (.if_icmp .ne 8, 3) := by decide +kernel
theorem dX7_placeOf_31 : decode cX7_placeOf 31 = .ok (.iload 4, 2) := by decide +kernel
theorem dX7_placeOf_33 : decode cX7_placeOf 33 = .ok (.goto 4, 3) := by decide +kernel
theorem dX7_placeOf_36 : decode cX7_placeOf 36 = .ok (.iload_n 3, 1) := by decide +kernel
theorem dX7_placeOf_37 : decode cX7_placeOf 37 = .ok (.istore_n 3, 1) := by decide +kernel
theorem dX7_placeOf_38 : decode cX7_placeOf 38 = .ok (.iinc 4 1, 3) := by decide +kernel
theorem dX7_placeOf_41 : decode cX7_placeOf 41 = .ok (.goto (-35), 3) := by decide +kernel
theorem dX7_placeOf_44 : decode cX7_placeOf 44 = .ok (.iload_n 3, 1) := by decide +kernel
theorem dX7_placeOf_45 : decode cX7_placeOf 45 = .ok (.ireturn, 1) := by decide +kernel
theorem dX7_await_0 : decode cX7_await 0 = .ok (.iload_n 1, 1) := by decide +kernel
theorem dX7_await_1 : decode cX7_await 1 = .ok (.invokestatic 90, 3) := by decide +kernel
theorem dX7_await_4 : decode cX7_await 4 = .ok (.ifCond .eq 11, 3) := by decide +kernel
theorem dX7_await_7 : decode cX7_await 7 = .ok (.aload_n 0, 1) := by decide +kernel
theorem dX7_await_8 : decode cX7_await 8 = .ok (.iload_n 2, 1) := by decide +kernel
theorem dX7_await_9 : decode cX7_await 9 = .ok (.invokevirtual 93, 3) := by decide +kernel
theorem dX7_await_12 : decode cX7_await 12 = .ok (.ifCond .ne 5, 3) := by decide +kernel
theorem dX7_await_15 : decode cX7_await 15 = .ok (.iconst (-1), 1) := by decide +kernel
theorem dX7_await_16 : decode cX7_await 16 = .ok (.ireturn, 1) := by decide +kernel
theorem dX7_await_17 : decode cX7_await 17 = .ok (.aload_n 0, 1) := by decide +kernel
theorem dX7_await_18 : decode cX7_await 18 = .ok (.iload_n 2, 1) := by decide +kernel
theorem dX7_await_19 : decode cX7_await 19 = .ok (.invokevirtual 63, 3) := by decide +kernel
theorem dX7_await_22 : decode cX7_await 22 = .ok (.ifCond .eq 12, 3) := by decide +kernel
theorem dX7_await_25 : decode cX7_await 25 = .ok (.aload_n 0, 1) := by decide +kernel
theorem dX7_await_26 : decode cX7_await 26 = .ok (.iload_n 1, 1) := by decide +kernel
theorem dX7_await_27 : decode cX7_await 27 = .ok (.iload_n 2, 1) := by decide +kernel
theorem dX7_await_28 : decode cX7_await 28 = .ok (.invokevirtual 151, 3) := by decide +kernel
theorem dX7_await_31 : decode cX7_await 31 = .ok (.ifCond .lt 6, 3) := by decide +kernel
theorem dX7_await_34 : decode cX7_await 34 = .ok (.bipush (-4), 2) := by decide +kernel
theorem dX7_await_36 : decode cX7_await 36 = .ok (.ireturn, 1) := by decide +kernel
theorem dX7_await_37 : decode cX7_await 37 = .ok (.aload_n 0, 1) := by decide +kernel
theorem dX7_await_38 : decode cX7_await 38 = .ok (.iload_n 2, 1) := by decide +kernel
theorem dX7_await_39 : decode cX7_await 39 = .ok (.iconst 5, 1) := by decide +kernel
theorem dX7_await_40 : decode cX7_await 40 = .ok (.invokevirtual 46, 3) := by decide +kernel
theorem dX7_await_43 : decode cX7_await 43 = .ok (.bipush 6, 2) := by decide +kernel
theorem dX7_await_45 : decode cX7_await 45 = .ok (.if_icmp .ne 6, 3) := by decide +kernel
theorem dX7_await_48 : decode cX7_await 48 = .ok (.bipush (-3), 2) := by decide +kernel
theorem dX7_await_50 : decode cX7_await 50 = .ok (.ireturn, 1) := by decide +kernel
theorem dX7_await_51 : decode cX7_await 51 = .ok (.aload_n 0, 1) := by decide +kernel
theorem dX7_await_52 : decode cX7_await 52 = .ok (.invokevirtual 124, 3) := by decide +kernel
theorem dX7_await_55 : decode cX7_await 55 = .ok (.aload_n 0, 1) := by decide +kernel
theorem dX7_await_56 : decode cX7_await 56 = .ok (.getfield 7, 3) := by decide +kernel
theorem dX7_await_59 : decode cX7_await 59 = .ok (.iload_n 2, 1) := by decide +kernel
theorem dX7_await_60 : decode cX7_await 60 = .ok (.bipush 6, 2) := by decide +kernel
theorem dX7_await_62 : decode cX7_await 62 = .ok (.aload_n 0, 1) := by decide +kernel
theorem dX7_await_63 : decode cX7_await 63 = .ok (.iload_n 2, 1) := by decide +kernel
theorem dX7_await_64 : decode cX7_await 64 = .ok (.iconst 5, 1) := by decide +kernel
theorem dX7_await_65 : decode cX7_await 65 = .ok (.invokevirtual 46, 3) := by decide +kernel
theorem dX7_await_68 : decode cX7_await 68 = .ok (.iadd, 1) := by decide +kernel
theorem dX7_await_69 : decode cX7_await 69 = .ok (.invokestatic 39, 3) := by decide +kernel
theorem dX7_await_72 : decode cX7_await 72 = .ok (.iload_n 1, 1) := by decide +kernel
theorem dX7_await_73 : decode cX7_await 73 = .ok (.iastore, 1) := by decide +kernel
theorem dX7_await_74 : decode cX7_await 74 = .ok (.aload_n 0, 1) := by decide +kernel
theorem dX7_await_75 : decode cX7_await 75 = .ok (.getfield 7, 3) := by decide +kernel
theorem dX7_await_78 : decode cX7_await 78 = .ok (.iload_n 2, 1) := by decide +kernel
theorem dX7_await_79 : decode cX7_await 79 = .ok (.iconst 5, 1) := by decide +kernel
theorem dX7_await_80 : decode cX7_await 80 = .ok (.invokestatic 39, 3) := by decide +kernel
theorem dX7_await_83 : decode cX7_await 83 = .ok (.dup2, 1) := by decide +kernel
theorem dX7_await_84 : decode cX7_await 84 = .ok (.iaload, 1) := by decide +kernel
theorem dX7_await_85 : decode cX7_await 85 = .ok (.iconst 1, 1) := by decide +kernel
theorem dX7_await_86 : decode cX7_await 86 = .ok (.iadd, 1) := by decide +kernel
theorem dX7_await_87 : decode cX7_await 87 = .ok (.iastore, 1) := by decide +kernel
theorem dX7_await_88 : decode cX7_await 88 = .ok (.aload_n 0, 1) := by decide +kernel
theorem dX7_await_89 : decode cX7_await 89 = .ok (.iload_n 2, 1) := by decide +kernel
theorem dX7_await_90 : decode cX7_await 90 = .ok (.iconst 5, 1) := by decide +kernel
theorem dX7_await_91 : decode cX7_await 91 = .ok (.invokevirtual 46, 3) := by decide +kernel
theorem dX7_await_94 : decode cX7_await 94 = .ok (.ireturn, 1) := by decide +kernel
theorem dX7_leave_0 : decode cX7_leave 0 = .ok (.iload_n 1, 1) := by decide +kernel
theorem dX7_leave_1 : decode cX7_leave 1 = .ok (.invokestatic 90, 3) := by decide +kernel
theorem dX7_leave_4 : decode cX7_leave 4 = .ok (.ifCond .eq 11, 3) := by decide +kernel
theorem dX7_leave_7 : decode cX7_leave 7 = .ok (.aload_n 0, 1) := by decide +kernel
theorem dX7_leave_8 : decode cX7_leave 8 = .ok (.iload_n 2, 1) := by decide +kernel
theorem dX7_leave_9 : decode cX7_leave 9 = .ok (.invokevirtual 93, 3) := by decide +kernel
theorem dX7_leave_12 : decode cX7_leave 12 = .ok (.ifCond .ne 5, 3) := by decide +kernel
theorem dX7_leave_15 : decode cX7_leave 15 = .ok (.iconst (-1), 1) := by decide +kernel
theorem dX7_leave_16 : decode cX7_leave 16 = .ok (.ireturn, 1) := by decide +kernel
theorem dX7_leave_17 : decode cX7_leave 17 = .ok (.aload_n 0, 1) := by decide +kernel
theorem dX7_leave_18 : decode cX7_leave 18 = .ok (.iload_n 1, 1) := by decide +kernel
theorem dX7_leave_19 : decode cX7_leave 19 = .ok (.iload_n 2, 1) := by decide +kernel
theorem dX7_leave_20 : decode cX7_leave 20 = .ok (.invokevirtual 151, 3) := by decide +kernel
theorem dX7_leave_23 : decode cX7_leave 23 = .ok (.istore_n 3, 1) := by decide +kernel
theorem dX7_leave_24 : decode cX7_leave 24 = .ok (.iload_n 3, 1) := by decide +kernel
theorem dX7_leave_25 : decode cX7_leave 25 = .ok (.ifCond .lt 13, 3) := by decide +kernel
theorem dX7_leave_28 : decode cX7_leave 28 = .ok (.aload_n 0, 1) := by decide +kernel
theorem dX7_leave_29 : decode cX7_leave 29 = .ok (.invokevirtual 124, 3) := by decide +kernel
theorem dX7_leave_32 : decode cX7_leave 32 = .ok (.aload_n 0, 1) := by decide +kernel
theorem dX7_leave_33 : decode cX7_leave 33 = .ok (.iload_n 2, 1) := by decide +kernel
theorem dX7_leave_34 : decode cX7_leave 34 = .ok (.iload_n 3, 1) := by decide +kernel
theorem dX7_leave_35 : decode cX7_leave 35 = .ok (.invokevirtual 81, 3) := by decide +kernel
theorem dX7_leave_38 : decode cX7_leave 38 = .ok (.iload_n 3, 1) := by decide +kernel
theorem dX7_leave_39 : decode cX7_leave 39 = .ok (.ireturn, 1) := by decide +kernel
theorem dX7_pass_0 : decode cX7_pass 0 = .ok (.iload_n 1, 1) := by decide +kernel
theorem dX7_pass_1 : decode cX7_pass 1 = .ok (.iconst 1, 1) := by decide +kernel
theorem dX7_pass_2 : decode cX7_pass 2 = .ok (.bipush 60, 2) := by decide +kernel
theorem dX7_pass_4 : decode cX7_pass 4 = .ok (.invokestatic 35, 3) := by decide +kernel
theorem dX7_pass_7 : decode cX7_pass 7 = .ok (.ifCond .ne 6, 3) := by decide +kernel
theorem dX7_pass_10 : decode cX7_pass 10 = .ok (.bipush (-2), 2) := by decide +kernel
theorem dX7_pass_12 : decode cX7_pass 12 = .ok (.ireturn, 1) := by decide +kernel
theorem dX7_pass_13 : decode cX7_pass 13 = .ok (.aload_n 0, 1) := by decide +kernel
theorem dX7_pass_14 : decode cX7_pass 14 = .ok (.getfield 7, 3) := by decide +kernel
theorem dX7_pass_17 : decode cX7_pass 17 = .ok (.iconst 0, 1) := by decide +kernel
theorem dX7_pass_18 : decode cX7_pass 18 = .ok (.iaload, 1) := by decide +kernel
theorem dX7_pass_19 : decode cX7_pass 19 = .ok (.iload_n 1, 1) := by decide +kernel
theorem dX7_pass_20 : decode cX7_pass 20 = .ok (.iadd, 1) := by decide +kernel
theorem dX7_pass_21 : decode cX7_pass 21 = .ok (.sipush 9999, 3) := by decide +kernel
theorem dX7_pass_24 : decode cX7_pass 24 = .ok (.if_icmp .le 6, 3) := by decide +kernel
theorem dX7_pass_27 : decode cX7_pass 27 = .ok (.bipush (-4), 2) := by decide +kernel
theorem dX7_pass_29 : decode cX7_pass 29 = .ok (.ireturn, 1) := by decide +kernel
theorem dX7_pass_30 : decode cX7_pass 30 = .ok (.aload_n 0, 1) := by decide +kernel
theorem dX7_pass_31 : decode cX7_pass 31 = .ok (.invokevirtual 124, 3) := by decide +kernel
theorem dX7_pass_34 : decode cX7_pass 34 = .ok (.iconst 0, 1) := by decide +kernel
theorem dX7_pass_35 : decode cX7_pass 35 = .ok (.istore_n 2, 1) := by decide +kernel
theorem dX7_pass_36 : decode cX7_pass 36 = .ok (.iconst 0, 1) := by decide +kernel
theorem dX7_pass_37 : decode cX7_pass 37 = .ok (.istore_n 3, 1) := by decide +kernel
theorem dX7_pass_38 : decode cX7_pass 38 = .ok (.iload_n 3, 1) := by decide +kernel
theorem dX7_pass_39 : decode cX7_pass 39 = .ok (.iload_n 1, 1) := by decide +kernel
theorem dX7_pass_40 : decode cX7_pass 40 = .ok (.if_icmp .ge 16, 3) := by decide +kernel
theorem dX7_pass_43 : decode cX7_pass 43 = .ok (.iload_n 2, 1) := by decide +kernel
theorem dX7_pass_44 : decode cX7_pass 44 = .ok (.aload_n 0, 1) := by decide +kernel
theorem dX7_pass_45 : decode cX7_pass 45 = .ok (.invokevirtual 154, 3) := by decide +kernel
theorem dX7_pass_48 : decode cX7_pass 48 = .ok (.iadd, 1) := by decide +kernel
theorem dX7_pass_49 : decode cX7_pass 49 = .ok (.istore_n 2, 1) := by decide +kernel
theorem dX7_pass_50 : decode cX7_pass 50 = .ok (.iinc 3 1, 3) := by decide +kernel
theorem dX7_pass_53 : decode cX7_pass 53 = .ok (.goto (-15), 3) := by decide +kernel
theorem dX7_pass_56 : decode cX7_pass 56 = .ok (.iload_n 2, 1) := by decide +kernel
theorem dX7_pass_57 : decode cX7_pass 57 = .ok (.ireturn, 1) := by decide +kernel
theorem dX7_type_0 : decode cX7_type 0 = .ok (.aload_n 0, 1) := by decide +kernel
theorem dX7_type_1 : decode cX7_type 1 = .ok (.getfield 158, 3) := by decide +kernel
theorem dX7_type_4 : decode cX7_type 4 = .ok (.bipush 60, 2) := by decide +kernel
theorem dX7_type_6 : decode cX7_type 6 = .ok (.if_icmp .ne 6, 3) := by decide +kernel
theorem dX7_type_9 : decode cX7_type 9 = .ok (.bipush (-3), 2) := by decide +kernel
theorem dX7_type_11 : decode cX7_type 11 = .ok (.ireturn, 1) := by decide +kernel
theorem dX7_type_12 : decode cX7_type 12 = .ok (.aload_n 0, 1) := by decide +kernel
theorem dX7_type_13 : decode cX7_type 13 = .ok (.getfield 22, 3) := by decide +kernel
theorem dX7_type_16 : decode cX7_type 16 = .ok (.aload_n 0, 1) := by decide +kernel
theorem dX7_type_17 : decode cX7_type 17 = .ok (.getfield 158, 3) := by decide +kernel
theorem dX7_type_20 : decode cX7_type 20 = .ok (.iload_n 1, 1) := by decide +kernel
theorem dX7_type_21 : decode cX7_type 21 = .ok (.iastore, 1) := by decide +kernel
theorem dX7_type_22 : decode cX7_type 22 = .ok (.aload_n 0, 1) := by decide +kernel
theorem dX7_type_23 : decode cX7_type 23 = .ok (.dup, 1) := by decide +kernel
theorem dX7_type_24 : decode cX7_type 24 = .ok (.getfield 158, 3) := by decide +kernel
theorem dX7_type_27 : decode cX7_type 27 = .ok (.iconst 1, 1) := by decide +kernel
theorem dX7_type_28 : decode cX7_type 28 = .ok (.iadd, 1) := by decide +kernel
theorem dX7_type_29 : decode cX7_type 29 = .ok (.putfield 158, 3) := by decide +kernel
theorem dX7_type_32 : decode cX7_type 32 = .ok (.aload_n 0, 1) := by decide +kernel
theorem dX7_type_33 : decode cX7_type 33 = .ok (.getfield 158, 3) := by decide +kernel
theorem dX7_type_36 : decode cX7_type 36 = .ok (.ireturn, 1) := by decide +kernel
theorem dX7_clearText_0 : decode cX7_clearText 0 = .ok (.aload_n 0, 1) := by decide +kernel
theorem dX7_clearText_1 : decode cX7_clearText 1 = .ok (.getfield 158, 3) := by decide +kernel
theorem dX7_clearText_4 : decode cX7_clearText 4 = .ok (.istore_n 1, 1) := by decide +kernel
theorem dX7_clearText_5 : decode cX7_clearText 5 = .ok (.aload_n 0, 1) := by decide +kernel
theorem dX7_clearText_6 : decode cX7_clearText 6 = .ok (.iconst 0, 1) := by decide +kernel
theorem dX7_clearText_7 : decode cX7_clearText 7 = .ok (.putfield 158, 3) := by decide +kernel
theorem dX7_clearText_10 : decode cX7_clearText 10 = .ok (.iload_n 1, 1) := by decide +kernel
theorem dX7_clearText_11 : decode cX7_clearText 11 = .ok (.ireturn, 1) := by decide +kernel
theorem dX7_sign_0 : decode cX7_sign 0 = .ok (.aload_n 0, 1) := by decide +kernel
theorem dX7_sign_1 : decode cX7_sign 1 = .ok (.getfield 161, 3) := by decide +kernel
theorem dX7_sign_4 : decode cX7_sign 4 = .ok (.aload_n 0, 1) := by decide +kernel
theorem dX7_sign_5 : decode cX7_sign 5 = .ok (.getfield 158, 3) := by decide +kernel
theorem dX7_sign_8 : decode cX7_sign 8 = .ok (.if_icmp .ge 20, 3) := by decide +kernel
theorem dX7_sign_11 : decode cX7_sign 11 = .ok (.aload_n 0, 1) := by decide +kernel
theorem dX7_sign_12 : decode cX7_sign 12 = .ok (.getfield 22, 3) := by decide +kernel
theorem dX7_sign_15 : decode cX7_sign 15 = .ok (.aload_n 0, 1) := by decide +kernel
theorem dX7_sign_16 : decode cX7_sign 16 = .ok (.getfield 161, 3) := by decide +kernel
theorem dX7_sign_19 : decode cX7_sign 19 = .ok (.iaload, 1) := by decide +kernel
theorem dX7_sign_20 : decode cX7_sign 20 = .ok (.iload_n 1, 1) := by decide +kernel
theorem dX7_sign_21 : decode cX7_sign 21 = .ok (.if_icmp .ne 7, 3) := by decide +kernel
theorem dX7_sign_24 : decode cX7_sign 24 = .ok (.iconst 1, 1) := by decide +kernel
theorem dX7_sign_25 : decode cX7_sign 25 = .ok (.goto 4, 3) := by decide +kernel
theorem dX7_sign_28 : decode cX7_sign 28 = .ok (.iconst 0, 1) := by decide +kernel
theorem dX7_sign_29 : decode cX7_sign 29 = .ok (.istore_n 2, 1) := by decide +kernel
theorem dX7_sign_30 : decode cX7_sign 30 = .ok (.aload_n 0, 1) := by decide +kernel
theorem dX7_sign_31 : decode cX7_sign 31 = .ok (.dup, 1) := by decide +kernel
theorem dX7_sign_32 : decode cX7_sign 32 = .ok (.getfield 161, 3) := by decide +kernel
theorem dX7_sign_35 : decode cX7_sign 35 = .ok (.iload_n 2, 1) := by decide +kernel
theorem dX7_sign_36 : decode cX7_sign 36 = .ok (.ifCond .eq 7, 3) := by decide +kernel
theorem dX7_sign_39 : decode cX7_sign 39 = .ok (.iconst 1, 1) := by decide +kernel
theorem dX7_sign_40 : decode cX7_sign 40 = .ok (.goto 4, 3) := by decide +kernel
theorem dX7_sign_43 : decode cX7_sign 43 = .ok (.iconst 0, 1) := by decide +kernel
theorem dX7_sign_44 : decode cX7_sign 44 = .ok (.iadd, 1) := by decide +kernel
theorem dX7_sign_45 : decode cX7_sign 45 = .ok (.putfield 161, 3) := by decide +kernel
theorem dX7_sign_48 : decode cX7_sign 48 = .ok (.iload_n 2, 1) := by decide +kernel
theorem dX7_sign_49 : decode cX7_sign 49 = .ok (.ireturn, 1) := by decide +kernel
theorem dX7_readNumber_0 : decode cX7_readNumber 0 = .ok (.aload_n 0, 1) := by decide +kernel
theorem dX7_readNumber_1 : decode cX7_readNumber 1 = .ok (.getfield 161, 3) := by decide +kernel
theorem dX7_readNumber_4 : decode cX7_readNumber 4 = .ok (.istore_n 2, 1) := by decide +kernel
theorem dX7_readNumber_5 : decode cX7_readNumber 5 = .ok (.aload_n 0, 1) := by decide +kernel
theorem dX7_readNumber_6 : decode cX7_readNumber 6 = .ok (.iconst 0, 1) := by decide +kernel
theorem dX7_readNumber_7 : decode cX7_readNumber 7 = .ok (.putfield 164, 3) := by decide +kernel
theorem dX7_readNumber_10 : decode cX7_readNumber 10 = .ok (.aload_n 0, 1) := by decide +kernel
theorem dX7_readNumber_11 : decode cX7_readNumber 11 = .ok (.getfield 161, 3) := by decide +kernel
theorem dX7_readNumber_14 : decode cX7_readNumber 14 = .ok (.aload_n 0, 1) := by decide +kernel
theorem dX7_readNumber_15 : decode cX7_readNumber 15 = .ok (.getfield 158, 3) := by decide +kernel
theorem dX7_readNumber_18 : decode cX7_readNumber 18 = .ok (.if_icmp .ge 88, 3) := by decide +kernel
theorem dX7_readNumber_21 : decode cX7_readNumber 21 = .ok (.aload_n 0, 1) := by decide +kernel
theorem dX7_readNumber_22 : decode cX7_readNumber 22 = .ok (.getfield 161, 3) := by decide +kernel
theorem dX7_readNumber_25 : decode cX7_readNumber 25 = .ok (.iload_n 2, 1) := by decide +kernel
theorem dX7_readNumber_26 : decode cX7_readNumber 26 = .ok (.iload_n 1, 1) := by decide +kernel
theorem dX7_readNumber_27 : decode cX7_readNumber 27 = .ok (.iadd, 1) := by decide +kernel
theorem dX7_readNumber_28 : decode cX7_readNumber 28 = .ok (.if_icmp .ge 78, 3) := by decide +kernel
theorem dX7_readNumber_31 : decode cX7_readNumber 31 = .ok (.aload_n 0, 1) := by decide +kernel
theorem dX7_readNumber_32 : decode cX7_readNumber 32 = .ok (.getfield 22, 3) := by decide +kernel
theorem dX7_readNumber_35 : decode cX7_readNumber 35 = .ok (.aload_n 0, 1) := by decide +kernel
theorem dX7_readNumber_36 : decode cX7_readNumber 36 = .ok (.getfield 161, 3) := by decide +kernel
theorem dX7_readNumber_39 : decode cX7_readNumber 39 = .ok (.iaload, 1) := by decide +kernel
theorem dX7_readNumber_40 : decode cX7_readNumber 40 = .ok (.bipush 48, 2) := by decide +kernel
theorem dX7_readNumber_42 : decode cX7_readNumber 42 = .ok (.bipush 57, 2) := by decide +kernel
theorem dX7_readNumber_44 : decode cX7_readNumber 44 = .ok (.invokestatic 35, 3) := by decide +kernel
theorem dX7_readNumber_47 : decode cX7_readNumber 47 = .ok (.ifCond .eq 59, 3) := by decide +kernel
theorem dX7_readNumber_50 : decode cX7_readNumber 50 = .ok (.aload_n 0, 1) := by decide +kernel
theorem dX7_readNumber_51 : decode cX7_readNumber 51 = .ok (.getfield 161, 3) := by decide +kernel
theorem dX7_readNumber_54 : decode cX7_readNumber 54 = .ok (.iload_n 2, 1) := by decide +kernel
theorem dX7_readNumber_55 : decode cX7_readNumber 55 = .ok (.if_icmp .eq 14, 3) := by decide +kernel
theorem dX7_readNumber_58 : decode cX7_readNumber 58 = .ok (.aload_n 0, 1) := by decide +kernel
theorem dX7_readNumber_59 : decode cX7_readNumber 59 = .ok (.getfield 22, 3) := by decide +kernel
theorem dX7_readNumber_62 : decode cX7_readNumber 62 = .ok (.iload_n 2, 1) := by decide +kernel
theorem dX7_readNumber_63 : decode cX7_readNumber 63 = .ok (.iaload, 1) := by decide +kernel
theorem dX7_readNumber_64 : decode cX7_readNumber 64 = .ok (.bipush 48, 2) := by decide +kernel
theorem dX7_readNumber_66 : decode cX7_readNumber 66 = .ok (.if_icmp .eq 40, 3) := by decide +kernel
theorem dX7_readNumber_69 : decode cX7_readNumber 69 = .ok (.aload_n 0, 1) := by decide +kernel
theorem dX7_readNumber_70 : decode cX7_readNumber 70 = .ok (.bipush 10, 2) := by decide +kernel
theorem dX7_readNumber_72 : decode cX7_readNumber 72 = .ok (.aload_n 0, 1) := by decide +kernel
theorem dX7_readNumber_73 : decode cX7_readNumber 73 = .ok (.getfield 164, 3) := by decide +kernel
theorem dX7_readNumber_76 : decode cX7_readNumber 76 = .ok (.imul, 1) := by decide +kernel
theorem dX7_readNumber_77 : decode cX7_readNumber 77 = .ok (.aload_n 0, 1) := by decide +kernel
theorem dX7_readNumber_78 : decode cX7_readNumber 78 = .ok (.getfield 22, 3) := by decide +kernel
theorem dX7_readNumber_81 : decode cX7_readNumber 81 = .ok (.aload_n 0, 1) := by decide +kernel
theorem dX7_readNumber_82 : decode cX7_readNumber 82 = .ok (.getfield 161, 3) := by decide +kernel
theorem dX7_readNumber_85 : decode cX7_readNumber 85 = .ok (.iaload, 1) := by decide +kernel
theorem dX7_readNumber_86 : decode cX7_readNumber 86 = .ok (.iadd, 1) := by decide +kernel
theorem dX7_readNumber_87 : decode cX7_readNumber 87 = .ok (.bipush 48, 2) := by decide +kernel
theorem dX7_readNumber_89 : decode cX7_readNumber 89 = .ok (.isub, 1) := by decide +kernel
theorem dX7_readNumber_90 : decode cX7_readNumber 90 = .ok (.putfield 164, 3) := by decide +kernel
theorem dX7_readNumber_93 : decode cX7_readNumber 93 = .ok (.aload_n 0, 1) := by decide +kernel
theorem dX7_readNumber_94 : decode cX7_readNumber 94 = .ok (.dup, 1) := by decide +kernel
theorem dX7_readNumber_95 : decode cX7_readNumber 95 = .ok (.getfield 161, 3) := by decide +kernel
theorem dX7_readNumber_98 : decode cX7_readNumber 98 = .ok (.iconst 1, 1) := by decide +kernel
theorem dX7_readNumber_99 : decode cX7_readNumber 99 = .ok (.iadd, 1) := by decide +kernel
theorem dX7_readNumber_100 : decode cX7_readNumber 100 = .ok (.putfield 161, 3) := by decide +kernel
theorem dX7_readNumber_103 : decode cX7_readNumber 103 = .ok (.goto (-93), 3) := by decide +kernel
theorem dX7_readNumber_106 : decode cX7_readNumber 106 = .ok (.aload_n 0, 1) := by decide +kernel
theorem dX7_readNumber_107 : decode cX7_readNumber 107 = .ok (.getfield 161, 3) := by decide +kernel
theorem dX7_readNumber_110 : decode cX7_readNumber 110 = .ok (.iload_n 2, 1) := by decide +kernel
theorem dX7_readNumber_111 : decode cX7_readNumber 111 = .ok (.if_icmp .le 7, 3) := by decide +kernel
theorem dX7_readNumber_114 : decode cX7_readNumber 114 = .ok (.iconst 1, 1) := by decide +kernel
theorem dX7_readNumber_115 : decode cX7_readNumber 115 = .ok (.goto 4, 3) := by decide +kernel
theorem dX7_readNumber_118 : decode cX7_readNumber 118 = .ok (.iconst 0, 1) := by decide +kernel
theorem dX7_readNumber_119 : decode cX7_readNumber 119 = .ok (.ireturn, 1) := by decide +kernel
theorem dX7_readOrder_0 : decode cX7_readOrder 0 = .ok (.aload_n 0, 1) := by decide +kernel
theorem dX7_readOrder_1 : decode cX7_readOrder 1 = .ok (.aload_n 0, 1) := by decide +kernel
theorem dX7_readOrder_2 : decode cX7_readOrder 2 = .ok (.getfield 161, 3) := by decide +kernel
theorem dX7_readOrder_5 : decode cX7_readOrder 5 = .ok (.aload_n 0, 1) := by decide +kernel
theorem dX7_readOrder_6 : decode cX7_readOrder 6 = .ok (.getfield 158, 3) := by decide +kernel
theorem dX7_readOrder_9 : decode cX7_readOrder 9 = .ok (.if_icmp .ge 15, 3) := by decide +kernel
theorem dX7_readOrder_12 : decode cX7_readOrder 12 = .ok (.aload_n 0, 1) := by decide +kernel
theorem dX7_readOrder_13 : decode cX7_readOrder 13 = .ok (.getfield 22, 3) := by decide +kernel
theorem dX7_readOrder_16 : decode cX7_readOrder 16 = .ok (.aload_n 0, 1) := by decide +kernel
theorem dX7_readOrder_17 : decode cX7_readOrder 17 = .ok (.getfield 161, 3) := by decide +kernel
theorem dX7_readOrder_20 : decode cX7_readOrder 20 = .ok (.iaload, 1) := by decide +kernel
theorem dX7_readOrder_21 : decode cX7_readOrder 21 = .ok (.goto 4, 3) := by decide +kernel
theorem dX7_readOrder_24 : decode cX7_readOrder 24 = .ok (.iconst 0, 1) := by decide +kernel
theorem dX7_readOrder_25 : decode cX7_readOrder 25 = .ok (.putfield 167, 3) := by decide +kernel
theorem dX7_readOrder_28 : decode cX7_readOrder 28 = .ok (.aload_n 0, 1) := by decide +kernel
theorem dX7_readOrder_29 : decode cX7_readOrder 29 = .ok (.bipush 98, 2) := by decide +kernel
theorem dX7_readOrder_31 : decode cX7_readOrder 31 = .ok (.invokevirtual 170, 3) := by decide +kernel
theorem dX7_readOrder_34 : decode cX7_readOrder 34 = .ok (.ifCond .ne 12, 3) := by decide +kernel
theorem dX7_readOrder_37 : decode cX7_readOrder 37 = .ok (.aload_n 0, 1) := by decide +kernel
theorem dX7_readOrder_38 : decode cX7_readOrder 38 = .ok (.bipush 109, 2) := by decide +kernel
theorem dX7_readOrder_40 : decode cX7_readOrder 40 = .ok (.invokevirtual 170, 3) := by decide +kernel
theorem dX7_readOrder_43 : decode cX7_readOrder 43 = .ok (.ifCond .eq 54, 3) := by decide +kernel
theorem dX7_readOrder_46 : decode cX7_readOrder 46 = .ok (.aload_n 0, 1) := by decide +kernel
theorem dX7_readOrder_47 : decode cX7_readOrder 47 = .ok (.iconst 1, 1) := by decide +kernel
theorem dX7_readOrder_48 : decode cX7_readOrder 48 = .ok (.invokevirtual 173, 3) := by decide +kernel
theorem dX7_readOrder_51 : decode cX7_readOrder 51 = .ok (.istore_n 1, 1) := by decide +kernel
theorem dX7_readOrder_52 : decode cX7_readOrder 52 = .ok (.aload_n 0, 1) := by decide +kernel
theorem dX7_readOrder_53 : decode cX7_readOrder 53 = .ok (.aload_n 0, 1) := by decide +kernel
theorem dX7_readOrder_54 : decode cX7_readOrder 54 = .ok (.getfield 164, 3) := by decide +kernel
theorem dX7_readOrder_57 : decode cX7_readOrder 57 = .ok (.putfield 176, 3) := by decide +kernel
theorem dX7_readOrder_60 : decode cX7_readOrder 60 = .ok (.iload_n 1, 1) := by decide +kernel
theorem dX7_readOrder_61 : decode cX7_readOrder 61 = .ok (.ifCond .eq 24, 3) := by decide +kernel
theorem dX7_readOrder_64 : decode cX7_readOrder 64 = .ok (.aload_n 0, 1) := by decide +kernel
theorem dX7_readOrder_65 : decode cX7_readOrder 65 = .ok (.bipush 64, 2) := by decide +kernel
theorem dX7_readOrder_67 : decode cX7_readOrder 67 = .ok (.invokevirtual 170, 3) := by decide +kernel
theorem dX7_readOrder_70 : decode cX7_readOrder 70 = .ok (.ifCond .eq 15, 3) := by decide +kernel
theorem dX7_readOrder_73 : decode cX7_readOrder 73 = .ok (.aload_n 0, 1) := by decide +kernel
theorem dX7_readOrder_74 : decode cX7_readOrder 74 = .ok (.iconst 1, 1) := by decide +kernel
theorem dX7_readOrder_75 : decode cX7_readOrder 75 = .ok (.invokevirtual 173, 3) := by decide +kernel
theorem dX7_readOrder_78 : decode cX7_readOrder 78 = .ok (.ifCond .eq 7, 3) := by decide +kernel
theorem dX7_readOrder_81 : decode cX7_readOrder 81 = .ok (.iconst 1, 1) := by decide +kernel
theorem dX7_readOrder_82 : decode cX7_readOrder 82 = .ok (.goto 4, 3) := by decide +kernel
theorem dX7_readOrder_85 : decode cX7_readOrder 85 = .ok (.iconst 0, 1) := by decide +kernel
theorem dX7_readOrder_86 : decode cX7_readOrder 86 = .ok (.istore_n 1, 1) := by decide +kernel
theorem dX7_readOrder_87 : decode cX7_readOrder 87 = .ok (.aload_n 0, 1) := by decide +kernel
theorem dX7_readOrder_88 : decode cX7_readOrder 88 = .ok (.aload_n 0, 1) := by decide +kernel
theorem dX7_readOrder_89 : decode cX7_readOrder 89 = .ok (.getfield 164, 3) := by decide +kernel
theorem dX7_readOrder_92 : decode cX7_readOrder 92 = .ok (.putfield 179, 3) := by decide +kernel
theorem dX7_readOrder_95 : decode cX7_readOrder 95 = .ok (.iload_n 1, 1) := by decide +kernel
theorem dX7_readOrder_96 : decode cX7_readOrder 96 = .ok (.ireturn, 1) := by decide +kernel
theorem dX7_readOrder_97 : decode cX7_readOrder 97 = .ok (.aload_n 0, 1) := by decide +kernel
theorem dX7_readOrder_98 : decode cX7_readOrder 98 = .ok (.bipush 99, 2) := by decide +kernel
theorem dX7_readOrder_100 : decode cX7_readOrder 100 = .ok (.invokevirtual 170, 3) := by decide +kernel
theorem dX7_readOrder_103 : decode cX7_readOrder 103 = .ok (.ifCond .ne 23, 3) := by decide +kernel
theorem dX7_readOrder_106 : decode cX7_readOrder 106 = .ok (.aload_n 0, 1) := by decide +kernel
theorem dX7_readOrder_107 : decode cX7_readOrder 107 = .ok (.bipush 120, 2) := by decide +kernel
theorem dX7_readOrder_109 : decode cX7_readOrder 109 = .ok (.invokevirtual 170, 3) := by decide +kernel
theorem dX7_readOrder_112 : decode cX7_readOrder 112 = .ok (.ifCond .ne 14, 3) := by decide +kernel
theorem dX7_readOrder_115 : decode cX7_readOrder 115 = .ok (.aload_n 0, 1) := by decide +kernel
theorem dX7_readOrder_116 : decode cX7_readOrder 116 = .ok (.bipush 111, 2) := by decide +kernel
theorem dX7_readOrder_118 : decode cX7_readOrder 118 = .ok (.invokevirtual 170, 3) := by decide +kernel
theorem dX7_readOrder_121 : decode cX7_readOrder 121 = .ok (.ifCond .ne 5, 3) := by decide +kernel
theorem dX7_readOrder_124 : decode cX7_readOrder 124 = .ok (.iconst 0, 1) := by decide +kernel
theorem dX7_readOrder_125 : decode cX7_readOrder 125 = .ok (.ireturn, 1) := by decide +kernel
theorem dX7_readOrder_126 : decode cX7_readOrder 126 = .ok (.aload_n 0, 1) := by decide +kernel
theorem dX7_readOrder_127 : decode cX7_readOrder 127 = .ok (.iconst 2, 1) := by decide +kernel
theorem dX7_readOrder_128 : decode cX7_readOrder 128 = .ok (.invokevirtual 173, 3) := by decide +kernel
theorem dX7_readOrder_131 : decode cX7_readOrder 131 = .ok (.istore_n 1, 1) := by decide +kernel
theorem dX7_readOrder_132 : decode cX7_readOrder 132 = .ok (.aload_n 0, 1) := by decide +kernel
theorem dX7_readOrder_133 : decode cX7_readOrder 133 = .ok (.aload_n 0, 1) := by decide +kernel
theorem dX7_readOrder_134 : decode cX7_readOrder 134 = .ok (.getfield 164, 3) := by decide +kernel
theorem dX7_readOrder_137 : decode cX7_readOrder 137 = .ok (.putfield 176, 3) := by decide +kernel
theorem dX7_readOrder_140 : decode cX7_readOrder 140 = .ok (.aload_n 0, 1) := by decide +kernel
theorem dX7_readOrder_141 : decode cX7_readOrder 141 = .ok (.getfield 167, 3) := by decide +kernel
theorem dX7_readOrder_144 : decode cX7_readOrder 144 = .ok (.bipush 111, 2) := by decide +kernel
theorem dX7_readOrder_146 : decode cX7_readOrder 146 = .ok (.if_icmp .ne 63, 3) := by decide +kernel
theorem dX7_readOrder_149 : decode cX7_readOrder 149 = .ok (.iload_n 1, 1) := by decide +kernel
theorem dX7_readOrder_150 : decode cX7_readOrder 150 = .ok (.ifCond .eq 49, 3) := by decide +kernel
theorem dX7_readOrder_153 : decode cX7_readOrder 153 = .ok (.aload_n 0, 1) := by decide +kernel
theorem dX7_readOrder_154 : decode cX7_readOrder 154 = .ok (.bipush 61, 2) := by decide +kernel
theorem dX7_readOrder_156 : decode cX7_readOrder 156 = .ok (.invokevirtual 170, 3) := by decide +kernel
theorem dX7_readOrder_159 : decode cX7_readOrder 159 = .ok (.ifCond .eq 40, 3) := by decide +kernel
theorem dX7_readOrder_162 : decode cX7_readOrder 162 = .ok (.aload_n 0, 1) := by decide +kernel
theorem dX7_readOrder_163 : decode cX7_readOrder 163 = .ok (.getfield 161, 3) := by decide +kernel
theorem dX7_readOrder_166 : decode cX7_readOrder 166 = .ok (.aload_n 0, 1) := by decide +kernel
theorem dX7_readOrder_167 : decode cX7_readOrder 167 = .ok (.getfield 158, 3) := by decide +kernel
theorem dX7_readOrder_170 : decode cX7_readOrder 170 = .ok (.if_icmp .ge 29, 3) := by decide +kernel
theorem dX7_readOrder_173 : decode cX7_readOrder 173 = .ok (.aload_n 0, 1) := by decide +kernel
theorem dX7_readOrder_174 : decode cX7_readOrder 174 = .ok (.getfield 22, 3) := by decide +kernel
theorem dX7_readOrder_177 : decode cX7_readOrder 177 = .ok (.aload_n 0, 1) := by decide +kernel
theorem dX7_readOrder_178 : decode cX7_readOrder 178 = .ok (.getfield 161, 3) := by decide +kernel
theorem dX7_readOrder_181 : decode cX7_readOrder 181 = .ok (.iaload, 1) := by decide +kernel
theorem dX7_readOrder_182 : decode cX7_readOrder 182 = .ok (.bipush 48, 2) := by decide +kernel
theorem dX7_readOrder_184 : decode cX7_readOrder 184 = .ok (.if_icmp .eq 15, 3) := by decide +kernel
theorem dX7_readOrder_187 : decode cX7_readOrder 187 = .ok (.aload_n 0, 1) := by decide +kernel
theorem dX7_readOrder_188 : decode cX7_readOrder 188 = .ok (.iconst 5, 1) := by decide +kernel
theorem dX7_readOrder_189 : decode cX7_readOrder 189 = .ok (.invokevirtual 173, 3) := by decide +kernel
theorem dX7_readOrder_192 : decode cX7_readOrder 192 = .ok (.ifCond .eq 7, 3) := by decide +kernel
theorem dX7_readOrder_195 : decode cX7_readOrder 195 = .ok (.iconst 1, 1) := by decide +kernel
theorem dX7_readOrder_196 : decode cX7_readOrder 196 = .ok (.goto 4, 3) := by decide +kernel
theorem dX7_readOrder_199 : decode cX7_readOrder 199 = .ok (.iconst 0, 1) := by decide +kernel
theorem dX7_readOrder_200 : decode cX7_readOrder 200 = .ok (.istore_n 1, 1) := by decide +kernel
theorem dX7_readOrder_201 : decode cX7_readOrder 201 = .ok (.aload_n 0, 1) := by decide +kernel
theorem dX7_readOrder_202 : decode cX7_readOrder 202 = .ok (.aload_n 0, 1) := by decide +kernel
theorem dX7_readOrder_203 : decode cX7_readOrder 203 = .ok (.getfield 164, 3) := by decide +kernel
theorem dX7_readOrder_206 : decode cX7_readOrder 206 = .ok (.putfield 179, 3) := by decide +kernel
theorem dX7_readOrder_209 : decode cX7_readOrder 209 = .ok (.iload_n 1, 1) := by decide +kernel
theorem dX7_readOrder_210 : decode cX7_readOrder 210 = .ok (.ireturn, 1) := by decide +kernel
theorem dX7_isGood_0 : decode cX7_isGood 0 = .ok (.aload_n 0, 1) := by decide +kernel
theorem dX7_isGood_1 : decode cX7_isGood 1 = .ok (.iconst 0, 1) := by decide +kernel
theorem dX7_isGood_2 : decode cX7_isGood 2 = .ok (.putfield 161, 3) := by decide +kernel
theorem dX7_isGood_5 : decode cX7_isGood 5 = .ok (.aload_n 0, 1) := by decide +kernel
theorem dX7_isGood_6 : decode cX7_isGood 6 = .ok (.invokevirtual 182, 3) := by decide +kernel
theorem dX7_isGood_9 : decode cX7_isGood 9 = .ok (.istore_n 1, 1) := by decide +kernel
theorem dX7_isGood_10 : decode cX7_isGood 10 = .ok (.iload_n 1, 1) := by decide +kernel
theorem dX7_isGood_11 : decode cX7_isGood 11 = .ok (.ifCond .eq 39, 3) := by decide +kernel
theorem dX7_isGood_14 : decode cX7_isGood 14 = .ok (.aload_n 0, 1) := by decide +kernel
theorem dX7_isGood_15 : decode cX7_isGood 15 = .ok (.getfield 161, 3) := by decide +kernel
theorem dX7_isGood_18 : decode cX7_isGood 18 = .ok (.aload_n 0, 1) := by decide +kernel
theorem dX7_isGood_19 : decode cX7_isGood 19 = .ok (.getfield 158, 3) := by decide +kernel
theorem dX7_isGood_22 : decode cX7_isGood 22 = .ok (.if_icmp .ge 28, 3) := by decide +kernel
theorem dX7_isGood_25 : decode cX7_isGood 25 = .ok (.aload_n 0, 1) := by decide +kernel
theorem dX7_isGood_26 : decode cX7_isGood 26 = .ok (.bipush 59, 2) := by decide +kernel
theorem dX7_isGood_28 : decode cX7_isGood 28 = .ok (.invokevirtual 170, 3) := by decide +kernel
theorem dX7_isGood_31 : decode cX7_isGood 31 = .ok (.ifCond .eq 14, 3) := by decide +kernel
theorem dX7_isGood_34 : decode cX7_isGood 34 = .ok (.aload_n 0, 1) := by decide +kernel
theorem dX7_isGood_35 : decode cX7_isGood 35 = .ok (.invokevirtual 182, 3) := by decide +kernel
theorem dX7_isGood_38 : decode cX7_isGood 38 = .ok (.ifCond .eq 7, 3) := by decide +kernel
theorem dX7_isGood_41 : decode cX7_isGood 41 = .ok (.iconst 1, 1) := by decide +kernel
theorem dX7_isGood_42 : decode cX7_isGood 42 = .ok (.goto 4, 3) := by decide +kernel
theorem dX7_isGood_45 : decode cX7_isGood 45 = .ok (.iconst 0, 1) := by decide +kernel
theorem dX7_isGood_46 : decode cX7_isGood 46 = .ok (.istore_n 1, 1) := by decide +kernel
theorem dX7_isGood_47 : decode cX7_isGood 47 = .ok (.goto (-37), 3) := by decide +kernel
theorem dX7_isGood_50 : decode cX7_isGood 50 = .ok (.iload_n 1, 1) := by decide +kernel
theorem dX7_isGood_51 : decode cX7_isGood 51 = .ok (.ireturn, 1) := by decide +kernel
theorem dX7_doOrder_0 : decode cX7_doOrder 0 = .ok (.aload_n 0, 1) := by decide +kernel
theorem dX7_doOrder_1 : decode cX7_doOrder 1 = .ok (.getfield 167, 3) := by decide +kernel
theorem dX7_doOrder_4 : decode cX7_doOrder 4 = .ok (.lookupswitch 88 #[(98, 44), (99, 70), (109, 57), (120, 79)], 44) := by decide +kernel
theorem dX7_doOrder_48 : decode cX7_doOrder 48 = .ok (.aload_n 0, 1) := by decide +kernel
theorem dX7_doOrder_49 : decode cX7_doOrder 49 = .ok (.aload_n 0, 1) := by decide +kernel
theorem dX7_doOrder_50 : decode cX7_doOrder 50 = .ok (.getfield 176, 3) := by decide +kernel
theorem dX7_doOrder_53 : decode cX7_doOrder 53 = .ok (.aload_n 0, 1) := by decide +kernel
theorem dX7_doOrder_54 : decode cX7_doOrder 54 = .ok (.getfield 179, 3) := by decide +kernel
theorem dX7_doOrder_57 : decode cX7_doOrder 57 = .ok (.invokevirtual 133, 3) := by decide +kernel
theorem dX7_doOrder_60 : decode cX7_doOrder 60 = .ok (.ireturn, 1) := by decide +kernel
theorem dX7_doOrder_61 : decode cX7_doOrder 61 = .ok (.aload_n 0, 1) := by decide +kernel
theorem dX7_doOrder_62 : decode cX7_doOrder 62 = .ok (.aload_n 0, 1) := by decide +kernel
theorem dX7_doOrder_63 : decode cX7_doOrder 63 = .ok (.getfield 176, 3) := by decide +kernel
theorem dX7_doOrder_66 : decode cX7_doOrder 66 = .ok (.aload_n 0, 1) := by decide +kernel
theorem dX7_doOrder_67 : decode cX7_doOrder 67 = .ok (.getfield 179, 3) := by decide +kernel
theorem dX7_doOrder_70 : decode cX7_doOrder 70 = .ok (.invokevirtual 139, 3) := by decide +kernel
theorem dX7_doOrder_73 : decode cX7_doOrder 73 = .ok (.ireturn, 1) := by decide +kernel
theorem dX7_doOrder_74 : decode cX7_doOrder 74 = .ok (.aload_n 0, 1) := by decide +kernel
theorem dX7_doOrder_75 : decode cX7_doOrder 75 = .ok (.aload_n 0, 1) := by decide +kernel
theorem dX7_doOrder_76 : decode cX7_doOrder 76 = .ok (.getfield 176, 3) := by decide +kernel
theorem dX7_doOrder_79 : decode cX7_doOrder 79 = .ok (.invokevirtual 142, 3) := by decide +kernel
theorem dX7_doOrder_82 : decode cX7_doOrder 82 = .ok (.ireturn, 1) := by decide +kernel
theorem dX7_doOrder_83 : decode cX7_doOrder 83 = .ok (.aload_n 0, 1) := by decide +kernel
theorem dX7_doOrder_84 : decode cX7_doOrder 84 = .ok (.aload_n 0, 1) := by decide +kernel
theorem dX7_doOrder_85 : decode cX7_doOrder 85 = .ok (.getfield 176, 3) := by decide +kernel
theorem dX7_doOrder_88 : decode cX7_doOrder 88 = .ok (.invokevirtual 148, 3) := by decide +kernel
theorem dX7_doOrder_91 : decode cX7_doOrder 91 = .ok (.ireturn, 1) := by decide +kernel
theorem dX7_doOrder_92 : decode cX7_doOrder 92 = .ok (.aload_n 0, 1) := by decide +kernel
theorem dX7_doOrder_93 : decode cX7_doOrder 93 = .ok (.aload_n 0, 1) := by decide +kernel
theorem dX7_doOrder_94 : decode cX7_doOrder 94 = .ok (.getfield 176, 3) := by decide +kernel
theorem dX7_doOrder_97 : decode cX7_doOrder 97 = .ok (.aload_n 0, 1) := by decide +kernel
theorem dX7_doOrder_98 : decode cX7_doOrder 98 = .ok (.getfield 179, 3) := by decide +kernel
theorem dX7_doOrder_101 : decode cX7_doOrder 101 = .ok (.invokevirtual 145, 3) := by decide +kernel
theorem dX7_doOrder_104 : decode cX7_doOrder 104 = .ok (.ireturn, 1) := by decide +kernel
theorem dX7_perform_0 : decode cX7_perform 0 = .ok (.aload_n 0, 1) := by decide +kernel
theorem dX7_perform_1 : decode cX7_perform 1 = .ok (.invokevirtual 186, 3) := by decide +kernel
theorem dX7_perform_4 : decode cX7_perform 4 = .ok (.ifCond .ne 11, 3) := by decide +kernel
theorem dX7_perform_7 : decode cX7_perform 7 = .ok (.bipush (-100), 2) := by decide +kernel
theorem dX7_perform_9 : decode cX7_perform 9 = .ok (.aload_n 0, 1) := by decide +kernel
theorem dX7_perform_10 : decode cX7_perform 10 = .ok (.getfield 161, 3) := by decide +kernel
theorem dX7_perform_13 : decode cX7_perform 13 = .ok (.isub, 1) := by decide +kernel
theorem dX7_perform_14 : decode cX7_perform 14 = .ok (.ireturn, 1) := by decide +kernel
theorem dX7_perform_15 : decode cX7_perform 15 = .ok (.aload_n 0, 1) := by decide +kernel
theorem dX7_perform_16 : decode cX7_perform 16 = .ok (.invokevirtual 130, 3) := by decide +kernel
theorem dX7_perform_19 : decode cX7_perform 19 = .ok (.aload_n 0, 1) := by decide +kernel
theorem dX7_perform_20 : decode cX7_perform 20 = .ok (.iconst 0, 1) := by decide +kernel
theorem dX7_perform_21 : decode cX7_perform 21 = .ok (.putfield 161, 3) := by decide +kernel
theorem dX7_perform_24 : decode cX7_perform 24 = .ok (.iconst 0, 1) := by decide +kernel
theorem dX7_perform_25 : decode cX7_perform 25 = .ok (.istore_n 1, 1) := by decide +kernel
theorem dX7_perform_26 : decode cX7_perform 26 = .ok (.iconst 0, 1) := by decide +kernel
theorem dX7_perform_27 : decode cX7_perform 27 = .ok (.istore_n 2, 1) := by decide +kernel
theorem dX7_perform_28 : decode cX7_perform 28 = .ok (.iload_n 2, 1) := by decide +kernel
theorem dX7_perform_29 : decode cX7_perform 29 = .ok (.ifCond .lt 37, 3) := by decide +kernel
theorem dX7_perform_32 : decode cX7_perform 32 = .ok (.aload_n 0, 1) := by decide +kernel
theorem dX7_perform_33 : decode cX7_perform 33 = .ok (.getfield 161, 3) := by decide +kernel
theorem dX7_perform_36 : decode cX7_perform 36 = .ok (.aload_n 0, 1) := by decide +kernel
theorem dX7_perform_37 : decode cX7_perform 37 = .ok (.getfield 158, 3) := by decide +kernel
theorem dX7_perform_40 : decode cX7_perform 40 = .ok (.if_icmp .ge 26, 3) := by decide +kernel
theorem dX7_perform_43 : decode cX7_perform 43 = .ok (.aload_n 0, 1) := by decide +kernel
theorem dX7_perform_44 : decode cX7_perform 44 = .ok (.bipush 59, 2) := by decide +kernel
theorem dX7_perform_46 : decode cX7_perform 46 = .ok (.invokevirtual 170, 3) := by decide +kernel
theorem dX7_perform_49 : decode cX7_perform 49 = .ok (.pop, 1) := by decide +kernel
theorem dX7_perform_50 : decode cX7_perform 50 = .ok (.aload_n 0, 1) := by decide +kernel
theorem dX7_perform_51 : decode cX7_perform 51 = .ok (.invokevirtual 182, 3) := by decide +kernel
theorem dX7_perform_54 : decode cX7_perform 54 = .ok (.pop, 1) := by decide +kernel
theorem dX7_perform_55 : decode cX7_perform 55 = .ok (.aload_n 0, 1) := by decide +kernel
theorem dX7_perform_56 : decode cX7_perform 56 = .ok (.invokevirtual 189, 3) := by decide +kernel
theorem dX7_perform_59 : decode cX7_perform 59 = .ok (.istore_n 2, 1) := by decide +kernel
theorem dX7_perform_60 : decode cX7_perform 60 = .ok (.iinc 1 1, 3) := by decide +kernel
theorem dX7_perform_63 : decode cX7_perform 63 = .ok (.goto (-35), 3) := by decide +kernel
theorem dX7_perform_66 : decode cX7_perform 66 = .ok (.iload_n 2, 1) := by decide +kernel
theorem dX7_perform_67 : decode cX7_perform 67 = .ok (.ifCond .ge 9, 3) := by decide +kernel
theorem dX7_perform_70 : decode cX7_perform 70 = .ok (.aload_n 0, 1) := by decide +kernel
theorem dX7_perform_71 : decode cX7_perform 71 = .ok (.invokevirtual 127, 3) := by decide +kernel
theorem dX7_perform_74 : decode cX7_perform 74 = .ok (.iload_n 2, 1) := by decide +kernel
theorem dX7_perform_75 : decode cX7_perform 75 = .ok (.ireturn, 1) := by decide +kernel
theorem dX7_perform_76 : decode cX7_perform 76 = .ok (.aload_n 0, 1) := by decide +kernel
theorem dX7_perform_77 : decode cX7_perform 77 = .ok (.iload_n 1, 1) := by decide +kernel
theorem dX7_perform_78 : decode cX7_perform 78 = .ok (.invokevirtual 136, 3) := by decide +kernel
theorem dX7_perform_81 : decode cX7_perform 81 = .ok (.ireturn, 1) := by decide +kernel
theorem dX7_undo_0 : decode cX7_undo 0 = .ok (.aload_n 0, 1) := by decide +kernel
theorem dX7_undo_1 : decode cX7_undo 1 = .ok (.getfield 31, 3) := by decide +kernel
theorem dX7_undo_4 : decode cX7_undo 4 = .ok (.ifCond .ne 6, 3) := by decide +kernel
theorem dX7_undo_7 : decode cX7_undo 7 = .ok (.bipush (-5), 2) := by decide +kernel
theorem dX7_undo_9 : decode cX7_undo 9 = .ok (.ireturn, 1) := by decide +kernel
theorem dX7_undo_10 : decode cX7_undo 10 = .ok (.aload_n 0, 1) := by decide +kernel
theorem dX7_undo_11 : decode cX7_undo 11 = .ok (.dup, 1) := by decide +kernel
theorem dX7_undo_12 : decode cX7_undo 12 = .ok (.getfield 31, 3) := by decide +kernel
theorem dX7_undo_15 : decode cX7_undo 15 = .ok (.iconst 1, 1) := by decide +kernel
theorem dX7_undo_16 : decode cX7_undo 16 = .ok (.isub, 1) := by decide +kernel
theorem dX7_undo_17 : decode cX7_undo 17 = .ok (.putfield 31, 3) := by decide +kernel
theorem dX7_undo_20 : decode cX7_undo 20 = .ok (.iconst 0, 1) := by decide +kernel
theorem dX7_undo_21 : decode cX7_undo 21 = .ok (.istore_n 1, 1) := by decide +kernel
theorem dX7_undo_22 : decode cX7_undo 22 = .ok (.iload_n 1, 1) := by decide +kernel
theorem dX7_undo_23 : decode cX7_undo 23 = .ok (.sipush 607, 3) := by decide +kernel
theorem dX7_undo_26 : decode cX7_undo 26 = .ok (.if_icmp .ge 30, 3) := by decide +kernel
theorem dX7_undo_29 : decode cX7_undo 29 = .ok (.aload_n 0, 1) := by decide +kernel
theorem dX7_undo_30 : decode cX7_undo 30 = .ok (.getfield 7, 3) := by decide +kernel
theorem dX7_undo_33 : decode cX7_undo 33 = .ok (.iload_n 1, 1) := by decide +kernel
theorem dX7_undo_34 : decode cX7_undo 34 = .ok (.aload_n 0, 1) := by decide +kernel
theorem dX7_undo_35 : decode cX7_undo 35 = .ok (.getfield 16, 3) := by decide +kernel
theorem dX7_undo_38 : decode cX7_undo 38 = .ok (.sipush 607, 3) := by decide +kernel
theorem dX7_undo_41 : decode cX7_undo 41 = .ok (.aload_n 0, 1) := by decide +kernel
theorem dX7_undo_42 : decode cX7_undo 42 = .ok (.getfield 31, 3) := by decide +kernel
theorem dX7_undo_45 : decode cX7_undo 45 = .ok (.imul, 1) := by decide +kernel
theorem dX7_undo_46 : decode cX7_undo 46 = .ok (.iload_n 1, 1) := by decide +kernel
theorem dX7_undo_47 : decode cX7_undo 47 = .ok (.iadd, 1) := by decide +kernel
theorem dX7_undo_48 : decode cX7_undo 48 = .ok (.iaload, 1) := by decide +kernel
theorem dX7_undo_49 : decode cX7_undo 49 = .ok (.iastore, 1) := by decide +kernel
theorem dX7_undo_50 : decode cX7_undo 50 = .ok (.iinc 1 1, 3) := by decide +kernel
theorem dX7_undo_53 : decode cX7_undo 53 = .ok (.goto (-31), 3) := by decide +kernel
theorem dX7_undo_56 : decode cX7_undo 56 = .ok (.aload_n 0, 1) := by decide +kernel
theorem dX7_undo_57 : decode cX7_undo 57 = .ok (.getfield 31, 3) := by decide +kernel
theorem dX7_undo_60 : decode cX7_undo 60 = .ok (.ireturn, 1) := by decide +kernel
theorem dX7_keep_0 : decode cX7_keep 0 = .ok (.iconst 0, 1) := by decide +kernel
theorem dX7_keep_1 : decode cX7_keep 1 = .ok (.istore_n 1, 1) := by decide +kernel
theorem dX7_keep_2 : decode cX7_keep 2 = .ok (.iload_n 1, 1) := by decide +kernel
theorem dX7_keep_3 : decode cX7_keep 3 = .ok (.sipush 607, 3) := by decide +kernel
theorem dX7_keep_6 : decode cX7_keep 6 = .ok (.if_icmp .ge 21, 3) := by decide +kernel
theorem dX7_keep_9 : decode cX7_keep 9 = .ok (.aload_n 0, 1) := by decide +kernel
theorem dX7_keep_10 : decode cX7_keep 10 = .ok (.getfield 19, 3) := by decide +kernel
theorem dX7_keep_13 : decode cX7_keep 13 = .ok (.iload_n 1, 1) := by decide +kernel
theorem dX7_keep_14 : decode cX7_keep 14 = .ok (.aload_n 0, 1) := by decide +kernel
theorem dX7_keep_15 : decode cX7_keep 15 = .ok (.getfield 7, 3) := by decide +kernel
theorem dX7_keep_18 : decode cX7_keep 18 = .ok (.iload_n 1, 1) := by decide +kernel
theorem dX7_keep_19 : decode cX7_keep 19 = .ok (.iaload, 1) := by decide +kernel
theorem dX7_keep_20 : decode cX7_keep 20 = .ok (.iastore, 1) := by decide +kernel
theorem dX7_keep_21 : decode cX7_keep 21 = .ok (.iinc 1 1, 3) := by decide +kernel
theorem dX7_keep_24 : decode cX7_keep 24 = .ok (.goto (-22), 3) := by decide +kernel
theorem dX7_keep_27 : decode cX7_keep 27 = .ok (.aload_n 0, 1) := by decide +kernel
theorem dX7_keep_28 : decode cX7_keep 28 = .ok (.iconst 1, 1) := by decide +kernel
theorem dX7_keep_29 : decode cX7_keep 29 = .ok (.putfield 192, 3) := by decide +kernel
theorem dX7_keep_32 : decode cX7_keep 32 = .ok (.aload_n 0, 1) := by decide +kernel
theorem dX7_keep_33 : decode cX7_keep 33 = .ok (.getfield 7, 3) := by decide +kernel
theorem dX7_keep_36 : decode cX7_keep 36 = .ok (.iconst 0, 1) := by decide +kernel
theorem dX7_keep_37 : decode cX7_keep 37 = .ok (.iaload, 1) := by decide +kernel
theorem dX7_keep_38 : decode cX7_keep 38 = .ok (.ireturn, 1) := by decide +kernel
theorem dX7_restore_0 : decode cX7_restore 0 = .ok (.aload_n 0, 1) := by decide +kernel
theorem dX7_restore_1 : decode cX7_restore 1 = .ok (.getfield 192, 3) := by decide +kernel
theorem dX7_restore_4 : decode cX7_restore 4 = .ok (.ifCond .ne 6, 3) := by decide +kernel
theorem dX7_restore_7 : decode cX7_restore 7 = .ok (.bipush (-5), 2) := by decide +kernel
theorem dX7_restore_9 : decode cX7_restore 9 = .ok (.ireturn, 1) := by decide +kernel
theorem dX7_restore_10 : decode cX7_restore 10 = .ok (.aload_n 0, 1) := by decide +kernel
theorem dX7_restore_11 : decode cX7_restore 11 = .ok (.invokevirtual 124, 3) := by decide +kernel
theorem dX7_restore_14 : decode cX7_restore 14 = .ok (.iconst 0, 1) := by decide +kernel
theorem dX7_restore_15 : decode cX7_restore 15 = .ok (.istore_n 1, 1) := by decide +kernel
theorem dX7_restore_16 : decode cX7_restore 16 = .ok (.iload_n 1, 1) := by decide +kernel
theorem dX7_restore_17 : decode cX7_restore 17 = .ok (.sipush 607, 3) := by decide +kernel
theorem dX7_restore_20 : decode cX7_restore 20 = .ok (.if_icmp .ge 21, 3) := by decide +kernel
theorem dX7_restore_23 : decode cX7_restore 23 = .ok (.aload_n 0, 1) := by decide +kernel
theorem dX7_restore_24 : decode cX7_restore 24 = .ok (.getfield 7, 3) := by decide +kernel
theorem dX7_restore_27 : decode cX7_restore 27 = .ok (.iload_n 1, 1) := by decide +kernel
theorem dX7_restore_28 : decode cX7_restore 28 = .ok (.aload_n 0, 1) := by decide +kernel
theorem dX7_restore_29 : decode cX7_restore 29 = .ok (.getfield 19, 3) := by decide +kernel
theorem dX7_restore_32 : decode cX7_restore 32 = .ok (.iload_n 1, 1) := by decide +kernel
theorem dX7_restore_33 : decode cX7_restore 33 = .ok (.iaload, 1) := by decide +kernel
theorem dX7_restore_34 : decode cX7_restore 34 = .ok (.iastore, 1) := by decide +kernel
theorem dX7_restore_35 : decode cX7_restore 35 = .ok (.iinc 1 1, 3) := by decide +kernel
theorem dX7_restore_38 : decode cX7_restore 38 = .ok (.goto (-22), 3) := by decide +kernel
theorem dX7_restore_41 : decode cX7_restore 41 = .ok (.aload_n 0, 1) := by decide +kernel
theorem dX7_restore_42 : decode cX7_restore 42 = .ok (.getfield 7, 3) := by decide +kernel
theorem dX7_restore_45 : decode cX7_restore 45 = .ok (.iconst 0, 1) := by decide +kernel
theorem dX7_restore_46 : decode cX7_restore 46 = .ok (.iaload, 1) := by decide +kernel
theorem dX7_restore_47 : decode cX7_restore 47 = .ok (.ireturn, 1) := by decide +kernel
theorem dX7_date_0 : decode cX7_date 0 = .ok (.aload_n 0, 1) := by decide +kernel
theorem dX7_date_1 : decode cX7_date 1 = .ok (.iload_n 1, 1) := by decide +kernel
theorem dX7_date_2 : decode cX7_date 2 = .ok (.invokevirtual 93, 3) := by decide +kernel
theorem dX7_date_5 : decode cX7_date 5 = .ok (.ifCond .ne 5, 3) := by decide +kernel
theorem dX7_date_8 : decode cX7_date 8 = .ok (.iconst (-1), 1) := by decide +kernel
theorem dX7_date_9 : decode cX7_date 9 = .ok (.ireturn, 1) := by decide +kernel
theorem dX7_date_10 : decode cX7_date 10 = .ok (.aload_n 0, 1) := by decide +kernel
theorem dX7_date_11 : decode cX7_date 11 = .ok (.iload_n 1, 1) := by decide +kernel
theorem dX7_date_12 : decode cX7_date 12 = .ok (.iconst 1, 1) := by decide +kernel
theorem dX7_date_13 : decode cX7_date 13 = .ok (.iconst 4, 1) := by decide +kernel
theorem dX7_date_14 : decode cX7_date 14 = .ok (.invokevirtual 96, 3) := by decide +kernel
theorem dX7_date_17 : decode cX7_date 17 = .ok (.istore_n 3, 1) := by decide +kernel
theorem dX7_date_18 : decode cX7_date 18 = .ok (.iload_n 2, 1) := by decide +kernel
theorem dX7_date_19 : decode cX7_date 19 = .ok (.tableswitch 175 0 13 #[69, 69, 69, 69, 69, 76, 94, 100, 108, 116, 127, 133, 152, 159], 69) := by decide +kernel
theorem dX7_date_88 : decode cX7_date 88 = .ok (.aload_n 0, 1) := by decide +kernel
theorem dX7_date_89 : decode cX7_date 89 = .ok (.iload_n 1, 1) := by decide +kernel
theorem dX7_date_90 : decode cX7_date 90 = .ok (.iload_n 2, 1) := by decide +kernel
theorem dX7_date_91 : decode cX7_date 91 = .ok (.invokevirtual 46, 3) := by decide +kernel
theorem dX7_date_94 : decode cX7_date 94 = .ok (.ireturn, 1) := by decide +kernel
theorem dX7_date_95 : decode cX7_date 95 = .ok (.aload_n 0, 1) := by decide +kernel
theorem dX7_date_96 : decode cX7_date 96 = .ok (.iload_n 1, 1) := by decide +kernel
theorem dX7_date_97 : decode cX7_date 97 = .ok (.invokevirtual 63, 3) := by decide +kernel
theorem dX7_date_100 : decode cX7_date 100 = .ok (.ifCond .eq 11, 3) := by decide +kernel
theorem dX7_date_103 : decode cX7_date 103 = .ok (.aload_n 0, 1) := by decide +kernel
theorem dX7_date_104 : decode cX7_date 104 = .ok (.iload_n 1, 1) := by decide +kernel
theorem dX7_date_105 : decode cX7_date 105 = .ok (.invokevirtual 49, 3) := by decide +kernel
theorem dX7_date_108 : decode cX7_date 108 = .ok (.goto 4, 3) := by decide +kernel
theorem dX7_date_111 : decode cX7_date 111 = .ok (.iconst 0, 1) := by decide +kernel
theorem dX7_date_112 : decode cX7_date 112 = .ok (.ireturn, 1) := by decide +kernel
theorem dX7_date_113 : decode cX7_date 113 = .ok (.aload_n 0, 1) := by decide +kernel
theorem dX7_date_114 : decode cX7_date 114 = .ok (.iload_n 1, 1) := by decide +kernel
theorem dX7_date_115 : decode cX7_date 115 = .ok (.invokevirtual 60, 3) := by decide +kernel
theorem dX7_date_118 : decode cX7_date 118 = .ok (.ireturn, 1) := by decide +kernel
theorem dX7_date_119 : decode cX7_date 119 = .ok (.aload_n 0, 1) := by decide +kernel
theorem dX7_date_120 : decode cX7_date 120 = .ok (.iload_n 1, 1) := by decide +kernel
theorem dX7_date_121 : decode cX7_date 121 = .ok (.iconst 2, 1) := by decide +kernel
theorem dX7_date_122 : decode cX7_date 122 = .ok (.iconst 2, 1) := by decide +kernel
theorem dX7_date_123 : decode cX7_date 123 = .ok (.invokevirtual 56, 3) := by decide +kernel
theorem dX7_date_126 : decode cX7_date 126 = .ok (.ireturn, 1) := by decide +kernel
theorem dX7_date_127 : decode cX7_date 127 = .ok (.aload_n 0, 1) := by decide +kernel
theorem dX7_date_128 : decode cX7_date 128 = .ok (.iload_n 1, 1) := by decide +kernel
theorem dX7_date_129 : decode cX7_date 129 = .ok (.iconst 1, 1) := by decide +kernel
theorem dX7_date_130 : decode cX7_date 130 = .ok (.iconst 1, 1) := by decide +kernel
theorem dX7_date_131 : decode cX7_date 131 = .ok (.invokevirtual 56, 3) := by decide +kernel
theorem dX7_date_134 : decode cX7_date 134 = .ok (.ireturn, 1) := by decide +kernel
theorem dX7_date_135 : decode cX7_date 135 = .ok (.aload_n 0, 1) := by decide +kernel
theorem dX7_date_136 : decode cX7_date 136 = .ok (.iload_n 1, 1) := by decide +kernel
theorem dX7_date_137 : decode cX7_date 137 = .ok (.aload_n 0, 1) := by decide +kernel
theorem dX7_date_138 : decode cX7_date 138 = .ok (.iload_n 1, 1) := by decide +kernel
theorem dX7_date_139 : decode cX7_date 139 = .ok (.invokevirtual 49, 3) := by decide +kernel
theorem dX7_date_142 : decode cX7_date 142 = .ok (.invokevirtual 67, 3) := by decide +kernel
theorem dX7_date_145 : decode cX7_date 145 = .ok (.ireturn, 1) := by decide +kernel
theorem dX7_date_146 : decode cX7_date 146 = .ok (.aload_n 0, 1) := by decide +kernel
theorem dX7_date_147 : decode cX7_date 147 = .ok (.iload_n 1, 1) := by decide +kernel
theorem dX7_date_148 : decode cX7_date 148 = .ok (.invokevirtual 78, 3) := by decide +kernel
theorem dX7_date_151 : decode cX7_date 151 = .ok (.ireturn, 1) := by decide +kernel
theorem dX7_date_152 : decode cX7_date 152 = .ok (.aload_n 0, 1) := by decide +kernel
theorem dX7_date_153 : decode cX7_date 153 = .ok (.iload_n 1, 1) := by decide +kernel
theorem dX7_date_154 : decode cX7_date 154 = .ok (.invokevirtual 63, 3) := by decide +kernel
theorem dX7_date_157 : decode cX7_date 157 = .ok (.ifCond .eq 11, 3) := by decide +kernel
theorem dX7_date_160 : decode cX7_date 160 = .ok (.aload_n 0, 1) := by decide +kernel
theorem dX7_date_161 : decode cX7_date 161 = .ok (.iload_n 1, 1) := by decide +kernel
theorem dX7_date_162 : decode cX7_date 162 = .ok (.invokevirtual 87, 3) := by decide +kernel
theorem dX7_date_165 : decode cX7_date 165 = .ok (.goto 5, 3) := by decide +kernel
theorem dX7_date_168 : decode cX7_date 168 = .ok (.bipush (-5), 2) := by decide +kernel
theorem dX7_date_170 : decode cX7_date 170 = .ok (.ireturn, 1) := by decide +kernel
theorem dX7_date_171 : decode cX7_date 171 = .ok (.aload_n 0, 1) := by decide +kernel
theorem dX7_date_172 : decode cX7_date 172 = .ok (.iload_n 1, 1) := by decide +kernel
theorem dX7_date_173 : decode cX7_date 173 = .ok (.iconst 5, 1) := by decide +kernel
theorem dX7_date_174 : decode cX7_date 174 = .ok (.invokevirtual 46, 3) := by decide +kernel
theorem dX7_date_177 : decode cX7_date 177 = .ok (.ireturn, 1) := by decide +kernel
theorem dX7_date_178 : decode cX7_date 178 = .ok (.iload_n 3, 1) := by decide +kernel
theorem dX7_date_179 : decode cX7_date 179 = .ok (.ifCond .ge 8, 3) := by decide +kernel
theorem dX7_date_182 : decode cX7_date 182 = .ok (.bipush (-5), 2) := by decide +kernel
theorem dX7_date_184 : decode cX7_date 184 = .ok (.goto 9, 3) := by decide +kernel
theorem dX7_date_187 : decode cX7_date 187 = .ok (.aload_n 0, 1) := by decide +kernel
theorem dX7_date_188 : decode cX7_date 188 = .ok (.iload_n 3, 1) := by decide +kernel
theorem dX7_date_189 : decode cX7_date 189 = .ok (.iconst 4, 1) := by decide +kernel
theorem dX7_date_190 : decode cX7_date 190 = .ok (.invokevirtual 53, 3) := by decide +kernel
theorem dX7_date_193 : decode cX7_date 193 = .ok (.ireturn, 1) := by decide +kernel
theorem dX7_date_194 : decode cX7_date 194 = .ok (.bipush (-2), 2) := by decide +kernel
theorem dX7_date_196 : decode cX7_date 196 = .ok (.ireturn, 1) := by decide +kernel
theorem dX7_waiting_0 : decode cX7_waiting 0 = .ok (.aload_n 0, 1) := by decide +kernel
theorem dX7_waiting_1 : decode cX7_waiting 1 = .ok (.iload_n 1, 1) := by decide +kernel
theorem dX7_waiting_2 : decode cX7_waiting 2 = .ok (.invokevirtual 93, 3) := by decide +kernel
theorem dX7_waiting_5 : decode cX7_waiting 5 = .ok (.ifCond .ne 5, 3) := by decide +kernel
theorem dX7_waiting_8 : decode cX7_waiting 8 = .ok (.iconst (-1), 1) := by decide +kernel
theorem dX7_waiting_9 : decode cX7_waiting 9 = .ok (.ireturn, 1) := by decide +kernel
theorem dX7_waiting_10 : decode cX7_waiting 10 = .ok (.iload_n 2, 1) := by decide +kernel
theorem dX7_waiting_11 : decode cX7_waiting 11 = .ok (.ifCond .ge 6, 3) := by decide +kernel
theorem dX7_waiting_14 : decode cX7_waiting 14 = .ok (.bipush (-2), 2) := by decide +kernel
theorem dX7_waiting_16 : decode cX7_waiting 16 = .ok (.ireturn, 1) := by decide +kernel
theorem dX7_waiting_17 : decode cX7_waiting 17 = .ok (.iload_n 2, 1) := by decide +kernel
theorem dX7_waiting_18 : decode cX7_waiting 18 = .ok (.aload_n 0, 1) := by decide +kernel
theorem dX7_waiting_19 : decode cX7_waiting 19 = .ok (.iload_n 1, 1) := by decide +kernel
theorem dX7_waiting_20 : decode cX7_waiting 20 = .ok (.iconst 5, 1) := by decide +kernel
theorem dX7_waiting_21 : decode cX7_waiting 21 = .ok (.invokevirtual 46, 3) := by decide +kernel
theorem dX7_waiting_24 : decode cX7_waiting 24 = .ok (.if_icmp .ge 15, 3) := by decide +kernel
theorem dX7_waiting_27 : decode cX7_waiting 27 = .ok (.aload_n 0, 1) := by decide +kernel
theorem dX7_waiting_28 : decode cX7_waiting 28 = .ok (.iload_n 1, 1) := by decide +kernel
theorem dX7_waiting_29 : decode cX7_waiting 29 = .ok (.bipush 6, 2) := by decide +kernel
theorem dX7_waiting_31 : decode cX7_waiting 31 = .ok (.iload_n 2, 1) := by decide +kernel
theorem dX7_waiting_32 : decode cX7_waiting 32 = .ok (.iadd, 1) := by decide +kernel
theorem dX7_waiting_33 : decode cX7_waiting 33 = .ok (.invokevirtual 46, 3) := by decide +kernel
theorem dX7_waiting_36 : decode cX7_waiting 36 = .ok (.goto 5, 3) := by decide +kernel
theorem dX7_waiting_39 : decode cX7_waiting 39 = .ok (.bipush (-5), 2) := by decide +kernel
theorem dX7_waiting_41 : decode cX7_waiting 41 = .ok (.ireturn, 1) := by decide +kernel
theorem dX7_right_0 : decode cX7_right 0 = .ok (.aload_n 0, 1) := by decide +kernel
theorem dX7_right_1 : decode cX7_right 1 = .ok (.iload_n 1, 1) := by decide +kernel
theorem dX7_right_2 : decode cX7_right 2 = .ok (.invokevirtual 102, 3) := by decide +kernel
theorem dX7_right_5 : decode cX7_right 5 = .ok (.ifCond .ne 5, 3) := by decide +kernel
theorem dX7_right_8 : decode cX7_right 8 = .ok (.iconst (-1), 1) := by decide +kernel
theorem dX7_right_9 : decode cX7_right 9 = .ok (.ireturn, 1) := by decide +kernel
theorem dX7_right_10 : decode cX7_right 10 = .ok (.iload_n 2, 1) := by decide +kernel
theorem dX7_right_11 : decode cX7_right 11 = .ok (.iconst 0, 1) := by decide +kernel
theorem dX7_right_12 : decode cX7_right 12 = .ok (.bipush 8, 2) := by decide +kernel
theorem dX7_right_14 : decode cX7_right 14 = .ok (.invokestatic 35, 3) := by decide +kernel
theorem dX7_right_17 : decode cX7_right 17 = .ok (.ifCond .ne 6, 3) := by decide +kernel
theorem dX7_right_20 : decode cX7_right 20 = .ok (.bipush (-2), 2) := by decide +kernel
theorem dX7_right_22 : decode cX7_right 22 = .ok (.ireturn, 1) := by decide +kernel
theorem dX7_right_23 : decode cX7_right 23 = .ok (.iload_n 2, 1) := by decide +kernel
theorem dX7_right_24 : decode cX7_right 24 = .ok (.bipush 7, 2) := by decide +kernel
theorem dX7_right_26 : decode cX7_right 26 = .ok (.if_icmp .ge 12, 3) := by decide +kernel
theorem dX7_right_29 : decode cX7_right 29 = .ok (.aload_n 0, 1) := by decide +kernel
theorem dX7_right_30 : decode cX7_right 30 = .ok (.iload_n 1, 1) := by decide +kernel
theorem dX7_right_31 : decode cX7_right 31 = .ok (.iload_n 2, 1) := by decide +kernel
theorem dX7_right_32 : decode cX7_right 32 = .ok (.invokevirtual 53, 3) := by decide +kernel
theorem dX7_right_35 : decode cX7_right 35 = .ok (.goto 43, 3) := by decide +kernel
theorem dX7_right_38 : decode cX7_right 38 = .ok (.iload_n 2, 1) := by decide +kernel
theorem dX7_right_39 : decode cX7_right 39 = .ok (.bipush 8, 2) := by decide +kernel
theorem dX7_right_41 : decode cX7_right 41 = .ok (.if_icmp .ne 19, 3) := by decide +kernel
theorem dX7_right_44 : decode cX7_right 44 = .ok (.aload_n 0, 1) := by decide +kernel
theorem dX7_right_45 : decode cX7_right 45 = .ok (.iload_n 1, 1) := by decide +kernel
theorem dX7_right_46 : decode cX7_right 46 = .ok (.invokevirtual 115, 3) := by decide +kernel
theorem dX7_right_49 : decode cX7_right 49 = .ok (.ifCond .eq 7, 3) := by decide +kernel
theorem dX7_right_52 : decode cX7_right 52 = .ok (.iconst 1, 1) := by decide +kernel
theorem dX7_right_53 : decode cX7_right 53 = .ok (.goto 25, 3) := by decide +kernel
theorem dX7_right_56 : decode cX7_right 56 = .ok (.iconst 0, 1) := by decide +kernel
theorem dX7_right_57 : decode cX7_right 57 = .ok (.goto 21, 3) := by decide +kernel
theorem dX7_right_60 : decode cX7_right 60 = .ok (.aload_n 0, 1) := by decide +kernel
theorem dX7_right_61 : decode cX7_right 61 = .ok (.iload_n 1, 1) := by decide +kernel
theorem dX7_right_62 : decode cX7_right 62 = .ok (.invokevirtual 105, 3) := by decide +kernel
theorem dX7_right_65 : decode cX7_right 65 = .ok (.ifCond .eq 11, 3) := by decide +kernel
theorem dX7_right_68 : decode cX7_right 68 = .ok (.aload_n 0, 1) := by decide +kernel
theorem dX7_right_69 : decode cX7_right 69 = .ok (.iload_n 1, 1) := by decide +kernel
theorem dX7_right_70 : decode cX7_right 70 = .ok (.invokevirtual 108, 3) := by decide +kernel
theorem dX7_right_73 : decode cX7_right 73 = .ok (.goto 5, 3) := by decide +kernel
theorem dX7_right_76 : decode cX7_right 76 = .ok (.bipush (-5), 2) := by decide +kernel
theorem dX7_right_78 : decode cX7_right 78 = .ok (.ireturn, 1) := by decide +kernel
theorem dX7_holder_0 : decode cX7_holder 0 = .ok (.iload_n 1, 1) := by decide +kernel
theorem dX7_holder_1 : decode cX7_holder 1 = .ok (.invokestatic 90, 3) := by decide +kernel
theorem dX7_holder_4 : decode cX7_holder 4 = .ok (.ifCond .ne 5, 3) := by decide +kernel
theorem dX7_holder_7 : decode cX7_holder 7 = .ok (.iconst (-1), 1) := by decide +kernel
theorem dX7_holder_8 : decode cX7_holder 8 = .ok (.ireturn, 1) := by decide +kernel
theorem dX7_holder_9 : decode cX7_holder 9 = .ok (.iconst 0, 1) := by decide +kernel
theorem dX7_holder_10 : decode cX7_holder 10 = .ok (.istore_n 3, 1) := by decide +kernel
theorem dX7_holder_11 : decode cX7_holder 11 = .ok (.iconst 0, 1) := by decide +kernel
theorem dX7_holder_12 : decode cX7_holder 12 = .ok (.istore 4, 2) := by decide +kernel
theorem dX7_holder_14 : decode cX7_holder 14 = .ok (.iconst 0, 1) := by decide +kernel
theorem dX7_holder_15 : decode cX7_holder 15 = .ok (.istore 5, 2) := by decide +kernel
theorem dX7_holder_17 : decode cX7_holder 17 = .ok (.iload 5, 2) := by decide +kernel
theorem dX7_holder_19 : decode cX7_holder 19 = .ok (.aload_n 0, 1) := by decide +kernel
theorem dX7_holder_20 : decode cX7_holder 20 = .ok (.getfield 7, 3) := by decide +kernel
theorem dX7_holder_23 : decode cX7_holder 23 = .ok (.iconst 2, 1) := by decide +kernel
theorem dX7_holder_24 : decode cX7_holder 24 = .ok (.iaload, 1) := by decide +kernel
theorem dX7_holder_25 : decode cX7_holder 25 = .ok (.if_icmp .ge 75, 3) := by decide +kernel
theorem dX7_holder_28 : decode cX7_holder 28 = .ok (.aload_n 0, 1) := by decide +kernel
theorem dX7_holder_29 : decode cX7_holder 29 = .ok (.iload 5, 2) := by decide +kernel
theorem dX7_holder_31 : decode cX7_holder 31 = .ok (.iconst 1, 1) := by decide +kernel
theorem dX7_holder_32 : decode cX7_holder 32 = .ok (.invokevirtual 53, 3) := by decide +kernel
theorem dX7_holder_35 : decode cX7_holder 35 = .ok (.iload_n 1, 1) := by decide +kernel
theorem dX7_holder_36 : decode cX7_holder 36 = .ok (.if_icmp .ne 7, 3) := by decide +kernel
theorem dX7_holder_39 : decode cX7_holder 39 = .ok (.iconst 1, 1) := by decide +kernel
theorem dX7_holder_40 : decode cX7_holder 40 = .ok (.goto 4, 3) := by decide +kernel
theorem dX7_holder_43 : decode cX7_holder 43 = .ok (.iconst 0, 1) := by decide +kernel
theorem dX7_holder_44 : decode cX7_holder 44 = .ok (.istore 6, 2) := by decide +kernel
theorem dX7_holder_46 : decode cX7_holder 46 = .ok (.iload_n 3, 1) := by decide +kernel
theorem dX7_holder_47 : decode cX7_holder 47 = .ok (.iload 6, 2) := by decide +kernel
theorem dX7_holder_49 : decode cX7_holder 49 = .ok (.ifCond .eq 16, 3) := by decide +kernel
theorem dX7_holder_52 : decode cX7_holder 52 = .ok (.aload_n 0, 1) := by decide +kernel
theorem dX7_holder_53 : decode cX7_holder 53 = .ok (.iload 5, 2) := by decide +kernel
theorem dX7_holder_55 : decode cX7_holder 55 = .ok (.invokevirtual 105, 3) := by decide +kernel
theorem dX7_holder_58 : decode cX7_holder 58 = .ok (.ifCond .eq 7, 3) := by decide +kernel
theorem dX7_holder_61 : decode cX7_holder 61 = .ok (.iconst 1, 1) := by decide +kernel
theorem dX7_holder_62 : decode cX7_holder 62 = .ok (.goto 4, 3) := by decide +kernel
theorem dX7_holder_65 : decode cX7_holder 65 = .ok (.iconst 0, 1) := by decide +kernel
theorem dX7_holder_66 : decode cX7_holder 66 = .ok (.iadd, 1) := by decide +kernel
theorem dX7_holder_67 : decode cX7_holder 67 = .ok (.istore_n 3, 1) := by decide +kernel
theorem dX7_holder_68 : decode cX7_holder 68 = .ok (.iload 4, 2) := by decide +kernel
theorem dX7_holder_70 : decode cX7_holder 70 = .ok (.iload 6, 2) := by decide +kernel
theorem dX7_holder_72 : decode cX7_holder 72 = .ok (.ifCond .eq 18, 3) := by decide +kernel
theorem dX7_holder_75 : decode cX7_holder 75 = .ok (.aload_n 0, 1) := by decide +kernel
theorem dX7_holder_76 : decode cX7_holder 76 = .ok (.iload 5, 2) := by decide +kernel
theorem dX7_holder_78 : decode cX7_holder 78 = .ok (.iconst 3, 1) := by decide +kernel
theorem dX7_holder_79 : decode cX7_holder 79 = .ok (.invokevirtual 53, 3) := by decide +kernel
theorem dX7_holder_82 : decode cX7_holder 82 = .ok (.iconst 2, 1) := by decide +kernel
theorem dX7_holder_83 : decode cX7_holder 83 = .ok (.if_icmp .ne 7, 3) := by decide +kernel
theorem dX7_holder_86 : decode cX7_holder 86 = .ok (.iconst 1, 1) := by decide +kernel
theorem dX7_holder_87 : decode cX7_holder 87 = .ok (.goto 4, 3) := by decide +kernel
theorem dX7_holder_90 : decode cX7_holder 90 = .ok (.iconst 0, 1) := by decide +kernel
theorem dX7_holder_91 : decode cX7_holder 91 = .ok (.iadd, 1) := by decide +kernel
theorem dX7_holder_92 : decode cX7_holder 92 = .ok (.istore 4, 2) := by decide +kernel
theorem dX7_holder_94 : decode cX7_holder 94 = .ok (.iinc 5 1, 3) := by decide +kernel
theorem dX7_holder_97 : decode cX7_holder 97 = .ok (.goto (-80), 3) := by decide +kernel
theorem dX7_holder_100 : decode cX7_holder 100 = .ok (.iconst 0, 1) := by decide +kernel
theorem dX7_holder_101 : decode cX7_holder 101 = .ok (.istore 5, 2) := by decide +kernel
theorem dX7_holder_103 : decode cX7_holder 103 = .ok (.iconst 0, 1) := by decide +kernel
theorem dX7_holder_104 : decode cX7_holder 104 = .ok (.istore 6, 2) := by decide +kernel
theorem dX7_holder_106 : decode cX7_holder 106 = .ok (.iload 6, 2) := by decide +kernel
theorem dX7_holder_108 : decode cX7_holder 108 = .ok (.aload_n 0, 1) := by decide +kernel
theorem dX7_holder_109 : decode cX7_holder 109 = .ok (.getfield 7, 3) := by decide +kernel
theorem dX7_holder_112 : decode cX7_holder 112 = .ok (.iconst 1, 1) := by decide +kernel
theorem dX7_holder_113 : decode cX7_holder 113 = .ok (.iaload, 1) := by decide +kernel
theorem dX7_holder_114 : decode cX7_holder 114 = .ok (.if_icmp .ge 29, 3) := by decide +kernel
theorem dX7_holder_117 : decode cX7_holder 117 = .ok (.iload 5, 2) := by decide +kernel
theorem dX7_holder_119 : decode cX7_holder 119 = .ok (.aload_n 0, 1) := by decide +kernel
theorem dX7_holder_120 : decode cX7_holder 120 = .ok (.iload_n 1, 1) := by decide +kernel
theorem dX7_holder_121 : decode cX7_holder 121 = .ok (.iload 6, 2) := by decide +kernel
theorem dX7_holder_123 : decode cX7_holder 123 = .ok (.invokevirtual 151, 3) := by decide +kernel
theorem dX7_holder_126 : decode cX7_holder 126 = .ok (.ifCond .lt 7, 3) := by decide +kernel
theorem dX7_holder_129 : decode cX7_holder 129 = .ok (.iconst 1, 1) := by decide +kernel
theorem dX7_holder_130 : decode cX7_holder 130 = .ok (.goto 4, 3) := by decide +kernel
theorem dX7_holder_133 : decode cX7_holder 133 = .ok (.iconst 0, 1) := by decide +kernel
theorem dX7_holder_134 : decode cX7_holder 134 = .ok (.iadd, 1) := by decide +kernel
theorem dX7_holder_135 : decode cX7_holder 135 = .ok (.istore 5, 2) := by decide +kernel
theorem dX7_holder_137 : decode cX7_holder 137 = .ok (.iinc 6 1, 3) := by decide +kernel
theorem dX7_holder_140 : decode cX7_holder 140 = .ok (.goto (-34), 3) := by decide +kernel
theorem dX7_holder_143 : decode cX7_holder 143 = .ok (.iload_n 2, 1) := by decide +kernel
theorem dX7_holder_144 : decode cX7_holder 144 = .ok (.tableswitch 53 0 3 #[32, 45, 47, 50], 32) := by decide +kernel
theorem dX7_holder_176 : decode cX7_holder 176 = .ok (.aload_n 0, 1) := by decide +kernel
theorem dX7_holder_177 : decode cX7_holder 177 = .ok (.getfield 7, 3) := by decide +kernel
theorem dX7_holder_180 : decode cX7_holder 180 = .ok (.bipush 17, 2) := by decide +kernel
theorem dX7_holder_182 : decode cX7_holder 182 = .ok (.iload_n 1, 1) := by decide +kernel
theorem dX7_holder_183 : decode cX7_holder 183 = .ok (.iadd, 1) := by decide +kernel
theorem dX7_holder_184 : decode cX7_holder 184 = .ok (.iaload, 1) := by decide +kernel
theorem dX7_holder_185 : decode cX7_holder 185 = .ok (.ldc 196, 2) := by decide +kernel
theorem dX7_holder_187 : decode cX7_holder 187 = .ok (.iadd, 1) := by decide +kernel
theorem dX7_holder_188 : decode cX7_holder 188 = .ok (.ireturn, 1) := by decide +kernel
theorem dX7_holder_189 : decode cX7_holder 189 = .ok (.iload_n 3, 1) := by decide +kernel
theorem dX7_holder_190 : decode cX7_holder 190 = .ok (.ireturn, 1) := by decide +kernel
theorem dX7_holder_191 : decode cX7_holder 191 = .ok (.iload 4, 2) := by decide +kernel
theorem dX7_holder_193 : decode cX7_holder 193 = .ok (.ireturn, 1) := by decide +kernel
theorem dX7_holder_194 : decode cX7_holder 194 = .ok (.iload 5, 2) := by decide +kernel
theorem dX7_holder_196 : decode cX7_holder 196 = .ok (.ireturn, 1) := by decide +kernel
theorem dX7_holder_197 : decode cX7_holder 197 = .ok (.bipush (-2), 2) := by decide +kernel
theorem dX7_holder_199 : decode cX7_holder 199 = .ok (.ireturn, 1) := by decide +kernel
theorem dX7_stage_0 : decode cX7_stage 0 = .ok (.iload_n 1, 1) := by decide +kernel
theorem dX7_stage_1 : decode cX7_stage 1 = .ok (.iconst 0, 1) := by decide +kernel
theorem dX7_stage_2 : decode cX7_stage 2 = .ok (.iconst 3, 1) := by decide +kernel
theorem dX7_stage_3 : decode cX7_stage 3 = .ok (.invokestatic 35, 3) := by decide +kernel
theorem dX7_stage_6 : decode cX7_stage 6 = .ok (.ifCond .ne 5, 3) := by decide +kernel
theorem dX7_stage_9 : decode cX7_stage 9 = .ok (.iconst (-1), 1) := by decide +kernel
theorem dX7_stage_10 : decode cX7_stage 10 = .ok (.ireturn, 1) := by decide +kernel
theorem dX7_stage_11 : decode cX7_stage 11 = .ok (.iload_n 2, 1) := by decide +kernel
theorem dX7_stage_12 : decode cX7_stage 12 = .ok (.iconst 0, 1) := by decide +kernel
theorem dX7_stage_13 : decode cX7_stage 13 = .ok (.iconst 1, 1) := by decide +kernel
theorem dX7_stage_14 : decode cX7_stage 14 = .ok (.invokestatic 35, 3) := by decide +kernel
theorem dX7_stage_17 : decode cX7_stage 17 = .ok (.ifCond .eq 19, 3) := by decide +kernel
theorem dX7_stage_20 : decode cX7_stage 20 = .ok (.aload_n 0, 1) := by decide +kernel
theorem dX7_stage_21 : decode cX7_stage 21 = .ok (.getfield 7, 3) := by decide +kernel
theorem dX7_stage_24 : decode cX7_stage 24 = .ok (.bipush 9, 2) := by decide +kernel
theorem dX7_stage_26 : decode cX7_stage 26 = .ok (.iconst 2, 1) := by decide +kernel
theorem dX7_stage_27 : decode cX7_stage 27 = .ok (.iload_n 1, 1) := by decide +kernel
theorem dX7_stage_28 : decode cX7_stage 28 = .ok (.imul, 1) := by decide +kernel
theorem dX7_stage_29 : decode cX7_stage 29 = .ok (.iadd, 1) := by decide +kernel
theorem dX7_stage_30 : decode cX7_stage 30 = .ok (.iload_n 2, 1) := by decide +kernel
theorem dX7_stage_31 : decode cX7_stage 31 = .ok (.iadd, 1) := by decide +kernel
theorem dX7_stage_32 : decode cX7_stage 32 = .ok (.iaload, 1) := by decide +kernel
theorem dX7_stage_33 : decode cX7_stage 33 = .ok (.goto 5, 3) := by decide +kernel
theorem dX7_stage_36 : decode cX7_stage 36 = .ok (.bipush (-2), 2) := by decide +kernel
theorem dX7_stage_38 : decode cX7_stage 38 = .ok (.ireturn, 1) := by decide +kernel
theorem dX7_priceIn_0 : decode cX7_priceIn 0 = .ok (.aload_n 0, 1) := by decide +kernel
theorem dX7_priceIn_1 : decode cX7_priceIn 1 = .ok (.iload_n 1, 1) := by decide +kernel
theorem dX7_priceIn_2 : decode cX7_priceIn 2 = .ok (.invokevirtual 93, 3) := by decide +kernel
theorem dX7_priceIn_5 : decode cX7_priceIn 5 = .ok (.ifCond .ne 5, 3) := by decide +kernel
theorem dX7_priceIn_8 : decode cX7_priceIn 8 = .ok (.iconst (-1), 1) := by decide +kernel
theorem dX7_priceIn_9 : decode cX7_priceIn 9 = .ok (.ireturn, 1) := by decide +kernel
theorem dX7_priceIn_10 : decode cX7_priceIn 10 = .ok (.iload_n 2, 1) := by decide +kernel
theorem dX7_priceIn_11 : decode cX7_priceIn 11 = .ok (.iconst 0, 1) := by decide +kernel
theorem dX7_priceIn_12 : decode cX7_priceIn 12 = .ok (.bipush 60, 2) := by decide +kernel
theorem dX7_priceIn_14 : decode cX7_priceIn 14 = .ok (.invokestatic 35, 3) := by decide +kernel
theorem dX7_priceIn_17 : decode cX7_priceIn 17 = .ok (.ifCond .ne 6, 3) := by decide +kernel
theorem dX7_priceIn_20 : decode cX7_priceIn 20 = .ok (.bipush (-2), 2) := by decide +kernel
theorem dX7_priceIn_22 : decode cX7_priceIn 22 = .ok (.ireturn, 1) := by decide +kernel
theorem dX7_priceIn_23 : decode cX7_priceIn 23 = .ok (.aload_n 0, 1) := by decide +kernel
theorem dX7_priceIn_24 : decode cX7_priceIn 24 = .ok (.iload_n 1, 1) := by decide +kernel
theorem dX7_priceIn_25 : decode cX7_priceIn 25 = .ok (.invokevirtual 49, 3) := by decide +kernel
theorem dX7_priceIn_28 : decode cX7_priceIn 28 = .ok (.iload_n 2, 1) := by decide +kernel
theorem dX7_priceIn_29 : decode cX7_priceIn 29 = .ok (.isub, 1) := by decide +kernel
theorem dX7_priceIn_30 : decode cX7_priceIn 30 = .ok (.istore_n 3, 1) := by decide +kernel
theorem dX7_priceIn_31 : decode cX7_priceIn 31 = .ok (.iload_n 3, 1) := by decide +kernel
theorem dX7_priceIn_32 : decode cX7_priceIn 32 = .ok (.ifCond .le 12, 3) := by decide +kernel
theorem dX7_priceIn_35 : decode cX7_priceIn 35 = .ok (.aload_n 0, 1) := by decide +kernel
theorem dX7_priceIn_36 : decode cX7_priceIn 36 = .ok (.iload_n 1, 1) := by decide +kernel
theorem dX7_priceIn_37 : decode cX7_priceIn 37 = .ok (.iload_n 3, 1) := by decide +kernel
theorem dX7_priceIn_38 : decode cX7_priceIn 38 = .ok (.invokevirtual 67, 3) := by decide +kernel
theorem dX7_priceIn_41 : decode cX7_priceIn 41 = .ok (.goto 5, 3) := by decide +kernel
theorem dX7_priceIn_44 : decode cX7_priceIn 44 = .ok (.bipush (-5), 2) := by decide +kernel
theorem dX7_priceIn_46 : decode cX7_priceIn 46 = .ok (.ireturn, 1) := by decide +kernel
theorem dX7_wouldCover_0 : decode cX7_wouldCover 0 = .ok (.aload_n 0, 1) := by decide +kernel
theorem dX7_wouldCover_1 : decode cX7_wouldCover 1 = .ok (.iload_n 1, 1) := by decide +kernel
theorem dX7_wouldCover_2 : decode cX7_wouldCover 2 = .ok (.invokevirtual 93, 3) := by decide +kernel
theorem dX7_wouldCover_5 : decode cX7_wouldCover 5 = .ok (.ifCond .ne 5, 3) := by decide +kernel
theorem dX7_wouldCover_8 : decode cX7_wouldCover 8 = .ok (.iconst (-1), 1) := by decide +kernel
theorem dX7_wouldCover_9 : decode cX7_wouldCover 9 = .ok (.ireturn, 1) := by decide +kernel
theorem dX7_wouldCover_10 : decode cX7_wouldCover 10 = .ok (.aload_n 0, 1) := by decide +kernel
theorem dX7_wouldCover_11 : decode cX7_wouldCover 11 = .ok (.iload_n 1, 1) := by decide +kernel
theorem dX7_wouldCover_12 : decode cX7_wouldCover 12 = .ok (.invokevirtual 49, 3) := by decide +kernel
theorem dX7_wouldCover_15 : decode cX7_wouldCover 15 = .ok (.aload_n 0, 1) := by decide +kernel
theorem dX7_wouldCover_16 : decode cX7_wouldCover 16 = .ok (.getfield 7, 3) := by decide +kernel
theorem dX7_wouldCover_19 : decode cX7_wouldCover 19 = .ok (.iconst 3, 1) := by decide +kernel
theorem dX7_wouldCover_20 : decode cX7_wouldCover 20 = .ok (.iaload, 1) := by decide +kernel
theorem dX7_wouldCover_21 : decode cX7_wouldCover 21 = .ok (.if_icmp .gt 6, 3) := by decide +kernel
theorem dX7_wouldCover_24 : decode cX7_wouldCover 24 = .ok (.bipush (-5), 2) := by decide +kernel
theorem dX7_wouldCover_26 : decode cX7_wouldCover 26 = .ok (.ireturn, 1) := by decide +kernel
theorem dX7_wouldCover_27 : decode cX7_wouldCover 27 = .ok (.aload_n 0, 1) := by decide +kernel
theorem dX7_wouldCover_28 : decode cX7_wouldCover 28 = .ok (.invokevirtual 130, 3) := by decide +kernel
theorem dX7_wouldCover_31 : decode cX7_wouldCover 31 = .ok (.aload_n 0, 1) := by decide +kernel
theorem dX7_wouldCover_32 : decode cX7_wouldCover 32 = .ok (.iload_n 1, 1) := by decide +kernel
theorem dX7_wouldCover_33 : decode cX7_wouldCover 33 = .ok (.invokevirtual 121, 3) := by decide +kernel
theorem dX7_wouldCover_36 : decode cX7_wouldCover 36 = .ok (.istore_n 2, 1) := by decide +kernel
theorem dX7_wouldCover_37 : decode cX7_wouldCover 37 = .ok (.aload_n 0, 1) := by decide +kernel
theorem dX7_wouldCover_38 : decode cX7_wouldCover 38 = .ok (.invokevirtual 127, 3) := by decide +kernel
theorem dX7_wouldCover_41 : decode cX7_wouldCover 41 = .ok (.iload_n 2, 1) := by decide +kernel
theorem dX7_wouldCover_42 : decode cX7_wouldCover 42 = .ok (.ireturn, 1) := by decide +kernel
theorem dX7_event_0 : decode cX7_event 0 = .ok (.iload_n 1, 1) := by decide +kernel
theorem dX7_event_1 : decode cX7_event 1 = .ok (.ifCond .lt 12, 3) := by decide +kernel
theorem dX7_event_4 : decode cX7_event 4 = .ok (.iload_n 2, 1) := by decide +kernel
theorem dX7_event_5 : decode cX7_event 5 = .ok (.iconst 0, 1) := by decide +kernel
theorem dX7_event_6 : decode cX7_event 6 = .ok (.iconst 3, 1) := by decide +kernel
theorem dX7_event_7 : decode cX7_event 7 = .ok (.invokestatic 35, 3) := by decide +kernel
theorem dX7_event_10 : decode cX7_event 10 = .ok (.ifCond .ne 6, 3) := by decide +kernel
theorem dX7_event_13 : decode cX7_event 13 = .ok (.bipush (-2), 2) := by decide +kernel
theorem dX7_event_15 : decode cX7_event 15 = .ok (.ireturn, 1) := by decide +kernel
theorem dX7_event_16 : decode cX7_event 16 = .ok (.iload_n 1, 1) := by decide +kernel
theorem dX7_event_17 : decode cX7_event 17 = .ok (.aload_n 0, 1) := by decide +kernel
theorem dX7_event_18 : decode cX7_event 18 = .ok (.getfield 7, 3) := by decide +kernel
theorem dX7_event_21 : decode cX7_event 21 = .ok (.bipush 8, 2) := by decide +kernel
theorem dX7_event_23 : decode cX7_event 23 = .ok (.iaload, 1) := by decide +kernel
theorem dX7_event_24 : decode cX7_event 24 = .ok (.if_icmp .ge 20, 3) := by decide +kernel
theorem dX7_event_27 : decode cX7_event 27 = .ok (.aload_n 0, 1) := by decide +kernel
theorem dX7_event_28 : decode cX7_event 28 = .ok (.getfield 7, 3) := by decide +kernel
theorem dX7_event_31 : decode cX7_event 31 = .ok (.sipush 567, 3) := by decide +kernel
theorem dX7_event_34 : decode cX7_event 34 = .ok (.iconst 4, 1) := by decide +kernel
theorem dX7_event_35 : decode cX7_event 35 = .ok (.iload_n 1, 1) := by decide +kernel
theorem dX7_event_36 : decode cX7_event 36 = .ok (.imul, 1) := by decide +kernel
theorem dX7_event_37 : decode cX7_event 37 = .ok (.iadd, 1) := by decide +kernel
theorem dX7_event_38 : decode cX7_event 38 = .ok (.iload_n 2, 1) := by decide +kernel
theorem dX7_event_39 : decode cX7_event 39 = .ok (.iadd, 1) := by decide +kernel
theorem dX7_event_40 : decode cX7_event 40 = .ok (.iaload, 1) := by decide +kernel
theorem dX7_event_41 : decode cX7_event 41 = .ok (.goto 5, 3) := by decide +kernel
theorem dX7_event_44 : decode cX7_event 44 = .ok (.bipush (-5), 2) := by decide +kernel
theorem dX7_event_46 : decode cX7_event 46 = .ok (.ireturn, 1) := by decide +kernel
theorem dX7_count_0 : decode cX7_count 0 = .ok (.iconst 0, 1) := by decide +kernel
theorem dX7_count_1 : decode cX7_count 1 = .ok (.istore_n 2, 1) := by decide +kernel
theorem dX7_count_2 : decode cX7_count 2 = .ok (.iconst 0, 1) := by decide +kernel
theorem dX7_count_3 : decode cX7_count 3 = .ok (.istore_n 3, 1) := by decide +kernel
theorem dX7_count_4 : decode cX7_count 4 = .ok (.iload_n 3, 1) := by decide +kernel
theorem dX7_count_5 : decode cX7_count 5 = .ok (.aload_n 0, 1) := by decide +kernel
theorem dX7_count_6 : decode cX7_count 6 = .ok (.getfield 7, 3) := by decide +kernel
theorem dX7_count_9 : decode cX7_count 9 = .ok (.iconst 2, 1) := by decide +kernel
theorem dX7_count_10 : decode cX7_count 10 = .ok (.iaload, 1) := by decide +kernel
theorem dX7_count_11 : decode cX7_count 11 = .ok (.if_icmp .ge 29, 3) := by decide +kernel
theorem dX7_count_14 : decode cX7_count 14 = .ok (.iload_n 2, 1) := by decide +kernel
theorem dX7_count_15 : decode cX7_count 15 = .ok (.aload_n 0, 1) := by decide +kernel
theorem dX7_count_16 : decode cX7_count 16 = .ok (.iload_n 3, 1) := by decide +kernel
theorem dX7_count_17 : decode cX7_count 17 = .ok (.iconst 3, 1) := by decide +kernel
theorem dX7_count_18 : decode cX7_count 18 = .ok (.invokevirtual 53, 3) := by decide +kernel
theorem dX7_count_21 : decode cX7_count 21 = .ok (.iload_n 1, 1) := by decide +kernel
theorem dX7_count_22 : decode cX7_count 22 = .ok (.iconst 3, 1) := by decide +kernel
theorem dX7_count_23 : decode cX7_count 23 = .ok (.isub, 1) := by decide +kernel
theorem dX7_count_24 : decode cX7_count 24 = .ok (.if_icmp .ne 7, 3) := by decide +kernel
theorem dX7_count_27 : decode cX7_count 27 = .ok (.iconst 1, 1) := by decide +kernel
theorem dX7_count_28 : decode cX7_count 28 = .ok (.goto 4, 3) := by decide +kernel
theorem dX7_count_31 : decode cX7_count 31 = .ok (.iconst 0, 1) := by decide +kernel
theorem dX7_count_32 : decode cX7_count 32 = .ok (.iadd, 1) := by decide +kernel
theorem dX7_count_33 : decode cX7_count 33 = .ok (.istore_n 2, 1) := by decide +kernel
theorem dX7_count_34 : decode cX7_count 34 = .ok (.iinc 3 1, 3) := by decide +kernel
theorem dX7_count_37 : decode cX7_count 37 = .ok (.goto (-33), 3) := by decide +kernel
theorem dX7_count_40 : decode cX7_count 40 = .ok (.iload_n 1, 1) := by decide +kernel
theorem dX7_count_41 : decode cX7_count 41 = .ok (.tableswitch 121 0 15 #[79, 79, 79, 86, 86, 86, 86, 86, 86, 88, 99, 99, 99, 99, 111, 116], 79) := by decide +kernel
theorem dX7_count_120 : decode cX7_count 120 = .ok (.aload_n 0, 1) := by decide +kernel
theorem dX7_count_121 : decode cX7_count 121 = .ok (.getfield 7, 3) := by decide +kernel
theorem dX7_count_124 : decode cX7_count 124 = .ok (.iload_n 1, 1) := by decide +kernel
theorem dX7_count_125 : decode cX7_count 125 = .ok (.iaload, 1) := by decide +kernel
theorem dX7_count_126 : decode cX7_count 126 = .ok (.ireturn, 1) := by decide +kernel
theorem dX7_count_127 : decode cX7_count 127 = .ok (.iload_n 2, 1) := by decide +kernel
theorem dX7_count_128 : decode cX7_count 128 = .ok (.ireturn, 1) := by decide +kernel
theorem dX7_count_129 : decode cX7_count 129 = .ok (.aload_n 0, 1) := by decide +kernel
theorem dX7_count_130 : decode cX7_count 130 = .ok (.getfield 7, 3) := by decide +kernel
theorem dX7_count_133 : decode cX7_count 133 = .ok (.bipush 7, 2) := by decide +kernel
theorem dX7_count_135 : decode cX7_count 135 = .ok (.iaload, 1) := by decide +kernel
theorem dX7_count_136 : decode cX7_count 136 = .ok (.ldc 196, 2) := by decide +kernel
theorem dX7_count_138 : decode cX7_count 138 = .ok (.iadd, 1) := by decide +kernel
theorem dX7_count_139 : decode cX7_count 139 = .ok (.ireturn, 1) := by decide +kernel
theorem dX7_count_140 : decode cX7_count 140 = .ok (.aload_n 0, 1) := by decide +kernel
theorem dX7_count_141 : decode cX7_count 141 = .ok (.getfield 7, 3) := by decide +kernel
theorem dX7_count_144 : decode cX7_count 144 = .ok (.iconst 3, 1) := by decide +kernel
theorem dX7_count_145 : decode cX7_count 145 = .ok (.iload_n 1, 1) := by decide +kernel
theorem dX7_count_146 : decode cX7_count 146 = .ok (.iadd, 1) := by decide +kernel
theorem dX7_count_147 : decode cX7_count 147 = .ok (.bipush 10, 2) := by decide +kernel
theorem dX7_count_149 : decode cX7_count 149 = .ok (.isub, 1) := by decide +kernel
theorem dX7_count_150 : decode cX7_count 150 = .ok (.iaload, 1) := by decide +kernel
theorem dX7_count_151 : decode cX7_count 151 = .ok (.ireturn, 1) := by decide +kernel
theorem dX7_count_152 : decode cX7_count 152 = .ok (.aload_n 0, 1) := by decide +kernel
theorem dX7_count_153 : decode cX7_count 153 = .ok (.getfield 31, 3) := by decide +kernel
theorem dX7_count_156 : decode cX7_count 156 = .ok (.ireturn, 1) := by decide +kernel
theorem dX7_count_157 : decode cX7_count 157 = .ok (.aload_n 0, 1) := by decide +kernel
theorem dX7_count_158 : decode cX7_count 158 = .ok (.getfield 158, 3) := by decide +kernel
theorem dX7_count_161 : decode cX7_count 161 = .ok (.ireturn, 1) := by decide +kernel
theorem dX7_count_162 : decode cX7_count 162 = .ok (.bipush (-2), 2) := by decide +kernel
theorem dX7_count_164 : decode cX7_count 164 = .ok (.ireturn, 1) := by decide +kernel
theorem dL_law_0 : decode cL_law 0 = .ok (.new 7, 3) := by decide +kernel
theorem dL_law_3 : decode cL_law 3 = .ok (.dup, 1) := by decide +kernel
theorem dL_law_4 : decode cL_law 4 = .ok (.invokespecial 9, 3) := by decide +kernel
theorem dL_law_7 : decode cL_law 7 = .ok (.astore_n 1, 1) := by decide +kernel
theorem dL_law_8 : decode cL_law 8 = .ok (.new 10, 3) := by decide +kernel
theorem dL_law_11 : decode cL_law 11 = .ok (.dup, 1) := by decide +kernel
theorem dL_law_12 : decode cL_law 12 = .ok (.invokespecial 12, 3) := by decide +kernel
theorem dL_law_15 : decode cL_law 15 = .ok (.astore_n 2, 1) := by decide +kernel
theorem dL_law_16 : decode cL_law 16 = .ok (.iconst 0, 1) := by decide +kernel
theorem dL_law_17 : decode cL_law 17 = .ok (.istore_n 3, 1) := by decide +kernel
theorem dL_law_18 : decode cL_law 18 = .ok (.iload_n 3, 1) := by decide +kernel
theorem dL_law_19 : decode cL_law 19 = .ok (.aload_n 0, 1) := by decide +kernel
theorem dL_law_20 : decode cL_law 20 = .ok (.arraylength, 1) := by decide +kernel
theorem dL_law_21 : decode cL_law 21 = .ok (.bipush 6, 2) := by decide +kernel
theorem dL_law_23 : decode cL_law 23 = .ok (.isub, 1) := by decide +kernel
theorem dL_law_24 : decode cL_law 24 = .ok (.if_icmp .gt 901, 3) := by decide +kernel
theorem dL_law_27 : decode cL_law 27 = .ok (.aload_n 0, 1) := by decide +kernel
theorem dL_law_28 : decode cL_law 28 = .ok (.iload_n 3, 1) := by decide +kernel
theorem dL_law_29 : decode cL_law 29 = .ok (.iaload, 1) := by decide +kernel
theorem dL_law_30 : decode cL_law 30 = .ok (.bipush 31, 2) := by decide +kernel
theorem dL_law_32 : decode cL_law 32 = .ok (.iand, 1) := by decide +kernel
theorem dL_law_33 : decode cL_law 33 = .ok (.tableswitch 886 0 26 #[123, 186, 229, 262, 295, 328, 351, 384, 407, 430, 463, 496, 519, 544, 557, 570, 583, 596, 609, 642, 675, 708, 741, 774, 807, 830, 863], 123) := by decide +kernel
theorem dL_law_156 : decode cL_law 156 = .ok (.aload_n 1, 1) := by decide +kernel
theorem dL_law_157 : decode cL_law 157 = .ok (.aload_n 0, 1) := by decide +kernel
theorem dL_law_158 : decode cL_law 158 = .ok (.iload_n 3, 1) := by decide +kernel
theorem dL_law_159 : decode cL_law 159 = .ok (.iconst 1, 1) := by decide +kernel
theorem dL_law_160 : decode cL_law 160 = .ok (.iadd, 1) := by decide +kernel
theorem dL_law_161 : decode cL_law 161 = .ok (.iaload, 1) := by decide +kernel
theorem dL_law_162 : decode cL_law 162 = .ok (.aload_n 0, 1) := by decide +kernel
theorem dL_law_163 : decode cL_law 163 = .ok (.iload_n 3, 1) := by decide +kernel
theorem dL_law_164 : decode cL_law 164 = .ok (.iconst 2, 1) := by decide +kernel
theorem dL_law_165 : decode cL_law 165 = .ok (.iadd, 1) := by decide +kernel
theorem dL_law_166 : decode cL_law 166 = .ok (.iaload, 1) := by decide +kernel
theorem dL_law_167 : decode cL_law 167 = .ok (.aload_n 0, 1) := by decide +kernel
theorem dL_law_168 : decode cL_law 168 = .ok (.iload_n 3, 1) := by decide +kernel
theorem dL_law_169 : decode cL_law 169 = .ok (.iconst 3, 1) := by decide +kernel
theorem dL_law_170 : decode cL_law 170 = .ok (.iadd, 1) := by decide +kernel
theorem dL_law_171 : decode cL_law 171 = .ok (.iaload, 1) := by decide +kernel
theorem dL_law_172 : decode cL_law 172 = .ok (.aload_n 0, 1) := by decide +kernel
theorem dL_law_173 : decode cL_law 173 = .ok (.iload_n 3, 1) := by decide +kernel
theorem dL_law_174 : decode cL_law 174 = .ok (.iconst 4, 1) := by decide +kernel
theorem dL_law_175 : decode cL_law 175 = .ok (.iadd, 1) := by decide +kernel
theorem dL_law_176 : decode cL_law 176 = .ok (.iaload, 1) := by decide +kernel
theorem dL_law_177 : decode cL_law 177 = .ok (.aload_n 0, 1) := by decide +kernel
theorem dL_law_178 : decode cL_law 178 = .ok (.iload_n 3, 1) := by decide +kernel
theorem dL_law_179 : decode cL_law 179 = .ok (.iconst 5, 1) := by decide +kernel
theorem dL_law_180 : decode cL_law 180 = .ok (.iadd, 1) := by decide +kernel
theorem dL_law_181 : decode cL_law 181 = .ok (.iaload, 1) := by decide +kernel
theorem dL_law_182 : decode cL_law 182 = .ok (.invokevirtual 13, 3) := by decide +kernel
theorem dL_law_185 : decode cL_law 185 = .ok (.aload_n 2, 1) := by decide +kernel
theorem dL_law_186 : decode cL_law 186 = .ok (.aload_n 0, 1) := by decide +kernel
theorem dL_law_187 : decode cL_law 187 = .ok (.iload_n 3, 1) := by decide +kernel
theorem dL_law_188 : decode cL_law 188 = .ok (.iconst 1, 1) := by decide +kernel
theorem dL_law_189 : decode cL_law 189 = .ok (.iadd, 1) := by decide +kernel
theorem dL_law_190 : decode cL_law 190 = .ok (.iaload, 1) := by decide +kernel
theorem dL_law_191 : decode cL_law 191 = .ok (.aload_n 0, 1) := by decide +kernel
theorem dL_law_192 : decode cL_law 192 = .ok (.iload_n 3, 1) := by decide +kernel
theorem dL_law_193 : decode cL_law 193 = .ok (.iconst 2, 1) := by decide +kernel
theorem dL_law_194 : decode cL_law 194 = .ok (.iadd, 1) := by decide +kernel
theorem dL_law_195 : decode cL_law 195 = .ok (.iaload, 1) := by decide +kernel
theorem dL_law_196 : decode cL_law 196 = .ok (.aload_n 0, 1) := by decide +kernel
theorem dL_law_197 : decode cL_law 197 = .ok (.iload_n 3, 1) := by decide +kernel
theorem dL_law_198 : decode cL_law 198 = .ok (.iconst 3, 1) := by decide +kernel
theorem dL_law_199 : decode cL_law 199 = .ok (.iadd, 1) := by decide +kernel
theorem dL_law_200 : decode cL_law 200 = .ok (.iaload, 1) := by decide +kernel
theorem dL_law_201 : decode cL_law 201 = .ok (.aload_n 0, 1) := by decide +kernel
theorem dL_law_202 : decode cL_law 202 = .ok (.iload_n 3, 1) := by decide +kernel
theorem dL_law_203 : decode cL_law 203 = .ok (.iconst 4, 1) := by decide +kernel
theorem dL_law_204 : decode cL_law 204 = .ok (.iadd, 1) := by decide +kernel
theorem dL_law_205 : decode cL_law 205 = .ok (.iaload, 1) := by decide +kernel
theorem dL_law_206 : decode cL_law 206 = .ok (.aload_n 0, 1) := by decide +kernel
theorem dL_law_207 : decode cL_law 207 = .ok (.iload_n 3, 1) := by decide +kernel
theorem dL_law_208 : decode cL_law 208 = .ok (.iconst 5, 1) := by decide +kernel
theorem dL_law_209 : decode cL_law 209 = .ok (.iadd, 1) := by decide +kernel
theorem dL_law_210 : decode cL_law 210 = .ok (.iaload, 1) := by decide +kernel
theorem dL_law_211 : decode cL_law 211 = .ok (.invokevirtual 17, 3) := by decide +kernel
theorem dL_law_214 : decode cL_law 214 = .ok (.if_icmp .eq 705, 3) := by decide +kernel
theorem dL_law_217 : decode cL_law 217 = .ok (.iconst 0, 1) := by decide +kernel
theorem dL_law_218 : decode cL_law 218 = .ok (.ireturn, 1) := by decide +kernel
theorem dL_law_219 : decode cL_law 219 = .ok (.aload_n 1, 1) := by decide +kernel
theorem dL_law_220 : decode cL_law 220 = .ok (.aload_n 0, 1) := by decide +kernel
theorem dL_law_221 : decode cL_law 221 = .ok (.iload_n 3, 1) := by decide +kernel
theorem dL_law_222 : decode cL_law 222 = .ok (.iconst 1, 1) := by decide +kernel
theorem dL_law_223 : decode cL_law 223 = .ok (.iadd, 1) := by decide +kernel
theorem dL_law_224 : decode cL_law 224 = .ok (.iaload, 1) := by decide +kernel
theorem dL_law_225 : decode cL_law 225 = .ok (.aload_n 0, 1) := by decide +kernel
theorem dL_law_226 : decode cL_law 226 = .ok (.iload_n 3, 1) := by decide +kernel
theorem dL_law_227 : decode cL_law 227 = .ok (.iconst 2, 1) := by decide +kernel
theorem dL_law_228 : decode cL_law 228 = .ok (.iadd, 1) := by decide +kernel
theorem dL_law_229 : decode cL_law 229 = .ok (.iaload, 1) := by decide +kernel
theorem dL_law_230 : decode cL_law 230 = .ok (.aload_n 0, 1) := by decide +kernel
theorem dL_law_231 : decode cL_law 231 = .ok (.iload_n 3, 1) := by decide +kernel
theorem dL_law_232 : decode cL_law 232 = .ok (.iconst 3, 1) := by decide +kernel
theorem dL_law_233 : decode cL_law 233 = .ok (.iadd, 1) := by decide +kernel
theorem dL_law_234 : decode cL_law 234 = .ok (.iaload, 1) := by decide +kernel
theorem dL_law_235 : decode cL_law 235 = .ok (.invokevirtual 18, 3) := by decide +kernel
theorem dL_law_238 : decode cL_law 238 = .ok (.aload_n 2, 1) := by decide +kernel
theorem dL_law_239 : decode cL_law 239 = .ok (.aload_n 0, 1) := by decide +kernel
theorem dL_law_240 : decode cL_law 240 = .ok (.iload_n 3, 1) := by decide +kernel
theorem dL_law_241 : decode cL_law 241 = .ok (.iconst 1, 1) := by decide +kernel
theorem dL_law_242 : decode cL_law 242 = .ok (.iadd, 1) := by decide +kernel
theorem dL_law_243 : decode cL_law 243 = .ok (.iaload, 1) := by decide +kernel
theorem dL_law_244 : decode cL_law 244 = .ok (.aload_n 0, 1) := by decide +kernel
theorem dL_law_245 : decode cL_law 245 = .ok (.iload_n 3, 1) := by decide +kernel
theorem dL_law_246 : decode cL_law 246 = .ok (.iconst 2, 1) := by decide +kernel
theorem dL_law_247 : decode cL_law 247 = .ok (.iadd, 1) := by decide +kernel
theorem dL_law_248 : decode cL_law 248 = .ok (.iaload, 1) := by decide +kernel
theorem dL_law_249 : decode cL_law 249 = .ok (.aload_n 0, 1) := by decide +kernel
theorem dL_law_250 : decode cL_law 250 = .ok (.iload_n 3, 1) := by decide +kernel
theorem dL_law_251 : decode cL_law 251 = .ok (.iconst 3, 1) := by decide +kernel
theorem dL_law_252 : decode cL_law 252 = .ok (.iadd, 1) := by decide +kernel
theorem dL_law_253 : decode cL_law 253 = .ok (.iaload, 1) := by decide +kernel
theorem dL_law_254 : decode cL_law 254 = .ok (.invokevirtual 22, 3) := by decide +kernel
theorem dL_law_257 : decode cL_law 257 = .ok (.if_icmp .eq 662, 3) := by decide +kernel
theorem dL_law_260 : decode cL_law 260 = .ok (.iconst 0, 1) := by decide +kernel
theorem dL_law_261 : decode cL_law 261 = .ok (.ireturn, 1) := by decide +kernel
theorem dL_law_262 : decode cL_law 262 = .ok (.aload_n 1, 1) := by decide +kernel
theorem dL_law_263 : decode cL_law 263 = .ok (.aload_n 0, 1) := by decide +kernel
theorem dL_law_264 : decode cL_law 264 = .ok (.iload_n 3, 1) := by decide +kernel
theorem dL_law_265 : decode cL_law 265 = .ok (.iconst 1, 1) := by decide +kernel
theorem dL_law_266 : decode cL_law 266 = .ok (.iadd, 1) := by decide +kernel
theorem dL_law_267 : decode cL_law 267 = .ok (.iaload, 1) := by decide +kernel
theorem dL_law_268 : decode cL_law 268 = .ok (.aload_n 0, 1) := by decide +kernel
theorem dL_law_269 : decode cL_law 269 = .ok (.iload_n 3, 1) := by decide +kernel
theorem dL_law_270 : decode cL_law 270 = .ok (.iconst 2, 1) := by decide +kernel
theorem dL_law_271 : decode cL_law 271 = .ok (.iadd, 1) := by decide +kernel
theorem dL_law_272 : decode cL_law 272 = .ok (.iaload, 1) := by decide +kernel
theorem dL_law_273 : decode cL_law 273 = .ok (.invokevirtual 23, 3) := by decide +kernel
theorem dL_law_276 : decode cL_law 276 = .ok (.aload_n 2, 1) := by decide +kernel
theorem dL_law_277 : decode cL_law 277 = .ok (.aload_n 0, 1) := by decide +kernel
theorem dL_law_278 : decode cL_law 278 = .ok (.iload_n 3, 1) := by decide +kernel
theorem dL_law_279 : decode cL_law 279 = .ok (.iconst 1, 1) := by decide +kernel
theorem dL_law_280 : decode cL_law 280 = .ok (.iadd, 1) := by decide +kernel
theorem dL_law_281 : decode cL_law 281 = .ok (.iaload, 1) := by decide +kernel
theorem dL_law_282 : decode cL_law 282 = .ok (.aload_n 0, 1) := by decide +kernel
theorem dL_law_283 : decode cL_law 283 = .ok (.iload_n 3, 1) := by decide +kernel
theorem dL_law_284 : decode cL_law 284 = .ok (.iconst 2, 1) := by decide +kernel
theorem dL_law_285 : decode cL_law 285 = .ok (.iadd, 1) := by decide +kernel
theorem dL_law_286 : decode cL_law 286 = .ok (.iaload, 1) := by decide +kernel
theorem dL_law_287 : decode cL_law 287 = .ok (.invokevirtual 27, 3) := by decide +kernel
theorem dL_law_290 : decode cL_law 290 = .ok (.if_icmp .eq 629, 3) := by decide +kernel
theorem dL_law_293 : decode cL_law 293 = .ok (.iconst 0, 1) := by decide +kernel
theorem dL_law_294 : decode cL_law 294 = .ok (.ireturn, 1) := by decide +kernel
theorem dL_law_295 : decode cL_law 295 = .ok (.aload_n 1, 1) := by decide +kernel
theorem dL_law_296 : decode cL_law 296 = .ok (.aload_n 0, 1) := by decide +kernel
theorem dL_law_297 : decode cL_law 297 = .ok (.iload_n 3, 1) := by decide +kernel
theorem dL_law_298 : decode cL_law 298 = .ok (.iconst 1, 1) := by decide +kernel
theorem dL_law_299 : decode cL_law 299 = .ok (.iadd, 1) := by decide +kernel
theorem dL_law_300 : decode cL_law 300 = .ok (.iaload, 1) := by decide +kernel
theorem dL_law_301 : decode cL_law 301 = .ok (.aload_n 0, 1) := by decide +kernel
theorem dL_law_302 : decode cL_law 302 = .ok (.iload_n 3, 1) := by decide +kernel
theorem dL_law_303 : decode cL_law 303 = .ok (.iconst 2, 1) := by decide +kernel
theorem dL_law_304 : decode cL_law 304 = .ok (.iadd, 1) := by decide +kernel
theorem dL_law_305 : decode cL_law 305 = .ok (.iaload, 1) := by decide +kernel
theorem dL_law_306 : decode cL_law 306 = .ok (.invokevirtual 28, 3) := by decide +kernel
theorem dL_law_309 : decode cL_law 309 = .ok (.aload_n 2, 1) := by decide +kernel
theorem dL_law_310 : decode cL_law 310 = .ok (.aload_n 0, 1) := by decide +kernel
theorem dL_law_311 : decode cL_law 311 = .ok (.iload_n 3, 1) := by decide +kernel
theorem dL_law_312 : decode cL_law 312 = .ok (.iconst 1, 1) := by decide +kernel
theorem dL_law_313 : decode cL_law 313 = .ok (.iadd, 1) := by decide +kernel
theorem dL_law_314 : decode cL_law 314 = .ok (.iaload, 1) := by decide +kernel
theorem dL_law_315 : decode cL_law 315 = .ok (.aload_n 0, 1) := by decide +kernel
theorem dL_law_316 : decode cL_law 316 = .ok (.iload_n 3, 1) := by decide +kernel
theorem dL_law_317 : decode cL_law 317 = .ok (.iconst 2, 1) := by decide +kernel
theorem dL_law_318 : decode cL_law 318 = .ok (.iadd, 1) := by decide +kernel
theorem dL_law_319 : decode cL_law 319 = .ok (.iaload, 1) := by decide +kernel
theorem dL_law_320 : decode cL_law 320 = .ok (.invokevirtual 31, 3) := by decide +kernel
theorem dL_law_323 : decode cL_law 323 = .ok (.if_icmp .eq 596, 3) := by decide +kernel
theorem dL_law_326 : decode cL_law 326 = .ok (.iconst 0, 1) := by decide +kernel
theorem dL_law_327 : decode cL_law 327 = .ok (.ireturn, 1) := by decide +kernel
theorem dL_law_328 : decode cL_law 328 = .ok (.aload_n 1, 1) := by decide +kernel
theorem dL_law_329 : decode cL_law 329 = .ok (.aload_n 0, 1) := by decide +kernel
theorem dL_law_330 : decode cL_law 330 = .ok (.iload_n 3, 1) := by decide +kernel
theorem dL_law_331 : decode cL_law 331 = .ok (.iconst 1, 1) := by decide +kernel
theorem dL_law_332 : decode cL_law 332 = .ok (.iadd, 1) := by decide +kernel
theorem dL_law_333 : decode cL_law 333 = .ok (.iaload, 1) := by decide +kernel
theorem dL_law_334 : decode cL_law 334 = .ok (.aload_n 0, 1) := by decide +kernel
theorem dL_law_335 : decode cL_law 335 = .ok (.iload_n 3, 1) := by decide +kernel
theorem dL_law_336 : decode cL_law 336 = .ok (.iconst 2, 1) := by decide +kernel
theorem dL_law_337 : decode cL_law 337 = .ok (.iadd, 1) := by decide +kernel
theorem dL_law_338 : decode cL_law 338 = .ok (.iaload, 1) := by decide +kernel
theorem dL_law_339 : decode cL_law 339 = .ok (.invokevirtual 32, 3) := by decide +kernel
theorem dL_law_342 : decode cL_law 342 = .ok (.aload_n 2, 1) := by decide +kernel
theorem dL_law_343 : decode cL_law 343 = .ok (.aload_n 0, 1) := by decide +kernel
theorem dL_law_344 : decode cL_law 344 = .ok (.iload_n 3, 1) := by decide +kernel
theorem dL_law_345 : decode cL_law 345 = .ok (.iconst 1, 1) := by decide +kernel
theorem dL_law_346 : decode cL_law 346 = .ok (.iadd, 1) := by decide +kernel
theorem dL_law_347 : decode cL_law 347 = .ok (.iaload, 1) := by decide +kernel
theorem dL_law_348 : decode cL_law 348 = .ok (.aload_n 0, 1) := by decide +kernel
theorem dL_law_349 : decode cL_law 349 = .ok (.iload_n 3, 1) := by decide +kernel
theorem dL_law_350 : decode cL_law 350 = .ok (.iconst 2, 1) := by decide +kernel
theorem dL_law_351 : decode cL_law 351 = .ok (.iadd, 1) := by decide +kernel
theorem dL_law_352 : decode cL_law 352 = .ok (.iaload, 1) := by decide +kernel
theorem dL_law_353 : decode cL_law 353 = .ok (.invokevirtual 35, 3) := by decide +kernel
theorem dL_law_356 : decode cL_law 356 = .ok (.if_icmp .eq 563, 3) := by decide +kernel
theorem dL_law_359 : decode cL_law 359 = .ok (.iconst 0, 1) := by decide +kernel
theorem dL_law_360 : decode cL_law 360 = .ok (.ireturn, 1) := by decide +kernel
theorem dL_law_361 : decode cL_law 361 = .ok (.aload_n 1, 1) := by decide +kernel
theorem dL_law_362 : decode cL_law 362 = .ok (.aload_n 0, 1) := by decide +kernel
theorem dL_law_363 : decode cL_law 363 = .ok (.iload_n 3, 1) := by decide +kernel
theorem dL_law_364 : decode cL_law 364 = .ok (.iconst 1, 1) := by decide +kernel
theorem dL_law_365 : decode cL_law 365 = .ok (.iadd, 1) := by decide +kernel
theorem dL_law_366 : decode cL_law 366 = .ok (.iaload, 1) := by decide +kernel
theorem dL_law_367 : decode cL_law 367 = .ok (.invokevirtual 36, 3) := by decide +kernel
theorem dL_law_370 : decode cL_law 370 = .ok (.aload_n 2, 1) := by decide +kernel
theorem dL_law_371 : decode cL_law 371 = .ok (.aload_n 0, 1) := by decide +kernel
theorem dL_law_372 : decode cL_law 372 = .ok (.iload_n 3, 1) := by decide +kernel
theorem dL_law_373 : decode cL_law 373 = .ok (.iconst 1, 1) := by decide +kernel
theorem dL_law_374 : decode cL_law 374 = .ok (.iadd, 1) := by decide +kernel
theorem dL_law_375 : decode cL_law 375 = .ok (.iaload, 1) := by decide +kernel
theorem dL_law_376 : decode cL_law 376 = .ok (.invokevirtual 40, 3) := by decide +kernel
theorem dL_law_379 : decode cL_law 379 = .ok (.if_icmp .eq 540, 3) := by decide +kernel
theorem dL_law_382 : decode cL_law 382 = .ok (.iconst 0, 1) := by decide +kernel
theorem dL_law_383 : decode cL_law 383 = .ok (.ireturn, 1) := by decide +kernel
theorem dL_law_384 : decode cL_law 384 = .ok (.aload_n 1, 1) := by decide +kernel
theorem dL_law_385 : decode cL_law 385 = .ok (.aload_n 0, 1) := by decide +kernel
theorem dL_law_386 : decode cL_law 386 = .ok (.iload_n 3, 1) := by decide +kernel
theorem dL_law_387 : decode cL_law 387 = .ok (.iconst 1, 1) := by decide +kernel
theorem dL_law_388 : decode cL_law 388 = .ok (.iadd, 1) := by decide +kernel
theorem dL_law_389 : decode cL_law 389 = .ok (.iaload, 1) := by decide +kernel
theorem dL_law_390 : decode cL_law 390 = .ok (.aload_n 0, 1) := by decide +kernel
theorem dL_law_391 : decode cL_law 391 = .ok (.iload_n 3, 1) := by decide +kernel
theorem dL_law_392 : decode cL_law 392 = .ok (.iconst 2, 1) := by decide +kernel
theorem dL_law_393 : decode cL_law 393 = .ok (.iadd, 1) := by decide +kernel
theorem dL_law_394 : decode cL_law 394 = .ok (.iaload, 1) := by decide +kernel
theorem dL_law_395 : decode cL_law 395 = .ok (.invokevirtual 41, 3) := by decide +kernel
theorem dL_law_398 : decode cL_law 398 = .ok (.aload_n 2, 1) := by decide +kernel
theorem dL_law_399 : decode cL_law 399 = .ok (.aload_n 0, 1) := by decide +kernel
theorem dL_law_400 : decode cL_law 400 = .ok (.iload_n 3, 1) := by decide +kernel
theorem dL_law_401 : decode cL_law 401 = .ok (.iconst 1, 1) := by decide +kernel
theorem dL_law_402 : decode cL_law 402 = .ok (.iadd, 1) := by decide +kernel
theorem dL_law_403 : decode cL_law 403 = .ok (.iaload, 1) := by decide +kernel
theorem dL_law_404 : decode cL_law 404 = .ok (.aload_n 0, 1) := by decide +kernel
theorem dL_law_405 : decode cL_law 405 = .ok (.iload_n 3, 1) := by decide +kernel
theorem dL_law_406 : decode cL_law 406 = .ok (.iconst 2, 1) := by decide +kernel
theorem dL_law_407 : decode cL_law 407 = .ok (.iadd, 1) := by decide +kernel
theorem dL_law_408 : decode cL_law 408 = .ok (.iaload, 1) := by decide +kernel
theorem dL_law_409 : decode cL_law 409 = .ok (.invokevirtual 44, 3) := by decide +kernel
theorem dL_law_412 : decode cL_law 412 = .ok (.if_icmp .eq 507, 3) := by decide +kernel
theorem dL_law_415 : decode cL_law 415 = .ok (.iconst 0, 1) := by decide +kernel
theorem dL_law_416 : decode cL_law 416 = .ok (.ireturn, 1) := by decide +kernel
theorem dL_law_417 : decode cL_law 417 = .ok (.aload_n 1, 1) := by decide +kernel
theorem dL_law_418 : decode cL_law 418 = .ok (.aload_n 0, 1) := by decide +kernel
theorem dL_law_419 : decode cL_law 419 = .ok (.iload_n 3, 1) := by decide +kernel
theorem dL_law_420 : decode cL_law 420 = .ok (.iconst 1, 1) := by decide +kernel
theorem dL_law_421 : decode cL_law 421 = .ok (.iadd, 1) := by decide +kernel
theorem dL_law_422 : decode cL_law 422 = .ok (.iaload, 1) := by decide +kernel
theorem dL_law_423 : decode cL_law 423 = .ok (.invokevirtual 45, 3) := by decide +kernel
theorem dL_law_426 : decode cL_law 426 = .ok (.aload_n 2, 1) := by decide +kernel
theorem dL_law_427 : decode cL_law 427 = .ok (.aload_n 0, 1) := by decide +kernel
theorem dL_law_428 : decode cL_law 428 = .ok (.iload_n 3, 1) := by decide +kernel
theorem dL_law_429 : decode cL_law 429 = .ok (.iconst 1, 1) := by decide +kernel
theorem dL_law_430 : decode cL_law 430 = .ok (.iadd, 1) := by decide +kernel
theorem dL_law_431 : decode cL_law 431 = .ok (.iaload, 1) := by decide +kernel
theorem dL_law_432 : decode cL_law 432 = .ok (.invokevirtual 48, 3) := by decide +kernel
theorem dL_law_435 : decode cL_law 435 = .ok (.if_icmp .eq 484, 3) := by decide +kernel
theorem dL_law_438 : decode cL_law 438 = .ok (.iconst 0, 1) := by decide +kernel
theorem dL_law_439 : decode cL_law 439 = .ok (.ireturn, 1) := by decide +kernel
theorem dL_law_440 : decode cL_law 440 = .ok (.aload_n 1, 1) := by decide +kernel
theorem dL_law_441 : decode cL_law 441 = .ok (.aload_n 0, 1) := by decide +kernel
theorem dL_law_442 : decode cL_law 442 = .ok (.iload_n 3, 1) := by decide +kernel
theorem dL_law_443 : decode cL_law 443 = .ok (.iconst 1, 1) := by decide +kernel
theorem dL_law_444 : decode cL_law 444 = .ok (.iadd, 1) := by decide +kernel
theorem dL_law_445 : decode cL_law 445 = .ok (.iaload, 1) := by decide +kernel
theorem dL_law_446 : decode cL_law 446 = .ok (.invokevirtual 49, 3) := by decide +kernel
theorem dL_law_449 : decode cL_law 449 = .ok (.aload_n 2, 1) := by decide +kernel
theorem dL_law_450 : decode cL_law 450 = .ok (.aload_n 0, 1) := by decide +kernel
theorem dL_law_451 : decode cL_law 451 = .ok (.iload_n 3, 1) := by decide +kernel
theorem dL_law_452 : decode cL_law 452 = .ok (.iconst 1, 1) := by decide +kernel
theorem dL_law_453 : decode cL_law 453 = .ok (.iadd, 1) := by decide +kernel
theorem dL_law_454 : decode cL_law 454 = .ok (.iaload, 1) := by decide +kernel
theorem dL_law_455 : decode cL_law 455 = .ok (.invokevirtual 52, 3) := by decide +kernel
theorem dL_law_458 : decode cL_law 458 = .ok (.if_icmp .eq 461, 3) := by decide +kernel
theorem dL_law_461 : decode cL_law 461 = .ok (.iconst 0, 1) := by decide +kernel
theorem dL_law_462 : decode cL_law 462 = .ok (.ireturn, 1) := by decide +kernel
theorem dL_law_463 : decode cL_law 463 = .ok (.aload_n 1, 1) := by decide +kernel
theorem dL_law_464 : decode cL_law 464 = .ok (.aload_n 0, 1) := by decide +kernel
theorem dL_law_465 : decode cL_law 465 = .ok (.iload_n 3, 1) := by decide +kernel
theorem dL_law_466 : decode cL_law 466 = .ok (.iconst 1, 1) := by decide +kernel
theorem dL_law_467 : decode cL_law 467 = .ok (.iadd, 1) := by decide +kernel
theorem dL_law_468 : decode cL_law 468 = .ok (.iaload, 1) := by decide +kernel
theorem dL_law_469 : decode cL_law 469 = .ok (.aload_n 0, 1) := by decide +kernel
theorem dL_law_470 : decode cL_law 470 = .ok (.iload_n 3, 1) := by decide +kernel
theorem dL_law_471 : decode cL_law 471 = .ok (.iconst 2, 1) := by decide +kernel
theorem dL_law_472 : decode cL_law 472 = .ok (.iadd, 1) := by decide +kernel
theorem dL_law_473 : decode cL_law 473 = .ok (.iaload, 1) := by decide +kernel
theorem dL_law_474 : decode cL_law 474 = .ok (.invokevirtual 53, 3) := by decide +kernel
theorem dL_law_477 : decode cL_law 477 = .ok (.aload_n 2, 1) := by decide +kernel
theorem dL_law_478 : decode cL_law 478 = .ok (.aload_n 0, 1) := by decide +kernel
theorem dL_law_479 : decode cL_law 479 = .ok (.iload_n 3, 1) := by decide +kernel
theorem dL_law_480 : decode cL_law 480 = .ok (.iconst 1, 1) := by decide +kernel
theorem dL_law_481 : decode cL_law 481 = .ok (.iadd, 1) := by decide +kernel
theorem dL_law_482 : decode cL_law 482 = .ok (.iaload, 1) := by decide +kernel
theorem dL_law_483 : decode cL_law 483 = .ok (.aload_n 0, 1) := by decide +kernel
theorem dL_law_484 : decode cL_law 484 = .ok (.iload_n 3, 1) := by decide +kernel
theorem dL_law_485 : decode cL_law 485 = .ok (.iconst 2, 1) := by decide +kernel
theorem dL_law_486 : decode cL_law 486 = .ok (.iadd, 1) := by decide +kernel
theorem dL_law_487 : decode cL_law 487 = .ok (.iaload, 1) := by decide +kernel
theorem dL_law_488 : decode cL_law 488 = .ok (.invokevirtual 56, 3) := by decide +kernel
theorem dL_law_491 : decode cL_law 491 = .ok (.if_icmp .eq 428, 3) := by decide +kernel
theorem dL_law_494 : decode cL_law 494 = .ok (.iconst 0, 1) := by decide +kernel
theorem dL_law_495 : decode cL_law 495 = .ok (.ireturn, 1) := by decide +kernel
theorem dL_law_496 : decode cL_law 496 = .ok (.aload_n 1, 1) := by decide +kernel
theorem dL_law_497 : decode cL_law 497 = .ok (.aload_n 0, 1) := by decide +kernel
theorem dL_law_498 : decode cL_law 498 = .ok (.iload_n 3, 1) := by decide +kernel
theorem dL_law_499 : decode cL_law 499 = .ok (.iconst 1, 1) := by decide +kernel
theorem dL_law_500 : decode cL_law 500 = .ok (.iadd, 1) := by decide +kernel
theorem dL_law_501 : decode cL_law 501 = .ok (.iaload, 1) := by decide +kernel
theorem dL_law_502 : decode cL_law 502 = .ok (.aload_n 0, 1) := by decide +kernel
theorem dL_law_503 : decode cL_law 503 = .ok (.iload_n 3, 1) := by decide +kernel
theorem dL_law_504 : decode cL_law 504 = .ok (.iconst 2, 1) := by decide +kernel
theorem dL_law_505 : decode cL_law 505 = .ok (.iadd, 1) := by decide +kernel
theorem dL_law_506 : decode cL_law 506 = .ok (.iaload, 1) := by decide +kernel
theorem dL_law_507 : decode cL_law 507 = .ok (.invokevirtual 57, 3) := by decide +kernel
theorem dL_law_510 : decode cL_law 510 = .ok (.aload_n 2, 1) := by decide +kernel
theorem dL_law_511 : decode cL_law 511 = .ok (.aload_n 0, 1) := by decide +kernel
theorem dL_law_512 : decode cL_law 512 = .ok (.iload_n 3, 1) := by decide +kernel
theorem dL_law_513 : decode cL_law 513 = .ok (.iconst 1, 1) := by decide +kernel
theorem dL_law_514 : decode cL_law 514 = .ok (.iadd, 1) := by decide +kernel
theorem dL_law_515 : decode cL_law 515 = .ok (.iaload, 1) := by decide +kernel
theorem dL_law_516 : decode cL_law 516 = .ok (.aload_n 0, 1) := by decide +kernel
theorem dL_law_517 : decode cL_law 517 = .ok (.iload_n 3, 1) := by decide +kernel
theorem dL_law_518 : decode cL_law 518 = .ok (.iconst 2, 1) := by decide +kernel
theorem dL_law_519 : decode cL_law 519 = .ok (.iadd, 1) := by decide +kernel
theorem dL_law_520 : decode cL_law 520 = .ok (.iaload, 1) := by decide +kernel
theorem dL_law_521 : decode cL_law 521 = .ok (.invokevirtual 60, 3) := by decide +kernel
theorem dL_law_524 : decode cL_law 524 = .ok (.if_icmp .eq 395, 3) := by decide +kernel
theorem dL_law_527 : decode cL_law 527 = .ok (.iconst 0, 1) := by decide +kernel
theorem dL_law_528 : decode cL_law 528 = .ok (.ireturn, 1) := by decide +kernel
theorem dL_law_529 : decode cL_law 529 = .ok (.aload_n 1, 1) := by decide +kernel
theorem dL_law_530 : decode cL_law 530 = .ok (.aload_n 0, 1) := by decide +kernel
theorem dL_law_531 : decode cL_law 531 = .ok (.iload_n 3, 1) := by decide +kernel
theorem dL_law_532 : decode cL_law 532 = .ok (.iconst 1, 1) := by decide +kernel
theorem dL_law_533 : decode cL_law 533 = .ok (.iadd, 1) := by decide +kernel
theorem dL_law_534 : decode cL_law 534 = .ok (.iaload, 1) := by decide +kernel
theorem dL_law_535 : decode cL_law 535 = .ok (.invokevirtual 61, 3) := by decide +kernel
theorem dL_law_538 : decode cL_law 538 = .ok (.aload_n 2, 1) := by decide +kernel
theorem dL_law_539 : decode cL_law 539 = .ok (.aload_n 0, 1) := by decide +kernel
theorem dL_law_540 : decode cL_law 540 = .ok (.iload_n 3, 1) := by decide +kernel
theorem dL_law_541 : decode cL_law 541 = .ok (.iconst 1, 1) := by decide +kernel
theorem dL_law_542 : decode cL_law 542 = .ok (.iadd, 1) := by decide +kernel
theorem dL_law_543 : decode cL_law 543 = .ok (.iaload, 1) := by decide +kernel
theorem dL_law_544 : decode cL_law 544 = .ok (.invokevirtual 64, 3) := by decide +kernel
theorem dL_law_547 : decode cL_law 547 = .ok (.if_icmp .eq 372, 3) := by decide +kernel
theorem dL_law_550 : decode cL_law 550 = .ok (.iconst 0, 1) := by decide +kernel
theorem dL_law_551 : decode cL_law 551 = .ok (.ireturn, 1) := by decide +kernel
theorem dL_law_552 : decode cL_law 552 = .ok (.aload_n 1, 1) := by decide +kernel
theorem dL_law_553 : decode cL_law 553 = .ok (.aload_n 0, 1) := by decide +kernel
theorem dL_law_554 : decode cL_law 554 = .ok (.iload_n 3, 1) := by decide +kernel
theorem dL_law_555 : decode cL_law 555 = .ok (.iconst 1, 1) := by decide +kernel
theorem dL_law_556 : decode cL_law 556 = .ok (.iadd, 1) := by decide +kernel
theorem dL_law_557 : decode cL_law 557 = .ok (.iaload, 1) := by decide +kernel
theorem dL_law_558 : decode cL_law 558 = .ok (.i2c, 1) := by decide +kernel
theorem dL_law_559 : decode cL_law 559 = .ok (.invokevirtual 65, 3) := by decide +kernel
theorem dL_law_562 : decode cL_law 562 = .ok (.aload_n 2, 1) := by decide +kernel
theorem dL_law_563 : decode cL_law 563 = .ok (.aload_n 0, 1) := by decide +kernel
theorem dL_law_564 : decode cL_law 564 = .ok (.iload_n 3, 1) := by decide +kernel
theorem dL_law_565 : decode cL_law 565 = .ok (.iconst 1, 1) := by decide +kernel
theorem dL_law_566 : decode cL_law 566 = .ok (.iadd, 1) := by decide +kernel
theorem dL_law_567 : decode cL_law 567 = .ok (.iaload, 1) := by decide +kernel
theorem dL_law_568 : decode cL_law 568 = .ok (.i2c, 1) := by decide +kernel
theorem dL_law_569 : decode cL_law 569 = .ok (.invokevirtual 69, 3) := by decide +kernel
theorem dL_law_572 : decode cL_law 572 = .ok (.if_icmp .eq 347, 3) := by decide +kernel
theorem dL_law_575 : decode cL_law 575 = .ok (.iconst 0, 1) := by decide +kernel
theorem dL_law_576 : decode cL_law 576 = .ok (.ireturn, 1) := by decide +kernel
theorem dL_law_577 : decode cL_law 577 = .ok (.aload_n 1, 1) := by decide +kernel
theorem dL_law_578 : decode cL_law 578 = .ok (.invokevirtual 70, 3) := by decide +kernel
theorem dL_law_581 : decode cL_law 581 = .ok (.aload_n 2, 1) := by decide +kernel
theorem dL_law_582 : decode cL_law 582 = .ok (.invokevirtual 74, 3) := by decide +kernel
theorem dL_law_585 : decode cL_law 585 = .ok (.if_icmp .eq 334, 3) := by decide +kernel
theorem dL_law_588 : decode cL_law 588 = .ok (.iconst 0, 1) := by decide +kernel
theorem dL_law_589 : decode cL_law 589 = .ok (.ireturn, 1) := by decide +kernel
theorem dL_law_590 : decode cL_law 590 = .ok (.aload_n 1, 1) := by decide +kernel
theorem dL_law_591 : decode cL_law 591 = .ok (.invokevirtual 75, 3) := by decide +kernel
theorem dL_law_594 : decode cL_law 594 = .ok (.aload_n 2, 1) := by decide +kernel
theorem dL_law_595 : decode cL_law 595 = .ok (.invokevirtual 78, 3) := by decide +kernel
theorem dL_law_598 : decode cL_law 598 = .ok (.if_icmp .eq 321, 3) := by decide +kernel
theorem dL_law_601 : decode cL_law 601 = .ok (.iconst 0, 1) := by decide +kernel
theorem dL_law_602 : decode cL_law 602 = .ok (.ireturn, 1) := by decide +kernel
theorem dL_law_603 : decode cL_law 603 = .ok (.aload_n 1, 1) := by decide +kernel
theorem dL_law_604 : decode cL_law 604 = .ok (.invokevirtual 79, 3) := by decide +kernel
theorem dL_law_607 : decode cL_law 607 = .ok (.aload_n 2, 1) := by decide +kernel
theorem dL_law_608 : decode cL_law 608 = .ok (.invokevirtual 82, 3) := by decide +kernel
theorem dL_law_611 : decode cL_law 611 = .ok (.if_icmp .eq 308, 3) := by decide +kernel
theorem dL_law_614 : decode cL_law 614 = .ok (.iconst 0, 1) := by decide +kernel
theorem dL_law_615 : decode cL_law 615 = .ok (.ireturn, 1) := by decide +kernel
theorem dL_law_616 : decode cL_law 616 = .ok (.aload_n 1, 1) := by decide +kernel
theorem dL_law_617 : decode cL_law 617 = .ok (.invokevirtual 83, 3) := by decide +kernel
theorem dL_law_620 : decode cL_law 620 = .ok (.aload_n 2, 1) := by decide +kernel
theorem dL_law_621 : decode cL_law 621 = .ok (.invokevirtual 86, 3) := by decide +kernel
theorem dL_law_624 : decode cL_law 624 = .ok (.if_icmp .eq 295, 3) := by decide +kernel
theorem dL_law_627 : decode cL_law 627 = .ok (.iconst 0, 1) := by decide +kernel
theorem dL_law_628 : decode cL_law 628 = .ok (.ireturn, 1) := by decide +kernel
theorem dL_law_629 : decode cL_law 629 = .ok (.aload_n 1, 1) := by decide +kernel
theorem dL_law_630 : decode cL_law 630 = .ok (.invokevirtual 87, 3) := by decide +kernel
theorem dL_law_633 : decode cL_law 633 = .ok (.aload_n 2, 1) := by decide +kernel
theorem dL_law_634 : decode cL_law 634 = .ok (.invokevirtual 90, 3) := by decide +kernel
theorem dL_law_637 : decode cL_law 637 = .ok (.if_icmp .eq 282, 3) := by decide +kernel
theorem dL_law_640 : decode cL_law 640 = .ok (.iconst 0, 1) := by decide +kernel
theorem dL_law_641 : decode cL_law 641 = .ok (.ireturn, 1) := by decide +kernel
theorem dL_law_642 : decode cL_law 642 = .ok (.aload_n 1, 1) := by decide +kernel
theorem dL_law_643 : decode cL_law 643 = .ok (.aload_n 0, 1) := by decide +kernel
theorem dL_law_644 : decode cL_law 644 = .ok (.iload_n 3, 1) := by decide +kernel
theorem dL_law_645 : decode cL_law 645 = .ok (.iconst 1, 1) := by decide +kernel
theorem dL_law_646 : decode cL_law 646 = .ok (.iadd, 1) := by decide +kernel
theorem dL_law_647 : decode cL_law 647 = .ok (.iaload, 1) := by decide +kernel
theorem dL_law_648 : decode cL_law 648 = .ok (.aload_n 0, 1) := by decide +kernel
theorem dL_law_649 : decode cL_law 649 = .ok (.iload_n 3, 1) := by decide +kernel
theorem dL_law_650 : decode cL_law 650 = .ok (.iconst 2, 1) := by decide +kernel
theorem dL_law_651 : decode cL_law 651 = .ok (.iadd, 1) := by decide +kernel
theorem dL_law_652 : decode cL_law 652 = .ok (.iaload, 1) := by decide +kernel
theorem dL_law_653 : decode cL_law 653 = .ok (.invokevirtual 91, 3) := by decide +kernel
theorem dL_law_656 : decode cL_law 656 = .ok (.aload_n 2, 1) := by decide +kernel
theorem dL_law_657 : decode cL_law 657 = .ok (.aload_n 0, 1) := by decide +kernel
theorem dL_law_658 : decode cL_law 658 = .ok (.iload_n 3, 1) := by decide +kernel
theorem dL_law_659 : decode cL_law 659 = .ok (.iconst 1, 1) := by decide +kernel
theorem dL_law_660 : decode cL_law 660 = .ok (.iadd, 1) := by decide +kernel
theorem dL_law_661 : decode cL_law 661 = .ok (.iaload, 1) := by decide +kernel
theorem dL_law_662 : decode cL_law 662 = .ok (.aload_n 0, 1) := by decide +kernel
theorem dL_law_663 : decode cL_law 663 = .ok (.iload_n 3, 1) := by decide +kernel
theorem dL_law_664 : decode cL_law 664 = .ok (.iconst 2, 1) := by decide +kernel
theorem dL_law_665 : decode cL_law 665 = .ok (.iadd, 1) := by decide +kernel
theorem dL_law_666 : decode cL_law 666 = .ok (.iaload, 1) := by decide +kernel
theorem dL_law_667 : decode cL_law 667 = .ok (.invokevirtual 94, 3) := by decide +kernel
theorem dL_law_670 : decode cL_law 670 = .ok (.if_icmp .eq 249, 3) := by decide +kernel
theorem dL_law_673 : decode cL_law 673 = .ok (.iconst 0, 1) := by decide +kernel
theorem dL_law_674 : decode cL_law 674 = .ok (.ireturn, 1) := by decide +kernel
theorem dL_law_675 : decode cL_law 675 = .ok (.aload_n 1, 1) := by decide +kernel
theorem dL_law_676 : decode cL_law 676 = .ok (.aload_n 0, 1) := by decide +kernel
theorem dL_law_677 : decode cL_law 677 = .ok (.iload_n 3, 1) := by decide +kernel
theorem dL_law_678 : decode cL_law 678 = .ok (.iconst 1, 1) := by decide +kernel
theorem dL_law_679 : decode cL_law 679 = .ok (.iadd, 1) := by decide +kernel
theorem dL_law_680 : decode cL_law 680 = .ok (.iaload, 1) := by decide +kernel
theorem dL_law_681 : decode cL_law 681 = .ok (.aload_n 0, 1) := by decide +kernel
theorem dL_law_682 : decode cL_law 682 = .ok (.iload_n 3, 1) := by decide +kernel
theorem dL_law_683 : decode cL_law 683 = .ok (.iconst 2, 1) := by decide +kernel
theorem dL_law_684 : decode cL_law 684 = .ok (.iadd, 1) := by decide +kernel
theorem dL_law_685 : decode cL_law 685 = .ok (.iaload, 1) := by decide +kernel
theorem dL_law_686 : decode cL_law 686 = .ok (.invokevirtual 95, 3) := by decide +kernel
theorem dL_law_689 : decode cL_law 689 = .ok (.aload_n 2, 1) := by decide +kernel
theorem dL_law_690 : decode cL_law 690 = .ok (.aload_n 0, 1) := by decide +kernel
theorem dL_law_691 : decode cL_law 691 = .ok (.iload_n 3, 1) := by decide +kernel
theorem dL_law_692 : decode cL_law 692 = .ok (.iconst 1, 1) := by decide +kernel
theorem dL_law_693 : decode cL_law 693 = .ok (.iadd, 1) := by decide +kernel
theorem dL_law_694 : decode cL_law 694 = .ok (.iaload, 1) := by decide +kernel
theorem dL_law_695 : decode cL_law 695 = .ok (.aload_n 0, 1) := by decide +kernel
theorem dL_law_696 : decode cL_law 696 = .ok (.iload_n 3, 1) := by decide +kernel
theorem dL_law_697 : decode cL_law 697 = .ok (.iconst 2, 1) := by decide +kernel
theorem dL_law_698 : decode cL_law 698 = .ok (.iadd, 1) := by decide +kernel
theorem dL_law_699 : decode cL_law 699 = .ok (.iaload, 1) := by decide +kernel
theorem dL_law_700 : decode cL_law 700 = .ok (.invokevirtual 98, 3) := by decide +kernel
theorem dL_law_703 : decode cL_law 703 = .ok (.if_icmp .eq 216, 3) := by decide +kernel
theorem dL_law_706 : decode cL_law 706 = .ok (.iconst 0, 1) := by decide +kernel
theorem dL_law_707 : decode cL_law 707 = .ok (.ireturn, 1) := by decide +kernel
theorem dL_law_708 : decode cL_law 708 = .ok (.aload_n 1, 1) := by decide +kernel
theorem dL_law_709 : decode cL_law 709 = .ok (.aload_n 0, 1) := by decide +kernel
theorem dL_law_710 : decode cL_law 710 = .ok (.iload_n 3, 1) := by decide +kernel
theorem dL_law_711 : decode cL_law 711 = .ok (.iconst 1, 1) := by decide +kernel
theorem dL_law_712 : decode cL_law 712 = .ok (.iadd, 1) := by decide +kernel
theorem dL_law_713 : decode cL_law 713 = .ok (.iaload, 1) := by decide +kernel
theorem dL_law_714 : decode cL_law 714 = .ok (.aload_n 0, 1) := by decide +kernel
theorem dL_law_715 : decode cL_law 715 = .ok (.iload_n 3, 1) := by decide +kernel
theorem dL_law_716 : decode cL_law 716 = .ok (.iconst 2, 1) := by decide +kernel
theorem dL_law_717 : decode cL_law 717 = .ok (.iadd, 1) := by decide +kernel
theorem dL_law_718 : decode cL_law 718 = .ok (.iaload, 1) := by decide +kernel
theorem dL_law_719 : decode cL_law 719 = .ok (.invokevirtual 99, 3) := by decide +kernel
theorem dL_law_722 : decode cL_law 722 = .ok (.aload_n 2, 1) := by decide +kernel
theorem dL_law_723 : decode cL_law 723 = .ok (.aload_n 0, 1) := by decide +kernel
theorem dL_law_724 : decode cL_law 724 = .ok (.iload_n 3, 1) := by decide +kernel
theorem dL_law_725 : decode cL_law 725 = .ok (.iconst 1, 1) := by decide +kernel
theorem dL_law_726 : decode cL_law 726 = .ok (.iadd, 1) := by decide +kernel
theorem dL_law_727 : decode cL_law 727 = .ok (.iaload, 1) := by decide +kernel
theorem dL_law_728 : decode cL_law 728 = .ok (.aload_n 0, 1) := by decide +kernel
theorem dL_law_729 : decode cL_law 729 = .ok (.iload_n 3, 1) := by decide +kernel
theorem dL_law_730 : decode cL_law 730 = .ok (.iconst 2, 1) := by decide +kernel
theorem dL_law_731 : decode cL_law 731 = .ok (.iadd, 1) := by decide +kernel
theorem dL_law_732 : decode cL_law 732 = .ok (.iaload, 1) := by decide +kernel
theorem dL_law_733 : decode cL_law 733 = .ok (.invokevirtual 102, 3) := by decide +kernel
theorem dL_law_736 : decode cL_law 736 = .ok (.if_icmp .eq 183, 3) := by decide +kernel
theorem dL_law_739 : decode cL_law 739 = .ok (.iconst 0, 1) := by decide +kernel
theorem dL_law_740 : decode cL_law 740 = .ok (.ireturn, 1) := by decide +kernel
theorem dL_law_741 : decode cL_law 741 = .ok (.aload_n 1, 1) := by decide +kernel
theorem dL_law_742 : decode cL_law 742 = .ok (.aload_n 0, 1) := by decide +kernel
theorem dL_law_743 : decode cL_law 743 = .ok (.iload_n 3, 1) := by decide +kernel
theorem dL_law_744 : decode cL_law 744 = .ok (.iconst 1, 1) := by decide +kernel
theorem dL_law_745 : decode cL_law 745 = .ok (.iadd, 1) := by decide +kernel
theorem dL_law_746 : decode cL_law 746 = .ok (.iaload, 1) := by decide +kernel
theorem dL_law_747 : decode cL_law 747 = .ok (.aload_n 0, 1) := by decide +kernel
theorem dL_law_748 : decode cL_law 748 = .ok (.iload_n 3, 1) := by decide +kernel
theorem dL_law_749 : decode cL_law 749 = .ok (.iconst 2, 1) := by decide +kernel
theorem dL_law_750 : decode cL_law 750 = .ok (.iadd, 1) := by decide +kernel
theorem dL_law_751 : decode cL_law 751 = .ok (.iaload, 1) := by decide +kernel
theorem dL_law_752 : decode cL_law 752 = .ok (.invokevirtual 103, 3) := by decide +kernel
theorem dL_law_755 : decode cL_law 755 = .ok (.aload_n 2, 1) := by decide +kernel
theorem dL_law_756 : decode cL_law 756 = .ok (.aload_n 0, 1) := by decide +kernel
theorem dL_law_757 : decode cL_law 757 = .ok (.iload_n 3, 1) := by decide +kernel
theorem dL_law_758 : decode cL_law 758 = .ok (.iconst 1, 1) := by decide +kernel
theorem dL_law_759 : decode cL_law 759 = .ok (.iadd, 1) := by decide +kernel
theorem dL_law_760 : decode cL_law 760 = .ok (.iaload, 1) := by decide +kernel
theorem dL_law_761 : decode cL_law 761 = .ok (.aload_n 0, 1) := by decide +kernel
theorem dL_law_762 : decode cL_law 762 = .ok (.iload_n 3, 1) := by decide +kernel
theorem dL_law_763 : decode cL_law 763 = .ok (.iconst 2, 1) := by decide +kernel
theorem dL_law_764 : decode cL_law 764 = .ok (.iadd, 1) := by decide +kernel
theorem dL_law_765 : decode cL_law 765 = .ok (.iaload, 1) := by decide +kernel
theorem dL_law_766 : decode cL_law 766 = .ok (.invokevirtual 106, 3) := by decide +kernel
theorem dL_law_769 : decode cL_law 769 = .ok (.if_icmp .eq 150, 3) := by decide +kernel
theorem dL_law_772 : decode cL_law 772 = .ok (.iconst 0, 1) := by decide +kernel
theorem dL_law_773 : decode cL_law 773 = .ok (.ireturn, 1) := by decide +kernel
theorem dL_law_774 : decode cL_law 774 = .ok (.aload_n 1, 1) := by decide +kernel
theorem dL_law_775 : decode cL_law 775 = .ok (.aload_n 0, 1) := by decide +kernel
theorem dL_law_776 : decode cL_law 776 = .ok (.iload_n 3, 1) := by decide +kernel
theorem dL_law_777 : decode cL_law 777 = .ok (.iconst 1, 1) := by decide +kernel
theorem dL_law_778 : decode cL_law 778 = .ok (.iadd, 1) := by decide +kernel
theorem dL_law_779 : decode cL_law 779 = .ok (.iaload, 1) := by decide +kernel
theorem dL_law_780 : decode cL_law 780 = .ok (.aload_n 0, 1) := by decide +kernel
theorem dL_law_781 : decode cL_law 781 = .ok (.iload_n 3, 1) := by decide +kernel
theorem dL_law_782 : decode cL_law 782 = .ok (.iconst 2, 1) := by decide +kernel
theorem dL_law_783 : decode cL_law 783 = .ok (.iadd, 1) := by decide +kernel
theorem dL_law_784 : decode cL_law 784 = .ok (.iaload, 1) := by decide +kernel
theorem dL_law_785 : decode cL_law 785 = .ok (.invokevirtual 107, 3) := by decide +kernel
theorem dL_law_788 : decode cL_law 788 = .ok (.aload_n 2, 1) := by decide +kernel
theorem dL_law_789 : decode cL_law 789 = .ok (.aload_n 0, 1) := by decide +kernel
theorem dL_law_790 : decode cL_law 790 = .ok (.iload_n 3, 1) := by decide +kernel
theorem dL_law_791 : decode cL_law 791 = .ok (.iconst 1, 1) := by decide +kernel
theorem dL_law_792 : decode cL_law 792 = .ok (.iadd, 1) := by decide +kernel
theorem dL_law_793 : decode cL_law 793 = .ok (.iaload, 1) := by decide +kernel
theorem dL_law_794 : decode cL_law 794 = .ok (.aload_n 0, 1) := by decide +kernel
theorem dL_law_795 : decode cL_law 795 = .ok (.iload_n 3, 1) := by decide +kernel
theorem dL_law_796 : decode cL_law 796 = .ok (.iconst 2, 1) := by decide +kernel
theorem dL_law_797 : decode cL_law 797 = .ok (.iadd, 1) := by decide +kernel
theorem dL_law_798 : decode cL_law 798 = .ok (.iaload, 1) := by decide +kernel
theorem dL_law_799 : decode cL_law 799 = .ok (.invokevirtual 110, 3) := by decide +kernel
theorem dL_law_802 : decode cL_law 802 = .ok (.if_icmp .eq 117, 3) := by decide +kernel
theorem dL_law_805 : decode cL_law 805 = .ok (.iconst 0, 1) := by decide +kernel
theorem dL_law_806 : decode cL_law 806 = .ok (.ireturn, 1) := by decide +kernel
theorem dL_law_807 : decode cL_law 807 = .ok (.aload_n 1, 1) := by decide +kernel
theorem dL_law_808 : decode cL_law 808 = .ok (.aload_n 0, 1) := by decide +kernel
theorem dL_law_809 : decode cL_law 809 = .ok (.iload_n 3, 1) := by decide +kernel
theorem dL_law_810 : decode cL_law 810 = .ok (.iconst 1, 1) := by decide +kernel
theorem dL_law_811 : decode cL_law 811 = .ok (.iadd, 1) := by decide +kernel
theorem dL_law_812 : decode cL_law 812 = .ok (.iaload, 1) := by decide +kernel
theorem dL_law_813 : decode cL_law 813 = .ok (.aload_n 0, 1) := by decide +kernel
theorem dL_law_814 : decode cL_law 814 = .ok (.iload_n 3, 1) := by decide +kernel
theorem dL_law_815 : decode cL_law 815 = .ok (.iconst 2, 1) := by decide +kernel
theorem dL_law_816 : decode cL_law 816 = .ok (.iadd, 1) := by decide +kernel
theorem dL_law_817 : decode cL_law 817 = .ok (.iaload, 1) := by decide +kernel
theorem dL_law_818 : decode cL_law 818 = .ok (.invokevirtual 111, 3) := by decide +kernel
theorem dL_law_821 : decode cL_law 821 = .ok (.aload_n 2, 1) := by decide +kernel
theorem dL_law_822 : decode cL_law 822 = .ok (.aload_n 0, 1) := by decide +kernel
theorem dL_law_823 : decode cL_law 823 = .ok (.iload_n 3, 1) := by decide +kernel
theorem dL_law_824 : decode cL_law 824 = .ok (.iconst 1, 1) := by decide +kernel
theorem dL_law_825 : decode cL_law 825 = .ok (.iadd, 1) := by decide +kernel
theorem dL_law_826 : decode cL_law 826 = .ok (.iaload, 1) := by decide +kernel
theorem dL_law_827 : decode cL_law 827 = .ok (.aload_n 0, 1) := by decide +kernel
theorem dL_law_828 : decode cL_law 828 = .ok (.iload_n 3, 1) := by decide +kernel
theorem dL_law_829 : decode cL_law 829 = .ok (.iconst 2, 1) := by decide +kernel
theorem dL_law_830 : decode cL_law 830 = .ok (.iadd, 1) := by decide +kernel
theorem dL_law_831 : decode cL_law 831 = .ok (.iaload, 1) := by decide +kernel
theorem dL_law_832 : decode cL_law 832 = .ok (.invokevirtual 114, 3) := by decide +kernel
theorem dL_law_835 : decode cL_law 835 = .ok (.if_icmp .eq 84, 3) := by decide +kernel
theorem dL_law_838 : decode cL_law 838 = .ok (.iconst 0, 1) := by decide +kernel
theorem dL_law_839 : decode cL_law 839 = .ok (.ireturn, 1) := by decide +kernel
theorem dL_law_840 : decode cL_law 840 = .ok (.aload_n 1, 1) := by decide +kernel
theorem dL_law_841 : decode cL_law 841 = .ok (.aload_n 0, 1) := by decide +kernel
theorem dL_law_842 : decode cL_law 842 = .ok (.iload_n 3, 1) := by decide +kernel
theorem dL_law_843 : decode cL_law 843 = .ok (.iconst 1, 1) := by decide +kernel
theorem dL_law_844 : decode cL_law 844 = .ok (.iadd, 1) := by decide +kernel
theorem dL_law_845 : decode cL_law 845 = .ok (.iaload, 1) := by decide +kernel
theorem dL_law_846 : decode cL_law 846 = .ok (.invokevirtual 115, 3) := by decide +kernel
theorem dL_law_849 : decode cL_law 849 = .ok (.aload_n 2, 1) := by decide +kernel
theorem dL_law_850 : decode cL_law 850 = .ok (.aload_n 0, 1) := by decide +kernel
theorem dL_law_851 : decode cL_law 851 = .ok (.iload_n 3, 1) := by decide +kernel
theorem dL_law_852 : decode cL_law 852 = .ok (.iconst 1, 1) := by decide +kernel
theorem dL_law_853 : decode cL_law 853 = .ok (.iadd, 1) := by decide +kernel
theorem dL_law_854 : decode cL_law 854 = .ok (.iaload, 1) := by decide +kernel
theorem dL_law_855 : decode cL_law 855 = .ok (.invokevirtual 118, 3) := by decide +kernel
theorem dL_law_858 : decode cL_law 858 = .ok (.if_icmp .eq 61, 3) := by decide +kernel
theorem dL_law_861 : decode cL_law 861 = .ok (.iconst 0, 1) := by decide +kernel
theorem dL_law_862 : decode cL_law 862 = .ok (.ireturn, 1) := by decide +kernel
theorem dL_law_863 : decode cL_law 863 = .ok (.aload_n 1, 1) := by decide +kernel
theorem dL_law_864 : decode cL_law 864 = .ok (.aload_n 0, 1) := by decide +kernel
theorem dL_law_865 : decode cL_law 865 = .ok (.iload_n 3, 1) := by decide +kernel
theorem dL_law_866 : decode cL_law 866 = .ok (.iconst 1, 1) := by decide +kernel
theorem dL_law_867 : decode cL_law 867 = .ok (.iadd, 1) := by decide +kernel
theorem dL_law_868 : decode cL_law 868 = .ok (.iaload, 1) := by decide +kernel
theorem dL_law_869 : decode cL_law 869 = .ok (.aload_n 0, 1) := by decide +kernel
theorem dL_law_870 : decode cL_law 870 = .ok (.iload_n 3, 1) := by decide +kernel
theorem dL_law_871 : decode cL_law 871 = .ok (.iconst 2, 1) := by decide +kernel
theorem dL_law_872 : decode cL_law 872 = .ok (.iadd, 1) := by decide +kernel
theorem dL_law_873 : decode cL_law 873 = .ok (.iaload, 1) := by decide +kernel
theorem dL_law_874 : decode cL_law 874 = .ok (.invokevirtual 119, 3) := by decide +kernel
theorem dL_law_877 : decode cL_law 877 = .ok (.aload_n 2, 1) := by decide +kernel
theorem dL_law_878 : decode cL_law 878 = .ok (.aload_n 0, 1) := by decide +kernel
theorem dL_law_879 : decode cL_law 879 = .ok (.iload_n 3, 1) := by decide +kernel
theorem dL_law_880 : decode cL_law 880 = .ok (.iconst 1, 1) := by decide +kernel
theorem dL_law_881 : decode cL_law 881 = .ok (.iadd, 1) := by decide +kernel
theorem dL_law_882 : decode cL_law 882 = .ok (.iaload, 1) := by decide +kernel
theorem dL_law_883 : decode cL_law 883 = .ok (.aload_n 0, 1) := by decide +kernel
theorem dL_law_884 : decode cL_law 884 = .ok (.iload_n 3, 1) := by decide +kernel
theorem dL_law_885 : decode cL_law 885 = .ok (.iconst 2, 1) := by decide +kernel
theorem dL_law_886 : decode cL_law 886 = .ok (.iadd, 1) := by decide +kernel
theorem dL_law_887 : decode cL_law 887 = .ok (.iaload, 1) := by decide +kernel
theorem dL_law_888 : decode cL_law 888 = .ok (.invokevirtual 122, 3) := by decide +kernel
theorem dL_law_891 : decode cL_law 891 = .ok (.if_icmp .eq 28, 3) := by decide +kernel
theorem dL_law_894 : decode cL_law 894 = .ok (.iconst 0, 1) := by decide +kernel
theorem dL_law_895 : decode cL_law 895 = .ok (.ireturn, 1) := by decide +kernel
theorem dL_law_896 : decode cL_law 896 = .ok (.aload_n 1, 1) := by decide +kernel
theorem dL_law_897 : decode cL_law 897 = .ok (.aload_n 0, 1) := by decide +kernel
theorem dL_law_898 : decode cL_law 898 = .ok (.iload_n 3, 1) := by decide +kernel
theorem dL_law_899 : decode cL_law 899 = .ok (.iconst 1, 1) := by decide +kernel
theorem dL_law_900 : decode cL_law 900 = .ok (.iadd, 1) := by decide +kernel
theorem dL_law_901 : decode cL_law 901 = .ok (.iaload, 1) := by decide +kernel
theorem dL_law_902 : decode cL_law 902 = .ok (.invokevirtual 123, 3) := by decide +kernel
theorem dL_law_905 : decode cL_law 905 = .ok (.aload_n 2, 1) := by decide +kernel
theorem dL_law_906 : decode cL_law 906 = .ok (.aload_n 0, 1) := by decide +kernel
theorem dL_law_907 : decode cL_law 907 = .ok (.iload_n 3, 1) := by decide +kernel
theorem dL_law_908 : decode cL_law 908 = .ok (.iconst 1, 1) := by decide +kernel
theorem dL_law_909 : decode cL_law 909 = .ok (.iadd, 1) := by decide +kernel
theorem dL_law_910 : decode cL_law 910 = .ok (.iaload, 1) := by decide +kernel
theorem dL_law_911 : decode cL_law 911 = .ok (.invokevirtual 126, 3) := by decide +kernel
theorem dL_law_914 : decode cL_law 914 = .ok (.if_icmp .eq 5, 3) := by decide +kernel
theorem dL_law_917 : decode cL_law 917 = .ok (.iconst 0, 1) := by decide +kernel
theorem dL_law_918 : decode cL_law 918 = .ok (.ireturn, 1) := by decide +kernel
theorem dL_law_919 : decode cL_law 919 = .ok (.iinc 3 6, 3) := by decide +kernel
theorem dL_law_922 : decode cL_law 922 = .ok (.goto (-904), 3) := by decide +kernel
theorem dL_law_925 : decode cL_law 925 = .ok (.iconst 1, 1) := by decide +kernel
theorem dL_law_926 : decode cL_law 926 = .ok (.ireturn, 1) := by decide +kernel
end
section
set_option maxRecDepth 20000 in
theorem zin0 : ∀ w ∈ wsX00, w ∈ zU := fun w h => List.mem_filter.mpr (by revert w h; decide +kernel)
set_option maxRecDepth 20000 in
theorem zin1 : ∀ w ∈ wsX10, w ∈ zU := fun w h => List.mem_filter.mpr (by revert w h; decide +kernel)
set_option maxRecDepth 20000 in
theorem zin2 : ∀ w ∈ wsX20, w ∈ zU := fun w h => List.mem_filter.mpr (by revert w h; decide +kernel)
set_option maxRecDepth 20000 in
theorem zin3 : ∀ w ∈ wsX30, w ∈ zU := fun w h => List.mem_filter.mpr (by revert w h; decide +kernel)
set_option maxRecDepth 20000 in
theorem zin4 : ∀ w ∈ wsX40, w ∈ zU := fun w h => List.mem_filter.mpr (by revert w h; decide +kernel)
set_option maxRecDepth 20000 in
theorem zin5 : ∀ w ∈ wsX50, w ∈ zU := fun w h => List.mem_filter.mpr (by revert w h; decide +kernel)
set_option maxRecDepth 20000 in
theorem zin6 : ∀ w ∈ wsX60, w ∈ zU := fun w h => List.mem_filter.mpr (by revert w h; decide +kernel)
set_option maxRecDepth 20000 in
theorem zin7 : ∀ w ∈ wsX70, w ∈ zU := fun w h => List.mem_filter.mpr (by revert w h; decide +kernel)
set_option maxRecDepth 20000 in
theorem zf_X0_9 : Cond.fieldLink RX0 9 "RightsDesk$DateRow" "list" "[I" ∈ zU := zmem 130 (by decide +kernel) (by decide +kernel)
set_option maxRecDepth 20000 in
theorem zf_X0_15 : Cond.fieldLink RX0 15 "RightsDesk$DateRow" "number" "I" ∈ zU := zmem 118 (by decide +kernel) (by decide +kernel)
set_option maxRecDepth 20000 in
theorem zf_X0_19 : Cond.fieldLink RX0 19 "RightsDesk$DateRow" "day" "I" ∈ zU := zmem 120 (by decide +kernel) (by decide +kernel)
set_option maxRecDepth 20000 in
theorem zf_X0_22 : Cond.fieldLink RX0 22 "RightsDesk$DateRow" "places" "I" ∈ zU := zmem 122 (by decide +kernel) (by decide +kernel)
set_option maxRecDepth 20000 in
theorem zf_X0_25 : Cond.fieldLink RX0 25 "RightsDesk$DateRow" "surplus" "I" ∈ zU := zmem 124 (by decide +kernel) (by decide +kernel)
set_option maxRecDepth 20000 in
theorem zf_X0_28 : Cond.fieldLink RX0 28 "RightsDesk$DateRow" "base" "I" ∈ zU := zmem 126 (by decide +kernel) (by decide +kernel)
set_option maxRecDepth 20000 in
theorem zf_X0_31 : Cond.fieldLink RX0 31 "RightsDesk$DateRow" "rule" "I" ∈ zU := zmem 128 (by decide +kernel) (by decide +kernel)
set_option maxRecDepth 20000 in
theorem zf_X0_38 : Cond.fieldLink RX0 38 "RightsDesk$DateRow" "listLength" "I" ∈ zU := zmem 131 (by decide +kernel) (by decide +kernel)
set_option maxRecDepth 20000 in
theorem zf_X1_7 : Cond.fieldLink RX1 7 "RightsDesk$EventRow" "kind" "I" ∈ zU := zmem 194 (by decide +kernel) (by decide +kernel)
set_option maxRecDepth 20000 in
theorem zf_X1_13 : Cond.fieldLink RX1 13 "RightsDesk$EventRow" "right" "I" ∈ zU := zmem 196 (by decide +kernel) (by decide +kernel)
set_option maxRecDepth 20000 in
theorem zf_X1_16 : Cond.fieldLink RX1 16 "RightsDesk$EventRow" "cents" "I" ∈ zU := zmem 198 (by decide +kernel) (by decide +kernel)
set_option maxRecDepth 20000 in
theorem zf_X1_19 : Cond.fieldLink RX1 19 "RightsDesk$EventRow" "day" "I" ∈ zU := zmem 200 (by decide +kernel) (by decide +kernel)
set_option maxRecDepth 20000 in
theorem zf_X2_11 : Cond.fieldLink RX2 11 "RightsDesk$History" "past" "[LRightsDesk$State;" ∈ zU := zmem 259 (by decide +kernel) (by decide +kernel)
set_option maxRecDepth 20000 in
theorem zf_X2_18 : Cond.fieldLink RX2 18 "RightsDesk$History" "prepared" "LRightsDesk$State;" ∈ zU := zmem 262 (by decide +kernel) (by decide +kernel)
set_option maxRecDepth 20000 in
theorem zf_X2_26 : Cond.fieldLink RX2 26 "RightsDesk$History" "count" "I" ∈ zU := zmem 260 (by decide +kernel) (by decide +kernel)
set_option maxRecDepth 20000 in
theorem zf_X3_9 : Cond.fieldLink RX3 9 "RightsDesk$OrderText" "signs" "[C" ∈ zU := zmem 277 (by decide +kernel) (by decide +kernel)
set_option maxRecDepth 20000 in
theorem zf_X3_15 : Cond.fieldLink RX3 15 "RightsDesk$OrderText" "length" "I" ∈ zU := zmem 278 (by decide +kernel) (by decide +kernel)
set_option maxRecDepth 20000 in
theorem zf_X3_26 : Cond.fieldLink RX3 26 "RightsDesk$OrderText" "at" "I" ∈ zU := zmem 280 (by decide +kernel) (by decide +kernel)
set_option maxRecDepth 20000 in
theorem zf_X3_37 : Cond.fieldLink RX3 37 "RightsDesk$OrderText" "kind" "I" ∈ zU := zmem 281 (by decide +kernel) (by decide +kernel)
set_option maxRecDepth 20000 in
theorem zf_X3_56 : Cond.fieldLink RX3 56 "RightsDesk$OrderText" "first" "I" ∈ zU := zmem 283 (by decide +kernel) (by decide +kernel)
set_option maxRecDepth 20000 in
theorem zf_X3_59 : Cond.fieldLink RX3 59 "RightsDesk$OrderText" "second" "I" ∈ zU := zmem 285 (by decide +kernel) (by decide +kernel)
set_option maxRecDepth 20000 in
theorem zf_X4_9 : Cond.fieldLink RX4 9 "RightsDesk$RightRow" "number" "I" ∈ zU := zmem 156 (by decide +kernel) (by decide +kernel)
set_option maxRecDepth 20000 in
theorem zf_X4_15 : Cond.fieldLink RX4 15 "RightsDesk$RightRow" "date" "I" ∈ zU := zmem 158 (by decide +kernel) (by decide +kernel)
set_option maxRecDepth 20000 in
theorem zf_X4_18 : Cond.fieldLink RX4 18 "RightsDesk$RightRow" "holder" "I" ∈ zU := zmem 160 (by decide +kernel) (by decide +kernel)
set_option maxRecDepth 20000 in
theorem zf_X4_21 : Cond.fieldLink RX4 21 "RightsDesk$RightRow" "cost" "I" ∈ zU := zmem 162 (by decide +kernel) (by decide +kernel)
set_option maxRecDepth 20000 in
theorem zf_X4_24 : Cond.fieldLink RX4 24 "RightsDesk$RightRow" "state" "I" ∈ zU := zmem 164 (by decide +kernel) (by decide +kernel)
set_option maxRecDepth 20000 in
theorem zf_X4_27 : Cond.fieldLink RX4 27 "RightsDesk$RightRow" "asking" "I" ∈ zU := zmem 166 (by decide +kernel) (by decide +kernel)
set_option maxRecDepth 20000 in
theorem zf_X4_30 : Cond.fieldLink RX4 30 "RightsDesk$RightRow" "soldOn" "I" ∈ zU := zmem 168 (by decide +kernel) (by decide +kernel)
set_option maxRecDepth 20000 in
theorem zf_X4_33 : Cond.fieldLink RX4 33 "RightsDesk$RightRow" "resold" "I" ∈ zU := zmem 170 (by decide +kernel) (by decide +kernel)
set_option maxRecDepth 20000 in
theorem zf_X5_18 : Cond.fieldLink RX5 18 "RightsDesk$State" "numbers" "[I" ∈ zU := zmem 213 (by decide +kernel) (by decide +kernel)
set_option maxRecDepth 20000 in
theorem zf_X5_26 : Cond.fieldLink RX5 26 "RightsDesk$State" "stageDays" "[I" ∈ zU := zmem 215 (by decide +kernel) (by decide +kernel)
set_option maxRecDepth 20000 in
theorem zf_X5_32 : Cond.fieldLink RX5 32 "RightsDesk$State" "stageFees" "[I" ∈ zU := zmem 216 (by decide +kernel) (by decide +kernel)
set_option maxRecDepth 20000 in
theorem zf_X5_37 : Cond.fieldLink RX5 37 "RightsDesk$State" "dates" "[LRightsDesk$DateRow;" ∈ zU := zmem 218 (by decide +kernel) (by decide +kernel)
set_option maxRecDepth 20000 in
theorem zf_X5_43 : Cond.fieldLink RX5 43 "RightsDesk$State" "rights" "[LRightsDesk$RightRow;" ∈ zU := zmem 220 (by decide +kernel) (by decide +kernel)
set_option maxRecDepth 20000 in
theorem zf_X5_47 : Cond.fieldLink RX5 47 "RightsDesk$State" "accounts" "[I" ∈ zU := zmem 221 (by decide +kernel) (by decide +kernel)
set_option maxRecDepth 20000 in
theorem zf_X5_52 : Cond.fieldLink RX5 52 "RightsDesk$State" "events" "[LRightsDesk$EventRow;" ∈ zU := zmem 224 (by decide +kernel) (by decide +kernel)
set_option maxRecDepth 20000 in
theorem zf_X5_61 : Cond.fieldLink RX5 61 "RightsDesk$State" "day" "I" ∈ zU := zmem 211 (by decide +kernel) (by decide +kernel)
set_option maxRecDepth 20000 in
theorem zf_X5_69 : Cond.fieldLink RX5 69 "RightsDesk$State" "dateCount" "I" ∈ zU := zmem 217 (by decide +kernel) (by decide +kernel)
set_option maxRecDepth 20000 in
theorem zf_X5_76 : Cond.fieldLink RX5 76 "RightsDesk$State" "rightCount" "I" ∈ zU := zmem 219 (by decide +kernel) (by decide +kernel)
set_option maxRecDepth 20000 in
theorem zf_X5_82 : Cond.fieldLink RX5 82 "RightsDesk$State" "provider" "I" ∈ zU := zmem 222 (by decide +kernel) (by decide +kernel)
set_option maxRecDepth 20000 in
theorem zf_X5_85 : Cond.fieldLink RX5 85 "RightsDesk$State" "eventCount" "I" ∈ zU := zmem 223 (by decide +kernel) (by decide +kernel)
set_option maxRecDepth 20000 in
theorem zf_X5_91 : Cond.fieldLink RX5 91 "RightsDesk$DateRow" "day" "I" ∈ zU := zmem 121 (by decide +kernel) (by decide +kernel)
set_option maxRecDepth 20000 in
theorem zf_X5_92 : Cond.fieldLink RX5 92 "RightsDesk$DateRow" "places" "I" ∈ zU := zmem 123 (by decide +kernel) (by decide +kernel)
set_option maxRecDepth 20000 in
theorem zf_X5_95 : Cond.fieldLink RX5 95 "RightsDesk$DateRow" "surplus" "I" ∈ zU := zmem 125 (by decide +kernel) (by decide +kernel)
set_option maxRecDepth 20000 in
theorem zf_X5_98 : Cond.fieldLink RX5 98 "RightsDesk$DateRow" "base" "I" ∈ zU := zmem 127 (by decide +kernel) (by decide +kernel)
set_option maxRecDepth 20000 in
theorem zf_X5_101 : Cond.fieldLink RX5 101 "RightsDesk$DateRow" "rule" "I" ∈ zU := zmem 129 (by decide +kernel) (by decide +kernel)
set_option maxRecDepth 20000 in
theorem zf_X5_104 : Cond.fieldLink RX5 104 "RightsDesk$DateRow" "listLength" "I" ∈ zU := zmem 132 (by decide +kernel) (by decide +kernel)
set_option maxRecDepth 20000 in
theorem zf_X5_107 : Cond.fieldLink RX5 107 "RightsDesk$DateRow" "number" "I" ∈ zU := zmem 119 (by decide +kernel) (by decide +kernel)
set_option maxRecDepth 20000 in
theorem zf_X5_143 : Cond.fieldLink RX5 143 "RightsDesk$RightRow" "holder" "I" ∈ zU := zmem 161 (by decide +kernel) (by decide +kernel)
set_option maxRecDepth 20000 in
theorem zf_X5_146 : Cond.fieldLink RX5 146 "RightsDesk$RightRow" "asking" "I" ∈ zU := zmem 167 (by decide +kernel) (by decide +kernel)
set_option maxRecDepth 20000 in
theorem zf_X5_153 : Cond.fieldLink RX5 153 "RightsDesk$RightRow" "resold" "I" ∈ zU := zmem 171 (by decide +kernel) (by decide +kernel)
set_option maxRecDepth 20000 in
theorem zf_X5_163 : Cond.fieldLink RX5 163 "RightsDesk$RightRow" "number" "I" ∈ zU := zmem 157 (by decide +kernel) (by decide +kernel)
set_option maxRecDepth 20000 in
theorem zf_X5_172 : Cond.fieldLink RX5 172 "RightsDesk$RightRow" "date" "I" ∈ zU := zmem 159 (by decide +kernel) (by decide +kernel)
set_option maxRecDepth 20000 in
theorem zf_X5_182 : Cond.fieldLink RX5 182 "RightsDesk$RightRow" "state" "I" ∈ zU := zmem 165 (by decide +kernel) (by decide +kernel)
set_option maxRecDepth 20000 in
theorem zf_X5_217 : Cond.fieldLink RX5 217 "RightsDesk$RightRow" "cost" "I" ∈ zU := zmem 163 (by decide +kernel) (by decide +kernel)
set_option maxRecDepth 20000 in
theorem zf_X5_241 : Cond.fieldLink RX5 241 "RightsDesk$RightRow" "soldOn" "I" ∈ zU := zmem 169 (by decide +kernel) (by decide +kernel)
set_option maxRecDepth 20000 in
theorem zf_X5_256 : Cond.fieldLink RX5 256 "RightsDesk$EventRow" "kind" "I" ∈ zU := zmem 195 (by decide +kernel) (by decide +kernel)
set_option maxRecDepth 20000 in
theorem zf_X5_259 : Cond.fieldLink RX5 259 "RightsDesk$EventRow" "right" "I" ∈ zU := zmem 197 (by decide +kernel) (by decide +kernel)
set_option maxRecDepth 20000 in
theorem zf_X5_262 : Cond.fieldLink RX5 262 "RightsDesk$EventRow" "cents" "I" ∈ zU := zmem 199 (by decide +kernel) (by decide +kernel)
set_option maxRecDepth 20000 in
theorem zf_X5_265 : Cond.fieldLink RX5 265 "RightsDesk$EventRow" "day" "I" ∈ zU := zmem 201 (by decide +kernel) (by decide +kernel)
set_option maxRecDepth 20000 in
theorem zf_X6_10 : Cond.fieldLink RX6 10 "RightsDesk" "now" "LRightsDesk$State;" ∈ zU := zmem 301 (by decide +kernel) (by decide +kernel)
set_option maxRecDepth 20000 in
theorem zf_X6_16 : Cond.fieldLink RX6 16 "RightsDesk" "kept" "LRightsDesk$State;" ∈ zU := zmem 302 (by decide +kernel) (by decide +kernel)
set_option maxRecDepth 20000 in
theorem zf_X6_22 : Cond.fieldLink RX6 22 "RightsDesk" "history" "LRightsDesk$History;" ∈ zU := zmem 304 (by decide +kernel) (by decide +kernel)
set_option maxRecDepth 20000 in
theorem zf_X6_29 : Cond.fieldLink RX6 29 "RightsDesk" "text" "LRightsDesk$OrderText;" ∈ zU := zmem 305 (by decide +kernel) (by decide +kernel)
set_option maxRecDepth 20000 in
theorem zf_X6_97 : Cond.fieldLink RX6 97 "RightsDesk$History" "prepared" "LRightsDesk$State;" ∈ zU := zmem 263 (by decide +kernel) (by decide +kernel)
set_option maxRecDepth 20000 in
theorem zf_X6_107 : Cond.fieldLink RX6 107 "RightsDesk$History" "count" "I" ∈ zU := zmem 261 (by decide +kernel) (by decide +kernel)
set_option maxRecDepth 20000 in
theorem zf_X6_111 : Cond.fieldLink RX6 111 "RightsDesk" "hasKept" "Z" ∈ zU := zmem 303 (by decide +kernel) (by decide +kernel)
set_option maxRecDepth 20000 in
theorem zf_X6_115 : Cond.fieldLink RX6 115 "RightsDesk$State" "day" "I" ∈ zU := zmem 212 (by decide +kernel) (by decide +kernel)
set_option maxRecDepth 20000 in
theorem zf_X6_159 : Cond.fieldLink RX6 159 "RightsDesk$State" "numbers" "[I" ∈ zU := zmem 214 (by decide +kernel) (by decide +kernel)
set_option maxRecDepth 20000 in
theorem zf_X6_175 : Cond.fieldLink RX6 175 "RightsDesk$OrderText" "length" "I" ∈ zU := zmem 279 (by decide +kernel) (by decide +kernel)
set_option maxRecDepth 20000 in
theorem zf_X6_189 : Cond.fieldLink RX6 189 "RightsDesk$OrderText" "kind" "I" ∈ zU := zmem 282 (by decide +kernel) (by decide +kernel)
set_option maxRecDepth 20000 in
theorem zf_X6_192 : Cond.fieldLink RX6 192 "RightsDesk$OrderText" "first" "I" ∈ zU := zmem 284 (by decide +kernel) (by decide +kernel)
set_option maxRecDepth 20000 in
theorem zf_X6_195 : Cond.fieldLink RX6 195 "RightsDesk$OrderText" "second" "I" ∈ zU := zmem 286 (by decide +kernel) (by decide +kernel)
set_option maxRecDepth 20000 in
theorem zf_X7_7 : Cond.fieldLink RX7 7 "RightsDeskModel" "v" "[I" ∈ zU := zmem 762 (by decide +kernel) (by decide +kernel)
set_option maxRecDepth 20000 in
theorem zf_X7_13 : Cond.fieldLink RX7 13 "RightsDeskModel" "spare" "[I" ∈ zU := zmem 763 (by decide +kernel) (by decide +kernel)
set_option maxRecDepth 20000 in
theorem zf_X7_16 : Cond.fieldLink RX7 16 "RightsDeskModel" "history" "[I" ∈ zU := zmem 764 (by decide +kernel) (by decide +kernel)
set_option maxRecDepth 20000 in
theorem zf_X7_19 : Cond.fieldLink RX7 19 "RightsDeskModel" "kept" "[I" ∈ zU := zmem 766 (by decide +kernel) (by decide +kernel)
set_option maxRecDepth 20000 in
theorem zf_X7_22 : Cond.fieldLink RX7 22 "RightsDeskModel" "text" "[I" ∈ zU := zmem 768 (by decide +kernel) (by decide +kernel)
set_option maxRecDepth 20000 in
theorem zf_X7_25 : Cond.fieldLink RX7 25 "RightsDeskModel" "lows" "[I" ∈ zU := zmem 770 (by decide +kernel) (by decide +kernel)
set_option maxRecDepth 20000 in
theorem zf_X7_28 : Cond.fieldLink RX7 28 "RightsDeskModel" "highs" "[I" ∈ zU := zmem 771 (by decide +kernel) (by decide +kernel)
set_option maxRecDepth 20000 in
theorem zf_X7_31 : Cond.fieldLink RX7 31 "RightsDeskModel" "states" "I" ∈ zU := zmem 765 (by decide +kernel) (by decide +kernel)
set_option maxRecDepth 20000 in
theorem zf_X7_158 : Cond.fieldLink RX7 158 "RightsDeskModel" "length" "I" ∈ zU := zmem 769 (by decide +kernel) (by decide +kernel)
set_option maxRecDepth 20000 in
theorem zf_X7_161 : Cond.fieldLink RX7 161 "RightsDeskModel" "place" "I" ∈ zU := zmem 772 (by decide +kernel) (by decide +kernel)
set_option maxRecDepth 20000 in
theorem zf_X7_164 : Cond.fieldLink RX7 164 "RightsDeskModel" "number" "I" ∈ zU := zmem 776 (by decide +kernel) (by decide +kernel)
set_option maxRecDepth 20000 in
theorem zf_X7_167 : Cond.fieldLink RX7 167 "RightsDeskModel" "letter" "I" ∈ zU := zmem 773 (by decide +kernel) (by decide +kernel)
set_option maxRecDepth 20000 in
theorem zf_X7_176 : Cond.fieldLink RX7 176 "RightsDeskModel" "one" "I" ∈ zU := zmem 774 (by decide +kernel) (by decide +kernel)
set_option maxRecDepth 20000 in
theorem zf_X7_179 : Cond.fieldLink RX7 179 "RightsDeskModel" "other" "I" ∈ zU := zmem 775 (by decide +kernel) (by decide +kernel)
set_option maxRecDepth 20000 in
theorem zf_X7_192 : Cond.fieldLink RX7 192 "RightsDeskModel" "isKept" "Z" ∈ zU := zmem 767 (by decide +kernel) (by decide +kernel)
set_option maxRecDepth 20000 in
theorem zk_X5_275 : Cond.constant RX5 275 (1000000000 : Int32) ∈ zU := zmem 703 (by decide +kernel) (by decide +kernel)
set_option maxRecDepth 20000 in
theorem zk_X7_196 : Cond.constant RX7 196 (1000000000 : Int32) ∈ zU := zmem 1064 (by decide +kernel) (by decide +kernel)
/-- what the tables say of an instance method, and how many parameters it has -/
def zMV (y : MethodName) (b : ByteArray) (n : Nat) (ret : Option FieldType) (np : Nat) : Prop := plainName y.cls = true ∧ Cond.code y b n ret ∈ zU ∧ Cond.instanceMethod y ∈ zU ∧ Cond.selects y.cls y y ∈ zU ∧ Cond.initialized y.cls ∈ zU ∧ (y.cls ≠ "java/lang/invoke/MethodHandle" ∧ y.cls ≠ "java/lang/invoke/VarHandle") ∧ (parseMethodDescriptor y.desc).map (fun d => d.parameters.length) = some np ∧ n ≤ 21
def zMS (y : MethodName) (b : ByteArray) (n : Nat) (ret : Option FieldType) (np : Nat) : Prop := plainName y.cls = true ∧ Cond.code y b n ret ∈ zU ∧ Cond.static y ∈ zU ∧ Cond.initialized y.cls ∈ zU ∧ (y.cls ≠ "java/lang/invoke/MethodHandle" ∧ y.cls ≠ "java/lang/invoke/VarHandle") ∧ (parseMethodDescriptor y.desc).map (fun d => d.parameters.length) = some np ∧ n ≤ 21
set_option maxRecDepth 20000 in
theorem zm_X0_appendToList : zMV yX0_appendToList cX0_appendToList 2 (some .int) 1 := ⟨rfl, zmem 538 (by decide +kernel) (by decide +kernel), zmem 536 (by decide +kernel) (by decide +kernel), zmem 537 (by decide +kernel) (by decide +kernel), zmem 73 (by decide +kernel) (by decide +kernel), ⟨by decide +kernel, by decide +kernel⟩, by decide +kernel, by decide⟩
set_option maxRecDepth 20000 in
theorem zm_X0_copyFrom : zMV yX0_copyFrom cX0_copyFrom 2 none 1 := ⟨rfl, zmem 335 (by decide +kernel) (by decide +kernel), zmem 333 (by decide +kernel) (by decide +kernel), zmem 334 (by decide +kernel) (by decide +kernel), zmem 73 (by decide +kernel) (by decide +kernel), ⟨by decide +kernel, by decide +kernel⟩, by decide +kernel, by decide⟩
set_option maxRecDepth 20000 in
theorem zm_X0_placeOf : zMV yX0_placeOf cX0_placeOf 3 (some .int) 1 := ⟨rfl, zmem 534 (by decide +kernel) (by decide +kernel), zmem 532 (by decide +kernel) (by decide +kernel), zmem 533 (by decide +kernel) (by decide +kernel), zmem 73 (by decide +kernel) (by decide +kernel), ⟨by decide +kernel, by decide +kernel⟩, by decide +kernel, by decide⟩
set_option maxRecDepth 20000 in
theorem zm_X0_priceFor : zMV yX0_priceFor cX0_priceFor 4 (some .int) 2 := ⟨rfl, zmem 430 (by decide +kernel) (by decide +kernel), zmem 428 (by decide +kernel) (by decide +kernel), zmem 429 (by decide +kernel) (by decide +kernel), zmem 73 (by decide +kernel) (by decide +kernel), ⟨by decide +kernel, by decide +kernel⟩, by decide +kernel, by decide⟩
set_option maxRecDepth 20000 in
theorem zm_X0_removeFromList : zMV yX0_removeFromList cX0_removeFromList 3 none 1 := ⟨rfl, zmem 490 (by decide +kernel) (by decide +kernel), zmem 488 (by decide +kernel) (by decide +kernel), zmem 489 (by decide +kernel) (by decide +kernel), zmem 73 (by decide +kernel) (by decide +kernel), ⟨by decide +kernel, by decide +kernel⟩, by decide +kernel, by decide⟩
set_option maxRecDepth 20000 in
theorem zm_X0_waitingAt : zMV yX0_waitingAt cX0_waitingAt 2 (some .int) 1 := ⟨rfl, zmem 486 (by decide +kernel) (by decide +kernel), zmem 484 (by decide +kernel) (by decide +kernel), zmem 485 (by decide +kernel) (by decide +kernel), zmem 73 (by decide +kernel) (by decide +kernel), ⟨by decide +kernel, by decide +kernel⟩, by decide +kernel, by decide⟩
set_option maxRecDepth 20000 in
theorem zm_X1_copyFrom : zMV yX1_copyFrom cX1_copyFrom 2 none 1 := ⟨rfl, zmem 344 (by decide +kernel) (by decide +kernel), zmem 342 (by decide +kernel) (by decide +kernel), zmem 343 (by decide +kernel) (by decide +kernel), zmem 75 (by decide +kernel) (by decide +kernel), ⟨by decide +kernel, by decide +kernel⟩, by decide +kernel, by decide⟩
set_option maxRecDepth 20000 in
theorem zm_X1_tell : zMV yX1_tell cX1_tell 2 (some .int) 1 := ⟨rfl, zmem 743 (by decide +kernel) (by decide +kernel), zmem 741 (by decide +kernel) (by decide +kernel), zmem 742 (by decide +kernel) (by decide +kernel), zmem 75 (by decide +kernel) (by decide +kernel), ⟨by decide +kernel, by decide +kernel⟩, by decide +kernel, by decide⟩
set_option maxRecDepth 20000 in
theorem zm_X2_prepare : zMV yX2_prepare cX2_prepare 2 none 1 := ⟨rfl, zmem 324 (by decide +kernel) (by decide +kernel), zmem 322 (by decide +kernel) (by decide +kernel), zmem 323 (by decide +kernel) (by decide +kernel), zmem 76 (by decide +kernel) (by decide +kernel), ⟨by decide +kernel, by decide +kernel⟩, by decide +kernel, by decide⟩
set_option maxRecDepth 20000 in
theorem zm_X2_settle : zMV yX2_settle cX2_settle 4 (some .int) 1 := ⟨rfl, zmem 352 (by decide +kernel) (by decide +kernel), zmem 350 (by decide +kernel) (by decide +kernel), zmem 351 (by decide +kernel) (by decide +kernel), zmem 76 (by decide +kernel) (by decide +kernel), ⟨by decide +kernel, by decide +kernel⟩, by decide +kernel, by decide⟩
set_option maxRecDepth 20000 in
theorem zm_X2_takeLatest : zMV yX2_takeLatest cX2_takeLatest 3 (some (.object "RightsDesk$State")) 0 := ⟨rfl, zmem 654 (by decide +kernel) (by decide +kernel), zmem 652 (by decide +kernel) (by decide +kernel), zmem 653 (by decide +kernel) (by decide +kernel), zmem 76 (by decide +kernel) (by decide +kernel), ⟨by decide +kernel, by decide +kernel⟩, by decide +kernel, by decide⟩
set_option maxRecDepth 20000 in
theorem zm_X3_append : zMV yX3_append cX3_append 2 (some .int) 1 := ⟨rfl, zmem 586 (by decide +kernel) (by decide +kernel), zmem 584 (by decide +kernel) (by decide +kernel), zmem 585 (by decide +kernel) (by decide +kernel), zmem 77 (by decide +kernel) (by decide +kernel), ⟨by decide +kernel, by decide +kernel⟩, by decide +kernel, by decide⟩
set_option maxRecDepth 20000 in
theorem zm_X3_countOrders : zMV yX3_countOrders cX3_countOrders 4 (some .int) 0 := ⟨rfl, zmem 602 (by decide +kernel) (by decide +kernel), zmem 600 (by decide +kernel) (by decide +kernel), zmem 601 (by decide +kernel) (by decide +kernel), zmem 77 (by decide +kernel) (by decide +kernel), ⟨by decide +kernel, by decide +kernel⟩, by decide +kernel, by decide⟩
set_option maxRecDepth 20000 in
theorem zm_X3_empty : zMV yX3_empty cX3_empty 2 (some .int) 0 := ⟨rfl, zmem 594 (by decide +kernel) (by decide +kernel), zmem 592 (by decide +kernel) (by decide +kernel), zmem 593 (by decide +kernel) (by decide +kernel), zmem 77 (by decide +kernel) (by decide +kernel), ⟨by decide +kernel, by decide +kernel⟩, by decide +kernel, by decide⟩
set_option maxRecDepth 20000 in
theorem zm_X3_goToStart : zMV yX3_goToStart cX3_goToStart 1 none 0 := ⟨rfl, zmem 606 (by decide +kernel) (by decide +kernel), zmem 604 (by decide +kernel) (by decide +kernel), zmem 605 (by decide +kernel) (by decide +kernel), zmem 77 (by decide +kernel) (by decide +kernel), ⟨by decide +kernel, by decide +kernel⟩, by decide +kernel, by decide⟩
set_option maxRecDepth 20000 in
theorem zm_X3_here : zMV yX3_here cX3_here 1 (some .char) 0 := ⟨rfl, zmem 614 (by decide +kernel) (by decide +kernel), zmem 613 (by decide +kernel) (by decide +kernel), zmem 19 (by decide +kernel) (by decide +kernel), zmem 77 (by decide +kernel) (by decide +kernel), ⟨by decide +kernel, by decide +kernel⟩, by decide +kernel, by decide⟩
set_option maxRecDepth 20000 in
theorem zm_X3_isDigitHere : zMV yX3_isDigitHere cX3_isDigitHere 1 (some .boolean) 0 := ⟨rfl, zmem 626 (by decide +kernel) (by decide +kernel), zmem 625 (by decide +kernel) (by decide +kernel), zmem 21 (by decide +kernel) (by decide +kernel), zmem 77 (by decide +kernel) (by decide +kernel), ⟨by decide +kernel, by decide +kernel⟩, by decide +kernel, by decide⟩
set_option maxRecDepth 20000 in
theorem zm_X3_readHolderAndDate : zMV yX3_readHolderAndDate cX3_readHolderAndDate 1 (some .boolean) 0 := ⟨rfl, zmem 622 (by decide +kernel) (by decide +kernel), zmem 621 (by decide +kernel) (by decide +kernel), zmem 20 (by decide +kernel) (by decide +kernel), zmem 77 (by decide +kernel) (by decide +kernel), ⟨by decide +kernel, by decide +kernel⟩, by decide +kernel, by decide⟩
set_option maxRecDepth 20000 in
theorem zm_X3_readOrder : zMV yX3_readOrder cX3_readOrder 1 (some .boolean) 0 := ⟨rfl, zmem 610 (by decide +kernel) (by decide +kernel), zmem 608 (by decide +kernel) (by decide +kernel), zmem 609 (by decide +kernel) (by decide +kernel), zmem 77 (by decide +kernel) (by decide +kernel), ⟨by decide +kernel, by decide +kernel⟩, by decide +kernel, by decide⟩
set_option maxRecDepth 20000 in
theorem zm_X3_readPrice : zMV yX3_readPrice cX3_readPrice 2 (some .boolean) 0 := ⟨rfl, zmem 638 (by decide +kernel) (by decide +kernel), zmem 637 (by decide +kernel) (by decide +kernel), zmem 24 (by decide +kernel) (by decide +kernel), zmem 77 (by decide +kernel) (by decide +kernel), ⟨by decide +kernel, by decide +kernel⟩, by decide +kernel, by decide⟩
set_option maxRecDepth 20000 in
theorem zm_X3_readRight : zMV yX3_readRight cX3_readRight 1 (some .boolean) 0 := ⟨rfl, zmem 634 (by decide +kernel) (by decide +kernel), zmem 633 (by decide +kernel) (by decide +kernel), zmem 23 (by decide +kernel) (by decide +kernel), zmem 77 (by decide +kernel) (by decide +kernel), ⟨by decide +kernel, by decide +kernel⟩, by decide +kernel, by decide⟩
set_option maxRecDepth 20000 in
theorem zm_X3_skip : zMV yX3_skip cX3_skip 2 (some .boolean) 1 := ⟨rfl, zmem 618 (by decide +kernel) (by decide +kernel), zmem 616 (by decide +kernel) (by decide +kernel), zmem 617 (by decide +kernel) (by decide +kernel), zmem 77 (by decide +kernel) (by decide +kernel), ⟨by decide +kernel, by decide +kernel⟩, by decide +kernel, by decide⟩
set_option maxRecDepth 20000 in
theorem zm_X3_takeDigit : zMV yX3_takeDigit cX3_takeDigit 2 (some .int) 0 := ⟨rfl, zmem 630 (by decide +kernel) (by decide +kernel), zmem 629 (by decide +kernel) (by decide +kernel), zmem 22 (by decide +kernel) (by decide +kernel), zmem 77 (by decide +kernel) (by decide +kernel), ⟨by decide +kernel, by decide +kernel⟩, by decide +kernel, by decide⟩
set_option maxRecDepth 20000 in
theorem zm_X4_copyFrom : zMV yX4_copyFrom cX4_copyFrom 2 none 1 := ⟨rfl, zmem 340 (by decide +kernel) (by decide +kernel), zmem 338 (by decide +kernel) (by decide +kernel), zmem 339 (by decide +kernel) (by decide +kernel), zmem 74 (by decide +kernel) (by decide +kernel), ⟨by decide +kernel, by decide +kernel⟩, by decide +kernel, by decide⟩
set_option maxRecDepth 20000 in
theorem zm_X4_isHeldOrOffered : zMV yX4_isHeldOrOffered cX4_isHeldOrOffered 1 (some .boolean) 0 := ⟨rfl, zmem 474 (by decide +kernel) (by decide +kernel), zmem 472 (by decide +kernel) (by decide +kernel), zmem 473 (by decide +kernel) (by decide +kernel), zmem 74 (by decide +kernel) (by decide +kernel), ⟨by decide +kernel, by decide +kernel⟩, by decide +kernel, by decide⟩
set_option maxRecDepth 20000 in
theorem zm_X4_turnTo : zMV yX4_turnTo cX4_turnTo 3 none 2 := ⟨rfl, zmem 434 (by decide +kernel) (by decide +kernel), zmem 432 (by decide +kernel) (by decide +kernel), zmem 433 (by decide +kernel) (by decide +kernel), zmem 74 (by decide +kernel) (by decide +kernel), ⟨by decide +kernel, by decide +kernel⟩, by decide +kernel, by decide⟩
set_option maxRecDepth 20000 in
theorem zm_X5_canBeExercised : zMV yX5_canBeExercised cX5_canBeExercised 3 (some .boolean) 2 := ⟨rfl, zmem 518 (by decide +kernel) (by decide +kernel), zmem 517 (by decide +kernel) (by decide +kernel), zmem 12 (by decide +kernel) (by decide +kernel), zmem 72 (by decide +kernel) (by decide +kernel), ⟨by decide +kernel, by decide +kernel⟩, by decide +kernel, by decide⟩
set_option maxRecDepth 20000 in
theorem zm_X5_cancelRight : zMV yX5_cancelRight cX5_cancelRight 5 (some .int) 1 := ⟨rfl, zmem 462 (by decide +kernel) (by decide +kernel), zmem 460 (by decide +kernel) (by decide +kernel), zmem 461 (by decide +kernel) (by decide +kernel), zmem 72 (by decide +kernel) (by decide +kernel), ⟨by decide +kernel, by decide +kernel⟩, by decide +kernel, by decide⟩
set_option maxRecDepth 20000 in
theorem zm_X5_changeNumber : zMV yX5_changeNumber cX5_changeNumber 4 (some .int) 2 := ⟨rfl, zmem 379 (by decide +kernel) (by decide +kernel), zmem 377 (by decide +kernel) (by decide +kernel), zmem 378 (by decide +kernel) (by decide +kernel), zmem 72 (by decide +kernel) (by decide +kernel), ⟨by decide +kernel, by decide +kernel⟩, by decide +kernel, by decide⟩
set_option maxRecDepth 20000 in
theorem zm_X5_changeStage : zMV yX5_changeStage cX5_changeStage 5 (some .int) 3 := ⟨rfl, zmem 363 (by decide +kernel) (by decide +kernel), zmem 361 (by decide +kernel) (by decide +kernel), zmem 362 (by decide +kernel) (by decide +kernel), zmem 72 (by decide +kernel) (by decide +kernel), ⟨by decide +kernel, by decide +kernel⟩, by decide +kernel, by decide⟩
set_option maxRecDepth 20000 in
theorem zm_X5_cheapestHeld : zMV yX5_cheapestHeld cX5_cheapestHeld 5 (some (.object "RightsDesk$RightRow")) 1 := ⟨rfl, zmem 574 (by decide +kernel) (by decide +kernel), zmem 573 (by decide +kernel) (by decide +kernel), zmem 17 (by decide +kernel) (by decide +kernel), zmem 72 (by decide +kernel) (by decide +kernel), ⟨by decide +kernel, by decide +kernel⟩, by decide +kernel, by decide⟩
set_option maxRecDepth 20000 in
theorem zm_X5_cheapestOffered : zMV yX5_cheapestOffered cX5_cheapestOffered 5 (some (.object "RightsDesk$RightRow")) 1 := ⟨rfl, zmem 454 (by decide +kernel) (by decide +kernel), zmem 453 (by decide +kernel) (by decide +kernel), zmem 8 (by decide +kernel) (by decide +kernel), zmem 72 (by decide +kernel) (by decide +kernel), ⟨by decide +kernel, by decide +kernel⟩, by decide +kernel, by decide⟩
set_option maxRecDepth 20000 in
theorem zm_X5_copyFrom : zMV yX5_copyFrom cX5_copyFrom 3 none 1 := ⟨rfl, zmem 328 (by decide +kernel) (by decide +kernel), zmem 326 (by decide +kernel) (by decide +kernel), zmem 327 (by decide +kernel) (by decide +kernel), zmem 72 (by decide +kernel) (by decide +kernel), ⟨by decide +kernel, by decide +kernel⟩, by decide +kernel, by decide⟩
set_option maxRecDepth 20000 in
theorem zm_X5_coverOne : zMV yX5_coverOne cX5_coverOne 3 (some .int) 1 := ⟨rfl, zmem 578 (by decide +kernel) (by decide +kernel), zmem 577 (by decide +kernel) (by decide +kernel), zmem 18 (by decide +kernel) (by decide +kernel), zmem 72 (by decide +kernel) (by decide +kernel), ⟨by decide +kernel, by decide +kernel⟩, by decide +kernel, by decide⟩
set_option maxRecDepth 20000 in
theorem zm_X5_coverRightsOf : zMV yX5_coverRightsOf cX5_coverRightsOf 6 (some .int) 1 := ⟨rfl, zmem 566 (by decide +kernel) (by decide +kernel), zmem 564 (by decide +kernel) (by decide +kernel), zmem 565 (by decide +kernel) (by decide +kernel), zmem 72 (by decide +kernel) (by decide +kernel), ⟨by decide +kernel, by decide +kernel⟩, by decide +kernel, by decide⟩
set_option maxRecDepth 20000 in
theorem zm_X5_dateRow : zMV yX5_dateRow cX5_dateRow 2 (some (.object "RightsDesk$DateRow")) 1 := ⟨rfl, zmem 395 (by decide +kernel) (by decide +kernel), zmem 393 (by decide +kernel) (by decide +kernel), zmem 394 (by decide +kernel) (by decide +kernel), zmem 72 (by decide +kernel) (by decide +kernel), ⟨by decide +kernel, by decide +kernel⟩, by decide +kernel, by decide⟩
set_option maxRecDepth 20000 in
theorem zm_X5_daysLeft : zMV yX5_daysLeft cX5_daysLeft 2 (some .int) 1 := ⟨rfl, zmem 414 (by decide +kernel) (by decide +kernel), zmem 412 (by decide +kernel) (by decide +kernel), zmem 413 (by decide +kernel) (by decide +kernel), zmem 72 (by decide +kernel) (by decide +kernel), ⟨by decide +kernel, by decide +kernel⟩, by decide +kernel, by decide⟩
set_option maxRecDepth 20000 in
theorem zm_X5_endDate : zMV yX5_endDate cX5_endDate 4 (some .int) 1 := ⟨rfl, zmem 562 (by decide +kernel) (by decide +kernel), zmem 561 (by decide +kernel) (by decide +kernel), zmem 15 (by decide +kernel) (by decide +kernel), zmem 72 (by decide +kernel) (by decide +kernel), ⟨by decide +kernel, by decide +kernel⟩, by decide +kernel, by decide⟩
set_option maxRecDepth 20000 in
theorem zm_X5_eventRow : zMV yX5_eventRow cX5_eventRow 2 (some (.object "RightsDesk$EventRow")) 1 := ⟨rfl, zmem 739 (by decide +kernel) (by decide +kernel), zmem 737 (by decide +kernel) (by decide +kernel), zmem 738 (by decide +kernel) (by decide +kernel), zmem 72 (by decide +kernel) (by decide +kernel), ⟨by decide +kernel, by decide +kernel⟩, by decide +kernel, by decide⟩
set_option maxRecDepth 20000 in
theorem zm_X5_exerciseRight : zMV yX5_exerciseRight cX5_exerciseRight 5 (some .int) 1 := ⟨rfl, zmem 514 (by decide +kernel) (by decide +kernel), zmem 512 (by decide +kernel) (by decide +kernel), zmem 513 (by decide +kernel) (by decide +kernel), zmem 72 (by decide +kernel) (by decide +kernel), ⟨by decide +kernel, by decide +kernel⟩, by decide +kernel, by decide⟩
set_option maxRecDepth 20000 in
theorem zm_X5_fitsStage : zMV yX5_fitsStage cX5_fitsStage 4 (some .boolean) 2 := ⟨rfl, zmem 371 (by decide +kernel) (by decide +kernel), zmem 370 (by decide +kernel) (by decide +kernel), zmem 1 (by decide +kernel) (by decide +kernel), zmem 72 (by decide +kernel) (by decide +kernel), ⟨by decide +kernel, by decide +kernel⟩, by decide +kernel, by decide⟩
set_option maxRecDepth 20000 in
theorem zm_X5_give : zMV yX5_give cX5_give 3 none 2 := ⟨rfl, zmem 438 (by decide +kernel) (by decide +kernel), zmem 437 (by decide +kernel) (by decide +kernel), zmem 6 (by decide +kernel) (by decide +kernel), zmem 72 (by decide +kernel) (by decide +kernel), ⟨by decide +kernel, by decide +kernel⟩, by decide +kernel, by decide⟩
set_option maxRecDepth 20000 in
theorem zm_X5_isOpen : zMV yX5_isOpen cX5_isOpen 2 (some .boolean) 1 := ⟨rfl, zmem 402 (by decide +kernel) (by decide +kernel), zmem 401 (by decide +kernel) (by decide +kernel), zmem 2 (by decide +kernel) (by decide +kernel), zmem 72 (by decide +kernel) (by decide +kernel), ⟨by decide +kernel, by decide +kernel⟩, by decide +kernel, by decide⟩
set_option maxRecDepth 20000 in
theorem zm_X5_isStage : zMV yX5_isStage cX5_isStage 2 (some .boolean) 1 := ⟨rfl, zmem 367 (by decide +kernel) (by decide +kernel), zmem 366 (by decide +kernel) (by decide +kernel), zmem 0 (by decide +kernel) (by decide +kernel), zmem 72 (by decide +kernel) (by decide +kernel), ⟨by decide +kernel, by decide +kernel⟩, by decide +kernel, by decide⟩
set_option maxRecDepth 20000 in
theorem zm_X5_joinList : zMV yX5_joinList cX5_joinList 4 (some .int) 2 := ⟨rfl, zmem 530 (by decide +kernel) (by decide +kernel), zmem 528 (by decide +kernel) (by decide +kernel), zmem 529 (by decide +kernel) (by decide +kernel), zmem 72 (by decide +kernel) (by decide +kernel), ⟨by decide +kernel, by decide +kernel⟩, by decide +kernel, by decide⟩
set_option maxRecDepth 20000 in
theorem zm_X5_letListBuy : zMV yX5_letListBuy cX5_letListBuy 3 none 1 := ⟨rfl, zmem 482 (by decide +kernel) (by decide +kernel), zmem 481 (by decide +kernel) (by decide +kernel), zmem 11 (by decide +kernel) (by decide +kernel), zmem 72 (by decide +kernel) (by decide +kernel), ⟨by decide +kernel, by decide +kernel⟩, by decide +kernel, by decide⟩
set_option maxRecDepth 20000 in
theorem zm_X5_listsWith : zMV yX5_listsWith cX5_listsWith 4 (some .int) 1 := ⟨rfl, zmem 711 (by decide +kernel) (by decide +kernel), zmem 710 (by decide +kernel) (by decide +kernel), zmem 29 (by decide +kernel) (by decide +kernel), zmem 72 (by decide +kernel) (by decide +kernel), ⟨by decide +kernel, by decide +kernel⟩, by decide +kernel, by decide⟩
set_option maxRecDepth 20000 in
theorem zm_X5_log : zMV yX5_log cX5_log 6 none 3 := ⟨rfl, zmem 442 (by decide +kernel) (by decide +kernel), zmem 441 (by decide +kernel) (by decide +kernel), zmem 7 (by decide +kernel) (by decide +kernel), zmem 72 (by decide +kernel) (by decide +kernel), ⟨by decide +kernel, by decide +kernel⟩, by decide +kernel, by decide⟩
set_option maxRecDepth 20000 in
theorem zm_X5_lowestAsking : zMV yX5_lowestAsking cX5_lowestAsking 3 (some .int) 1 := ⟨rfl, zmem 675 (by decide +kernel) (by decide +kernel), zmem 674 (by decide +kernel) (by decide +kernel), zmem 26 (by decide +kernel) (by decide +kernel), zmem 72 (by decide +kernel) (by decide +kernel), ⟨by decide +kernel, by decide +kernel⟩, by decide +kernel, by decide⟩
set_option maxRecDepth 20000 in
theorem zm_X5_nextToCover : zMV yX5_nextToCover cX5_nextToCover 3 (some (.object "RightsDesk$RightRow")) 1 := ⟨rfl, zmem 570 (by decide +kernel) (by decide +kernel), zmem 569 (by decide +kernel) (by decide +kernel), zmem 16 (by decide +kernel) (by decide +kernel), zmem 72 (by decide +kernel) (by decide +kernel), ⟨by decide +kernel, by decide +kernel⟩, by decide +kernel, by decide⟩
set_option maxRecDepth 20000 in
theorem zm_X5_offerRight : zMV yX5_offerRight cX5_offerRight 6 (some .int) 2 := ⟨rfl, zmem 498 (by decide +kernel) (by decide +kernel), zmem 496 (by decide +kernel) (by decide +kernel), zmem 497 (by decide +kernel) (by decide +kernel), zmem 72 (by decide +kernel) (by decide +kernel), ⟨by decide +kernel, by decide +kernel⟩, by decide +kernel, by decide⟩
set_option maxRecDepth 20000 in
theorem zm_X5_openDate : zMV yX5_openDate cX5_openDate 7 (some .int) 5 := ⟨rfl, zmem 348 (by decide +kernel) (by decide +kernel), zmem 346 (by decide +kernel) (by decide +kernel), zmem 347 (by decide +kernel) (by decide +kernel), zmem 72 (by decide +kernel) (by decide +kernel), ⟨by decide +kernel, by decide +kernel⟩, by decide +kernel, by decide⟩
set_option maxRecDepth 20000 in
theorem zm_X5_passDays : zMV yX5_passDays cX5_passDays 4 (some .int) 1 := ⟨rfl, zmem 554 (by decide +kernel) (by decide +kernel), zmem 552 (by decide +kernel) (by decide +kernel), zmem 553 (by decide +kernel) (by decide +kernel), zmem 72 (by decide +kernel) (by decide +kernel), ⟨by decide +kernel, by decide +kernel⟩, by decide +kernel, by decide⟩
set_option maxRecDepth 20000 in
theorem zm_X5_passOneDay : zMV yX5_passOneDay cX5_passOneDay 3 (some .int) 0 := ⟨rfl, zmem 558 (by decide +kernel) (by decide +kernel), zmem 557 (by decide +kernel) (by decide +kernel), zmem 14 (by decide +kernel) (by decide +kernel), zmem 72 (by decide +kernel) (by decide +kernel), ⟨by decide +kernel, by decide +kernel⟩, by decide +kernel, by decide⟩
set_option maxRecDepth 20000 in
theorem zm_X5_priceNow : zMV yX5_priceNow cX5_priceNow 2 (some .int) 1 := ⟨rfl, zmem 426 (by decide +kernel) (by decide +kernel), zmem 425 (by decide +kernel) (by decide +kernel), zmem 5 (by decide +kernel) (by decide +kernel), zmem 72 (by decide +kernel) (by decide +kernel), ⟨by decide +kernel, by decide +kernel⟩, by decide +kernel, by decide⟩
set_option maxRecDepth 20000 in
theorem zm_X5_quitList : zMV yX5_quitList cX5_quitList 5 (some .int) 2 := ⟨rfl, zmem 546 (by decide +kernel) (by decide +kernel), zmem 544 (by decide +kernel) (by decide +kernel), zmem 545 (by decide +kernel) (by decide +kernel), zmem 72 (by decide +kernel) (by decide +kernel), ⟨by decide +kernel, by decide +kernel⟩, by decide +kernel, by decide⟩
set_option maxRecDepth 20000 in
theorem zm_X5_refund : zMV yX5_refund cX5_refund 4 (some .int) 1 := ⟨rfl, zmem 470 (by decide +kernel) (by decide +kernel), zmem 469 (by decide +kernel) (by decide +kernel), zmem 9 (by decide +kernel) (by decide +kernel), zmem 72 (by decide +kernel) (by decide +kernel), ⟨by decide +kernel, by decide +kernel⟩, by decide +kernel, by decide⟩
set_option maxRecDepth 20000 in
theorem zm_X5_resellTo : zMV yX5_resellTo cX5_resellTo 6 (some .int) 2 := ⟨rfl, zmem 450 (by decide +kernel) (by decide +kernel), zmem 448 (by decide +kernel) (by decide +kernel), zmem 449 (by decide +kernel) (by decide +kernel), zmem 72 (by decide +kernel) (by decide +kernel), ⟨by decide +kernel, by decide +kernel⟩, by decide +kernel, by decide⟩
set_option maxRecDepth 20000 in
theorem zm_X5_rightRow : zMV yX5_rightRow cX5_rightRow 2 (some (.object "RightsDesk$RightRow")) 1 := ⟨rfl, zmem 466 (by decide +kernel) (by decide +kernel), zmem 464 (by decide +kernel) (by decide +kernel), zmem 465 (by decide +kernel) (by decide +kernel), zmem 72 (by decide +kernel) (by decide +kernel), ⟨by decide +kernel, by decide +kernel⟩, by decide +kernel, by decide⟩
set_option maxRecDepth 20000 in
theorem zm_X5_rightsIn : zMV yX5_rightsIn cX5_rightsIn 5 (some .int) 2 := ⟨rfl, zmem 522 (by decide +kernel) (by decide +kernel), zmem 521 (by decide +kernel) (by decide +kernel), zmem 13 (by decide +kernel) (by decide +kernel), zmem 72 (by decide +kernel) (by decide +kernel), ⟨by decide +kernel, by decide +kernel⟩, by decide +kernel, by decide⟩
set_option maxRecDepth 20000 in
theorem zm_X5_rightsInAll : zMV yX5_rightsInAll cX5_rightsInAll 4 (some .int) 1 := ⟨rfl, zmem 755 (by decide +kernel) (by decide +kernel), zmem 754 (by decide +kernel) (by decide +kernel), zmem 30 (by decide +kernel) (by decide +kernel), zmem 72 (by decide +kernel) (by decide +kernel), ⟨by decide +kernel, by decide +kernel⟩, by decide +kernel, by decide⟩
set_option maxRecDepth 20000 in
theorem zm_X5_rightsOfHolder : zMV yX5_rightsOfHolder cX5_rightsOfHolder 5 (some .int) 2 := ⟨rfl, zmem 707 (by decide +kernel) (by decide +kernel), zmem 706 (by decide +kernel) (by decide +kernel), zmem 28 (by decide +kernel) (by decide +kernel), zmem 72 (by decide +kernel) (by decide +kernel), ⟨by decide +kernel, by decide +kernel⟩, by decide +kernel, by decide⟩
set_option maxRecDepth 20000 in
theorem zm_X5_rightsOut : zMV yX5_rightsOut cX5_rightsOut 4 (some .int) 1 := ⟨rfl, zmem 418 (by decide +kernel) (by decide +kernel), zmem 416 (by decide +kernel) (by decide +kernel), zmem 417 (by decide +kernel) (by decide +kernel), zmem 72 (by decide +kernel) (by decide +kernel), ⟨by decide +kernel, by decide +kernel⟩, by decide +kernel, by decide⟩
set_option maxRecDepth 20000 in
theorem zm_X5_sell : zMV yX5_sell cX5_sell 5 (some .int) 2 := ⟨rfl, zmem 406 (by decide +kernel) (by decide +kernel), zmem 405 (by decide +kernel) (by decide +kernel), zmem 3 (by decide +kernel) (by decide +kernel), zmem 72 (by decide +kernel) (by decide +kernel), ⟨by decide +kernel, by decide +kernel⟩, by decide +kernel, by decide⟩
set_option maxRecDepth 20000 in
theorem zm_X5_sellTo : zMV yX5_sellTo cX5_sellTo 4 (some .int) 2 := ⟨rfl, zmem 391 (by decide +kernel) (by decide +kernel), zmem 389 (by decide +kernel) (by decide +kernel), zmem 390 (by decide +kernel) (by decide +kernel), zmem 72 (by decide +kernel) (by decide +kernel), ⟨by decide +kernel, by decide +kernel⟩, by decide +kernel, by decide⟩
set_option maxRecDepth 20000 in
theorem zm_X5_sellable : zMV yX5_sellable cX5_sellable 3 (some .int) 1 := ⟨rfl, zmem 410 (by decide +kernel) (by decide +kernel), zmem 409 (by decide +kernel) (by decide +kernel), zmem 4 (by decide +kernel) (by decide +kernel), zmem 72 (by decide +kernel) (by decide +kernel), ⟨by decide +kernel, by decide +kernel⟩, by decide +kernel, by decide⟩
set_option maxRecDepth 20000 in
theorem zm_X5_stageOf : zMV yX5_stageOf cX5_stageOf 3 (some .int) 1 := ⟨rfl, zmem 478 (by decide +kernel) (by decide +kernel), zmem 477 (by decide +kernel) (by decide +kernel), zmem 10 (by decide +kernel) (by decide +kernel), zmem 72 (by decide +kernel) (by decide +kernel), ⟨by decide +kernel, by decide +kernel⟩, by decide +kernel, by decide⟩
set_option maxRecDepth 20000 in
theorem zm_X5_tellCount : zMV yX5_tellCount cX5_tellCount 2 (some .int) 1 := ⟨rfl, zmem 751 (by decide +kernel) (by decide +kernel), zmem 749 (by decide +kernel) (by decide +kernel), zmem 750 (by decide +kernel) (by decide +kernel), zmem 72 (by decide +kernel) (by decide +kernel), ⟨by decide +kernel, by decide +kernel⟩, by decide +kernel, by decide⟩
set_option maxRecDepth 20000 in
theorem zm_X5_tellExercisable : zMV yX5_tellExercisable cX5_tellExercisable 3 (some .int) 1 := ⟨rfl, zmem 693 (by decide +kernel) (by decide +kernel), zmem 692 (by decide +kernel) (by decide +kernel), zmem 27 (by decide +kernel) (by decide +kernel), zmem 72 (by decide +kernel) (by decide +kernel), ⟨by decide +kernel, by decide +kernel⟩, by decide +kernel, by decide⟩
set_option maxRecDepth 20000 in
theorem zm_X5_tellOfDate : zMV yX5_tellOfDate cX5_tellOfDate 3 (some .int) 2 := ⟨rfl, zmem 671 (by decide +kernel) (by decide +kernel), zmem 669 (by decide +kernel) (by decide +kernel), zmem 670 (by decide +kernel) (by decide +kernel), zmem 72 (by decide +kernel) (by decide +kernel), ⟨by decide +kernel, by decide +kernel⟩, by decide +kernel, by decide⟩
set_option maxRecDepth 20000 in
theorem zm_X5_tellOfHolder : zMV yX5_tellOfHolder cX5_tellOfHolder 3 (some .int) 2 := ⟨rfl, zmem 702 (by decide +kernel) (by decide +kernel), zmem 700 (by decide +kernel) (by decide +kernel), zmem 701 (by decide +kernel) (by decide +kernel), zmem 72 (by decide +kernel) (by decide +kernel), ⟨by decide +kernel, by decide +kernel⟩, by decide +kernel, by decide⟩
set_option maxRecDepth 20000 in
theorem zm_X5_tellOfRight : zMV yX5_tellOfRight cX5_tellOfRight 3 (some .int) 2 := ⟨rfl, zmem 689 (by decide +kernel) (by decide +kernel), zmem 687 (by decide +kernel) (by decide +kernel), zmem 688 (by decide +kernel) (by decide +kernel), zmem 72 (by decide +kernel) (by decide +kernel), ⟨by decide +kernel, by decide +kernel⟩, by decide +kernel, by decide⟩
set_option maxRecDepth 20000 in
theorem zm_X5_tellOfStage : zMV yX5_tellOfStage cX5_tellOfStage 3 (some .int) 2 := ⟨rfl, zmem 719 (by decide +kernel) (by decide +kernel), zmem 717 (by decide +kernel) (by decide +kernel), zmem 718 (by decide +kernel) (by decide +kernel), zmem 72 (by decide +kernel) (by decide +kernel), ⟨by decide +kernel, by decide +kernel⟩, by decide +kernel, by decide⟩
set_option maxRecDepth 20000 in
theorem zm_X5_withdrawOffer : zMV yX5_withdrawOffer cX5_withdrawOffer 4 (some .int) 1 := ⟨rfl, zmem 506 (by decide +kernel) (by decide +kernel), zmem 504 (by decide +kernel) (by decide +kernel), zmem 505 (by decide +kernel) (by decide +kernel), zmem 72 (by decide +kernel) (by decide +kernel), ⟨by decide +kernel, by decide +kernel⟩, by decide +kernel, by decide⟩
set_option maxRecDepth 20000 in
theorem zm_X6_addDate : zMV yX6_addDate cX6_addDate 6 (some .int) 5 := ⟨rfl, zmem 320 (by decide +kernel) (by decide +kernel), zmem 318 (by decide +kernel) (by decide +kernel), zmem 319 (by decide +kernel) (by decide +kernel), zmem 71 (by decide +kernel) (by decide +kernel), ⟨by decide +kernel, by decide +kernel⟩, by decide +kernel, by decide⟩
set_option maxRecDepth 20000 in
theorem zm_X6_await : zMV yX6_await cX6_await 3 (some .int) 2 := ⟨rfl, zmem 526 (by decide +kernel) (by decide +kernel), zmem 524 (by decide +kernel) (by decide +kernel), zmem 525 (by decide +kernel) (by decide +kernel), zmem 71 (by decide +kernel) (by decide +kernel), ⟨by decide +kernel, by decide +kernel⟩, by decide +kernel, by decide⟩
set_option maxRecDepth 20000 in
theorem zm_X6_buy : zMV yX6_buy cX6_buy 3 (some .int) 2 := ⟨rfl, zmem 387 (by decide +kernel) (by decide +kernel), zmem 385 (by decide +kernel) (by decide +kernel), zmem 386 (by decide +kernel) (by decide +kernel), zmem 71 (by decide +kernel) (by decide +kernel), ⟨by decide +kernel, by decide +kernel⟩, by decide +kernel, by decide⟩
set_option maxRecDepth 20000 in
theorem zm_X6_buyOffered : zMV yX6_buyOffered cX6_buyOffered 3 (some .int) 2 := ⟨rfl, zmem 446 (by decide +kernel) (by decide +kernel), zmem 444 (by decide +kernel) (by decide +kernel), zmem 445 (by decide +kernel) (by decide +kernel), zmem 71 (by decide +kernel) (by decide +kernel), ⟨by decide +kernel, by decide +kernel⟩, by decide +kernel, by decide⟩
set_option maxRecDepth 20000 in
theorem zm_X6_cancel : zMV yX6_cancel cX6_cancel 2 (some .int) 1 := ⟨rfl, zmem 458 (by decide +kernel) (by decide +kernel), zmem 456 (by decide +kernel) (by decide +kernel), zmem 457 (by decide +kernel) (by decide +kernel), zmem 71 (by decide +kernel) (by decide +kernel), ⟨by decide +kernel, by decide +kernel⟩, by decide +kernel, by decide⟩
set_option maxRecDepth 20000 in
theorem zm_X6_clearText : zMV yX6_clearText cX6_clearText 1 (some .int) 0 := ⟨rfl, zmem 590 (by decide +kernel) (by decide +kernel), zmem 588 (by decide +kernel) (by decide +kernel), zmem 589 (by decide +kernel) (by decide +kernel), zmem 71 (by decide +kernel) (by decide +kernel), ⟨by decide +kernel, by decide +kernel⟩, by decide +kernel, by decide⟩
set_option maxRecDepth 20000 in
theorem zm_X6_copyAll : zMS yX6_copyAll cX6_copyAll 3 none 2 := ⟨rfl, zmem 331 (by decide +kernel) (by decide +kernel), zmem 330 (by decide +kernel) (by decide +kernel), zmem 71 (by decide +kernel) (by decide +kernel), ⟨by decide +kernel, by decide +kernel⟩, by decide +kernel, by decide⟩
set_option maxRecDepth 20000 in
theorem zm_X6_count : zMV yX6_count cX6_count 2 (some .int) 1 := ⟨rfl, zmem 747 (by decide +kernel) (by decide +kernel), zmem 745 (by decide +kernel) (by decide +kernel), zmem 746 (by decide +kernel) (by decide +kernel), zmem 71 (by decide +kernel) (by decide +kernel), ⟨by decide +kernel, by decide +kernel⟩, by decide +kernel, by decide⟩
set_option maxRecDepth 20000 in
theorem zm_X6_date : zMV yX6_date cX6_date 4 (some .int) 2 := ⟨rfl, zmem 666 (by decide +kernel) (by decide +kernel), zmem 664 (by decide +kernel) (by decide +kernel), zmem 665 (by decide +kernel) (by decide +kernel), zmem 71 (by decide +kernel) (by decide +kernel), ⟨by decide +kernel, by decide +kernel⟩, by decide +kernel, by decide⟩
set_option maxRecDepth 20000 in
theorem zm_X6_event : zMV yX6_event cX6_event 4 (some .int) 2 := ⟨rfl, zmem 735 (by decide +kernel) (by decide +kernel), zmem 733 (by decide +kernel) (by decide +kernel), zmem 734 (by decide +kernel) (by decide +kernel), zmem 71 (by decide +kernel) (by decide +kernel), ⟨by decide +kernel, by decide +kernel⟩, by decide +kernel, by decide⟩
set_option maxRecDepth 20000 in
theorem zm_X6_exercise : zMV yX6_exercise cX6_exercise 2 (some .int) 1 := ⟨rfl, zmem 510 (by decide +kernel) (by decide +kernel), zmem 508 (by decide +kernel) (by decide +kernel), zmem 509 (by decide +kernel) (by decide +kernel), zmem 71 (by decide +kernel) (by decide +kernel), ⟨by decide +kernel, by decide +kernel⟩, by decide +kernel, by decide⟩
set_option maxRecDepth 20000 in
theorem zm_X6_holder : zMV yX6_holder cX6_holder 3 (some .int) 2 := ⟨rfl, zmem 697 (by decide +kernel) (by decide +kernel), zmem 695 (by decide +kernel) (by decide +kernel), zmem 696 (by decide +kernel) (by decide +kernel), zmem 71 (by decide +kernel) (by decide +kernel), ⟨by decide +kernel, by decide +kernel⟩, by decide +kernel, by decide⟩
set_option maxRecDepth 20000 in
theorem zm_X6_isHolder : zMS yX6_isHolder cX6_isHolder 1 (some .boolean) 1 := ⟨rfl, zmem 398 (by decide +kernel) (by decide +kernel), zmem 397 (by decide +kernel) (by decide +kernel), zmem 71 (by decide +kernel) (by decide +kernel), ⟨by decide +kernel, by decide +kernel⟩, by decide +kernel, by decide⟩
set_option maxRecDepth 20000 in
theorem zm_X6_keep : zMV yX6_keep cX6_keep 1 (some .int) 0 := ⟨rfl, zmem 658 (by decide +kernel) (by decide +kernel), zmem 656 (by decide +kernel) (by decide +kernel), zmem 657 (by decide +kernel) (by decide +kernel), zmem 71 (by decide +kernel) (by decide +kernel), ⟨by decide +kernel, by decide +kernel⟩, by decide +kernel, by decide⟩
set_option maxRecDepth 20000 in
theorem zm_X6_leave : zMV yX6_leave cX6_leave 3 (some .int) 2 := ⟨rfl, zmem 542 (by decide +kernel) (by decide +kernel), zmem 540 (by decide +kernel) (by decide +kernel), zmem 541 (by decide +kernel) (by decide +kernel), zmem 71 (by decide +kernel) (by decide +kernel), ⟨by decide +kernel, by decide +kernel⟩, by decide +kernel, by decide⟩
set_option maxRecDepth 20000 in
theorem zm_X6_offer : zMV yX6_offer cX6_offer 3 (some .int) 2 := ⟨rfl, zmem 494 (by decide +kernel) (by decide +kernel), zmem 492 (by decide +kernel) (by decide +kernel), zmem 493 (by decide +kernel) (by decide +kernel), zmem 71 (by decide +kernel) (by decide +kernel), ⟨by decide +kernel, by decide +kernel⟩, by decide +kernel, by decide⟩
set_option maxRecDepth 20000 in
theorem zm_X6_pass : zMV yX6_pass cX6_pass 2 (some .int) 1 := ⟨rfl, zmem 550 (by decide +kernel) (by decide +kernel), zmem 548 (by decide +kernel) (by decide +kernel), zmem 549 (by decide +kernel) (by decide +kernel), zmem 71 (by decide +kernel) (by decide +kernel), ⟨by decide +kernel, by decide +kernel⟩, by decide +kernel, by decide⟩
set_option maxRecDepth 20000 in
theorem zm_X6_perform : zMV yX6_perform cX6_perform 4 (some .int) 0 := ⟨rfl, zmem 598 (by decide +kernel) (by decide +kernel), zmem 596 (by decide +kernel) (by decide +kernel), zmem 597 (by decide +kernel) (by decide +kernel), zmem 71 (by decide +kernel) (by decide +kernel), ⟨by decide +kernel, by decide +kernel⟩, by decide +kernel, by decide⟩
set_option maxRecDepth 20000 in
theorem zm_X6_performNext : zMV yX6_performNext cX6_performNext 1 (some .int) 0 := ⟨rfl, zmem 643 (by decide +kernel) (by decide +kernel), zmem 642 (by decide +kernel) (by decide +kernel), zmem 25 (by decide +kernel) (by decide +kernel), zmem 71 (by decide +kernel) (by decide +kernel), ⟨by decide +kernel, by decide +kernel⟩, by decide +kernel, by decide⟩
set_option maxRecDepth 20000 in
theorem zm_X6_priceIn : zMV yX6_priceIn cX6_priceIn 5 (some .int) 2 := ⟨rfl, zmem 723 (by decide +kernel) (by decide +kernel), zmem 721 (by decide +kernel) (by decide +kernel), zmem 722 (by decide +kernel) (by decide +kernel), zmem 71 (by decide +kernel) (by decide +kernel), ⟨by decide +kernel, by decide +kernel⟩, by decide +kernel, by decide⟩
set_option maxRecDepth 20000 in
theorem zm_X6_restore : zMV yX6_restore cX6_restore 1 (some .int) 0 := ⟨rfl, zmem 662 (by decide +kernel) (by decide +kernel), zmem 660 (by decide +kernel) (by decide +kernel), zmem 661 (by decide +kernel) (by decide +kernel), zmem 71 (by decide +kernel) (by decide +kernel), ⟨by decide +kernel, by decide +kernel⟩, by decide +kernel, by decide⟩
set_option maxRecDepth 20000 in
theorem zm_X6_right : zMV yX6_right cX6_right 4 (some .int) 2 := ⟨rfl, zmem 684 (by decide +kernel) (by decide +kernel), zmem 682 (by decide +kernel) (by decide +kernel), zmem 683 (by decide +kernel) (by decide +kernel), zmem 71 (by decide +kernel) (by decide +kernel), ⟨by decide +kernel, by decide +kernel⟩, by decide +kernel, by decide⟩
set_option maxRecDepth 20000 in
theorem zm_X6_set : zMV yX6_set cX6_set 3 (some .int) 2 := ⟨rfl, zmem 375 (by decide +kernel) (by decide +kernel), zmem 373 (by decide +kernel) (by decide +kernel), zmem 374 (by decide +kernel) (by decide +kernel), zmem 71 (by decide +kernel) (by decide +kernel), ⟨by decide +kernel, by decide +kernel⟩, by decide +kernel, by decide⟩
set_option maxRecDepth 20000 in
theorem zm_X6_setStage : zMV yX6_setStage cX6_setStage 4 (some .int) 3 := ⟨rfl, zmem 359 (by decide +kernel) (by decide +kernel), zmem 357 (by decide +kernel) (by decide +kernel), zmem 358 (by decide +kernel) (by decide +kernel), zmem 71 (by decide +kernel) (by decide +kernel), ⟨by decide +kernel, by decide +kernel⟩, by decide +kernel, by decide⟩
set_option maxRecDepth 20000 in
theorem zm_X6_stage : zMV yX6_stage cX6_stage 3 (some .int) 2 := ⟨rfl, zmem 715 (by decide +kernel) (by decide +kernel), zmem 713 (by decide +kernel) (by decide +kernel), zmem 714 (by decide +kernel) (by decide +kernel), zmem 71 (by decide +kernel) (by decide +kernel), ⟨by decide +kernel, by decide +kernel⟩, by decide +kernel, by decide⟩
set_option maxRecDepth 20000 in
theorem zm_X6_takeBack : zMV yX6_takeBack cX6_takeBack 2 (some .int) 1 := ⟨rfl, zmem 502 (by decide +kernel) (by decide +kernel), zmem 500 (by decide +kernel) (by decide +kernel), zmem 501 (by decide +kernel) (by decide +kernel), zmem 71 (by decide +kernel) (by decide +kernel), ⟨by decide +kernel, by decide +kernel⟩, by decide +kernel, by decide⟩
set_option maxRecDepth 20000 in
theorem zm_X6_type : zMV yX6_type cX6_type 2 (some .int) 1 := ⟨rfl, zmem 582 (by decide +kernel) (by decide +kernel), zmem 580 (by decide +kernel) (by decide +kernel), zmem 581 (by decide +kernel) (by decide +kernel), zmem 71 (by decide +kernel) (by decide +kernel), ⟨by decide +kernel, by decide +kernel⟩, by decide +kernel, by decide⟩
set_option maxRecDepth 20000 in
theorem zm_X6_undo : zMV yX6_undo cX6_undo 2 (some .int) 0 := ⟨rfl, zmem 650 (by decide +kernel) (by decide +kernel), zmem 648 (by decide +kernel) (by decide +kernel), zmem 649 (by decide +kernel) (by decide +kernel), zmem 71 (by decide +kernel) (by decide +kernel), ⟨by decide +kernel, by decide +kernel⟩, by decide +kernel, by decide⟩
set_option maxRecDepth 20000 in
theorem zm_X6_waiting : zMV yX6_waiting cX6_waiting 4 (some .int) 2 := ⟨rfl, zmem 679 (by decide +kernel) (by decide +kernel), zmem 677 (by decide +kernel) (by decide +kernel), zmem 678 (by decide +kernel) (by decide +kernel), zmem 71 (by decide +kernel) (by decide +kernel), ⟨by decide +kernel, by decide +kernel⟩, by decide +kernel, by decide⟩
set_option maxRecDepth 20000 in
theorem zm_X6_wouldCover : zMV yX6_wouldCover cX6_wouldCover 3 (some .int) 1 := ⟨rfl, zmem 730 (by decide +kernel) (by decide +kernel), zmem 728 (by decide +kernel) (by decide +kernel), zmem 729 (by decide +kernel) (by decide +kernel), zmem 71 (by decide +kernel) (by decide +kernel), ⟨by decide +kernel, by decide +kernel⟩, by decide +kernel, by decide⟩
set_option maxRecDepth 20000 in
theorem zm_X7_acted : zMV yX7_acted cX7_acted 4 (some .int) 1 := ⟨rfl, zmem 899 (by decide +kernel) (by decide +kernel), zmem 898 (by decide +kernel) (by decide +kernel), zmem 46 (by decide +kernel) (by decide +kernel), zmem 78 (by decide +kernel) (by decide +kernel), ⟨by decide +kernel, by decide +kernel⟩, by decide +kernel, by decide⟩
set_option maxRecDepth 20000 in
theorem zm_X7_addDate : zMV yX7_addDate cX7_addDate 7 (some .int) 5 := ⟨rfl, zmem 811 (by decide +kernel) (by decide +kernel), zmem 809 (by decide +kernel) (by decide +kernel), zmem 810 (by decide +kernel) (by decide +kernel), zmem 78 (by decide +kernel) (by decide +kernel), ⟨by decide +kernel, by decide +kernel⟩, by decide +kernel, by decide⟩
set_option maxRecDepth 20000 in
theorem zm_X7_aside : zMV yX7_aside cX7_aside 2 none 0 := ⟨rfl, zmem 837 (by decide +kernel) (by decide +kernel), zmem 836 (by decide +kernel) (by decide +kernel), zmem 32 (by decide +kernel) (by decide +kernel), zmem 78 (by decide +kernel) (by decide +kernel), ⟨by decide +kernel, by decide +kernel⟩, by decide +kernel, by decide⟩
set_option maxRecDepth 20000 in
theorem zm_X7_await : zMV yX7_await cX7_await 3 (some .int) 2 := ⟨rfl, zmem 979 (by decide +kernel) (by decide +kernel), zmem 977 (by decide +kernel) (by decide +kernel), zmem 978 (by decide +kernel) (by decide +kernel), zmem 78 (by decide +kernel) (by decide +kernel), ⟨by decide +kernel, by decide +kernel⟩, by decide +kernel, by decide⟩
set_option maxRecDepth 20000 in
theorem zm_X7_becomes : zMV yX7_becomes cX7_becomes 3 none 2 := ⟨rfl, zmem 919 (by decide +kernel) (by decide +kernel), zmem 918 (by decide +kernel) (by decide +kernel), zmem 50 (by decide +kernel) (by decide +kernel), zmem 78 (by decide +kernel) (by decide +kernel), ⟨by decide +kernel, by decide +kernel⟩, by decide +kernel, by decide⟩
set_option maxRecDepth 20000 in
theorem zm_X7_bringBack : zMV yX7_bringBack cX7_bringBack 2 none 0 := ⟨rfl, zmem 903 (by decide +kernel) (by decide +kernel), zmem 902 (by decide +kernel) (by decide +kernel), zmem 47 (by decide +kernel) (by decide +kernel), zmem 78 (by decide +kernel) (by decide +kernel), ⟨by decide +kernel, by decide +kernel⟩, by decide +kernel, by decide⟩
set_option maxRecDepth 20000 in
theorem zm_X7_buy : zMV yX7_buy cX7_buy 3 (some .int) 2 := ⟨rfl, zmem 833 (by decide +kernel) (by decide +kernel), zmem 831 (by decide +kernel) (by decide +kernel), zmem 832 (by decide +kernel) (by decide +kernel), zmem 78 (by decide +kernel) (by decide +kernel), ⟨by decide +kernel, by decide +kernel⟩, by decide +kernel, by decide⟩
set_option maxRecDepth 20000 in
theorem zm_X7_buyOffered : zMV yX7_buyOffered cX7_buyOffered 3 (some .int) 2 := ⟨rfl, zmem 907 (by decide +kernel) (by decide +kernel), zmem 905 (by decide +kernel) (by decide +kernel), zmem 906 (by decide +kernel) (by decide +kernel), zmem 78 (by decide +kernel) (by decide +kernel), ⟨by decide +kernel, by decide +kernel⟩, by decide +kernel, by decide⟩
set_option maxRecDepth 20000 in
theorem zm_X7_canExercise : zMV yX7_canExercise cX7_canExercise 3 (some .boolean) 1 := ⟨rfl, zmem 975 (by decide +kernel) (by decide +kernel), zmem 974 (by decide +kernel) (by decide +kernel), zmem 60 (by decide +kernel) (by decide +kernel), zmem 78 (by decide +kernel) (by decide +kernel), ⟨by decide +kernel, by decide +kernel⟩, by decide +kernel, by decide⟩
set_option maxRecDepth 20000 in
theorem zm_X7_canSell : zMV yX7_canSell cX7_canSell 4 (some .int) 1 := ⟨rfl, zmem 864 (by decide +kernel) (by decide +kernel), zmem 863 (by decide +kernel) (by decide +kernel), zmem 38 (by decide +kernel) (by decide +kernel), zmem 78 (by decide +kernel) (by decide +kernel), ⟨by decide +kernel, by decide +kernel⟩, by decide +kernel, by decide⟩
set_option maxRecDepth 20000 in
theorem zm_X7_cancel : zMV yX7_cancel cX7_cancel 2 (some .int) 1 := ⟨rfl, zmem 923 (by decide +kernel) (by decide +kernel), zmem 921 (by decide +kernel) (by decide +kernel), zmem 922 (by decide +kernel) (by decide +kernel), zmem 78 (by decide +kernel) (by decide +kernel), ⟨by decide +kernel, by decide +kernel⟩, by decide +kernel, by decide⟩
set_option maxRecDepth 20000 in
theorem zm_X7_clearText : zMV yX7_clearText cX7_clearText 2 (some .int) 0 := ⟨rfl, zmem 1011 (by decide +kernel) (by decide +kernel), zmem 1009 (by decide +kernel) (by decide +kernel), zmem 1010 (by decide +kernel) (by decide +kernel), zmem 78 (by decide +kernel) (by decide +kernel), ⟨by decide +kernel, by decide +kernel⟩, by decide +kernel, by decide⟩
set_option maxRecDepth 20000 in
theorem zm_X7_count : zMV yX7_count cX7_count 4 (some .int) 1 := ⟨rfl, zmem 1084 (by decide +kernel) (by decide +kernel), zmem 1082 (by decide +kernel) (by decide +kernel), zmem 1083 (by decide +kernel) (by decide +kernel), zmem 78 (by decide +kernel) (by decide +kernel), ⟨by decide +kernel, by decide +kernel⟩, by decide +kernel, by decide⟩
set_option maxRecDepth 20000 in
theorem zm_X7_covers : zMV yX7_covers cX7_covers 5 (some .int) 1 := ⟨rfl, zmem 1003 (by decide +kernel) (by decide +kernel), zmem 1002 (by decide +kernel) (by decide +kernel), zmem 64 (by decide +kernel) (by decide +kernel), zmem 78 (by decide +kernel) (by decide +kernel), ⟨by decide +kernel, by decide +kernel⟩, by decide +kernel, by decide⟩
set_option maxRecDepth 20000 in
theorem zm_X7_date : zMV yX7_date cX7_date 4 (some .int) 2 := ⟨rfl, zmem 1051 (by decide +kernel) (by decide +kernel), zmem 1049 (by decide +kernel) (by decide +kernel), zmem 1050 (by decide +kernel) (by decide +kernel), zmem 78 (by decide +kernel) (by decide +kernel), ⟨by decide +kernel, by decide +kernel⟩, by decide +kernel, by decide⟩
set_option maxRecDepth 20000 in
theorem zm_X7_dateAt : zMS yX7_dateAt cX7_dateAt 2 (some .int) 2 := ⟨rfl, zmem 821 (by decide +kernel) (by decide +kernel), zmem 820 (by decide +kernel) (by decide +kernel), zmem 78 (by decide +kernel) (by decide +kernel), ⟨by decide +kernel, by decide +kernel⟩, by decide +kernel, by decide⟩
set_option maxRecDepth 20000 in
theorem zm_X7_daysLeft : zMV yX7_daysLeft cX7_daysLeft 2 (some .int) 1 := ⟨rfl, zmem 856 (by decide +kernel) (by decide +kernel), zmem 855 (by decide +kernel) (by decide +kernel), zmem 36 (by decide +kernel) (by decide +kernel), zmem 78 (by decide +kernel) (by decide +kernel), ⟨by decide +kernel, by decide +kernel⟩, by decide +kernel, by decide⟩
set_option maxRecDepth 20000 in
theorem zm_X7_doBuy : zMV yX7_doBuy cX7_doBuy 3 (some .int) 2 := ⟨rfl, zmem 841 (by decide +kernel) (by decide +kernel), zmem 840 (by decide +kernel) (by decide +kernel), zmem 33 (by decide +kernel) (by decide +kernel), zmem 78 (by decide +kernel) (by decide +kernel), ⟨by decide +kernel, by decide +kernel⟩, by decide +kernel, by decide⟩
set_option maxRecDepth 20000 in
theorem zm_X7_doBuyOffered : zMV yX7_doBuyOffered cX7_doBuyOffered 6 (some .int) 2 := ⟨rfl, zmem 911 (by decide +kernel) (by decide +kernel), zmem 910 (by decide +kernel) (by decide +kernel), zmem 48 (by decide +kernel) (by decide +kernel), zmem 78 (by decide +kernel) (by decide +kernel), ⟨by decide +kernel, by decide +kernel⟩, by decide +kernel, by decide⟩
set_option maxRecDepth 20000 in
theorem zm_X7_doCancel : zMV yX7_doCancel cX7_doCancel 3 (some .int) 1 := ⟨rfl, zmem 927 (by decide +kernel) (by decide +kernel), zmem 926 (by decide +kernel) (by decide +kernel), zmem 51 (by decide +kernel) (by decide +kernel), zmem 78 (by decide +kernel) (by decide +kernel), ⟨by decide +kernel, by decide +kernel⟩, by decide +kernel, by decide⟩
set_option maxRecDepth 20000 in
theorem zm_X7_doExercise : zMV yX7_doExercise cX7_doExercise 2 (some .int) 1 := ⟨rfl, zmem 971 (by decide +kernel) (by decide +kernel), zmem 970 (by decide +kernel) (by decide +kernel), zmem 59 (by decide +kernel) (by decide +kernel), zmem 78 (by decide +kernel) (by decide +kernel), ⟨by decide +kernel, by decide +kernel⟩, by decide +kernel, by decide⟩
set_option maxRecDepth 20000 in
theorem zm_X7_doOffer : zMV yX7_doOffer cX7_doOffer 4 (some .int) 2 := ⟨rfl, zmem 959 (by decide +kernel) (by decide +kernel), zmem 958 (by decide +kernel) (by decide +kernel), zmem 58 (by decide +kernel) (by decide +kernel), zmem 78 (by decide +kernel) (by decide +kernel), ⟨by decide +kernel, by decide +kernel⟩, by decide +kernel, by decide⟩
set_option maxRecDepth 20000 in
theorem zm_X7_doOrder : zMV yX7_doOrder cX7_doOrder 1 (some .int) 0 := ⟨rfl, zmem 1035 (by decide +kernel) (by decide +kernel), zmem 1034 (by decide +kernel) (by decide +kernel), zmem 69 (by decide +kernel) (by decide +kernel), zmem 78 (by decide +kernel) (by decide +kernel), ⟨by decide +kernel, by decide +kernel⟩, by decide +kernel, by decide⟩
set_option maxRecDepth 20000 in
theorem zm_X7_dropFirst : zMV yX7_dropFirst cX7_dropFirst 4 none 2 := ⟨rfl, zmem 951 (by decide +kernel) (by decide +kernel), zmem 950 (by decide +kernel) (by decide +kernel), zmem 57 (by decide +kernel) (by decide +kernel), zmem 78 (by decide +kernel) (by decide +kernel), ⟨by decide +kernel, by decide +kernel⟩, by decide +kernel, by decide⟩
set_option maxRecDepth 20000 in
theorem zm_X7_event : zMV yX7_event cX7_event 3 (some .int) 2 := ⟨rfl, zmem 1080 (by decide +kernel) (by decide +kernel), zmem 1078 (by decide +kernel) (by decide +kernel), zmem 1079 (by decide +kernel) (by decide +kernel), zmem 78 (by decide +kernel) (by decide +kernel), ⟨by decide +kernel, by decide +kernel⟩, by decide +kernel, by decide⟩
set_option maxRecDepth 20000 in
theorem zm_X7_exercise : zMV yX7_exercise cX7_exercise 2 (some .int) 1 := ⟨rfl, zmem 967 (by decide +kernel) (by decide +kernel), zmem 965 (by decide +kernel) (by decide +kernel), zmem 966 (by decide +kernel) (by decide +kernel), zmem 78 (by decide +kernel) (by decide +kernel), ⟨by decide +kernel, by decide +kernel⟩, by decide +kernel, by decide⟩
set_option maxRecDepth 20000 in
theorem zm_X7_holder : zMV yX7_holder cX7_holder 7 (some .int) 2 := ⟨rfl, zmem 1063 (by decide +kernel) (by decide +kernel), zmem 1061 (by decide +kernel) (by decide +kernel), zmem 1062 (by decide +kernel) (by decide +kernel), zmem 78 (by decide +kernel) (by decide +kernel), ⟨by decide +kernel, by decide +kernel⟩, by decide +kernel, by decide⟩
set_option maxRecDepth 20000 in
theorem zm_X7_in : zMS yX7_in cX7_in 3 (some .boolean) 3 := ⟨rfl, zmem 814 (by decide +kernel) (by decide +kernel), zmem 813 (by decide +kernel) (by decide +kernel), zmem 78 (by decide +kernel) (by decide +kernel), ⟨by decide +kernel, by decide +kernel⟩, by decide +kernel, by decide⟩
set_option maxRecDepth 20000 in
theorem zm_X7_isDate : zMV yX7_isDate cX7_isDate 2 (some .boolean) 1 := ⟨rfl, zmem 848 (by decide +kernel) (by decide +kernel), zmem 847 (by decide +kernel) (by decide +kernel), zmem 34 (by decide +kernel) (by decide +kernel), zmem 78 (by decide +kernel) (by decide +kernel), ⟨by decide +kernel, by decide +kernel⟩, by decide +kernel, by decide⟩
set_option maxRecDepth 20000 in
theorem zm_X7_isFree : zMV yX7_isFree cX7_isFree 2 (some .boolean) 1 := ⟨rfl, zmem 935 (by decide +kernel) (by decide +kernel), zmem 934 (by decide +kernel) (by decide +kernel), zmem 53 (by decide +kernel) (by decide +kernel), zmem 78 (by decide +kernel) (by decide +kernel), ⟨by decide +kernel, by decide +kernel⟩, by decide +kernel, by decide⟩
set_option maxRecDepth 20000 in
theorem zm_X7_isGood : zMV yX7_isGood cX7_isGood 2 (some .boolean) 0 := ⟨rfl, zmem 1019 (by decide +kernel) (by decide +kernel), zmem 1018 (by decide +kernel) (by decide +kernel), zmem 65 (by decide +kernel) (by decide +kernel), zmem 78 (by decide +kernel) (by decide +kernel), ⟨by decide +kernel, by decide +kernel⟩, by decide +kernel, by decide⟩
set_option maxRecDepth 20000 in
theorem zm_X7_isHolder : zMS yX7_isHolder cX7_isHolder 1 (some .boolean) 1 := ⟨rfl, zmem 844 (by decide +kernel) (by decide +kernel), zmem 843 (by decide +kernel) (by decide +kernel), zmem 78 (by decide +kernel) (by decide +kernel), ⟨by decide +kernel, by decide +kernel⟩, by decide +kernel, by decide⟩
set_option maxRecDepth 20000 in
theorem zm_X7_isOpen : zMV yX7_isOpen cX7_isOpen 2 (some .boolean) 1 := ⟨rfl, zmem 852 (by decide +kernel) (by decide +kernel), zmem 851 (by decide +kernel) (by decide +kernel), zmem 35 (by decide +kernel) (by decide +kernel), zmem 78 (by decide +kernel) (by decide +kernel), ⟨by decide +kernel, by decide +kernel⟩, by decide +kernel, by decide⟩
set_option maxRecDepth 20000 in
theorem zm_X7_isRight : zMV yX7_isRight cX7_isRight 2 (some .boolean) 1 := ⟨rfl, zmem 931 (by decide +kernel) (by decide +kernel), zmem 930 (by decide +kernel) (by decide +kernel), zmem 52 (by decide +kernel) (by decide +kernel), zmem 78 (by decide +kernel) (by decide +kernel), ⟨by decide +kernel, by decide +kernel⟩, by decide +kernel, by decide⟩
set_option maxRecDepth 20000 in
theorem zm_X7_keep : zMV yX7_keep cX7_keep 2 (some .int) 0 := ⟨rfl, zmem 1043 (by decide +kernel) (by decide +kernel), zmem 1041 (by decide +kernel) (by decide +kernel), zmem 1042 (by decide +kernel) (by decide +kernel), zmem 78 (by decide +kernel) (by decide +kernel), ⟨by decide +kernel, by decide +kernel⟩, by decide +kernel, by decide⟩
set_option maxRecDepth 20000 in
theorem zm_X7_lapses : zMV yX7_lapses cX7_lapses 4 (some .int) 1 := ⟨rfl, zmem 999 (by decide +kernel) (by decide +kernel), zmem 998 (by decide +kernel) (by decide +kernel), zmem 63 (by decide +kernel) (by decide +kernel), zmem 78 (by decide +kernel) (by decide +kernel), ⟨by decide +kernel, by decide +kernel⟩, by decide +kernel, by decide⟩
set_option maxRecDepth 20000 in
theorem zm_X7_leave : zMV yX7_leave cX7_leave 4 (some .int) 2 := ⟨rfl, zmem 987 (by decide +kernel) (by decide +kernel), zmem 985 (by decide +kernel) (by decide +kernel), zmem 986 (by decide +kernel) (by decide +kernel), zmem 78 (by decide +kernel) (by decide +kernel), ⟨by decide +kernel, by decide +kernel⟩, by decide +kernel, by decide⟩
set_option maxRecDepth 20000 in
theorem zm_X7_listBuys : zMV yX7_listBuys cX7_listBuys 3 none 1 := ⟨rfl, zmem 947 (by decide +kernel) (by decide +kernel), zmem 946 (by decide +kernel) (by decide +kernel), zmem 56 (by decide +kernel) (by decide +kernel), zmem 78 (by decide +kernel) (by decide +kernel), ⟨by decide +kernel, by decide +kernel⟩, by decide +kernel, by decide⟩
set_option maxRecDepth 20000 in
theorem zm_X7_log : zMV yX7_log cX7_log 5 none 3 := ⟨rfl, zmem 895 (by decide +kernel) (by decide +kernel), zmem 894 (by decide +kernel) (by decide +kernel), zmem 45 (by decide +kernel) (by decide +kernel), zmem 78 (by decide +kernel) (by decide +kernel), ⟨by decide +kernel, by decide +kernel⟩, by decide +kernel, by decide⟩
set_option maxRecDepth 20000 in
theorem zm_X7_lowest : zMV yX7_lowest cX7_lowest 7 (some .int) 3 := ⟨rfl, zmem 915 (by decide +kernel) (by decide +kernel), zmem 914 (by decide +kernel) (by decide +kernel), zmem 49 (by decide +kernel) (by decide +kernel), zmem 78 (by decide +kernel) (by decide +kernel), ⟨by decide +kernel, by decide +kernel⟩, by decide +kernel, by decide⟩
set_option maxRecDepth 20000 in
theorem zm_X7_of : zMV yX7_of cX7_of 3 (some .int) 2 := ⟨rfl, zmem 876 (by decide +kernel) (by decide +kernel), zmem 875 (by decide +kernel) (by decide +kernel), zmem 41 (by decide +kernel) (by decide +kernel), zmem 78 (by decide +kernel) (by decide +kernel), ⟨by decide +kernel, by decide +kernel⟩, by decide +kernel, by decide⟩
set_option maxRecDepth 20000 in
theorem zm_X7_ofDate : zMV yX7_ofDate cX7_ofDate 3 (some .int) 2 := ⟨rfl, zmem 860 (by decide +kernel) (by decide +kernel), zmem 859 (by decide +kernel) (by decide +kernel), zmem 37 (by decide +kernel) (by decide +kernel), zmem 78 (by decide +kernel) (by decide +kernel), ⟨by decide +kernel, by decide +kernel⟩, by decide +kernel, by decide⟩
set_option maxRecDepth 20000 in
theorem zm_X7_offer : zMV yX7_offer cX7_offer 3 (some .int) 2 := ⟨rfl, zmem 955 (by decide +kernel) (by decide +kernel), zmem 953 (by decide +kernel) (by decide +kernel), zmem 954 (by decide +kernel) (by decide +kernel), zmem 78 (by decide +kernel) (by decide +kernel), ⟨by decide +kernel, by decide +kernel⟩, by decide +kernel, by decide⟩
set_option maxRecDepth 20000 in
theorem zm_X7_oneDay : zMV yX7_oneDay cX7_oneDay 3 (some .int) 0 := ⟨rfl, zmem 995 (by decide +kernel) (by decide +kernel), zmem 994 (by decide +kernel) (by decide +kernel), zmem 62 (by decide +kernel) (by decide +kernel), zmem 78 (by decide +kernel) (by decide +kernel), ⟨by decide +kernel, by decide +kernel⟩, by decide +kernel, by decide⟩
set_option maxRecDepth 20000 in
theorem zm_X7_out : zMV yX7_out cX7_out 2 (some .int) 1 := ⟨rfl, zmem 868 (by decide +kernel) (by decide +kernel), zmem 867 (by decide +kernel) (by decide +kernel), zmem 39 (by decide +kernel) (by decide +kernel), zmem 78 (by decide +kernel) (by decide +kernel), ⟨by decide +kernel, by decide +kernel⟩, by decide +kernel, by decide⟩
set_option maxRecDepth 20000 in
theorem zm_X7_pass : zMV yX7_pass cX7_pass 4 (some .int) 1 := ⟨rfl, zmem 991 (by decide +kernel) (by decide +kernel), zmem 989 (by decide +kernel) (by decide +kernel), zmem 990 (by decide +kernel) (by decide +kernel), zmem 78 (by decide +kernel) (by decide +kernel), ⟨by decide +kernel, by decide +kernel⟩, by decide +kernel, by decide⟩
set_option maxRecDepth 20000 in
theorem zm_X7_pays : zMV yX7_pays cX7_pays 3 none 2 := ⟨rfl, zmem 891 (by decide +kernel) (by decide +kernel), zmem 890 (by decide +kernel) (by decide +kernel), zmem 44 (by decide +kernel) (by decide +kernel), zmem 78 (by decide +kernel) (by decide +kernel), ⟨by decide +kernel, by decide +kernel⟩, by decide +kernel, by decide⟩
set_option maxRecDepth 20000 in
theorem zm_X7_perform : zMV yX7_perform cX7_perform 3 (some .int) 0 := ⟨rfl, zmem 1015 (by decide +kernel) (by decide +kernel), zmem 1013 (by decide +kernel) (by decide +kernel), zmem 1014 (by decide +kernel) (by decide +kernel), zmem 78 (by decide +kernel) (by decide +kernel), ⟨by decide +kernel, by decide +kernel⟩, by decide +kernel, by decide⟩
set_option maxRecDepth 20000 in
theorem zm_X7_placeOf : zMV yX7_placeOf cX7_placeOf 5 (some .int) 2 := ⟨rfl, zmem 983 (by decide +kernel) (by decide +kernel), zmem 982 (by decide +kernel) (by decide +kernel), zmem 61 (by decide +kernel) (by decide +kernel), zmem 78 (by decide +kernel) (by decide +kernel), ⟨by decide +kernel, by decide +kernel⟩, by decide +kernel, by decide⟩
set_option maxRecDepth 20000 in
theorem zm_X7_price : zMV yX7_price cX7_price 5 (some .int) 2 := ⟨rfl, zmem 887 (by decide +kernel) (by decide +kernel), zmem 886 (by decide +kernel) (by decide +kernel), zmem 43 (by decide +kernel) (by decide +kernel), zmem 78 (by decide +kernel) (by decide +kernel), ⟨by decide +kernel, by decide +kernel⟩, by decide +kernel, by decide⟩
set_option maxRecDepth 20000 in
theorem zm_X7_priceIn : zMV yX7_priceIn cX7_priceIn 4 (some .int) 2 := ⟨rfl, zmem 1072 (by decide +kernel) (by decide +kernel), zmem 1070 (by decide +kernel) (by decide +kernel), zmem 1071 (by decide +kernel) (by decide +kernel), zmem 78 (by decide +kernel) (by decide +kernel), ⟨by decide +kernel, by decide +kernel⟩, by decide +kernel, by decide⟩
set_option maxRecDepth 20000 in
theorem zm_X7_readNumber : zMV yX7_readNumber cX7_readNumber 3 (some .boolean) 1 := ⟨rfl, zmem 1031 (by decide +kernel) (by decide +kernel), zmem 1030 (by decide +kernel) (by decide +kernel), zmem 68 (by decide +kernel) (by decide +kernel), zmem 78 (by decide +kernel) (by decide +kernel), ⟨by decide +kernel, by decide +kernel⟩, by decide +kernel, by decide⟩
set_option maxRecDepth 20000 in
theorem zm_X7_readOrder : zMV yX7_readOrder cX7_readOrder 2 (some .boolean) 0 := ⟨rfl, zmem 1023 (by decide +kernel) (by decide +kernel), zmem 1022 (by decide +kernel) (by decide +kernel), zmem 66 (by decide +kernel) (by decide +kernel), zmem 78 (by decide +kernel) (by decide +kernel), ⟨by decide +kernel, by decide +kernel⟩, by decide +kernel, by decide⟩
set_option maxRecDepth 20000 in
theorem zm_X7_record : zMV yX7_record cX7_record 2 none 0 := ⟨rfl, zmem 818 (by decide +kernel) (by decide +kernel), zmem 817 (by decide +kernel) (by decide +kernel), zmem 31 (by decide +kernel) (by decide +kernel), zmem 78 (by decide +kernel) (by decide +kernel), ⟨by decide +kernel, by decide +kernel⟩, by decide +kernel, by decide⟩
set_option maxRecDepth 20000 in
theorem zm_X7_refund : zMV yX7_refund cX7_refund 3 (some .int) 1 := ⟨rfl, zmem 939 (by decide +kernel) (by decide +kernel), zmem 938 (by decide +kernel) (by decide +kernel), zmem 54 (by decide +kernel) (by decide +kernel), zmem 78 (by decide +kernel) (by decide +kernel), ⟨by decide +kernel, by decide +kernel⟩, by decide +kernel, by decide⟩
set_option maxRecDepth 20000 in
theorem zm_X7_restore : zMV yX7_restore cX7_restore 2 (some .int) 0 := ⟨rfl, zmem 1047 (by decide +kernel) (by decide +kernel), zmem 1045 (by decide +kernel) (by decide +kernel), zmem 1046 (by decide +kernel) (by decide +kernel), zmem 78 (by decide +kernel) (by decide +kernel), ⟨by decide +kernel, by decide +kernel⟩, by decide +kernel, by decide⟩
set_option maxRecDepth 20000 in
theorem zm_X7_right : zMV yX7_right cX7_right 3 (some .int) 2 := ⟨rfl, zmem 1059 (by decide +kernel) (by decide +kernel), zmem 1057 (by decide +kernel) (by decide +kernel), zmem 1058 (by decide +kernel) (by decide +kernel), zmem 78 (by decide +kernel) (by decide +kernel), ⟨by decide +kernel, by decide +kernel⟩, by decide +kernel, by decide⟩
set_option maxRecDepth 20000 in
theorem zm_X7_rightAt : zMS yX7_rightAt cX7_rightAt 2 (some .int) 2 := ⟨rfl, zmem 879 (by decide +kernel) (by decide +kernel), zmem 878 (by decide +kernel) (by decide +kernel), zmem 78 (by decide +kernel) (by decide +kernel), ⟨by decide +kernel, by decide +kernel⟩, by decide +kernel, by decide⟩
set_option maxRecDepth 20000 in
theorem zm_X7_rightsOf : zMV yX7_rightsOf cX7_rightsOf 6 (some .int) 3 := ⟨rfl, zmem 872 (by decide +kernel) (by decide +kernel), zmem 871 (by decide +kernel) (by decide +kernel), zmem 40 (by decide +kernel) (by decide +kernel), zmem 78 (by decide +kernel) (by decide +kernel), ⟨by decide +kernel, by decide +kernel⟩, by decide +kernel, by decide⟩
set_option maxRecDepth 20000 in
theorem zm_X7_sells : zMV yX7_sells cX7_sells 5 (some .int) 2 := ⟨rfl, zmem 883 (by decide +kernel) (by decide +kernel), zmem 882 (by decide +kernel) (by decide +kernel), zmem 42 (by decide +kernel) (by decide +kernel), zmem 78 (by decide +kernel) (by decide +kernel), ⟨by decide +kernel, by decide +kernel⟩, by decide +kernel, by decide⟩
set_option maxRecDepth 20000 in
theorem zm_X7_set : zMV yX7_set cX7_set 4 (some .int) 2 := ⟨rfl, zmem 829 (by decide +kernel) (by decide +kernel), zmem 827 (by decide +kernel) (by decide +kernel), zmem 828 (by decide +kernel) (by decide +kernel), zmem 78 (by decide +kernel) (by decide +kernel), ⟨by decide +kernel, by decide +kernel⟩, by decide +kernel, by decide⟩
set_option maxRecDepth 20000 in
theorem zm_X7_setStage : zMV yX7_setStage cX7_setStage 8 (some .int) 3 := ⟨rfl, zmem 825 (by decide +kernel) (by decide +kernel), zmem 823 (by decide +kernel) (by decide +kernel), zmem 824 (by decide +kernel) (by decide +kernel), zmem 78 (by decide +kernel) (by decide +kernel), ⟨by decide +kernel, by decide +kernel⟩, by decide +kernel, by decide⟩
set_option maxRecDepth 20000 in
theorem zm_X7_sign : zMV yX7_sign cX7_sign 3 (some .boolean) 1 := ⟨rfl, zmem 1027 (by decide +kernel) (by decide +kernel), zmem 1026 (by decide +kernel) (by decide +kernel), zmem 67 (by decide +kernel) (by decide +kernel), zmem 78 (by decide +kernel) (by decide +kernel), ⟨by decide +kernel, by decide +kernel⟩, by decide +kernel, by decide⟩
set_option maxRecDepth 20000 in
theorem zm_X7_stage : zMV yX7_stage cX7_stage 3 (some .int) 2 := ⟨rfl, zmem 1068 (by decide +kernel) (by decide +kernel), zmem 1066 (by decide +kernel) (by decide +kernel), zmem 1067 (by decide +kernel) (by decide +kernel), zmem 78 (by decide +kernel) (by decide +kernel), ⟨by decide +kernel, by decide +kernel⟩, by decide +kernel, by decide⟩
set_option maxRecDepth 20000 in
theorem zm_X7_stageOf : zMV yX7_stageOf cX7_stageOf 3 (some .int) 1 := ⟨rfl, zmem 943 (by decide +kernel) (by decide +kernel), zmem 942 (by decide +kernel) (by decide +kernel), zmem 55 (by decide +kernel) (by decide +kernel), zmem 78 (by decide +kernel) (by decide +kernel), ⟨by decide +kernel, by decide +kernel⟩, by decide +kernel, by decide⟩
set_option maxRecDepth 20000 in
theorem zm_X7_takeBack : zMV yX7_takeBack cX7_takeBack 3 (some .int) 1 := ⟨rfl, zmem 963 (by decide +kernel) (by decide +kernel), zmem 961 (by decide +kernel) (by decide +kernel), zmem 962 (by decide +kernel) (by decide +kernel), zmem 78 (by decide +kernel) (by decide +kernel), ⟨by decide +kernel, by decide +kernel⟩, by decide +kernel, by decide⟩
set_option maxRecDepth 20000 in
theorem zm_X7_type : zMV yX7_type cX7_type 2 (some .int) 1 := ⟨rfl, zmem 1007 (by decide +kernel) (by decide +kernel), zmem 1005 (by decide +kernel) (by decide +kernel), zmem 1006 (by decide +kernel) (by decide +kernel), zmem 78 (by decide +kernel) (by decide +kernel), ⟨by decide +kernel, by decide +kernel⟩, by decide +kernel, by decide⟩
set_option maxRecDepth 20000 in
theorem zm_X7_undo : zMV yX7_undo cX7_undo 2 (some .int) 0 := ⟨rfl, zmem 1039 (by decide +kernel) (by decide +kernel), zmem 1037 (by decide +kernel) (by decide +kernel), zmem 1038 (by decide +kernel) (by decide +kernel), zmem 78 (by decide +kernel) (by decide +kernel), ⟨by decide +kernel, by decide +kernel⟩, by decide +kernel, by decide⟩
set_option maxRecDepth 20000 in
theorem zm_X7_waiting : zMV yX7_waiting cX7_waiting 3 (some .int) 2 := ⟨rfl, zmem 1055 (by decide +kernel) (by decide +kernel), zmem 1053 (by decide +kernel) (by decide +kernel), zmem 1054 (by decide +kernel) (by decide +kernel), zmem 78 (by decide +kernel) (by decide +kernel), ⟨by decide +kernel, by decide +kernel⟩, by decide +kernel, by decide⟩
set_option maxRecDepth 20000 in
theorem zm_X7_wouldCover : zMV yX7_wouldCover cX7_wouldCover 3 (some .int) 1 := ⟨rfl, zmem 1076 (by decide +kernel) (by decide +kernel), zmem 1074 (by decide +kernel) (by decide +kernel), zmem 1075 (by decide +kernel) (by decide +kernel), zmem 78 (by decide +kernel) (by decide +kernel), ⟨by decide +kernel, by decide +kernel⟩, by decide +kernel, by decide⟩
set_option maxRecDepth 20000 in
theorem zl_L_13 : Cond.methodLink RL 13 yX6_addDate ∈ zU := zmem 317 (by decide +kernel) (by decide +kernel)
set_option maxRecDepth 20000 in
theorem zl_L_17 : Cond.methodLink RL 17 yX7_addDate ∈ zU := zmem 808 (by decide +kernel) (by decide +kernel)
set_option maxRecDepth 20000 in
theorem zl_L_18 : Cond.methodLink RL 18 yX6_setStage ∈ zU := zmem 356 (by decide +kernel) (by decide +kernel)
set_option maxRecDepth 20000 in
theorem zl_L_22 : Cond.methodLink RL 22 yX7_setStage ∈ zU := zmem 822 (by decide +kernel) (by decide +kernel)
set_option maxRecDepth 20000 in
theorem zl_L_23 : Cond.methodLink RL 23 yX6_set ∈ zU := zmem 372 (by decide +kernel) (by decide +kernel)
set_option maxRecDepth 20000 in
theorem zl_L_27 : Cond.methodLink RL 27 yX7_set ∈ zU := zmem 826 (by decide +kernel) (by decide +kernel)
set_option maxRecDepth 20000 in
theorem zl_L_28 : Cond.methodLink RL 28 yX6_buy ∈ zU := zmem 384 (by decide +kernel) (by decide +kernel)
set_option maxRecDepth 20000 in
theorem zl_L_31 : Cond.methodLink RL 31 yX7_buy ∈ zU := zmem 830 (by decide +kernel) (by decide +kernel)
set_option maxRecDepth 20000 in
theorem zl_L_32 : Cond.methodLink RL 32 yX6_buyOffered ∈ zU := zmem 443 (by decide +kernel) (by decide +kernel)
set_option maxRecDepth 20000 in
theorem zl_L_35 : Cond.methodLink RL 35 yX7_buyOffered ∈ zU := zmem 904 (by decide +kernel) (by decide +kernel)
set_option maxRecDepth 20000 in
theorem zl_L_36 : Cond.methodLink RL 36 yX6_cancel ∈ zU := zmem 455 (by decide +kernel) (by decide +kernel)
set_option maxRecDepth 20000 in
theorem zl_L_40 : Cond.methodLink RL 40 yX7_cancel ∈ zU := zmem 920 (by decide +kernel) (by decide +kernel)
set_option maxRecDepth 20000 in
theorem zl_L_41 : Cond.methodLink RL 41 yX6_offer ∈ zU := zmem 491 (by decide +kernel) (by decide +kernel)
set_option maxRecDepth 20000 in
theorem zl_L_44 : Cond.methodLink RL 44 yX7_offer ∈ zU := zmem 952 (by decide +kernel) (by decide +kernel)
set_option maxRecDepth 20000 in
theorem zl_L_45 : Cond.methodLink RL 45 yX6_takeBack ∈ zU := zmem 499 (by decide +kernel) (by decide +kernel)
set_option maxRecDepth 20000 in
theorem zl_L_48 : Cond.methodLink RL 48 yX7_takeBack ∈ zU := zmem 960 (by decide +kernel) (by decide +kernel)
set_option maxRecDepth 20000 in
theorem zl_L_49 : Cond.methodLink RL 49 yX6_exercise ∈ zU := zmem 507 (by decide +kernel) (by decide +kernel)
set_option maxRecDepth 20000 in
theorem zl_L_52 : Cond.methodLink RL 52 yX7_exercise ∈ zU := zmem 964 (by decide +kernel) (by decide +kernel)
set_option maxRecDepth 20000 in
theorem zl_L_53 : Cond.methodLink RL 53 yX6_await ∈ zU := zmem 523 (by decide +kernel) (by decide +kernel)
set_option maxRecDepth 20000 in
theorem zl_L_56 : Cond.methodLink RL 56 yX7_await ∈ zU := zmem 976 (by decide +kernel) (by decide +kernel)
set_option maxRecDepth 20000 in
theorem zl_L_57 : Cond.methodLink RL 57 yX6_leave ∈ zU := zmem 539 (by decide +kernel) (by decide +kernel)
set_option maxRecDepth 20000 in
theorem zl_L_60 : Cond.methodLink RL 60 yX7_leave ∈ zU := zmem 984 (by decide +kernel) (by decide +kernel)
set_option maxRecDepth 20000 in
theorem zl_L_61 : Cond.methodLink RL 61 yX6_pass ∈ zU := zmem 547 (by decide +kernel) (by decide +kernel)
set_option maxRecDepth 20000 in
theorem zl_L_64 : Cond.methodLink RL 64 yX7_pass ∈ zU := zmem 988 (by decide +kernel) (by decide +kernel)
set_option maxRecDepth 20000 in
theorem zl_L_65 : Cond.methodLink RL 65 yX6_type ∈ zU := zmem 579 (by decide +kernel) (by decide +kernel)
set_option maxRecDepth 20000 in
theorem zl_L_69 : Cond.methodLink RL 69 yX7_type ∈ zU := zmem 1004 (by decide +kernel) (by decide +kernel)
set_option maxRecDepth 20000 in
theorem zl_L_70 : Cond.methodLink RL 70 yX6_clearText ∈ zU := zmem 587 (by decide +kernel) (by decide +kernel)
set_option maxRecDepth 20000 in
theorem zl_L_74 : Cond.methodLink RL 74 yX7_clearText ∈ zU := zmem 1008 (by decide +kernel) (by decide +kernel)
set_option maxRecDepth 20000 in
theorem zl_L_75 : Cond.methodLink RL 75 yX6_perform ∈ zU := zmem 595 (by decide +kernel) (by decide +kernel)
set_option maxRecDepth 20000 in
theorem zl_L_78 : Cond.methodLink RL 78 yX7_perform ∈ zU := zmem 1012 (by decide +kernel) (by decide +kernel)
set_option maxRecDepth 20000 in
theorem zl_L_79 : Cond.methodLink RL 79 yX6_undo ∈ zU := zmem 647 (by decide +kernel) (by decide +kernel)
set_option maxRecDepth 20000 in
theorem zl_L_82 : Cond.methodLink RL 82 yX7_undo ∈ zU := zmem 1036 (by decide +kernel) (by decide +kernel)
set_option maxRecDepth 20000 in
theorem zl_L_83 : Cond.methodLink RL 83 yX6_keep ∈ zU := zmem 655 (by decide +kernel) (by decide +kernel)
set_option maxRecDepth 20000 in
theorem zl_L_86 : Cond.methodLink RL 86 yX7_keep ∈ zU := zmem 1040 (by decide +kernel) (by decide +kernel)
set_option maxRecDepth 20000 in
theorem zl_L_87 : Cond.methodLink RL 87 yX6_restore ∈ zU := zmem 659 (by decide +kernel) (by decide +kernel)
set_option maxRecDepth 20000 in
theorem zl_L_90 : Cond.methodLink RL 90 yX7_restore ∈ zU := zmem 1044 (by decide +kernel) (by decide +kernel)
set_option maxRecDepth 20000 in
theorem zl_L_91 : Cond.methodLink RL 91 yX6_date ∈ zU := zmem 663 (by decide +kernel) (by decide +kernel)
set_option maxRecDepth 20000 in
theorem zl_L_94 : Cond.methodLink RL 94 yX7_date ∈ zU := zmem 1048 (by decide +kernel) (by decide +kernel)
set_option maxRecDepth 20000 in
theorem zl_L_95 : Cond.methodLink RL 95 yX6_waiting ∈ zU := zmem 676 (by decide +kernel) (by decide +kernel)
set_option maxRecDepth 20000 in
theorem zl_L_98 : Cond.methodLink RL 98 yX7_waiting ∈ zU := zmem 1052 (by decide +kernel) (by decide +kernel)
set_option maxRecDepth 20000 in
theorem zl_L_99 : Cond.methodLink RL 99 yX6_right ∈ zU := zmem 681 (by decide +kernel) (by decide +kernel)
set_option maxRecDepth 20000 in
theorem zl_L_102 : Cond.methodLink RL 102 yX7_right ∈ zU := zmem 1056 (by decide +kernel) (by decide +kernel)
set_option maxRecDepth 20000 in
theorem zl_L_103 : Cond.methodLink RL 103 yX6_holder ∈ zU := zmem 694 (by decide +kernel) (by decide +kernel)
set_option maxRecDepth 20000 in
theorem zl_L_106 : Cond.methodLink RL 106 yX7_holder ∈ zU := zmem 1060 (by decide +kernel) (by decide +kernel)
set_option maxRecDepth 20000 in
theorem zl_L_107 : Cond.methodLink RL 107 yX6_stage ∈ zU := zmem 712 (by decide +kernel) (by decide +kernel)
set_option maxRecDepth 20000 in
theorem zl_L_110 : Cond.methodLink RL 110 yX7_stage ∈ zU := zmem 1065 (by decide +kernel) (by decide +kernel)
set_option maxRecDepth 20000 in
theorem zl_L_111 : Cond.methodLink RL 111 yX6_priceIn ∈ zU := zmem 720 (by decide +kernel) (by decide +kernel)
set_option maxRecDepth 20000 in
theorem zl_L_114 : Cond.methodLink RL 114 yX7_priceIn ∈ zU := zmem 1069 (by decide +kernel) (by decide +kernel)
set_option maxRecDepth 20000 in
theorem zl_L_115 : Cond.methodLink RL 115 yX6_wouldCover ∈ zU := zmem 727 (by decide +kernel) (by decide +kernel)
set_option maxRecDepth 20000 in
theorem zl_L_118 : Cond.methodLink RL 118 yX7_wouldCover ∈ zU := zmem 1073 (by decide +kernel) (by decide +kernel)
set_option maxRecDepth 20000 in
theorem zl_L_119 : Cond.methodLink RL 119 yX6_event ∈ zU := zmem 732 (by decide +kernel) (by decide +kernel)
set_option maxRecDepth 20000 in
theorem zl_L_122 : Cond.methodLink RL 122 yX7_event ∈ zU := zmem 1077 (by decide +kernel) (by decide +kernel)
set_option maxRecDepth 20000 in
theorem zl_L_123 : Cond.methodLink RL 123 yX6_count ∈ zU := zmem 744 (by decide +kernel) (by decide +kernel)
set_option maxRecDepth 20000 in
theorem zl_L_126 : Cond.methodLink RL 126 yX7_count ∈ zU := zmem 1081 (by decide +kernel) (by decide +kernel)
set_option maxRecDepth 20000 in
theorem zl_X2_22 : Cond.methodLink RX2 22 yX5_copyFrom ∈ zU := zmem 325 (by decide +kernel) (by decide +kernel)
set_option maxRecDepth 20000 in
theorem zl_X2_30 : Cond.methodLink RX2 30 Lib.Math.min.name ∈ zU := zmem 353 (by decide +kernel) (by decide +kernel)
set_option maxRecDepth 20000 in
theorem zl_X3_19 : Cond.methodLink RX3 19 yX3_goToStart ∈ zU := zmem 603 (by decide +kernel) (by decide +kernel)
set_option maxRecDepth 20000 in
theorem zl_X3_22 : Cond.methodLink RX3 22 yX3_readOrder ∈ zU := zmem 607 (by decide +kernel) (by decide +kernel)
set_option maxRecDepth 20000 in
theorem zl_X3_29 : Cond.methodLink RX3 29 yX3_skip ∈ zU := zmem 615 (by decide +kernel) (by decide +kernel)
set_option maxRecDepth 20000 in
theorem zl_X3_33 : Cond.methodLink RX3 33 yX3_here ∈ zU := zmem 611 (by decide +kernel) (by decide +kernel)
set_option maxRecDepth 20000 in
theorem zl_X3_40 : Cond.methodLink RX3 40 yX3_readHolderAndDate ∈ zU := zmem 619 (by decide +kernel) (by decide +kernel)
set_option maxRecDepth 20000 in
theorem zl_X3_43 : Cond.methodLink RX3 43 yX3_readRight ∈ zU := zmem 631 (by decide +kernel) (by decide +kernel)
set_option maxRecDepth 20000 in
theorem zl_X3_46 : Cond.methodLink RX3 46 yX3_readPrice ∈ zU := zmem 635 (by decide +kernel) (by decide +kernel)
set_option maxRecDepth 20000 in
theorem zl_X3_49 : Cond.methodLink RX3 49 yX3_isDigitHere ∈ zU := zmem 623 (by decide +kernel) (by decide +kernel)
set_option maxRecDepth 20000 in
theorem zl_X3_52 : Cond.methodLink RX3 52 yX3_takeDigit ∈ zU := zmem 627 (by decide +kernel) (by decide +kernel)
set_option maxRecDepth 20000 in
theorem zl_X5_72 : Cond.methodLink RX5 72 yX0_copyFrom ∈ zU := zmem 332 (by decide +kernel) (by decide +kernel)
set_option maxRecDepth 20000 in
theorem zl_X5_79 : Cond.methodLink RX5 79 yX4_copyFrom ∈ zU := zmem 337 (by decide +kernel) (by decide +kernel)
set_option maxRecDepth 20000 in
theorem zl_X5_88 : Cond.methodLink RX5 88 yX1_copyFrom ∈ zU := zmem 341 (by decide +kernel) (by decide +kernel)
set_option maxRecDepth 20000 in
theorem zl_X5_110 : Cond.methodLink RX5 110 yX5_isStage ∈ zU := zmem 364 (by decide +kernel) (by decide +kernel)
set_option maxRecDepth 20000 in
theorem zl_X5_114 : Cond.methodLink RX5 114 yX5_fitsStage ∈ zU := zmem 368 (by decide +kernel) (by decide +kernel)
set_option maxRecDepth 20000 in
theorem zl_X5_124 : Cond.methodLink RX5 124 yX5_dateRow ∈ zU := zmem 392 (by decide +kernel) (by decide +kernel)
set_option maxRecDepth 20000 in
theorem zl_X5_131 : Cond.methodLink RX5 131 yX5_isOpen ∈ zU := zmem 399 (by decide +kernel) (by decide +kernel)
set_option maxRecDepth 20000 in
theorem zl_X5_135 : Cond.methodLink RX5 135 yX5_sell ∈ zU := zmem 403 (by decide +kernel) (by decide +kernel)
set_option maxRecDepth 20000 in
theorem zl_X5_139 : Cond.methodLink RX5 139 yX5_cheapestOffered ∈ zU := zmem 451 (by decide +kernel) (by decide +kernel)
set_option maxRecDepth 20000 in
theorem zl_X5_149 : Cond.methodLink RX5 149 yX5_give ∈ zU := zmem 435 (by decide +kernel) (by decide +kernel)
set_option maxRecDepth 20000 in
theorem zl_X5_156 : Cond.methodLink RX5 156 yX4_turnTo ∈ zU := zmem 431 (by decide +kernel) (by decide +kernel)
set_option maxRecDepth 20000 in
theorem zl_X5_159 : Cond.methodLink RX5 159 yX5_log ∈ zU := zmem 439 (by decide +kernel) (by decide +kernel)
set_option maxRecDepth 20000 in
theorem zl_X5_164 : Cond.methodLink RX5 164 yX5_rightRow ∈ zU := zmem 463 (by decide +kernel) (by decide +kernel)
set_option maxRecDepth 20000 in
theorem zl_X5_168 : Cond.methodLink RX5 168 yX5_refund ∈ zU := zmem 467 (by decide +kernel) (by decide +kernel)
set_option maxRecDepth 20000 in
theorem zl_X5_175 : Cond.methodLink RX5 175 yX5_letListBuy ∈ zU := zmem 479 (by decide +kernel) (by decide +kernel)
set_option maxRecDepth 20000 in
theorem zl_X5_178 : Cond.methodLink RX5 178 yX4_isHeldOrOffered ∈ zU := zmem 471 (by decide +kernel) (by decide +kernel)
set_option maxRecDepth 20000 in
theorem zl_X5_185 : Cond.methodLink RX5 185 yX5_canBeExercised ∈ zU := zmem 515 (by decide +kernel) (by decide +kernel)
set_option maxRecDepth 20000 in
theorem zl_X5_189 : Cond.methodLink RX5 189 yX5_rightsIn ∈ zU := zmem 519 (by decide +kernel) (by decide +kernel)
set_option maxRecDepth 20000 in
theorem zl_X5_193 : Cond.methodLink RX5 193 yX0_placeOf ∈ zU := zmem 531 (by decide +kernel) (by decide +kernel)
set_option maxRecDepth 20000 in
theorem zl_X5_197 : Cond.methodLink RX5 197 yX0_appendToList ∈ zU := zmem 535 (by decide +kernel) (by decide +kernel)
set_option maxRecDepth 20000 in
theorem zl_X5_200 : Cond.methodLink RX5 200 yX0_removeFromList ∈ zU := zmem 487 (by decide +kernel) (by decide +kernel)
set_option maxRecDepth 20000 in
theorem zl_X5_203 : Cond.methodLink RX5 203 yX5_passOneDay ∈ zU := zmem 555 (by decide +kernel) (by decide +kernel)
set_option maxRecDepth 20000 in
theorem zl_X5_207 : Cond.methodLink RX5 207 yX5_daysLeft ∈ zU := zmem 411 (by decide +kernel) (by decide +kernel)
set_option maxRecDepth 20000 in
theorem zl_X5_211 : Cond.methodLink RX5 211 yX5_endDate ∈ zU := zmem 559 (by decide +kernel) (by decide +kernel)
set_option maxRecDepth 20000 in
theorem zl_X5_214 : Cond.methodLink RX5 214 yX5_coverRightsOf ∈ zU := zmem 563 (by decide +kernel) (by decide +kernel)
set_option maxRecDepth 20000 in
theorem zl_X5_220 : Cond.methodLink RX5 220 yX5_rightsOut ∈ zU := zmem 415 (by decide +kernel) (by decide +kernel)
set_option maxRecDepth 20000 in
theorem zl_X5_223 : Cond.methodLink RX5 223 yX5_nextToCover ∈ zU := zmem 567 (by decide +kernel) (by decide +kernel)
set_option maxRecDepth 20000 in
theorem zl_X5_226 : Cond.methodLink RX5 226 yX5_coverOne ∈ zU := zmem 575 (by decide +kernel) (by decide +kernel)
set_option maxRecDepth 20000 in
theorem zl_X5_229 : Cond.methodLink RX5 229 yX5_cheapestHeld ∈ zU := zmem 571 (by decide +kernel) (by decide +kernel)
set_option maxRecDepth 20000 in
theorem zl_X5_232 : Cond.methodLink RX5 232 yX0_waitingAt ∈ zU := zmem 483 (by decide +kernel) (by decide +kernel)
set_option maxRecDepth 20000 in
theorem zl_X5_235 : Cond.methodLink RX5 235 yX5_sellable ∈ zU := zmem 407 (by decide +kernel) (by decide +kernel)
set_option maxRecDepth 20000 in
theorem zl_X5_238 : Cond.methodLink RX5 238 yX5_priceNow ∈ zU := zmem 423 (by decide +kernel) (by decide +kernel)
set_option maxRecDepth 20000 in
theorem zl_X5_244 : Cond.methodLink RX5 244 Lib.Math.min.name ∈ zU := zmem 419 (by decide +kernel) (by decide +kernel)
set_option maxRecDepth 20000 in
theorem zl_X5_250 : Cond.methodLink RX5 250 Lib.Math.max.name ∈ zU := zmem 420 (by decide +kernel) (by decide +kernel)
set_option maxRecDepth 20000 in
theorem zl_X5_253 : Cond.methodLink RX5 253 yX0_priceFor ∈ zU := zmem 427 (by decide +kernel) (by decide +kernel)
set_option maxRecDepth 20000 in
theorem zl_X5_266 : Cond.methodLink RX5 266 yX5_stageOf ∈ zU := zmem 475 (by decide +kernel) (by decide +kernel)
set_option maxRecDepth 20000 in
theorem zl_X5_269 : Cond.methodLink RX5 269 yX5_lowestAsking ∈ zU := zmem 672 (by decide +kernel) (by decide +kernel)
set_option maxRecDepth 20000 in
theorem zl_X5_272 : Cond.methodLink RX5 272 yX5_tellExercisable ∈ zU := zmem 690 (by decide +kernel) (by decide +kernel)
set_option maxRecDepth 20000 in
theorem zl_X5_276 : Cond.methodLink RX5 276 yX5_rightsOfHolder ∈ zU := zmem 704 (by decide +kernel) (by decide +kernel)
set_option maxRecDepth 20000 in
theorem zl_X5_279 : Cond.methodLink RX5 279 yX5_listsWith ∈ zU := zmem 708 (by decide +kernel) (by decide +kernel)
set_option maxRecDepth 20000 in
theorem zl_X5_282 : Cond.methodLink RX5 282 yX5_rightsInAll ∈ zU := zmem 752 (by decide +kernel) (by decide +kernel)
set_option maxRecDepth 20000 in
theorem zl_X6_33 : Cond.methodLink RX6 33 yX2_prepare ∈ zU := zmem 321 (by decide +kernel) (by decide +kernel)
set_option maxRecDepth 20000 in
theorem zl_X6_37 : Cond.methodLink RX6 37 yX5_openDate ∈ zU := zmem 345 (by decide +kernel) (by decide +kernel)
set_option maxRecDepth 20000 in
theorem zl_X6_41 : Cond.methodLink RX6 41 yX2_settle ∈ zU := zmem 349 (by decide +kernel) (by decide +kernel)
set_option maxRecDepth 20000 in
theorem zl_X6_45 : Cond.methodLink RX6 45 yX5_changeStage ∈ zU := zmem 360 (by decide +kernel) (by decide +kernel)
set_option maxRecDepth 20000 in
theorem zl_X6_49 : Cond.methodLink RX6 49 yX5_changeNumber ∈ zU := zmem 376 (by decide +kernel) (by decide +kernel)
set_option maxRecDepth 20000 in
theorem zl_X6_53 : Cond.methodLink RX6 53 yX5_sellTo ∈ zU := zmem 388 (by decide +kernel) (by decide +kernel)
set_option maxRecDepth 20000 in
theorem zl_X6_56 : Cond.methodLink RX6 56 yX5_resellTo ∈ zU := zmem 447 (by decide +kernel) (by decide +kernel)
set_option maxRecDepth 20000 in
theorem zl_X6_59 : Cond.methodLink RX6 59 yX5_cancelRight ∈ zU := zmem 459 (by decide +kernel) (by decide +kernel)
set_option maxRecDepth 20000 in
theorem zl_X6_62 : Cond.methodLink RX6 62 yX5_offerRight ∈ zU := zmem 495 (by decide +kernel) (by decide +kernel)
set_option maxRecDepth 20000 in
theorem zl_X6_65 : Cond.methodLink RX6 65 yX5_withdrawOffer ∈ zU := zmem 503 (by decide +kernel) (by decide +kernel)
set_option maxRecDepth 20000 in
theorem zl_X6_68 : Cond.methodLink RX6 68 yX5_exerciseRight ∈ zU := zmem 511 (by decide +kernel) (by decide +kernel)
set_option maxRecDepth 20000 in
theorem zl_X6_71 : Cond.methodLink RX6 71 yX5_joinList ∈ zU := zmem 527 (by decide +kernel) (by decide +kernel)
set_option maxRecDepth 20000 in
theorem zl_X6_74 : Cond.methodLink RX6 74 yX5_quitList ∈ zU := zmem 543 (by decide +kernel) (by decide +kernel)
set_option maxRecDepth 20000 in
theorem zl_X6_77 : Cond.methodLink RX6 77 yX5_passDays ∈ zU := zmem 551 (by decide +kernel) (by decide +kernel)
set_option maxRecDepth 20000 in
theorem zl_X6_80 : Cond.methodLink RX6 80 yX3_append ∈ zU := zmem 583 (by decide +kernel) (by decide +kernel)
set_option maxRecDepth 20000 in
theorem zl_X6_84 : Cond.methodLink RX6 84 yX3_empty ∈ zU := zmem 591 (by decide +kernel) (by decide +kernel)
set_option maxRecDepth 20000 in
theorem zl_X6_88 : Cond.methodLink RX6 88 yX3_countOrders ∈ zU := zmem 599 (by decide +kernel) (by decide +kernel)
set_option maxRecDepth 20000 in
theorem zl_X6_91 : Cond.methodLink RX6 91 yX3_goToStart ∈ zU := zmem 639 (by decide +kernel) (by decide +kernel)
set_option maxRecDepth 20000 in
theorem zl_X6_94 : Cond.methodLink RX6 94 yX6_performNext ∈ zU := zmem 640 (by decide +kernel) (by decide +kernel)
set_option maxRecDepth 20000 in
theorem zl_X6_100 : Cond.methodLink RX6 100 yX5_copyFrom ∈ zU := zmem 646 (by decide +kernel) (by decide +kernel)
set_option maxRecDepth 20000 in
theorem zl_X6_103 : Cond.methodLink RX6 103 yX2_takeLatest ∈ zU := zmem 651 (by decide +kernel) (by decide +kernel)
set_option maxRecDepth 20000 in
theorem zl_X6_118 : Cond.methodLink RX6 118 yX5_dateRow ∈ zU := zmem 667 (by decide +kernel) (by decide +kernel)
set_option maxRecDepth 20000 in
theorem zl_X6_122 : Cond.methodLink RX6 122 yX5_tellOfDate ∈ zU := zmem 668 (by decide +kernel) (by decide +kernel)
set_option maxRecDepth 20000 in
theorem zl_X6_126 : Cond.methodLink RX6 126 yX0_waitingAt ∈ zU := zmem 680 (by decide +kernel) (by decide +kernel)
set_option maxRecDepth 20000 in
theorem zl_X6_131 : Cond.methodLink RX6 131 yX5_rightRow ∈ zU := zmem 685 (by decide +kernel) (by decide +kernel)
set_option maxRecDepth 20000 in
theorem zl_X6_135 : Cond.methodLink RX6 135 yX5_tellOfRight ∈ zU := zmem 686 (by decide +kernel) (by decide +kernel)
set_option maxRecDepth 20000 in
theorem zl_X6_139 : Cond.methodLink RX6 139 yX6_isHolder ∈ zU := zmem 698 (by decide +kernel) (by decide +kernel)
set_option maxRecDepth 20000 in
theorem zl_X6_143 : Cond.methodLink RX6 143 yX5_tellOfHolder ∈ zU := zmem 699 (by decide +kernel) (by decide +kernel)
set_option maxRecDepth 20000 in
theorem zl_X6_146 : Cond.methodLink RX6 146 yX5_tellOfStage ∈ zU := zmem 716 (by decide +kernel) (by decide +kernel)
set_option maxRecDepth 20000 in
theorem zl_X6_149 : Cond.methodLink RX6 149 yX5_daysLeft ∈ zU := zmem 724 (by decide +kernel) (by decide +kernel)
set_option maxRecDepth 20000 in
theorem zl_X6_153 : Cond.methodLink RX6 153 yX5_rightsOut ∈ zU := zmem 725 (by decide +kernel) (by decide +kernel)
set_option maxRecDepth 20000 in
theorem zl_X6_156 : Cond.methodLink RX6 156 yX0_priceFor ∈ zU := zmem 726 (by decide +kernel) (by decide +kernel)
set_option maxRecDepth 20000 in
theorem zl_X6_163 : Cond.methodLink RX6 163 yX5_coverRightsOf ∈ zU := zmem 731 (by decide +kernel) (by decide +kernel)
set_option maxRecDepth 20000 in
theorem zl_X6_166 : Cond.methodLink RX6 166 yX5_eventRow ∈ zU := zmem 736 (by decide +kernel) (by decide +kernel)
set_option maxRecDepth 20000 in
theorem zl_X6_170 : Cond.methodLink RX6 170 yX1_tell ∈ zU := zmem 740 (by decide +kernel) (by decide +kernel)
set_option maxRecDepth 20000 in
theorem zl_X6_178 : Cond.methodLink RX6 178 yX5_tellCount ∈ zU := zmem 748 (by decide +kernel) (by decide +kernel)
set_option maxRecDepth 20000 in
theorem zl_X6_181 : Cond.methodLink RX6 181 yX3_readOrder ∈ zU := zmem 644 (by decide +kernel) (by decide +kernel)
set_option maxRecDepth 20000 in
theorem zl_X6_185 : Cond.methodLink RX6 185 yX3_skip ∈ zU := zmem 645 (by decide +kernel) (by decide +kernel)
set_option maxRecDepth 20000 in
theorem zl_X7_35 : Cond.methodLink RX7 35 yX7_in ∈ zU := zmem 812 (by decide +kernel) (by decide +kernel)
set_option maxRecDepth 20000 in
theorem zl_X7_39 : Cond.methodLink RX7 39 yX7_dateAt ∈ zU := zmem 819 (by decide +kernel) (by decide +kernel)
set_option maxRecDepth 20000 in
theorem zl_X7_43 : Cond.methodLink RX7 43 yX7_rightAt ∈ zU := zmem 877 (by decide +kernel) (by decide +kernel)
set_option maxRecDepth 20000 in
theorem zl_X7_46 : Cond.methodLink RX7 46 yX7_ofDate ∈ zU := zmem 857 (by decide +kernel) (by decide +kernel)
set_option maxRecDepth 20000 in
theorem zl_X7_49 : Cond.methodLink RX7 49 yX7_daysLeft ∈ zU := zmem 853 (by decide +kernel) (by decide +kernel)
set_option maxRecDepth 20000 in
theorem zl_X7_53 : Cond.methodLink RX7 53 yX7_of ∈ zU := zmem 873 (by decide +kernel) (by decide +kernel)
set_option maxRecDepth 20000 in
theorem zl_X7_56 : Cond.methodLink RX7 56 yX7_rightsOf ∈ zU := zmem 869 (by decide +kernel) (by decide +kernel)
set_option maxRecDepth 20000 in
theorem zl_X7_60 : Cond.methodLink RX7 60 yX7_out ∈ zU := zmem 865 (by decide +kernel) (by decide +kernel)
set_option maxRecDepth 20000 in
theorem zl_X7_63 : Cond.methodLink RX7 63 yX7_isOpen ∈ zU := zmem 849 (by decide +kernel) (by decide +kernel)
set_option maxRecDepth 20000 in
theorem zl_X7_67 : Cond.methodLink RX7 67 yX7_price ∈ zU := zmem 884 (by decide +kernel) (by decide +kernel)
set_option maxRecDepth 20000 in
theorem zl_X7_70 : Cond.methodLink RX7 70 yX7_pays ∈ zU := zmem 888 (by decide +kernel) (by decide +kernel)
set_option maxRecDepth 20000 in
theorem zl_X7_74 : Cond.methodLink RX7 74 yX7_log ∈ zU := zmem 892 (by decide +kernel) (by decide +kernel)
set_option maxRecDepth 20000 in
theorem zl_X7_78 : Cond.methodLink RX7 78 yX7_canSell ∈ zU := zmem 861 (by decide +kernel) (by decide +kernel)
set_option maxRecDepth 20000 in
theorem zl_X7_81 : Cond.methodLink RX7 81 yX7_dropFirst ∈ zU := zmem 948 (by decide +kernel) (by decide +kernel)
set_option maxRecDepth 20000 in
theorem zl_X7_84 : Cond.methodLink RX7 84 yX7_sells ∈ zU := zmem 880 (by decide +kernel) (by decide +kernel)
set_option maxRecDepth 20000 in
theorem zl_X7_87 : Cond.methodLink RX7 87 yX7_stageOf ∈ zU := zmem 940 (by decide +kernel) (by decide +kernel)
set_option maxRecDepth 20000 in
theorem zl_X7_90 : Cond.methodLink RX7 90 yX7_isHolder ∈ zU := zmem 842 (by decide +kernel) (by decide +kernel)
set_option maxRecDepth 20000 in
theorem zl_X7_93 : Cond.methodLink RX7 93 yX7_isDate ∈ zU := zmem 845 (by decide +kernel) (by decide +kernel)
set_option maxRecDepth 20000 in
theorem zl_X7_96 : Cond.methodLink RX7 96 yX7_lowest ∈ zU := zmem 912 (by decide +kernel) (by decide +kernel)
set_option maxRecDepth 20000 in
theorem zl_X7_99 : Cond.methodLink RX7 99 yX7_becomes ∈ zU := zmem 916 (by decide +kernel) (by decide +kernel)
set_option maxRecDepth 20000 in
theorem zl_X7_102 : Cond.methodLink RX7 102 yX7_isRight ∈ zU := zmem 928 (by decide +kernel) (by decide +kernel)
set_option maxRecDepth 20000 in
theorem zl_X7_105 : Cond.methodLink RX7 105 yX7_isFree ∈ zU := zmem 932 (by decide +kernel) (by decide +kernel)
set_option maxRecDepth 20000 in
theorem zl_X7_108 : Cond.methodLink RX7 108 yX7_refund ∈ zU := zmem 936 (by decide +kernel) (by decide +kernel)
set_option maxRecDepth 20000 in
theorem zl_X7_111 : Cond.methodLink RX7 111 yX7_listBuys ∈ zU := zmem 944 (by decide +kernel) (by decide +kernel)
set_option maxRecDepth 20000 in
theorem zl_X7_115 : Cond.methodLink RX7 115 yX7_canExercise ∈ zU := zmem 972 (by decide +kernel) (by decide +kernel)
set_option maxRecDepth 20000 in
theorem zl_X7_118 : Cond.methodLink RX7 118 yX7_lapses ∈ zU := zmem 996 (by decide +kernel) (by decide +kernel)
set_option maxRecDepth 20000 in
theorem zl_X7_121 : Cond.methodLink RX7 121 yX7_covers ∈ zU := zmem 1000 (by decide +kernel) (by decide +kernel)
set_option maxRecDepth 20000 in
theorem zl_X7_124 : Cond.methodLink RX7 124 yX7_record ∈ zU := zmem 815 (by decide +kernel) (by decide +kernel)
set_option maxRecDepth 20000 in
theorem zl_X7_127 : Cond.methodLink RX7 127 yX7_bringBack ∈ zU := zmem 900 (by decide +kernel) (by decide +kernel)
set_option maxRecDepth 20000 in
theorem zl_X7_130 : Cond.methodLink RX7 130 yX7_aside ∈ zU := zmem 834 (by decide +kernel) (by decide +kernel)
set_option maxRecDepth 20000 in
theorem zl_X7_133 : Cond.methodLink RX7 133 yX7_doBuy ∈ zU := zmem 838 (by decide +kernel) (by decide +kernel)
set_option maxRecDepth 20000 in
theorem zl_X7_136 : Cond.methodLink RX7 136 yX7_acted ∈ zU := zmem 896 (by decide +kernel) (by decide +kernel)
set_option maxRecDepth 20000 in
theorem zl_X7_139 : Cond.methodLink RX7 139 yX7_doBuyOffered ∈ zU := zmem 908 (by decide +kernel) (by decide +kernel)
set_option maxRecDepth 20000 in
theorem zl_X7_142 : Cond.methodLink RX7 142 yX7_doCancel ∈ zU := zmem 924 (by decide +kernel) (by decide +kernel)
set_option maxRecDepth 20000 in
theorem zl_X7_145 : Cond.methodLink RX7 145 yX7_doOffer ∈ zU := zmem 956 (by decide +kernel) (by decide +kernel)
set_option maxRecDepth 20000 in
theorem zl_X7_148 : Cond.methodLink RX7 148 yX7_doExercise ∈ zU := zmem 968 (by decide +kernel) (by decide +kernel)
set_option maxRecDepth 20000 in
theorem zl_X7_151 : Cond.methodLink RX7 151 yX7_placeOf ∈ zU := zmem 980 (by decide +kernel) (by decide +kernel)
set_option maxRecDepth 20000 in
theorem zl_X7_154 : Cond.methodLink RX7 154 yX7_oneDay ∈ zU := zmem 992 (by decide +kernel) (by decide +kernel)
set_option maxRecDepth 20000 in
theorem zl_X7_170 : Cond.methodLink RX7 170 yX7_sign ∈ zU := zmem 1024 (by decide +kernel) (by decide +kernel)
set_option maxRecDepth 20000 in
theorem zl_X7_173 : Cond.methodLink RX7 173 yX7_readNumber ∈ zU := zmem 1028 (by decide +kernel) (by decide +kernel)
set_option maxRecDepth 20000 in
theorem zl_X7_182 : Cond.methodLink RX7 182 yX7_readOrder ∈ zU := zmem 1020 (by decide +kernel) (by decide +kernel)
set_option maxRecDepth 20000 in
theorem zl_X7_186 : Cond.methodLink RX7 186 yX7_isGood ∈ zU := zmem 1016 (by decide +kernel) (by decide +kernel)
set_option maxRecDepth 20000 in
theorem zl_X7_189 : Cond.methodLink RX7 189 yX7_doOrder ∈ zU := zmem 1032 (by decide +kernel) (by decide +kernel)
set_option maxRecDepth 20000 in
theorem zmath_min : Cond.static Lib.Math.min.name ∈ zU ∧ Cond.code Lib.Math.min.name Lib.Math.min.code 2 (some .int) ∈ zU := ⟨zmem 354 (by decide +kernel) (by decide +kernel), zmem 355 (by decide +kernel) (by decide +kernel)⟩
set_option maxRecDepth 20000 in
theorem zmath_max : Cond.static Lib.Math.max.name ∈ zU ∧ Cond.code Lib.Math.max.name Lib.Math.max.code 2 (some .int) ∈ zU := ⟨zmem 421 (by decide +kernel) (by decide +kernel), zmem 422 (by decide +kernel) (by decide +kernel)⟩
set_option maxRecDepth 20000 in
theorem zmath_ini : Cond.initialized "java/lang/Math" ∈ zU := zmem 79 (by decide +kernel) (by decide +kernel)
/-- the words of nest mates -/
def zN : List Cond := [Cond.fieldLinkNest RX5 9 "RightsDesk" "FIRST_NUMBERS" "[I" "RightsDesk", Cond.fieldLinkNest RX5 23 "RightsDesk" "FIRST_STAGE_DAYS" "[I" "RightsDesk", Cond.fieldLinkNest RX5 29 "RightsDesk" "FIRST_STAGE_FEES" "[I" "RightsDesk", Cond.fieldLinkNest RX5 118 "RightsDesk" "LEAST_NUMBERS" "[I" "RightsDesk", Cond.fieldLinkNest RX5 121 "RightsDesk" "MOST_NUMBERS" "[I" "RightsDesk", Cond.methodLinkNest RX0 34 yX6_copyAll "RightsDesk", Cond.methodLinkNest RX5 60 yX1_init "RightsDesk", Cond.methodLinkNest RX5 65 yX6_copyAll "RightsDesk", Cond.methodLinkNest RX5 128 yX6_isHolder "RightsDesk", Cond.methodLinkNest RX6 28 yX3_init "RightsDesk"]
theorem zf_X5_9 : Cond.fieldLinkNest RX5 9 "RightsDesk" "FIRST_NUMBERS" "[I" "RightsDesk" ∈ zN := List.mem_of_getElem? (i := 0) rfl
theorem zf_X5_23 : Cond.fieldLinkNest RX5 23 "RightsDesk" "FIRST_STAGE_DAYS" "[I" "RightsDesk" ∈ zN := List.mem_of_getElem? (i := 1) rfl
theorem zf_X5_29 : Cond.fieldLinkNest RX5 29 "RightsDesk" "FIRST_STAGE_FEES" "[I" "RightsDesk" ∈ zN := List.mem_of_getElem? (i := 2) rfl
theorem zf_X5_118 : Cond.fieldLinkNest RX5 118 "RightsDesk" "LEAST_NUMBERS" "[I" "RightsDesk" ∈ zN := List.mem_of_getElem? (i := 3) rfl
theorem zf_X5_121 : Cond.fieldLinkNest RX5 121 "RightsDesk" "MOST_NUMBERS" "[I" "RightsDesk" ∈ zN := List.mem_of_getElem? (i := 4) rfl
theorem zl_X0_34 : Cond.methodLinkNest RX0 34 yX6_copyAll "RightsDesk" ∈ zN := List.mem_of_getElem? (i := 5) rfl
theorem zl_X5_60 : Cond.methodLinkNest RX5 60 yX1_init "RightsDesk" ∈ zN := List.mem_of_getElem? (i := 6) rfl
theorem zl_X5_65 : Cond.methodLinkNest RX5 65 yX6_copyAll "RightsDesk" ∈ zN := List.mem_of_getElem? (i := 7) rfl
theorem zl_X5_128 : Cond.methodLinkNest RX5 128 yX6_isHolder "RightsDesk" ∈ zN := List.mem_of_getElem? (i := 8) rfl
theorem zl_X6_28 : Cond.methodLinkNest RX6 28 yX3_init "RightsDesk" ∈ zN := List.mem_of_getElem? (i := 9) rfl
set_option maxRecDepth 20000 in
theorem zN_tbl : ∀ w ∈ zN, w ∈ lw_tbl := by
  intro w hw
  simp only [zN, List.mem_cons, List.not_mem_nil, or_false] at hw
  rcases hw with rfl | rfl | rfl | rfl | rfl | rfl | rfl | rfl | rfl | rfl
  · exact List.mem_of_getElem? (i := 94) (by decide +kernel)
  · exact List.mem_of_getElem? (i := 103) (by decide +kernel)
  · exact List.mem_of_getElem? (i := 105) (by decide +kernel)
  · exact List.mem_of_getElem? (i := 380) (by decide +kernel)
  · exact List.mem_of_getElem? (i := 382) (by decide +kernel)
  · exact List.mem_of_getElem? (i := 336) (by decide +kernel)
  · exact List.mem_of_getElem? (i := 190) (by decide +kernel)
  · exact List.mem_of_getElem? (i := 329) (by decide +kernel)
  · exact List.mem_of_getElem? (i := 396) (by decide +kernel)
  · exact List.mem_of_getElem? (i := 273) (by decide +kernel)
def zNest (U : State) : Prop := ∀ w ∈ zN, va_Nw w U
theorem zNest.warm {s U : State} (hW : s.WarmedH U.vm) (h : zNest s) : zNest U := by
  intro w hw
  have h1 := h w hw
  simp only [zN, List.mem_cons, List.not_mem_nil, or_false] at hw
  rcases hw with rfl | rfl | rfl | rfl | rfl | rfl | rfl | rfl | rfl | rfl
  · exact va_Nw.warmF hW h1
  · exact va_Nw.warmF hW h1
  · exact va_Nw.warmF hW h1
  · exact va_Nw.warmF hW h1
  · exact va_Nw.warmF hW h1
  · exact va_Nw.warmM hW h1
  · exact va_Nw.warmM hW h1
  · exact va_Nw.warmM hW h1
  · exact va_Nw.warmM hW h1
  · exact va_Nw.warmM hW h1
theorem zNest.same {u U : State} (h : u.vm = U.vm) (hz : zNest u) : zNest U := by
  intro w hw
  have h1 := hz w hw
  simp only [zN, List.mem_cons, List.not_mem_nil, or_false] at hw
  rcases hw with rfl | rfl | rfl | rfl | rfl | rfl | rfl | rfl | rfl | rfl <;> exact va_Nw.same rfl h h1
end
section
/-! ===== the memory: address → place → value; the shapes; the world of all cells at once ===== -/
abbrev zM : Type := Nat → Nat → Value
/-- what the classes are, the array classes, the shape of each address (kind, size), the addresses -/
abbrev zG : Type := va_G × (Nat → ClassId) × (Nat → Nat × Nat) × List Nat × Nat × Nat
abbrev zsh (G : zG) : Nat → Nat × Nat := G.2.2.1
abbrev zL (G : zG) : List Nat := G.2.2.2.1
abbrev zA (G : zG) : Nat → Prop := fun q => q ∈ G.2.2.2.1
def zi (v : Value) : Int32 := match v with
  | .int x => x
  | _ => 0
def zr (v : Value) : Option Nat := match v with
  | .ref a => some a
  | _ => none
theorem zi_int (x : Int32) : zi (.int x) = x := rfl
theorem zr_ref (a : Nat) : zr (.ref a) = some a := rfl
def zF (G : zG) (mm : zM) (a : Nat) : va_E :=
  if (zsh G a).1 < 8 then .inr ((zsh G a).1, (List.range (zsh G a).2).map (mm a))
  else if (zsh G a).1 < 10 then .inl (G.2.1 (zsh G a).1, (zsh G a).2, .inl (fun j => zi (mm a j)))
  else .inl (G.2.1 (zsh G a).1, (zsh G a).2, .inr (.inr (.inr (.inr (fun j => zr (mm a j))))))
def zT (G : zG) : List (ClassId × FieldType) := [(G.2.1 8, .char), (G.2.1 9, .int), (G.2.1 10, .object RX0), (G.2.1 11, .object RX1), (G.2.1 12, .object RX4), (G.2.1 13, .object RX5)]
def zup (mm : zM) (a k : Nat) (v : Value) : zM := fun b j => if b = a ∧ j = k then v else mm b j
theorem zup_eq (mm : zM) (a k : Nat) (v : Value) : zup mm a k v a k = v := by simp [zup]
theorem zup_ne {mm : zM} {a k : Nat} {v : Value} {b j : Nat} (h : ¬ (b = a ∧ j = k)) : zup mm a k v b j = mm b j := by simp [zup, h]
theorem zF_obj {G : zG} {mm : zM} {a ci n : Nat} (h : zsh G a = (ci, n)) (hc : ci < 8) : zF G mm a = .inr (ci, (List.range n).map (mm a)) := by
  unfold zF; rw [h]; simp [hc]
theorem zF_int {G : zG} {mm : zM} {a k n : Nat} (h : zsh G a = (k, n)) (h1 : 8 ≤ k) (h2 : k < 10) : zF G mm a = .inl (G.2.1 k, n, .inl (fun j => zi (mm a j))) := by
  unfold zF; rw [h]; simp [Nat.not_lt.mpr h1, h2]
theorem zF_ref {G : zG} {mm : zM} {a k n : Nat} (h : zsh G a = (k, n)) (h1 : 10 ≤ k) : zF G mm a = .inl (G.2.1 k, n, .inr (.inr (.inr (.inr (fun j => zr (mm a j)))))) := by
  unfold zF; rw [h]
  have e1 : ¬ k < 8 := by omega
  have e2 : ¬ k < 10 := by omega
  simp [e1, e2]
theorem zF_other {G : zG} {mm : zM} {a b k : Nat} {v : Value} (h : b ≠ a) : zF G (zup mm a k v) b = zF G mm b := by
  have e : zup mm a k v b = mm b := by funext j; exact zup_ne (fun q => h q.1)
  unfold zF; rw [e]
theorem zF_put {G : zG} {mm : zM} {a ci n k : Nat} (h : zsh G a = (ci, n)) (hc : ci < 8) (v : Value) (b : Nat) : va_up (zF G mm) a (.inr (ci, ((List.range n).map (mm a)).set k v)) b = zF G (zup mm a k v) b := by
  unfold va_up
  by_cases hb : b = a
  · subst hb
    rw [if_pos rfl, zF_obj h hc]
    congr 2
    apply List.ext_getElem?
    intro j
    by_cases hj : j = k
    · subst hj
      by_cases hn : j < n
      · rw [List.getElem?_set_self (by simpa using hn)]; simp [hn, zup]
      · rw [List.getElem?_eq_none (by simpa using hn), List.getElem?_eq_none (by simpa using hn)]
    · rw [List.getElem?_set_ne (Ne.symm hj)]
      rw [List.getElem?_map, List.getElem?_map]
      by_cases hn : j < n
      · rw [List.getElem?_range hn]; simp only [Option.map_some]; rw [zup_ne (fun q => hj q.2)]
      · rw [List.getElem?_eq_none (by simpa using hn)]; rfl
  · rw [if_neg hb, zF_other hb]
theorem zF_putI {G : zG} {mm : zM} {a c n k : Nat} (h : zsh G a = (c, n)) (h1 : 8 ≤ c) (h2 : c < 10) (x : Int32) (b : Nat) : va_up (zF G mm) a (.inl (G.2.1 c, n, .inl (upd (fun j => zi (mm a j)) k x))) b = zF G (zup mm a k (.int x)) b := by
  unfold va_up
  by_cases hb : b = a
  · subst hb
    rw [if_pos rfl, zF_int h h1 h2]
    congr 4
    funext j
    by_cases hj : j = k
    · subst hj; simp [upd, zup, zi]
    · rw [zup_ne (fun q => hj q.2)]; simp [upd, hj]
  · rw [if_neg hb, zF_other hb]
theorem zF_putR {G : zG} {mm : zM} {a c n k : Nat} (h : zsh G a = (c, n)) (h1 : 10 ≤ c) (x : Nat) (b : Nat) : va_up (zF G mm) a (.inl (G.2.1 c, n, .inr (.inr (.inr (.inr (va_up (fun j => zr (mm a j)) k (some x))))))) b = zF G (zup mm a k (.ref x)) b := by
  conv => lhs; unfold va_up
  by_cases hb : b = a
  · subst hb
    rw [if_pos rfl, zF_ref h h1]
    congr 7
    funext j
    by_cases hj : j = k
    · subst hj; simp [va_up, zup, zr]
    · rw [zup_ne (fun q => hj q.2)]; simp [va_up, hj]
  · rw [if_neg hb, zF_other hb]
/-- the statics that are read: the least and the greatest numbers -/
def zLow : Nat → Int32 := fun j => if j = 2 then 1 else 0
def zHigh : Nat → Int32 := fun j => if j = 0 then 9 else if j = 1 then 50 else if j = 2 then 60 else 9999
def zStat (G : zG) (U : State) (H : Heap) : Prop := (va_Z "RightsDesk" "LEAST_NUMBERS" "[I" (.ref G.2.2.2.2.1) (zA G) U H ∧ va_T .int G.2.2.2.2.1 4 (fun j => .int (zLow j)) (zA G) U H) ∧ va_Z "RightsDesk" "MOST_NUMBERS" "[I" (.ref G.2.2.2.2.2) (zA G) U H ∧ va_T .int G.2.2.2.2.2 4 (fun j => .int (zHigh j)) (zA G) U H
theorem zStat.moved {G : zG} {u U : State} {H : Heap} (hvm : u.vm.Alike U.vm) (h : zStat G u H) : zStat G U H := ⟨⟨h.1.1.moved hvm, h.1.2.moved hvm⟩, h.2.1.moved hvm, h.2.2.moved hvm⟩
theorem zStat.kept {G : zG} {U : State} {H H1 : Heap} (h : zStat G U H) (hq : ∀ a : Nat, a < H.size → ¬ zA G a → H1[a]? = H[a]?) : zStat G U H1 := ⟨⟨h.1.1.kept hq, h.1.2.kept hq⟩, h.2.1.kept hq, h.2.2.kept hq⟩
/-- the world -/
def zW (G : zG) (mm : zM) (U : State) : Prop := va_P G.1 vwCl (va_pl (zL G) (zF G mm)) U.heap ∧ va_K G.1 vwCl (zT G) U ∧ zStat G U U.heap ∧ (zL G).Nodup ∧ zNest U
theorem zD {G : zG} (h : (zL G).Nodup) (f : Nat → va_E) : va_D (zA G) (va_pl (zL G) f) := by
  refine ⟨fun i j p q hi hj hpq => ?_, fun k q hk => ?_⟩
  · unfold va_pl at hi hj
    rw [List.getElem?_map, Option.map_eq_some_iff] at hi hj
    obtain ⟨a, ha, rfl⟩ := hi
    obtain ⟨b, hb, rfl⟩ := hj
    have e : a = b := hpq
    subst e
    obtain ⟨l1, e1⟩ := List.getElem?_eq_some_iff.mp ha
    obtain ⟨l2, e2⟩ := List.getElem?_eq_some_iff.mp hb
    rcases Nat.lt_trichotomy i j with q | q | q
    · exact absurd (e1.trans e2.symm) (List.pairwise_iff_getElem.mp h i j l1 l2 q)
    · exact q
    · exact absurd (e2.trans e1.symm) (List.pairwise_iff_getElem.mp h j i l2 l1 q)
  · unfold va_pl at hk
    rw [List.getElem?_map, Option.map_eq_some_iff] at hk
    obtain ⟨a, ha, rfl⟩ := hk
    exact List.mem_of_getElem? ha
def zR (d : Nat) : Room := { frames := d, cells := 0, slots := 0, locals := 40 * d }
abbrev zMd : Type := MethodName × ByteArray × Nat × Option FieldType
def zQ (G : zG) (rv : Option Value) (Q : zM → Prop) : Array Value → State → Outcome → State → Prop := fun _ st oc t => (oc = .returned rv ∧ ∃ m', Q m' ∧ zW G m' t) ∧ va_F (zA G) st t
/-- a method's contract: from the memory mm it answers rv, and the memory has Q -/
def zSem (l : Launch) (G : zG) (Md : zMd) (d : Nat) (As : List Value) (mm : zM) (rv : Option Value) (Q : zM → Prop) : Prop :=
  Met l Md.1 (Cond.code Md.1 Md.2.1 Md.2.2.1 Md.2.2.2 :: zU) (zR d) (va_Pc As (zW G mm)) (zQ G rv Q) 0 0 (zA G)
/-! the locals by place -/
def zLv (ls : Array Slot) (n : Nat) (lv : List (Option Value)) : Prop := ls.size = n ∧ lv_wf ls ∧ lv.length = n ∧ ∀ (i : Nat) (v : Value), lv[i]? = some (some v) → v.category = 1 ∧ ls[i]? = some (.val v)
def zps (lv : List (Option Value)) : List (Nat × Value) := (List.range lv.length).filterMap (fun j => (lv[j]?.join).map (fun v => (j, v)))
theorem zps_mem {lv : List (Option Value)} {j : Nat} {v : Value} : (j, v) ∈ zps lv ↔ lv[j]? = some (some v) := by
  unfold zps
  rw [List.mem_filterMap]
  constructor
  · rintro ⟨k, -, hk⟩
    rw [Option.map_eq_some_iff] at hk
    obtain ⟨w, h1, h2⟩ := hk
    cases h2
    exact Option.join_eq_some_iff.mp h1
  · intro h
    refine ⟨j, List.mem_range.mpr (List.getElem?_eq_some_iff.mp h).1, ?_⟩
    rw [h]; rfl
theorem zLv.has {ls : Array Slot} {n : Nat} {lv : List (Option Value)} (h : zLv ls n lv) : lv_has ls n (zps lv) := ⟨h.1, h.2.1, fun q hq => (h.2.2.2 q.1 q.2 (zps_mem.mp hq)).2⟩
theorem zLv.at {ls : Array Slot} {n : Nat} {lv : List (Option Value)} (h : zLv ls n lv) {i : Nat} {v : Value} (hi : lv[i]? = some (some v)) : ls[i]? = some (.val v) := (h.2.2.2 i v hi).2
theorem zLv.upd {ls ls' : Array Slot} {n : Nat} {lv : List (Option Value)} {i : Nat} {v : Value} (h : zLv ls n lv) (hv : v.category = 1) (hi : i < lv.length) (h' : lv_has ls' n ((i, v) :: (zps lv).filter (fun q => !(q.1 == i) && !(q.1 + 1 == i && q.2.category == 2)))) : zLv ls' n (lv.set i (some v)) := by
  refine ⟨h'.1, h'.2.1, by simpa using h.2.2.1, fun j w hj => ?_⟩
  by_cases e : j = i
  · subst e
    rw [List.getElem?_set_self hi] at hj
    cases hj
    exact ⟨hv, h'.2.2 (j, v) List.mem_cons_self⟩
  · rw [List.getElem?_set_ne (Ne.symm e)] at hj
    obtain ⟨c, -⟩ := h.2.2.2 j w hj
    exact ⟨c, h'.2.2 (j, w) (List.mem_cons_of_mem _ (List.mem_filter.mpr ⟨zps_mem.mpr hj, by simp [e, c]⟩))⟩
theorem lg_sl_1 : ∀ (vs : List Value), (∀ v ∈ vs, v.category = 1) → (lg_sl vs).length = vs.length
  | [], _ => rfl
  | v :: vs, h => by
    have h1 : v.category = 1 := h v List.mem_cons_self
    have h2 := lg_sl_1 vs (fun w hw => h w (List.mem_cons_of_mem _ hw))
    unfold lg_sl at h2 ⊢
    rw [List.flatMap_cons, List.length_append, h2]
    simp [h1]; omega
theorem lv_args_1 : ∀ (vs : List Value) (k i : Nat) (v : Value), (∀ v ∈ vs, v.category = 1) → vs[i]? = some v → (k + i, v) ∈ lv_args k vs
  | [], _, _, _, _, h => by simp at h
  | w :: vs, k, 0, v, _, h => by
    simp at h; subst h; unfold lv_args; exact List.mem_cons_self
  | w :: vs, k, i + 1, v, hc, h => by
    simp at h
    unfold lv_args
    have hw : ¬ w.category = 2 := by rw [hc w List.mem_cons_self]; decide
    rw [if_neg hw]
    have := lv_args_1 vs (k + 1) i v (fun w hw => hc w (List.mem_cons_of_mem _ hw)) h
    refine List.mem_cons_of_mem _ ?_
    rw [show k + (i + 1) = k + 1 + i by omega]; exact this
theorem zLv_entry (As : List Value) {n : Nat} (hc : ∀ v ∈ As, v.category = 1) (hn : As.length ≤ n) : zLv ((lg_sl As ++ List.replicate (n - (lg_sl As).length) Slot.unset).toArray) n (As.map some ++ List.replicate (n - As.length) none) := by
  have h := lv_entry As (n := n) (by rw [lg_sl_1 As hc]; exact hn)
  refine ⟨h.1, h.2.1, by simp; omega, fun i v hi => ?_⟩
  have hl : i < As.length := by
    rcases Nat.lt_or_ge i As.length with q | q
    · exact q
    · rw [List.getElem?_append_right (by simpa using q)] at hi
      have := List.mem_of_getElem? hi
      simp at this
  rw [List.getElem?_append_left (by simpa using hl), List.getElem?_map, Option.map_eq_some_iff] at hi
  obtain ⟨w, h1, h2⟩ := hi
  cases h2
  refine ⟨hc _ (List.mem_of_getElem? h1), h.2.2 (i, v) ?_⟩
  have := lv_args_1 As 0 i v hc h1
  rwa [Nat.zero_add] at this
/-! ===== the walk: at pc, with these locals, this stack, this memory, the method comes to its end with rv and Q ===== -/
def zV (l : Launch) (G : zG) (Md : zMd) (d : Nat) (rv : Option Value) (Q : zM → Prop) (pc : Nat) (lv : List (Option Value)) (st : List Value) (mm : zM) : Prop :=
  ∀ (p : Program) (e : Env) (s : State) (m : MethodId) (args : Array Value) (below : List Frame) (meth : Method) (c : Code) (H : Heap) (locs : List Loc) (ls : Array Slot),
    p.tables.exec = Jvm.exec → c.code = Md.2.1 → c.maxLocals = Md.2.2.1 → meth.sig.returnType = Md.2.2.2 → s.vm.findClass Md.1.cls = some m.cls → meth.locks = false → (∀ w ∈ zU, w.before args s = true) → va_K G.1 vwCl (zT G) s → zStat G s s.heap → ((zL G).Nodup ∧ zNest s) →
    zLv ls Md.2.2.1 lv → va_P G.1 vwCl (va_pl (zL G) (zF G mm)) H → va_S (zA G) s.heap H locs → W p l e (zR d) s m args below meth c H locs 0 0 (MQ below (zQ G rv Q) args s 0 0 (zA G)) (F0 m pc ls st)
theorem z_met {l : Launch} {G : zG} {Md : zMd} {d : Nat} {rv : Option Value} {Q : zM → Prop} {As : List Value} {mm : zM} (lv : List (Option Value)) (hy : plainName Md.1.cls = true) (hc : ∀ v ∈ As, v.category = 1) (hn : As.length ≤ Md.2.2.1)
    (hlv : As.map some ++ List.replicate (Md.2.2.1 - As.length) none = lv) (h : zV l G Md d rv Q 0 lv [] mm) : zSem l G Md d As mm rv Q := by
  subst hlv
  refine Met.ofW (cc := Md.2.1) (maxL := Md.2.2.1) (ret := Md.2.2.2) hy rfl ?_
  intro p e s m args below meth c s₁ B hml hv
  obtain ⟨rfl, hP, hK, hSt, hN⟩ := hv
  have hts := atoms_spec (ws := Cond.code Md.1 Md.2.1 Md.2.2.1 Md.2.2.2 :: zU) B.pre
  rw [lg_entry_eq]
  exact h p e s m _ below meth c s.heap [] _ B.exec B.bytes hml B.returns (findClass_of_methodNamed B.named) B.notSynchronized (fun w hw => hts w (List.mem_cons_of_mem _ hw)) hK hSt hN (zLv_entry As hc hn) hP va_S.rf
theorem z_fin {G : zG} {rv : Option Value} {Q : zM → Prop} {args : Array Value} {s t : State} {mm : zM} {H : Heap} {locs : List Loc} (hQ : Q mm) (hK : va_K G.1 vwCl (zT G) s) (hSt : zStat G s s.heap) (hN : (zL G).Nodup ∧ zNest s) (hP : va_P G.1 vwCl (va_pl (zL G) (zF G mm)) H) (hS : va_S (zA G) s.heap H locs) (ht : t.heap = H) (hW : s.WarmedH t.vm) : zQ G rv Q args s (.returned rv) t :=
  ⟨⟨rfl, mm, hQ, by rw [ht]; exact hP, va_K.moved hW.alike hK, by rw [ht]; exact (hSt.kept hS.2.1).moved hW.alike, hN.1, hN.2.warm hW⟩, hS.F ht⟩
section ZV
variable {l : Launch} {G : zG} {y : MethodName} {cc : ByteArray} {nL : Nat} {ret : Option FieldType} {d : Nat} {rv : Option Value} {Q : zM → Prop} {pc : Nat} {lv : List (Option Value)} {st : List Value} {mm : zM}
theorem z_iret {x : Int32} (hd : decode cc pc = .ok (.ireturn, 1)) (hr : (rv : Option Value) = some (.int x)) (hQ : Q mm) : zV l G (y, cc, nL, some .int) d rv Q pc lv [.int x] mm := by
  intro p e s m args below meth c H locs ls hx hb hml hrt hown hlk hts hK hSt hN hl hP hS
  subst hr
  exact W.iret hx hb hrt (fun t ht hW => z_fin hQ hK hSt hN hP hS ht hW) hS.2.2 hd
theorem z_zret {x : Int32} {ty : FieldType} (hd : decode cc pc = .ok (.ireturn, 1)) (hn : narrow ty (.int x) = .int x) (hr : (rv : Option Value) = some (.int x)) (hQ : Q mm) : zV l G (y, cc, nL, some ty) d rv Q pc lv [.int x] mm := by
  intro p e s m args below meth c H locs ls hx hb hml hrt hown hlk hts hK hSt hN hl hP hS
  subst hr
  exact W.zret hx hb hrt hn (fun t ht hW => z_fin hQ hK hSt hN hP hS ht hW) hS.2.2 hd
theorem z_aret {C : String} {v : Value} (hd : decode cc pc = .ok (.areturn, 1)) (hv : v = .null ∨ ∃ a, v = .ref a) (hr : (rv : Option Value) = some v) (hQ : Q mm) : zV l G (y, cc, nL, some (.object C)) d rv Q pc lv [v] mm := by
  intro p e s m args below meth c H locs ls hx hb hml hrt hown hlk hts hK hSt hN hl hP hS
  subst hr
  exact W.aret hx hb hrt (Or.inl ⟨C, rfl⟩) hv (fun t ht hW => z_fin hQ hK hSt hN hP hS ht hW) hS.2.2 hd
theorem z_vret (hd : decode cc pc = .ok (.return_, 1)) (hr : (rv : Option Value) = none) (hQ : Q mm) : zV l G (y, cc, nL, none) d rv Q pc lv [] mm := by
  intro p e s m args below meth c H locs ls hx hb hml hrt hown hlk hts hK hSt hN hl hP hS
  subst hr
  exact W.vret hx hb hrt (fun t ht hW => z_fin hQ hK hSt hN hP hS ht hW) hS.2.2 hd
/-! constants, stack, arithmetic -/
theorem z_iconst (v : Int32) {n : Int} (hd : decode cc pc = .ok (.iconst n, 1)) (hv : Int32.ofInt n = v) (k : zV l G (y, cc, nL, ret) d rv Q (pc + 1) lv (.int v :: st) mm) : zV l G (y, cc, nL, ret) d rv Q pc lv st mm := by
  intro p e s m args below meth c H locs ls hx hb hml hrt hown hlk hts hK hSt hN hl hP hS
  exact lv_iconst hx hb hd hv (k p e s m args below meth c H locs ls hx hb hml hrt hown hlk hts hK hSt hN hl hP hS)
theorem z_bipush (v : Int32) {n : Int} (hd : decode cc pc = .ok (.bipush n, 2)) (hv : (Int8.ofInt n).toInt32 = v) (k : zV l G (y, cc, nL, ret) d rv Q (pc + 2) lv (.int v :: st) mm) : zV l G (y, cc, nL, ret) d rv Q pc lv st mm := by
  intro p e s m args below meth c H locs ls hx hb hml hrt hown hlk hts hK hSt hN hl hP hS
  exact lv_bipush hx hb hd hv (k p e s m args below meth c H locs ls hx hb hml hrt hown hlk hts hK hSt hN hl hP hS)
theorem z_sipush (v : Int32) {n : Int} (hd : decode cc pc = .ok (.sipush n, 3)) (hv : (Int16.ofInt n).toInt32 = v) (k : zV l G (y, cc, nL, ret) d rv Q (pc + 3) lv (.int v :: st) mm) : zV l G (y, cc, nL, ret) d rv Q pc lv st mm := by
  intro p e s m args below meth c H locs ls hx hb hml hrt hown hlk hts hK hSt hN hl hP hS
  exact lv_sipush hx hb hd hv (k p e s m args below meth c H locs ls hx hb hml hrt hown hlk hts hK hSt hN hl hP hS)
theorem z_ldc {v : Int32} {ix : Nat} {own : String} (hk : Cond.constant own ix v ∈ zU) (ho : own = y.cls) (hd : decode cc pc = .ok (.ldc ix, 2)) (k : zV l G (y, cc, nL, ret) d rv Q (pc + 2) lv (.int v :: st) mm) : zV l G (y, cc, nL, ret) d rv Q pc lv st mm := by
  intro p e s m args below meth c H locs ls hx hb hml hrt hown hlk hts hK hSt hN hl hP hS
  subst ho
  exact lv_ldc hx hb hown (hts _ hk) hd (k p e s m args below meth c H locs ls hx hb hml hrt hown hlk hts hK hSt hN hl hP hS)
theorem z_ldcw {v : Int32} {ix : Nat} {own : String} (hk : Cond.constant own ix v ∈ zU) (ho : own = y.cls) (hd : decode cc pc = .ok (.ldc_w ix, 3)) (k : zV l G (y, cc, nL, ret) d rv Q (pc + 3) lv (.int v :: st) mm) : zV l G (y, cc, nL, ret) d rv Q pc lv st mm := by
  intro p e s m args below meth c H locs ls hx hb hml hrt hown hlk hts hK hSt hN hl hP hS
  subst ho
  exact lv_ldcw hx hb hown (hts _ hk) hd (k p e s m args below meth c H locs ls hx hb hml hrt hown hlk hts hK hSt hN hl hP hS)
theorem z_null (hd : decode cc pc = .ok (.aconst_null, 1)) (k : zV l G (y, cc, nL, ret) d rv Q (pc + 1) lv (.null :: st) mm) : zV l G (y, cc, nL, ret) d rv Q pc lv st mm := by
  intro p e s m args below meth c H locs ls hx hb hml hrt hown hlk hts hK hSt hN hl hP hS
  exact lv_null hx hb hd (k p e s m args below meth c H locs ls hx hb hml hrt hown hlk hts hK hSt hN hl hP hS)
theorem z_dup {v : Value} (hd : decode cc pc = .ok (.dup, 1)) (hv : v.category = 1) (k : zV l G (y, cc, nL, ret) d rv Q (pc + 1) lv (v :: v :: st) mm) : zV l G (y, cc, nL, ret) d rv Q pc lv (v :: st) mm := by
  intro p e s m args below meth c H locs ls hx hb hml hrt hown hlk hts hK hSt hN hl hP hS
  exact lv_dup hx hb hd hv (k p e s m args below meth c H locs ls hx hb hml hrt hown hlk hts hK hSt hN hl hP hS)
theorem z_dup2 {v w : Value} (hd : decode cc pc = .ok (.dup2, 1)) (hv : v.category = 1) (hw : w.category = 1) (k : zV l G (y, cc, nL, ret) d rv Q (pc + 1) lv (v :: w :: v :: w :: st) mm) : zV l G (y, cc, nL, ret) d rv Q pc lv (v :: w :: st) mm := by
  intro p e s m args below meth c H locs ls hx hb hml hrt hown hlk hts hK hSt hN hl hP hS
  exact lv_dup2_11 hx hb hd hv hw (k p e s m args below meth c H locs ls hx hb hml hrt hown hlk hts hK hSt hN hl hP hS)
theorem z_pop {v : Value} (hd : decode cc pc = .ok (.pop, 1)) (hv : v.category = 1) (k : zV l G (y, cc, nL, ret) d rv Q (pc + 1) lv st mm) : zV l G (y, cc, nL, ret) d rv Q pc lv (v :: st) mm := by
  intro p e s m args below meth c H locs ls hx hb hml hrt hown hlk hts hK hSt hN hl hP hS
  exact lv_pop hx hb hd hv (k p e s m args below meth c H locs ls hx hb hml hrt hown hlk hts hK hSt hN hl hP hS)
theorem z_iadd {a b : Int32} (hd : decode cc pc = .ok (.iadd, 1)) (k : zV l G (y, cc, nL, ret) d rv Q (pc + 1) lv (.int (a + b) :: st) mm) : zV l G (y, cc, nL, ret) d rv Q pc lv (.int b :: .int a :: st) mm := by
  intro p e s m args below meth c H locs ls hx hb hml hrt hown hlk hts hK hSt hN hl hP hS
  exact lv_iadd hx hb hd (k p e s m args below meth c H locs ls hx hb hml hrt hown hlk hts hK hSt hN hl hP hS)
theorem z_isub {a b : Int32} (hd : decode cc pc = .ok (.isub, 1)) (k : zV l G (y, cc, nL, ret) d rv Q (pc + 1) lv (.int (a - b) :: st) mm) : zV l G (y, cc, nL, ret) d rv Q pc lv (.int b :: .int a :: st) mm := by
  intro p e s m args below meth c H locs ls hx hb hml hrt hown hlk hts hK hSt hN hl hP hS
  exact lv_isub hx hb hd (k p e s m args below meth c H locs ls hx hb hml hrt hown hlk hts hK hSt hN hl hP hS)
theorem z_imul {a b : Int32} (hd : decode cc pc = .ok (.imul, 1)) (k : zV l G (y, cc, nL, ret) d rv Q (pc + 1) lv (.int (a * b) :: st) mm) : zV l G (y, cc, nL, ret) d rv Q pc lv (.int b :: .int a :: st) mm := by
  intro p e s m args below meth c H locs ls hx hb hml hrt hown hlk hts hK hSt hN hl hP hS
  exact lv_imul hx hb hd (k p e s m args below meth c H locs ls hx hb hml hrt hown hlk hts hK hSt hN hl hP hS)
theorem z_idiv {a b : Int32} (hd : decode cc pc = .ok (.idiv, 1)) (hb0 : ¬ b = 0) (k : zV l G (y, cc, nL, ret) d rv Q (pc + 1) lv (.int (a / b) :: st) mm) : zV l G (y, cc, nL, ret) d rv Q pc lv (.int b :: .int a :: st) mm := by
  intro p e s m args below meth c H locs ls hx hb hml hrt hown hlk hts hK hSt hN hl hP hS
  exact lv_idiv hx hb hd hb0 (k p e s m args below meth c H locs ls hx hb hml hrt hown hlk hts hK hSt hN hl hP hS)
theorem z_iand {a b : Int32} (hd : decode cc pc = .ok (.iand, 1)) (k : zV l G (y, cc, nL, ret) d rv Q (pc + 1) lv (.int (a &&& b) :: st) mm) : zV l G (y, cc, nL, ret) d rv Q pc lv (.int b :: .int a :: st) mm := by
  intro p e s m args below meth c H locs ls hx hb hml hrt hown hlk hts hK hSt hN hl hP hS
  exact lv_iand hx hb hd (k p e s m args below meth c H locs ls hx hb hml hrt hown hlk hts hK hSt hN hl hP hS)
theorem z_ineg {a : Int32} (hd : decode cc pc = .ok (.ineg, 1)) (k : zV l G (y, cc, nL, ret) d rv Q (pc + 1) lv (.int (-a) :: st) mm) : zV l G (y, cc, nL, ret) d rv Q pc lv (.int a :: st) mm := by
  intro p e s m args below meth c H locs ls hx hb hml hrt hown hlk hts hK hSt hN hl hP hS
  exact lv_ineg hx hb hd (k p e s m args below meth c H locs ls hx hb hml hrt hown hlk hts hK hSt hN hl hP hS)
theorem z_i2c {a : Int32} (v : Int32) (hd : decode cc pc = .ok (.i2c, 1)) (hv : (a.toUInt32 % 65536).toInt32 = v) (k : zV l G (y, cc, nL, ret) d rv Q (pc + 1) lv (.int v :: st) mm) : zV l G (y, cc, nL, ret) d rv Q pc lv (.int a :: st) mm := by
  intro p e s m args below meth c H locs ls hx hb hml hrt hown hlk hts hK hSt hN hl hP hS
  exact lv_i2c hx hb hd hv (k p e s m args below meth c H locs ls hx hb hml hrt hown hlk hts hK hSt hN hl hP hS)
/-- a computed number gets a name -/
theorem z_name {x : Int32} (k : ∀ y' : Int32, y' = x → zV l G (y, cc, nL, ret) d rv Q pc lv (.int y' :: st) mm) : zV l G (y, cc, nL, ret) d rv Q pc lv (.int x :: st) mm := k x rfl
theorem z_goto {off : Int} (tgt : Nat) (hd : decode cc pc = .ok (.goto off, 3)) (ht : (pc : Int) + off = (tgt : Int)) (k : zV l G (y, cc, nL, ret) d rv Q tgt lv st mm) : zV l G (y, cc, nL, ret) d rv Q pc lv st mm := by
  intro p e s m args below meth c H locs ls hx hb hml hrt hown hlk hts hK hSt hN hl hP hS
  exact lv_goto hx hb hd ht (k p e s m args below meth c H locs ls hx hb hml hrt hown hlk hts hK hSt hN hl hP hS)
/-! locals -/
theorem z_iload_n {x : Int32} {k4 : Fin 4} (i : Nat) (hi : (k4 : Nat) = i) (hv : lv[i]? = some (some (.int x))) (hd : decode cc pc = .ok (.iload_n k4, 1)) (k : zV l G (y, cc, nL, ret) d rv Q (pc + 1) lv (.int x :: st) mm) : zV l G (y, cc, nL, ret) d rv Q pc lv st mm := by
  intro p e s m args below meth c H locs ls hx hb hml hrt hown hlk hts hK hSt hN hl hP hS
  exact lv_iload_n hx hb hd hi (hl.at hv) (k p e s m args below meth c H locs ls hx hb hml hrt hown hlk hts hK hSt hN hl hP hS)
theorem z_iload {x : Int32} (i : Nat) (hv : lv[i]? = some (some (.int x))) (hd : decode cc pc = .ok (.iload i, 2)) (k : zV l G (y, cc, nL, ret) d rv Q (pc + 2) lv (.int x :: st) mm) : zV l G (y, cc, nL, ret) d rv Q pc lv st mm := by
  intro p e s m args below meth c H locs ls hx hb hml hrt hown hlk hts hK hSt hN hl hP hS
  exact lv_iload hx hb hd (hl.at hv) (k p e s m args below meth c H locs ls hx hb hml hrt hown hlk hts hK hSt hN hl hP hS)
theorem z_aload_n {x : Nat} {k4 : Fin 4} (i : Nat) (hi : (k4 : Nat) = i) (hv : lv[i]? = some (some (.ref x))) (hd : decode cc pc = .ok (.aload_n k4, 1)) (k : zV l G (y, cc, nL, ret) d rv Q (pc + 1) lv (.ref x :: st) mm) : zV l G (y, cc, nL, ret) d rv Q pc lv st mm := by
  intro p e s m args below meth c H locs ls hx hb hml hrt hown hlk hts hK hSt hN hl hP hS
  exact lv_aload_n hx hb hd hi (hl.at hv) (k p e s m args below meth c H locs ls hx hb hml hrt hown hlk hts hK hSt hN hl hP hS)
theorem z_aload {x : Nat} (i : Nat) (hv : lv[i]? = some (some (.ref x))) (hd : decode cc pc = .ok (.aload i, 2)) (k : zV l G (y, cc, nL, ret) d rv Q (pc + 2) lv (.ref x :: st) mm) : zV l G (y, cc, nL, ret) d rv Q pc lv st mm := by
  intro p e s m args below meth c H locs ls hx hb hml hrt hown hlk hts hK hSt hN hl hP hS
  exact lv_aload hx hb hd (hl.at hv) (k p e s m args below meth c H locs ls hx hb hml hrt hown hlk hts hK hSt hN hl hP hS)
theorem z_aload_nN {k4 : Fin 4} (i : Nat) (hi : (k4 : Nat) = i) (hv : lv[i]? = some (some .null)) (hd : decode cc pc = .ok (.aload_n k4, 1)) (k : zV l G (y, cc, nL, ret) d rv Q (pc + 1) lv (.null :: st) mm) : zV l G (y, cc, nL, ret) d rv Q pc lv st mm := by
  intro p e s m args below meth c H locs ls hx hb hml hrt hown hlk hts hK hSt hN hl hP hS
  exact lv_aload_nN hx hb hd hi (hl.at hv) (k p e s m args below meth c H locs ls hx hb hml hrt hown hlk hts hK hSt hN hl hP hS)
theorem z_aloadN (i : Nat) (hv : lv[i]? = some (some .null)) (hd : decode cc pc = .ok (.aload i, 2)) (k : zV l G (y, cc, nL, ret) d rv Q (pc + 2) lv (.null :: st) mm) : zV l G (y, cc, nL, ret) d rv Q pc lv st mm := by
  intro p e s m args below meth c H locs ls hx hb hml hrt hown hlk hts hK hSt hN hl hP hS
  exact lv_aloadN hx hb hd (hl.at hv) (k p e s m args below meth c H locs ls hx hb hml hrt hown hlk hts hK hSt hN hl hP hS)
theorem z_istore_n {x : Int32} {k4 : Fin 4} (i : Nat) {lv' : List (Option Value)} (hi : (k4 : Nat) = i) (hn : i < lv.length) (he : lv.set i (some (.int x)) = lv') (hd : decode cc pc = .ok (.istore_n k4, 1)) (k : zV l G (y, cc, nL, ret) d rv Q (pc + 1) lv' st mm) : zV l G (y, cc, nL, ret) d rv Q pc lv (.int x :: st) mm := by
  intro p e s m args below meth c H locs ls hx hb hml hrt hown hlk hts hK hSt hN hl hP hS
  subst he
  exact lv_istore_n hx hb hd hi hl.has (by rw [← hl.2.2.1]; exact hn) rfl (fun ls' h' => k p e s m args below meth c H locs ls' hx hb hml hrt hown hlk hts hK hSt hN (hl.upd rfl hn h') hP hS)
theorem z_istore {x : Int32} (i : Nat) {lv' : List (Option Value)} (hn : i < lv.length) (he : lv.set i (some (.int x)) = lv') (hd : decode cc pc = .ok (.istore i, 2)) (k : zV l G (y, cc, nL, ret) d rv Q (pc + 2) lv' st mm) : zV l G (y, cc, nL, ret) d rv Q pc lv (.int x :: st) mm := by
  intro p e s m args below meth c H locs ls hx hb hml hrt hown hlk hts hK hSt hN hl hP hS
  subst he
  exact lv_istore hx hb hd hl.has (by rw [← hl.2.2.1]; exact hn) rfl (fun ls' h' => k p e s m args below meth c H locs ls' hx hb hml hrt hown hlk hts hK hSt hN (hl.upd rfl hn h') hP hS)
theorem z_astore_n {x : Nat} {k4 : Fin 4} (i : Nat) {lv' : List (Option Value)} (hi : (k4 : Nat) = i) (hn : i < lv.length) (he : lv.set i (some (.ref x)) = lv') (hd : decode cc pc = .ok (.astore_n k4, 1)) (k : zV l G (y, cc, nL, ret) d rv Q (pc + 1) lv' st mm) : zV l G (y, cc, nL, ret) d rv Q pc lv (.ref x :: st) mm := by
  intro p e s m args below meth c H locs ls hx hb hml hrt hown hlk hts hK hSt hN hl hP hS
  subst he
  exact lv_astore_n hx hb hd hi hl.has (by rw [← hl.2.2.1]; exact hn) rfl (fun ls' h' => k p e s m args below meth c H locs ls' hx hb hml hrt hown hlk hts hK hSt hN (hl.upd rfl hn h') hP hS)
theorem z_astore {x : Nat} (i : Nat) {lv' : List (Option Value)} (hn : i < lv.length) (he : lv.set i (some (.ref x)) = lv') (hd : decode cc pc = .ok (.astore i, 2)) (k : zV l G (y, cc, nL, ret) d rv Q (pc + 2) lv' st mm) : zV l G (y, cc, nL, ret) d rv Q pc lv (.ref x :: st) mm := by
  intro p e s m args below meth c H locs ls hx hb hml hrt hown hlk hts hK hSt hN hl hP hS
  subst he
  exact lv_astore hx hb hd hl.has (by rw [← hl.2.2.1]; exact hn) rfl (fun ls' h' => k p e s m args below meth c H locs ls' hx hb hml hrt hown hlk hts hK hSt hN (hl.upd rfl hn h') hP hS)
theorem z_astore_nN {k4 : Fin 4} (i : Nat) {lv' : List (Option Value)} (hi : (k4 : Nat) = i) (hn : i < lv.length) (he : lv.set i (some .null) = lv') (hd : decode cc pc = .ok (.astore_n k4, 1)) (k : zV l G (y, cc, nL, ret) d rv Q (pc + 1) lv' st mm) : zV l G (y, cc, nL, ret) d rv Q pc lv (.null :: st) mm := by
  intro p e s m args below meth c H locs ls hx hb hml hrt hown hlk hts hK hSt hN hl hP hS
  subst he
  exact lv_astore_nN hx hb hd hi hl.has (by rw [← hl.2.2.1]; exact hn) rfl (fun ls' h' => k p e s m args below meth c H locs ls' hx hb hml hrt hown hlk hts hK hSt hN (hl.upd rfl hn h') hP hS)
theorem z_astoreN (i : Nat) {lv' : List (Option Value)} (hn : i < lv.length) (he : lv.set i (some .null) = lv') (hd : decode cc pc = .ok (.astore i, 2)) (k : zV l G (y, cc, nL, ret) d rv Q (pc + 2) lv' st mm) : zV l G (y, cc, nL, ret) d rv Q pc lv (.null :: st) mm := by
  intro p e s m args below meth c H locs ls hx hb hml hrt hown hlk hts hK hSt hN hl hP hS
  subst he
  exact lv_astoreN hx hb hd hl.has (by rw [← hl.2.2.1]; exact hn) rfl (fun ls' h' => k p e s m args below meth c H locs ls' hx hb hml hrt hown hlk hts hK hSt hN (hl.upd rfl hn h') hP hS)
theorem z_iinc {x v : Int32} {n : Int} (i : Nat) {lv' : List (Option Value)} (hi : lv[i]? = some (some (.int x))) (hv : x + Int32.ofInt n = v) (he : lv.set i (some (.int v)) = lv') (hd : decode cc pc = .ok (.iinc i n, 3)) (k : zV l G (y, cc, nL, ret) d rv Q (pc + 3) lv' st mm) : zV l G (y, cc, nL, ret) d rv Q pc lv st mm := by
  intro p e s m args below meth c H locs ls hx hb hml hrt hown hlk hts hK hSt hN hl hP hS
  subst he
  have hn : i < lv.length := (List.getElem?_eq_some_iff.mp hi).1
  obtain ⟨k0, hk0⟩ := List.getElem?_of_mem (zps_mem.mpr hi)
  exact lv_iinc hx hb hd hl.has hk0 hv (by rw [← hl.2.2.1]; exact hn) rfl (fun ls' h' => k p e s m args below meth c H locs ls' hx hb hml hrt hown hlk hts hK hSt hN (hl.upd rfl hn h') hP hS)
end ZV
end
section
section ZR
variable {l : Launch} {G : zG} {y : MethodName} {cc : ByteArray} {nL : Nat} {ret : Option FieldType} {d : Nat} {rv : Option Value} {Q : zM → Prop} {pc : Nat} {lv : List (Option Value)} {st : List Value} {mm : zM}
theorem z_icmp_eq {a b : Int32} {off : Int} (tgt : Nat) (hd : decode cc pc = .ok (.if_icmp .eq off, 3)) (ht : (pc : Int) + off = (tgt : Int)) (kt : a = b → zV l G (y, cc, nL, ret) d rv Q tgt lv st mm) (kf : ¬ a = b → zV l G (y, cc, nL, ret) d rv Q (pc + 3) lv st mm) : zV l G (y, cc, nL, ret) d rv Q pc lv (.int b :: .int a :: st) mm := by
  intro p e s m args below meth c H locs ls hx hb hml hrt hown hlk hts hK hSt hN hl hP hS
  exact lv_icmp_eq hx hb hd ht (fun h => kt h p e s m args below meth c H locs ls hx hb hml hrt hown hlk hts hK hSt hN hl hP hS) (fun h => kf h p e s m args below meth c H locs ls hx hb hml hrt hown hlk hts hK hSt hN hl hP hS)
theorem z_icmp_ne {a b : Int32} {off : Int} (tgt : Nat) (hd : decode cc pc = .ok (.if_icmp .ne off, 3)) (ht : (pc : Int) + off = (tgt : Int)) (kt : ¬ a = b → zV l G (y, cc, nL, ret) d rv Q tgt lv st mm) (kf : a = b → zV l G (y, cc, nL, ret) d rv Q (pc + 3) lv st mm) : zV l G (y, cc, nL, ret) d rv Q pc lv (.int b :: .int a :: st) mm := by
  intro p e s m args below meth c H locs ls hx hb hml hrt hown hlk hts hK hSt hN hl hP hS
  exact lv_icmp_ne hx hb hd ht (fun h => kt h p e s m args below meth c H locs ls hx hb hml hrt hown hlk hts hK hSt hN hl hP hS) (fun h => kf h p e s m args below meth c H locs ls hx hb hml hrt hown hlk hts hK hSt hN hl hP hS)
theorem z_icmp_lt {a b : Int32} {off : Int} (tgt : Nat) (hd : decode cc pc = .ok (.if_icmp .lt off, 3)) (ht : (pc : Int) + off = (tgt : Int)) (kt : a < b → zV l G (y, cc, nL, ret) d rv Q tgt lv st mm) (kf : ¬ a < b → zV l G (y, cc, nL, ret) d rv Q (pc + 3) lv st mm) : zV l G (y, cc, nL, ret) d rv Q pc lv (.int b :: .int a :: st) mm := by
  intro p e s m args below meth c H locs ls hx hb hml hrt hown hlk hts hK hSt hN hl hP hS
  exact lv_icmp_lt hx hb hd ht (fun h => kt h p e s m args below meth c H locs ls hx hb hml hrt hown hlk hts hK hSt hN hl hP hS) (fun h => kf h p e s m args below meth c H locs ls hx hb hml hrt hown hlk hts hK hSt hN hl hP hS)
theorem z_icmp_ge {a b : Int32} {off : Int} (tgt : Nat) (hd : decode cc pc = .ok (.if_icmp .ge off, 3)) (ht : (pc : Int) + off = (tgt : Int)) (kt : b ≤ a → zV l G (y, cc, nL, ret) d rv Q tgt lv st mm) (kf : ¬ b ≤ a → zV l G (y, cc, nL, ret) d rv Q (pc + 3) lv st mm) : zV l G (y, cc, nL, ret) d rv Q pc lv (.int b :: .int a :: st) mm := by
  intro p e s m args below meth c H locs ls hx hb hml hrt hown hlk hts hK hSt hN hl hP hS
  exact lv_icmp_ge hx hb hd ht (fun h => kt h p e s m args below meth c H locs ls hx hb hml hrt hown hlk hts hK hSt hN hl hP hS) (fun h => kf h p e s m args below meth c H locs ls hx hb hml hrt hown hlk hts hK hSt hN hl hP hS)
theorem z_icmp_gt {a b : Int32} {off : Int} (tgt : Nat) (hd : decode cc pc = .ok (.if_icmp .gt off, 3)) (ht : (pc : Int) + off = (tgt : Int)) (kt : b < a → zV l G (y, cc, nL, ret) d rv Q tgt lv st mm) (kf : ¬ b < a → zV l G (y, cc, nL, ret) d rv Q (pc + 3) lv st mm) : zV l G (y, cc, nL, ret) d rv Q pc lv (.int b :: .int a :: st) mm := by
  intro p e s m args below meth c H locs ls hx hb hml hrt hown hlk hts hK hSt hN hl hP hS
  exact lv_icmp_gt hx hb hd ht (fun h => kt h p e s m args below meth c H locs ls hx hb hml hrt hown hlk hts hK hSt hN hl hP hS) (fun h => kf h p e s m args below meth c H locs ls hx hb hml hrt hown hlk hts hK hSt hN hl hP hS)
theorem z_icmp_le {a b : Int32} {off : Int} (tgt : Nat) (hd : decode cc pc = .ok (.if_icmp .le off, 3)) (ht : (pc : Int) + off = (tgt : Int)) (kt : a ≤ b → zV l G (y, cc, nL, ret) d rv Q tgt lv st mm) (kf : ¬ a ≤ b → zV l G (y, cc, nL, ret) d rv Q (pc + 3) lv st mm) : zV l G (y, cc, nL, ret) d rv Q pc lv (.int b :: .int a :: st) mm := by
  intro p e s m args below meth c H locs ls hx hb hml hrt hown hlk hts hK hSt hN hl hP hS
  exact lv_icmp_le hx hb hd ht (fun h => kt h p e s m args below meth c H locs ls hx hb hml hrt hown hlk hts hK hSt hN hl hP hS) (fun h => kf h p e s m args below meth c H locs ls hx hb hml hrt hown hlk hts hK hSt hN hl hP hS)
theorem z_if_eq {a : Int32} {off : Int} (tgt : Nat) (hd : decode cc pc = .ok (.ifCond .eq off, 3)) (ht : (pc : Int) + off = (tgt : Int)) (kt : a = 0 → zV l G (y, cc, nL, ret) d rv Q tgt lv st mm) (kf : ¬ a = 0 → zV l G (y, cc, nL, ret) d rv Q (pc + 3) lv st mm) : zV l G (y, cc, nL, ret) d rv Q pc lv (.int a :: st) mm := by
  intro p e s m args below meth c H locs ls hx hb hml hrt hown hlk hts hK hSt hN hl hP hS
  exact lv_if_eq hx hb hd ht (fun h => kt h p e s m args below meth c H locs ls hx hb hml hrt hown hlk hts hK hSt hN hl hP hS) (fun h => kf h p e s m args below meth c H locs ls hx hb hml hrt hown hlk hts hK hSt hN hl hP hS)
theorem z_if_ne {a : Int32} {off : Int} (tgt : Nat) (hd : decode cc pc = .ok (.ifCond .ne off, 3)) (ht : (pc : Int) + off = (tgt : Int)) (kt : ¬ a = 0 → zV l G (y, cc, nL, ret) d rv Q tgt lv st mm) (kf : a = 0 → zV l G (y, cc, nL, ret) d rv Q (pc + 3) lv st mm) : zV l G (y, cc, nL, ret) d rv Q pc lv (.int a :: st) mm := by
  intro p e s m args below meth c H locs ls hx hb hml hrt hown hlk hts hK hSt hN hl hP hS
  exact lv_if_ne hx hb hd ht (fun h => kt h p e s m args below meth c H locs ls hx hb hml hrt hown hlk hts hK hSt hN hl hP hS) (fun h => kf h p e s m args below meth c H locs ls hx hb hml hrt hown hlk hts hK hSt hN hl hP hS)
theorem z_if_lt {a : Int32} {off : Int} (tgt : Nat) (hd : decode cc pc = .ok (.ifCond .lt off, 3)) (ht : (pc : Int) + off = (tgt : Int)) (kt : a < 0 → zV l G (y, cc, nL, ret) d rv Q tgt lv st mm) (kf : ¬ a < 0 → zV l G (y, cc, nL, ret) d rv Q (pc + 3) lv st mm) : zV l G (y, cc, nL, ret) d rv Q pc lv (.int a :: st) mm := by
  intro p e s m args below meth c H locs ls hx hb hml hrt hown hlk hts hK hSt hN hl hP hS
  exact lv_if_lt hx hb hd ht (fun h => kt h p e s m args below meth c H locs ls hx hb hml hrt hown hlk hts hK hSt hN hl hP hS) (fun h => kf h p e s m args below meth c H locs ls hx hb hml hrt hown hlk hts hK hSt hN hl hP hS)
theorem z_if_ge {a : Int32} {off : Int} (tgt : Nat) (hd : decode cc pc = .ok (.ifCond .ge off, 3)) (ht : (pc : Int) + off = (tgt : Int)) (kt : 0 ≤ a → zV l G (y, cc, nL, ret) d rv Q tgt lv st mm) (kf : ¬ 0 ≤ a → zV l G (y, cc, nL, ret) d rv Q (pc + 3) lv st mm) : zV l G (y, cc, nL, ret) d rv Q pc lv (.int a :: st) mm := by
  intro p e s m args below meth c H locs ls hx hb hml hrt hown hlk hts hK hSt hN hl hP hS
  exact lv_if_ge hx hb hd ht (fun h => kt h p e s m args below meth c H locs ls hx hb hml hrt hown hlk hts hK hSt hN hl hP hS) (fun h => kf h p e s m args below meth c H locs ls hx hb hml hrt hown hlk hts hK hSt hN hl hP hS)
theorem z_if_gt {a : Int32} {off : Int} (tgt : Nat) (hd : decode cc pc = .ok (.ifCond .gt off, 3)) (ht : (pc : Int) + off = (tgt : Int)) (kt : 0 < a → zV l G (y, cc, nL, ret) d rv Q tgt lv st mm) (kf : ¬ 0 < a → zV l G (y, cc, nL, ret) d rv Q (pc + 3) lv st mm) : zV l G (y, cc, nL, ret) d rv Q pc lv (.int a :: st) mm := by
  intro p e s m args below meth c H locs ls hx hb hml hrt hown hlk hts hK hSt hN hl hP hS
  exact lv_if_gt hx hb hd ht (fun h => kt h p e s m args below meth c H locs ls hx hb hml hrt hown hlk hts hK hSt hN hl hP hS) (fun h => kf h p e s m args below meth c H locs ls hx hb hml hrt hown hlk hts hK hSt hN hl hP hS)
theorem z_if_le {a : Int32} {off : Int} (tgt : Nat) (hd : decode cc pc = .ok (.ifCond .le off, 3)) (ht : (pc : Int) + off = (tgt : Int)) (kt : a ≤ 0 → zV l G (y, cc, nL, ret) d rv Q tgt lv st mm) (kf : ¬ a ≤ 0 → zV l G (y, cc, nL, ret) d rv Q (pc + 3) lv st mm) : zV l G (y, cc, nL, ret) d rv Q pc lv (.int a :: st) mm := by
  intro p e s m args below meth c H locs ls hx hb hml hrt hown hlk hts hK hSt hN hl hP hS
  exact lv_if_le hx hb hd ht (fun h => kt h p e s m args below meth c H locs ls hx hb hml hrt hown hlk hts hK hSt hN hl hP hS) (fun h => kf h p e s m args below meth c H locs ls hx hb hml hrt hown hlk hts hK hSt hN hl hP hS)
theorem z_ifnull {a : Nat} {off : Int} (hd : decode cc pc = .ok (.ifnull off, 3)) (k : zV l G (y, cc, nL, ret) d rv Q (pc + 3) lv st mm) : zV l G (y, cc, nL, ret) d rv Q pc lv (.ref a :: st) mm := by
  intro p e s m args below meth c H locs ls hx hb hml hrt hown hlk hts hK hSt hN hl hP hS
  exact lv_ifnull hx hb hd (k p e s m args below meth c H locs ls hx hb hml hrt hown hlk hts hK hSt hN hl hP hS)
theorem z_ifnullN {off : Int} (tgt : Nat) (hd : decode cc pc = .ok (.ifnull off, 3)) (ht : (pc : Int) + off = (tgt : Int)) (k : zV l G (y, cc, nL, ret) d rv Q tgt lv st mm) : zV l G (y, cc, nL, ret) d rv Q pc lv (.null :: st) mm := by
  intro p e s m args below meth c H locs ls hx hb hml hrt hown hlk hts hK hSt hN hl hP hS
  exact lv_ifnullN hx hb hd ht (k p e s m args below meth c H locs ls hx hb hml hrt hown hlk hts hK hSt hN hl hP hS)
theorem z_ifnonnull {a : Nat} {off : Int} (tgt : Nat) (hd : decode cc pc = .ok (.ifnonnull off, 3)) (ht : (pc : Int) + off = (tgt : Int)) (k : zV l G (y, cc, nL, ret) d rv Q tgt lv st mm) : zV l G (y, cc, nL, ret) d rv Q pc lv (.ref a :: st) mm := by
  intro p e s m args below meth c H locs ls hx hb hml hrt hown hlk hts hK hSt hN hl hP hS
  exact lv_ifnonnull hx hb hd ht (k p e s m args below meth c H locs ls hx hb hml hrt hown hlk hts hK hSt hN hl hP hS)
theorem z_ifnonnullN {off : Int} (hd : decode cc pc = .ok (.ifnonnull off, 3)) (k : zV l G (y, cc, nL, ret) d rv Q (pc + 3) lv st mm) : zV l G (y, cc, nL, ret) d rv Q pc lv (.null :: st) mm := by
  intro p e s m args below meth c H locs ls hx hb hml hrt hown hlk hts hK hSt hN hl hP hS
  exact lv_ifnonnullN hx hb hd (k p e s m args below meth c H locs ls hx hb hml hrt hown hlk hts hK hSt hN hl hP hS)
theorem z_tableOut {dflt lo hi : Int} {offs : Array Int} {len : Nat} {x : Int32} (tgt : Nat) (hd : decode cc pc = .ok (.tableswitch dflt lo hi offs, len)) (h : x.toInt < lo ∨ hi < x.toInt) (ht : (pc : Int) + dflt = (tgt : Int)) (k : zV l G (y, cc, nL, ret) d rv Q tgt lv st mm) : zV l G (y, cc, nL, ret) d rv Q pc lv (.int x :: st) mm := by
  intro p e s m args below meth c H locs ls hx hb hml hrt hown hlk hts hK hSt hN hl hP hS
  exact lv_tableOut hx hb hd h ht (k p e s m args below meth c H locs ls hx hb hml hrt hown hlk hts hK hSt hN hl hP hS)
theorem z_tableIn {dflt lo hi : Int} {offs : Array Int} {len : Nat} {x : Int32} {off : Int} (tgt : Nat) (hd : decode cc pc = .ok (.tableswitch dflt lo hi offs, len)) (h1 : ¬ x.toInt < lo) (h2 : ¬ hi < x.toInt) (ho : offs[(x.toInt - lo).toNat]? = some off) (ht : (pc : Int) + off = (tgt : Int)) (k : zV l G (y, cc, nL, ret) d rv Q tgt lv st mm) : zV l G (y, cc, nL, ret) d rv Q pc lv (.int x :: st) mm := by
  intro p e s m args below meth c H locs ls hx hb hml hrt hown hlk hts hK hSt hN hl hP hS
  exact lv_tableIn hx hb hd h1 h2 ho ht (k p e s m args below meth c H locs ls hx hb hml hrt hown hlk hts hK hSt hN hl hP hS)
theorem z_lookup {dflt : Int} {ps : Array (Int × Int)} {len : Nat} {x : Int32} {off : Int} (tgt : Nat) (hd : decode cc pc = .ok (.lookupswitch dflt ps, len)) (hp : (ps.toList.zip (ps.toList.drop 1)).all (fun (a, next) => a.1 < next.1) = true) (ho : Op.lookupswitch.offset ps.toList dflt x.toInt = off) (ht : (pc : Int) + off = (tgt : Int)) (k : zV l G (y, cc, nL, ret) d rv Q tgt lv st mm) : zV l G (y, cc, nL, ret) d rv Q pc lv (.int x :: st) mm := by
  intro p e s m args below meth c H locs ls hx hb hml hrt hown hlk hts hK hSt hN hl hP hS
  exact lv_lookup hx hb hd hp ho ht (k p e s m args below meth c H locs ls hx hb hml hrt hown hlk hts hK hSt hN hl hP hS)
/-! the memory -/
theorem z_pl {a : Nat} (ha : a ∈ zL G) : ∃ q0 : Nat, (va_pl (zL G) (zF G mm))[q0]? = some (a, zF G mm a) := va_pl_get (X := []) ha
theorem z_pl_set {a q0 : Nat} {e : va_E} {g : Nat → va_E} (hN : (zL G).Nodup) (ha : a ∈ zL G) (hq : (va_pl (zL G) (zF G mm))[q0]? = some (a, zF G mm a)) (hg : ∀ b, va_up (zF G mm) a e b = g b) : (va_pl (zL G) (zF G mm)).set q0 (a, e) = va_pl (zL G) g :=
  (va_pl_set (X := []) (zD hN _) ha hq).trans (va_pl_congr hg)
theorem z_get {C : String} {T : u_T} {N ci ix k a : Nat} {own : String} {v : Value} (hin : ∀ w ∈ u_ws C T N, w ∈ zU) (hc : vwCl[ci]? = some (C, T, N)) (hci : ci < 8) (hk : k < N) (hself : (T k).1 = C) (ho : own = y.cls) (hlink : Cond.fieldLink own ix C (T k).2.1 (T k).2.2.1 ∈ zU) (ha : a ∈ zL G) (hsh : zsh G a = (ci, N)) (hv : mm a k = v) (hd : decode cc pc = .ok (.getfield ix, 3)) (kk : zV l G (y, cc, nL, ret) d rv Q (pc + 3) lv (v :: st) mm) : zV l G (y, cc, nL, ret) d rv Q pc lv (.ref a :: st) mm := by
  intro p e s m args below meth c H locs ls hx hb hml hrt hown hlk hts hK hSt hN hl hP hS
  subst ho
  obtain ⟨q0, he⟩ := z_pl (mm := mm) ha
  rw [zF_obj hsh hci] at he
  exact va_get hx hb hts hin hown hK hP q0 he hc k hk (hts _ hlink) (fun x h => by rw [hself] at h; exact h) (by simp [hk, hv]) hd (kk p e s m args below meth c H locs ls hx hb hml hrt hown hlk hts hK hSt hN hl hP hS)
theorem z_put {C : String} {T : u_T} {N ci ix k a : Nat} {own : String} {v : Value} {ty0 : Nat → FieldType} {ty : FieldType} (hin : ∀ w ∈ u_ws C T N, w ∈ zU) (hty : ∀ k, k < N → parseFieldDescriptor (T k).2.2.1 = some (ty0 k)) (hnm : ∀ a, a < N → ∀ b, b < N → a ≠ b → (T a).2.1 ≠ (T b).2.1) (hc : vwCl[ci]? = some (C, T, N)) (hci : ci < 8) (hk : k < N) (hself : (T k).1 = C) (hfin : (T k).2.2.2 = false) (hds : parseFieldDescriptor (T k).2.2.1 = some ty) (hn : narrow ty v = v) (hfit : fits ty v = true) (ho : own = y.cls) (hlink : Cond.fieldLink own ix C (T k).2.1 (T k).2.2.1 ∈ zU) (ha : a ∈ zL G) (hsh : zsh G a = (ci, N)) (hd : decode cc pc = .ok (.putfield ix, 3)) (kk : zV l G (y, cc, nL, ret) d rv Q (pc + 3) lv st (zup mm a k v)) : zV l G (y, cc, nL, ret) d rv Q pc lv (v :: .ref a :: st) mm := by
  intro p e s m args below meth c H locs ls hx hb hml hrt hown hlk hts hK hSt hN hl hP hS
  subst ho
  obtain ⟨q0, he⟩ := z_pl (mm := mm) ha
  have he1 := he
  rw [zF_obj hsh hci] at he1
  refine va_put hx hb hts hin ty0 hty hnm hown hK hP (zD hN.1 _) hS q0 he1 hc k hk (hts _ hlink) (fun x h => by rw [hself] at h; exact h) hfin hds hn hfit (by simpa using hk) hd (fun H1 locs1 hP1 _ hS1 => ?_)
  rw [z_pl_set hN.1 ha he (zF_put hsh hci v)] at hP1
  exact kk p e s m args below meth c H1 locs1 ls hx hb hml hrt hown hlk hts hK hSt hN hl hP1 hS1
theorem z_iald {a n N : Nat} {i x : Int32} (ha : a ∈ zL G) (hsh : zsh G a = (9, N)) (hi : i = nI n) (hn : n < N) (hN31 : N < 2 ^ 31) (hv : mm a n = .int x) (hd : decode cc pc = .ok (.iaload, 1)) (kk : zV l G (y, cc, nL, ret) d rv Q (pc + 1) lv (.int x :: st) mm) : zV l G (y, cc, nL, ret) d rv Q pc lv (.int i :: .ref a :: st) mm := by
  intro p e s m args below meth c H locs ls hx hb hml hrt hown hlk hts hK hSt hN hl hP hS
  subst hi
  obtain ⟨q0, he⟩ := z_pl (mm := mm) ha
  rw [zF_int hsh (by decide) (by decide)] at he
  refine va_iald hx hb hK hP q0 1 he rfl (nI_in hn hN31) hd ?_
  rw [nI_clamp (by omega), hv]
  exact kk p e s m args below meth c H locs ls hx hb hml hrt hown hlk hts hK hSt hN hl hP hS
theorem z_cald {a n N : Nat} {i x : Int32} (ha : a ∈ zL G) (hsh : zsh G a = (8, N)) (hi : i = nI n) (hn : n < N) (hN31 : N < 2 ^ 31) (hv : mm a n = .int x) (hd : decode cc pc = .ok (.caload, 1)) (kk : zV l G (y, cc, nL, ret) d rv Q (pc + 1) lv (.int x :: st) mm) : zV l G (y, cc, nL, ret) d rv Q pc lv (.int i :: .ref a :: st) mm := by
  intro p e s m args below meth c H locs ls hx hb hml hrt hown hlk hts hK hSt hN hl hP hS
  subst hi
  obtain ⟨q0, he⟩ := z_pl (mm := mm) ha
  rw [zF_int hsh (by decide) (by decide)] at he
  refine va_cald hx hb hK hP q0 0 he rfl (nI_in hn hN31) hd ?_
  rw [nI_clamp (by omega), hv]
  exact kk p e s m args below meth c H locs ls hx hb hml hrt hown hlk hts hK hSt hN hl hP hS
theorem z_alen {a N k t0 : Nat} {ty : FieldType} (v : Int32) (ha : a ∈ zL G) (hsh : zsh G a = (k, N)) (hk : 8 ≤ k) (ht : (zT G)[t0]? = some (G.2.1 k, ty)) (hv : Int32.ofNat N = v) (hd : decode cc pc = .ok (.arraylength, 1)) (kk : zV l G (y, cc, nL, ret) d rv Q (pc + 1) lv (.int v :: st) mm) : zV l G (y, cc, nL, ret) d rv Q pc lv (.ref a :: st) mm := by
  intro p e s m args below meth c H locs ls hx hb hml hrt hown hlk hts hK hSt hN hl hP hS
  obtain ⟨q0, he⟩ := z_pl (mm := mm) ha
  by_cases h10 : k < 10
  · rw [zF_int hsh hk h10] at he
    exact va_alen hx hb hK hP q0 t0 he ht hv hd (kk p e s m args below meth c H locs ls hx hb hml hrt hown hlk hts hK hSt hN hl hP hS)
  · rw [zF_ref hsh (by omega)] at he
    exact va_alen hx hb hK hP q0 t0 he ht hv hd (kk p e s m args below meth c H locs ls hx hb hml hrt hown hlk hts hK hSt hN hl hP hS)
theorem z_aald {a n N k t0 b : Nat} {C : String} {i : Int32} (ha : a ∈ zL G) (hsh : zsh G a = (k, N)) (hk : 10 ≤ k) (ht : (zT G)[t0]? = some (G.2.1 k, .object C)) (hi : i = nI n) (hn : n < N) (hN31 : N < 2 ^ 31) (hv : mm a n = .ref b) (hd : decode cc pc = .ok (.aaload, 1)) (kk : zV l G (y, cc, nL, ret) d rv Q (pc + 1) lv (.ref b :: st) mm) : zV l G (y, cc, nL, ret) d rv Q pc lv (.int i :: .ref a :: st) mm := by
  intro p e s m args below meth c H locs ls hx hb hml hrt hown hlk hts hK hSt hN hl hP hS
  subst hi
  obtain ⟨q0, he⟩ := z_pl (mm := mm) ha
  rw [zF_ref hsh hk] at he
  refine va_aldq hx hb hK hP q0 t0 he ht (nI_in hn hN31) hd ?_
  rw [nI_clamp (by omega), hv]
  exact kk p e s m args below meth c H locs ls hx hb hml hrt hown hlk hts hK hSt hN hl hP hS
theorem z_iast {a n N : Nat} {i x : Int32} (ha : a ∈ zL G) (hsh : zsh G a = (9, N)) (hi : i = nI n) (hn : n < N) (hN31 : N < 2 ^ 31) (hd : decode cc pc = .ok (.iastore, 1)) (kk : zV l G (y, cc, nL, ret) d rv Q (pc + 1) lv st (zup mm a n (.int x))) : zV l G (y, cc, nL, ret) d rv Q pc lv (.int x :: .int i :: .ref a :: st) mm := by
  intro p e s m args below meth c H locs ls hx hb hml hrt hown hlk hts hK hSt hN hl hP hS
  subst hi
  obtain ⟨q0, he⟩ := z_pl (mm := mm) ha
  have he1 := he
  rw [zF_int hsh (by decide) (by decide)] at he1
  refine va_iast hx hb hK hP (zD hN.1 _) hS q0 1 he1 rfl (nI_in hn hN31) hd (fun H1 locs1 hP1 _ hS1 => ?_)
  rw [nI_clamp (by omega)] at hP1
  rw [z_pl_set hN.1 ha he (zF_putI hsh (by decide) (by decide) x)] at hP1
  exact kk p e s m args below meth c H1 locs1 ls hx hb hml hrt hown hlk hts hK hSt hN hl hP1 hS1
theorem z_cast {a n N : Nat} {i x : Int32} (ha : a ∈ zL G) (hsh : zsh G a = (8, N)) (hi : i = nI n) (hn : n < N) (hN31 : N < 2 ^ 31) (hd : decode cc pc = .ok (.castore, 1)) (kk : zV l G (y, cc, nL, ret) d rv Q (pc + 1) lv st (zup mm a n (.int (vp_nar .char x)))) : zV l G (y, cc, nL, ret) d rv Q pc lv (.int x :: .int i :: .ref a :: st) mm := by
  intro p e s m args below meth c H locs ls hx hb hml hrt hown hlk hts hK hSt hN hl hP hS
  subst hi
  obtain ⟨q0, he⟩ := z_pl (mm := mm) ha
  have he1 := he
  rw [zF_int hsh (by decide) (by decide)] at he1
  refine va_cast hx hb hK hP (zD hN.1 _) hS q0 0 he1 rfl (nI_in hn hN31) hd (fun H1 locs1 hP1 _ hS1 => ?_)
  rw [nI_clamp (by omega)] at hP1
  rw [z_pl_set hN.1 ha he (zF_putI hsh (by decide) (by decide) _)] at hP1
  exact kk p e s m args below meth c H1 locs1 ls hx hb hml hrt hown hlk hts hK hSt hN hl hP1 hS1
theorem z_aast {a n N k t0 b ci nb : Nat} {C : String} {T : u_T} {Nc : Nat} {i : Int32} (ha : a ∈ zL G) (hsh : zsh G a = (k, N)) (hk : 10 ≤ k) (ht : (zT G)[t0]? = some (G.2.1 k, .object C)) (hb2 : b ∈ zL G) (hshb : zsh G b = (ci, nb)) (hci : ci < 8) (hc : vwCl[ci]? = some (C, T, Nc)) (hi : i = nI n) (hn : n < N) (hN31 : N < 2 ^ 31) (hd : decode cc pc = .ok (.aastore, 1)) (kk : zV l G (y, cc, nL, ret) d rv Q (pc + 1) lv st (zup mm a n (.ref b))) : zV l G (y, cc, nL, ret) d rv Q pc lv (.ref b :: .int i :: .ref a :: st) mm := by
  intro p e s m args below meth c H locs ls hx hb hml hrt hown hlk hts hK hSt hN hl hP hS
  subst hi
  obtain ⟨q0, he⟩ := z_pl (mm := mm) ha
  obtain ⟨q1, he2⟩ := z_pl (mm := mm) hb2
  rw [zF_obj hshb hci] at he2
  have he1 := he
  rw [zF_ref hsh hk] at he1
  refine va_astq (r := (C, T, Nc)) hx hb hK hP (zD hN.1 _) hS q0 t0 q1 ci he1 ht he2 hc (nI_in hn hN31) hd (fun H1 locs1 hP1 _ hS1 => ?_)
  rw [nI_clamp (by omega)] at hP1
  rw [z_pl_set hN.1 ha he (zF_putR hsh hk b)] at hP1
  exact kk p e s m args below meth c H1 locs1 ls hx hb hml hrt hown hlk hts hK hSt hN hl hP1 hS1
/-! the two tables -/
theorem z_getsL {ix : Nat} {own : String} (ho : own = y.cls) (hlink : Cond.fieldLinkNest own ix "RightsDesk" "LEAST_NUMBERS" "[I" "RightsDesk" ∈ zN) (hd : decode cc pc = .ok (.getstatic ix, 3)) (kk : zV l G (y, cc, nL, ret) d rv Q (pc + 3) lv (.ref G.2.2.2.2.1 :: st) mm) : zV l G (y, cc, nL, ret) d rv Q pc lv st mm := by
  intro p e s m args below meth c H locs ls hx hb hml hrt hown hlk hts hK hSt hN hl hP hS
  subst ho
  exact va_getsN hx hb hSt.1.1 hS hown (va_Nw.use rfl (hN.2 _ hlink)) (fun _ h => h) hd (kk p e s m args below meth c H locs ls hx hb hml hrt hown hlk hts hK hSt hN hl hP hS)
theorem z_getsM {ix : Nat} {own : String} (ho : own = y.cls) (hlink : Cond.fieldLinkNest own ix "RightsDesk" "MOST_NUMBERS" "[I" "RightsDesk" ∈ zN) (hd : decode cc pc = .ok (.getstatic ix, 3)) (kk : zV l G (y, cc, nL, ret) d rv Q (pc + 3) lv (.ref G.2.2.2.2.2 :: st) mm) : zV l G (y, cc, nL, ret) d rv Q pc lv st mm := by
  intro p e s m args below meth c H locs ls hx hb hml hrt hown hlk hts hK hSt hN hl hP hS
  subst ho
  exact va_getsN hx hb hSt.2.1 hS hown (va_Nw.use rfl (hN.2 _ hlink)) (fun _ h => h) hd (kk p e s m args below meth c H locs ls hx hb hml hrt hown hlk hts hK hSt hN hl hP hS)
theorem z_ialdL {i : Int32} {n : Nat} (hi : i = nI n) (hn : n < 4) (hd : decode cc pc = .ok (.iaload, 1)) (kk : zV l G (y, cc, nL, ret) d rv Q (pc + 1) lv (.int (zLow n) :: st) mm) : zV l G (y, cc, nL, ret) d rv Q pc lv (.int i :: .ref G.2.2.2.2.1 :: st) mm := by
  intro p e s m args below meth c H locs ls hx hb hml hrt hown hlk hts hK hSt hN hl hP hS
  subst hi
  exact va_ti hx hb hSt.1.2 hS (nI_in hn (by decide)) (by rw [nI_clamp (by omega)]) hd (kk p e s m args below meth c H locs ls hx hb hml hrt hown hlk hts hK hSt hN hl hP hS)
theorem z_ialdM {i : Int32} {n : Nat} (hi : i = nI n) (hn : n < 4) (hd : decode cc pc = .ok (.iaload, 1)) (kk : zV l G (y, cc, nL, ret) d rv Q (pc + 1) lv (.int (zHigh n) :: st) mm) : zV l G (y, cc, nL, ret) d rv Q pc lv (.int i :: .ref G.2.2.2.2.2 :: st) mm := by
  intro p e s m args below meth c H locs ls hx hb hml hrt hown hlk hts hK hSt hN hl hP hS
  subst hi
  exact va_ti hx hb hSt.2.2 hS (nI_in hn (by decide)) (by rw [nI_clamp (by omega)]) hd (kk p e s m args below meth c H locs ls hx hb hml hrt hown hlk hts hK hSt hN hl hP hS)
/-! Math -/
theorem z_max {ix : Nat} {own : String} {a b : Int32} (ho : own = y.cls) (hlink : Cond.methodLink own ix Lib.Math.max.name ∈ zU) (hd0 : 0 < d) (hW : (st.map fun v => v.category).sum ≤ 8) (hd : decode cc pc = .ok (.invokestatic ix, 3)) (kk : zV l G (y, cc, nL, ret) d rv Q (pc + 3) lv (.int (if a < b then b else a) :: st) mm) : zV l G (y, cc, nL, ret) d rv Q pc lv (.int b :: .int a :: st) mm := by
  intro p e s m args below meth c H locs ls hx hb hml hrt hown hlk hts hK hSt hN hl hP hS
  subst ho
  exact va_mmax hx hb (hml.trans hl.1.symm) hown (hts _ hlink) (hts _ zmath_max.1) (hts _ zmath_ini) (hts _ zmath_max.2) (show 1 ≤ (zR d).frames from hd0) (by show _ ≤ 40 * d; omega) (Nat.le_refl _) (Nat.le_refl _) hd (kk p e s m args below meth c H locs ls hx hb hml hrt hown hlk hts hK hSt hN hl hP hS)
theorem z_min {ix : Nat} {own : String} {a b : Int32} (ho : own = y.cls) (hlink : Cond.methodLink own ix Lib.Math.min.name ∈ zU) (hd0 : 0 < d) (hW : (st.map fun v => v.category).sum ≤ 8) (hd : decode cc pc = .ok (.invokestatic ix, 3)) (kk : zV l G (y, cc, nL, ret) d rv Q (pc + 3) lv (.int (if b < a then b else a) :: st) mm) : zV l G (y, cc, nL, ret) d rv Q pc lv (.int b :: .int a :: st) mm := by
  intro p e s m args below meth c H locs ls hx hb hml hrt hown hlk hts hK hSt hN hl hP hS
  subst ho
  exact va_mmin hx hb (hml.trans hl.1.symm) hown (hts _ hlink) (hts _ zmath_min.1) (hts _ zmath_ini) (hts _ zmath_min.2) (show 1 ≤ (zR d).frames from hd0) (by show _ ≤ 40 * d; omega) (Nat.le_refl _) (Nat.le_refl _) hd (kk p e s m args below meth c H locs ls hx hb hml hrt hown hlk hts hK hSt hN hl hP hS)
end ZR
/-! calls -/
theorem z_blind {G : zG} {mm : zM} {As : List Value} : FrameBlind (va_Pc As (zW G mm)) := fun a U g mk h => ⟨h.1, h.2.1, va_K.moved (u := U) (U := U.calling g mk a) (Vm.Alike.refl U.vm) h.2.2.1, zStat.moved (u := U) (U := U.calling g mk a) (Vm.Alike.refl U.vm) h.2.2.2.1, h.2.2.2.2.1, zNest.same (u := U) (U := U.calling g mk a) rfl h.2.2.2.2.2⟩
theorem z_callW {p : Program} {l : Launch} {e : Env} {R : Room} {s : State} {m : MethodId} {args : Array Value} {below : List Frame} {meth : Method} {c : Code} {H : Heap} {locs : List Loc} {Q : State → Prop} {G : zG} {pc : Nat} {ls : Array Slot} {rest st0 : List Value} {a : Array Value} {rv2 : Option Value} {Q2 : zM → Prop}
    (hr : va_Run p l e R s m args below meth c H locs 0 0 0 0 (F0 m pc ls st0) rest (zQ G rv2 Q2 a) (zA G)) (hS : va_S (zA G) s.heap H locs)
    (kk : ∀ (m' : zM) (H1 : Heap) (locs1 : List Loc), Q2 m' → va_P G.1 vwCl (va_pl (zL G) (zF G m')) H1 → va_S (zA G) s.heap H1 locs1 → W p l e R s m args below meth c H1 locs1 0 0 Q (F0 m (pc + 3) ls (rv2.toList ++ rest))) : W p l e R s m args below meth c H locs 0 0 Q (F0 m pc ls st0) := by
  intro T hT X
  obtain ⟨v, st₀, t, T', L, h0, X', hL, e1, e2, ⟨⟨hv, m', hq, hPw, -⟩, hz, hk⟩, st⟩ := hr T hT X
  cases hv
  rw [h0] at hz hk
  obtain ⟨t2, a1, b1⟩ := kk m' T'.heap (locs ++ L) hq (by rw [e1]; exact hPw)
    ⟨Nat.le_trans hS.1 (by rw [e1]; exact hz), fun q h1 h2 => by rw [e1, hk q (Nat.lt_of_lt_of_le h1 hS.1) h2]; exact hS.2.1 q h1 h2, fun q hq => by
      rcases List.mem_append.mp hq with h | h
      · exact hS.2.2 q h
      · exact hL q h⟩ T' rfl X'
  exact ⟨t2, st t2 a1, b1⟩
section ZC
variable {l : Launch} {G : zG} {y : MethodName} {cc : ByteArray} {nL : Nat} {ret : Option FieldType} {d : Nat} {rv : Option Value} {Q : zM → Prop} {pc : Nat} {lv : List (Option Value)} {st : List Value} {mm : zM}
variable {y2 : MethodName} {b2 : ByteArray} {n2 d2 np ix : Nat} {r2 : Option FieldType} {rv2 : Option Value} {Q2 : zM → Prop} {own : String}
theorem z_good : GoodIn zU (Cond.code y2 b2 n2 r2 :: zU) ↔ Cond.code y2 b2 n2 r2 ∈ zU :=
  ⟨fun h => (h _ List.mem_cons_self).1, fun h w hw => (List.mem_cons.mp hw).elim (fun e => by subst e; exact ⟨h, zU_good h⟩) (fun h => ⟨h, zU_good h⟩)⟩
theorem z_callV {As : List Value} {a ci N : Nat} {C : String} {T : u_T} (hy : zMV y2 b2 n2 r2 np) (hs : zSem l G (y2, b2, n2, r2) d2 (.ref a :: As) mm rv2 Q2) (ho : own = y.cls) (hlink : Cond.methodLink own ix y2 ∈ zU) (hc : vwCl[ci]? = some (C, T, N)) (hC : C = y2.cls) (hci : ci < 8) (ha : a ∈ zL G) (hsh : zsh G a = (ci, N)) (hd2 : d2 < d) (hnp : As.length = np) (hW : (st.map fun v => v.category).sum ≤ 8) (hd : decode cc pc = .ok (.invokevirtual ix, 3))
    (kk : ∀ m', Q2 m' → zV l G (y, cc, nL, ret) d rv Q (pc + 3) lv (rv2.toList ++ st) m') : zV l G (y, cc, nL, ret) d rv Q pc lv (As.reverse ++ .ref a :: st) mm := by
  intro p e s m args below meth c H locs ls hx hb hml hrt hown hlk hts hK hSt hN hl hP hS
  subst ho
  obtain ⟨h1, h2, h3, h4, h5, h6, h7, h8⟩ := hy
  obtain ⟨q0, he⟩ := z_pl (mm := mm) ha
  rw [zF_obj hsh hci] at he
  have cw : CallW (zR d) s args y.cls y2.cls ix y2 b2 n2 r2 (Cond.code y2 b2 n2 r2 :: zU) (zR d2) 0 0 np := ⟨callB_of np hts (z_good.mpr h2) rfl rfl rfl (hts _ h5) (hts _ hlink) ⟨h6.1, h6.2, h7⟩ ⟨hd2, by show 8 + (n2 + 11) + 40 * d2 ≤ 40 * d; omega⟩, hts _ h3, hts _ h4⟩
  have hrc := va_recv hK hP hc he
  rw [show (C, T, N).1 = y2.cls from hC] at hrc
  exact z_callW (va_runV (As := As) (rest := st) (nL := nL) ⟨hx, hb, hml, hown, hts⟩ hs cw ⟨z_blind, hrc, fun U hU hW => ⟨rfl, by rw [hU]; exact hP, va_K.moved hW.alike hK, by rw [hU]; exact (hSt.kept hS.2.1).moved hW.alike, hN.1, hN.2.warm hW⟩⟩ rfl hnp hl.1 rfl (lv_room hW) hd ⟨Nat.le_refl _, Nat.le_refl _⟩) hS
    (fun m' H1 locs1 hq hP1 hS1 => kk m' hq p e s m args below meth c H1 locs1 ls hx hb hml hrt hown hlk hts hK hSt hN hl hP1 hS1)
theorem z_callS {As : List Value} (hy : zMS y2 b2 n2 r2 np) (hs : zSem l G (y2, b2, n2, r2) d2 As mm rv2 Q2) (ho : own = y.cls) (hlink : Cond.methodLink own ix y2 ∈ zU) (hd2 : d2 < d) (hnp : As.length = np) (hW : (st.map fun v => v.category).sum ≤ 8) (hd : decode cc pc = .ok (.invokestatic ix, 3))
    (kk : ∀ m', Q2 m' → zV l G (y, cc, nL, ret) d rv Q (pc + 3) lv (rv2.toList ++ st) m') : zV l G (y, cc, nL, ret) d rv Q pc lv (As.reverse ++ st) mm := by
  intro p e s m args below meth c H locs ls hx hb hml hrt hown hlk hts hK hSt hN hl hP hS
  subst ho
  obtain ⟨h1, h2, h3, h5, h6, h7, h8⟩ := hy
  exact z_callW (va_runS (As := As) (rest := st) (nL := nL) ⟨hx, hb, hml, hown, hts⟩ hs ⟨callB_of np hts (z_good.mpr h2) rfl rfl rfl (hts _ h5) (hts _ hlink) ⟨h6.1, h6.2, h7⟩ ⟨hd2, by show 8 + (n2 + 11) + 40 * d2 ≤ 40 * d; omega⟩, hts _ h3⟩ ⟨z_blind, fun U hU hW => ⟨rfl, by rw [hU]; exact hP, va_K.moved hW.alike hK, by rw [hU]; exact (hSt.kept hS.2.1).moved hW.alike, hN.1, hN.2.warm hW⟩⟩ rfl hnp hl.1 rfl (lv_room hW) hd ⟨Nat.le_refl _, Nat.le_refl _⟩) hS
    (fun m' H1 locs1 hq hP1 hS1 => kk m' hq p e s m args below meth c H1 locs1 ls hx hb hml hrt hown hlk hts hK hSt hN hl hP1 hS1)
theorem z_callSN {As : List Value} {host : String} (hy : zMS y2 b2 n2 r2 np) (hs : zSem l G (y2, b2, n2, r2) d2 As mm rv2 Q2) (ho : own = y.cls) (hlink : Cond.methodLinkNest own ix y2 host ∈ zN) (hd2 : d2 < d) (hnp : As.length = np) (hW : (st.map fun v => v.category).sum ≤ 8) (hd : decode cc pc = .ok (.invokestatic ix, 3))
    (kk : ∀ m', Q2 m' → zV l G (y, cc, nL, ret) d rv Q (pc + 3) lv (rv2.toList ++ st) m') : zV l G (y, cc, nL, ret) d rv Q pc lv (As.reverse ++ st) mm := by
  intro p e s m args below meth c H locs ls hx hb hml hrt hown hlk hts hK hSt hN hl hP hS
  subst ho
  obtain ⟨h1, h2, h3, h5, h6, h7, h8⟩ := hy
  exact z_callW (va_runSN (As := As) (rest := st) (nL := nL) ⟨hx, hb, hml, hown, hts⟩ hs ⟨va_cnB np hts (z_good.mpr h2) rfl rfl rfl (hN.2 _ hlink) (hts _ h5) ⟨h6.1, h6.2, h7⟩ ⟨hd2, by show 8 + (n2 + 11) + 40 * d2 ≤ 40 * d; omega⟩, hts _ h3, trivial⟩ ⟨z_blind, fun U hU hW => ⟨rfl, by rw [hU]; exact hP, va_K.moved hW.alike hK, by rw [hU]; exact (hSt.kept hS.2.1).moved hW.alike, hN.1, hN.2.warm hW⟩⟩ rfl hnp hl.1 rfl (lv_room hW) hd ⟨Nat.le_refl _, Nat.le_refl _⟩) hS
    (fun m' H1 locs1 hq hP1 hS1 => kk m' hq p e s m args below meth c H1 locs1 ls hx hb hml hrt hown hlk hts hK hSt hN hl hP1 hS1)
end ZC
end
section
section ZA
variable {l : Launch} {G : zG} {y : MethodName} {cc : ByteArray} {nL : Nat} {ret : Option FieldType} {d : Nat} {rv : Option Value} {Q : zM → Prop} {pc : Nat} {lv : List (Option Value)} {st : List Value} {mm : zM}
variable {y2 : MethodName} {b2 : ByteArray} {n2 d2 np ix : Nat} {r2 : Option FieldType} {Q2 : zM → Prop} {own : String} {v2 : Value}
theorem z_pV0 {a ci N : Nat} {C : String} {T : u_T} (hy : zMV y2 b2 n2 r2 0) (hs : zSem l G (y2, b2, n2, r2) d2 [.ref a] mm (some v2) (fun m' => m' = mm)) (ho : own = y.cls) (hlink : Cond.methodLink own ix y2 ∈ zU) (hc : vwCl[ci]? = some (C, T, N)) (hC : C = y2.cls) (hci : ci < 8) (ha : a ∈ zL G) (hsh : zsh G a = (ci, N)) (hd2 : d2 < d) (hW : (st.map fun v => v.category).sum ≤ 8) (hd : decode cc pc = .ok (.invokevirtual ix, 3)) (kk : zV l G (y, cc, nL, ret) d rv Q (pc + 3) lv (v2 :: st) mm) : zV l G (y, cc, nL, ret) d rv Q pc lv (.ref a :: st) mm :=
  z_callV (As := []) hy hs ho hlink hc hC hci ha hsh hd2 rfl hW hd (fun m' h => by subst h; exact kk)
theorem z_uV0 {a ci N : Nat} {C : String} {T : u_T} (hy : zMV y2 b2 n2 r2 0) (hs : zSem l G (y2, b2, n2, r2) d2 [.ref a] mm (some v2) Q2) (ho : own = y.cls) (hlink : Cond.methodLink own ix y2 ∈ zU) (hc : vwCl[ci]? = some (C, T, N)) (hC : C = y2.cls) (hci : ci < 8) (ha : a ∈ zL G) (hsh : zsh G a = (ci, N)) (hd2 : d2 < d) (hW : (st.map fun v => v.category).sum ≤ 8) (hd : decode cc pc = .ok (.invokevirtual ix, 3)) (kk : ∀ m', Q2 m' → zV l G (y, cc, nL, ret) d rv Q (pc + 3) lv (v2 :: st) m') : zV l G (y, cc, nL, ret) d rv Q pc lv (.ref a :: st) mm :=
  z_callV (As := []) hy hs ho hlink hc hC hci ha hsh hd2 rfl hW hd (fun m' h => kk m' h)
theorem z_vV0 {a ci N : Nat} {C : String} {T : u_T} (hy : zMV y2 b2 n2 r2 0) (hs : zSem l G (y2, b2, n2, r2) d2 [.ref a] mm none Q2) (ho : own = y.cls) (hlink : Cond.methodLink own ix y2 ∈ zU) (hc : vwCl[ci]? = some (C, T, N)) (hC : C = y2.cls) (hci : ci < 8) (ha : a ∈ zL G) (hsh : zsh G a = (ci, N)) (hd2 : d2 < d) (hW : (st.map fun v => v.category).sum ≤ 8) (hd : decode cc pc = .ok (.invokevirtual ix, 3)) (kk : ∀ m', Q2 m' → zV l G (y, cc, nL, ret) d rv Q (pc + 3) lv st m') : zV l G (y, cc, nL, ret) d rv Q pc lv (.ref a :: st) mm :=
  z_callV (As := []) hy hs ho hlink hc hC hci ha hsh hd2 rfl hW hd (fun m' h => kk m' h)
theorem z_pV1 {a1 : Value} {a ci N : Nat} {C : String} {T : u_T} (hy : zMV y2 b2 n2 r2 1) (hs : zSem l G (y2, b2, n2, r2) d2 [.ref a, a1] mm (some v2) (fun m' => m' = mm)) (ho : own = y.cls) (hlink : Cond.methodLink own ix y2 ∈ zU) (hc : vwCl[ci]? = some (C, T, N)) (hC : C = y2.cls) (hci : ci < 8) (ha : a ∈ zL G) (hsh : zsh G a = (ci, N)) (hd2 : d2 < d) (hW : (st.map fun v => v.category).sum ≤ 8) (hd : decode cc pc = .ok (.invokevirtual ix, 3)) (kk : zV l G (y, cc, nL, ret) d rv Q (pc + 3) lv (v2 :: st) mm) : zV l G (y, cc, nL, ret) d rv Q pc lv (a1 :: .ref a :: st) mm :=
  z_callV (As := [a1]) hy hs ho hlink hc hC hci ha hsh hd2 rfl hW hd (fun m' h => by subst h; exact kk)
theorem z_uV1 {a1 : Value} {a ci N : Nat} {C : String} {T : u_T} (hy : zMV y2 b2 n2 r2 1) (hs : zSem l G (y2, b2, n2, r2) d2 [.ref a, a1] mm (some v2) Q2) (ho : own = y.cls) (hlink : Cond.methodLink own ix y2 ∈ zU) (hc : vwCl[ci]? = some (C, T, N)) (hC : C = y2.cls) (hci : ci < 8) (ha : a ∈ zL G) (hsh : zsh G a = (ci, N)) (hd2 : d2 < d) (hW : (st.map fun v => v.category).sum ≤ 8) (hd : decode cc pc = .ok (.invokevirtual ix, 3)) (kk : ∀ m', Q2 m' → zV l G (y, cc, nL, ret) d rv Q (pc + 3) lv (v2 :: st) m') : zV l G (y, cc, nL, ret) d rv Q pc lv (a1 :: .ref a :: st) mm :=
  z_callV (As := [a1]) hy hs ho hlink hc hC hci ha hsh hd2 rfl hW hd (fun m' h => kk m' h)
theorem z_vV1 {a1 : Value} {a ci N : Nat} {C : String} {T : u_T} (hy : zMV y2 b2 n2 r2 1) (hs : zSem l G (y2, b2, n2, r2) d2 [.ref a, a1] mm none Q2) (ho : own = y.cls) (hlink : Cond.methodLink own ix y2 ∈ zU) (hc : vwCl[ci]? = some (C, T, N)) (hC : C = y2.cls) (hci : ci < 8) (ha : a ∈ zL G) (hsh : zsh G a = (ci, N)) (hd2 : d2 < d) (hW : (st.map fun v => v.category).sum ≤ 8) (hd : decode cc pc = .ok (.invokevirtual ix, 3)) (kk : ∀ m', Q2 m' → zV l G (y, cc, nL, ret) d rv Q (pc + 3) lv st m') : zV l G (y, cc, nL, ret) d rv Q pc lv (a1 :: .ref a :: st) mm :=
  z_callV (As := [a1]) hy hs ho hlink hc hC hci ha hsh hd2 rfl hW hd (fun m' h => kk m' h)
theorem z_pV2 {a1 a2 : Value} {a ci N : Nat} {C : String} {T : u_T} (hy : zMV y2 b2 n2 r2 2) (hs : zSem l G (y2, b2, n2, r2) d2 [.ref a, a1, a2] mm (some v2) (fun m' => m' = mm)) (ho : own = y.cls) (hlink : Cond.methodLink own ix y2 ∈ zU) (hc : vwCl[ci]? = some (C, T, N)) (hC : C = y2.cls) (hci : ci < 8) (ha : a ∈ zL G) (hsh : zsh G a = (ci, N)) (hd2 : d2 < d) (hW : (st.map fun v => v.category).sum ≤ 8) (hd : decode cc pc = .ok (.invokevirtual ix, 3)) (kk : zV l G (y, cc, nL, ret) d rv Q (pc + 3) lv (v2 :: st) mm) : zV l G (y, cc, nL, ret) d rv Q pc lv (a2 :: a1 :: .ref a :: st) mm :=
  z_callV (As := [a1, a2]) hy hs ho hlink hc hC hci ha hsh hd2 rfl hW hd (fun m' h => by subst h; exact kk)
theorem z_uV2 {a1 a2 : Value} {a ci N : Nat} {C : String} {T : u_T} (hy : zMV y2 b2 n2 r2 2) (hs : zSem l G (y2, b2, n2, r2) d2 [.ref a, a1, a2] mm (some v2) Q2) (ho : own = y.cls) (hlink : Cond.methodLink own ix y2 ∈ zU) (hc : vwCl[ci]? = some (C, T, N)) (hC : C = y2.cls) (hci : ci < 8) (ha : a ∈ zL G) (hsh : zsh G a = (ci, N)) (hd2 : d2 < d) (hW : (st.map fun v => v.category).sum ≤ 8) (hd : decode cc pc = .ok (.invokevirtual ix, 3)) (kk : ∀ m', Q2 m' → zV l G (y, cc, nL, ret) d rv Q (pc + 3) lv (v2 :: st) m') : zV l G (y, cc, nL, ret) d rv Q pc lv (a2 :: a1 :: .ref a :: st) mm :=
  z_callV (As := [a1, a2]) hy hs ho hlink hc hC hci ha hsh hd2 rfl hW hd (fun m' h => kk m' h)
theorem z_vV2 {a1 a2 : Value} {a ci N : Nat} {C : String} {T : u_T} (hy : zMV y2 b2 n2 r2 2) (hs : zSem l G (y2, b2, n2, r2) d2 [.ref a, a1, a2] mm none Q2) (ho : own = y.cls) (hlink : Cond.methodLink own ix y2 ∈ zU) (hc : vwCl[ci]? = some (C, T, N)) (hC : C = y2.cls) (hci : ci < 8) (ha : a ∈ zL G) (hsh : zsh G a = (ci, N)) (hd2 : d2 < d) (hW : (st.map fun v => v.category).sum ≤ 8) (hd : decode cc pc = .ok (.invokevirtual ix, 3)) (kk : ∀ m', Q2 m' → zV l G (y, cc, nL, ret) d rv Q (pc + 3) lv st m') : zV l G (y, cc, nL, ret) d rv Q pc lv (a2 :: a1 :: .ref a :: st) mm :=
  z_callV (As := [a1, a2]) hy hs ho hlink hc hC hci ha hsh hd2 rfl hW hd (fun m' h => kk m' h)
theorem z_pV3 {a1 a2 a3 : Value} {a ci N : Nat} {C : String} {T : u_T} (hy : zMV y2 b2 n2 r2 3) (hs : zSem l G (y2, b2, n2, r2) d2 [.ref a, a1, a2, a3] mm (some v2) (fun m' => m' = mm)) (ho : own = y.cls) (hlink : Cond.methodLink own ix y2 ∈ zU) (hc : vwCl[ci]? = some (C, T, N)) (hC : C = y2.cls) (hci : ci < 8) (ha : a ∈ zL G) (hsh : zsh G a = (ci, N)) (hd2 : d2 < d) (hW : (st.map fun v => v.category).sum ≤ 8) (hd : decode cc pc = .ok (.invokevirtual ix, 3)) (kk : zV l G (y, cc, nL, ret) d rv Q (pc + 3) lv (v2 :: st) mm) : zV l G (y, cc, nL, ret) d rv Q pc lv (a3 :: a2 :: a1 :: .ref a :: st) mm :=
  z_callV (As := [a1, a2, a3]) hy hs ho hlink hc hC hci ha hsh hd2 rfl hW hd (fun m' h => by subst h; exact kk)
theorem z_uV3 {a1 a2 a3 : Value} {a ci N : Nat} {C : String} {T : u_T} (hy : zMV y2 b2 n2 r2 3) (hs : zSem l G (y2, b2, n2, r2) d2 [.ref a, a1, a2, a3] mm (some v2) Q2) (ho : own = y.cls) (hlink : Cond.methodLink own ix y2 ∈ zU) (hc : vwCl[ci]? = some (C, T, N)) (hC : C = y2.cls) (hci : ci < 8) (ha : a ∈ zL G) (hsh : zsh G a = (ci, N)) (hd2 : d2 < d) (hW : (st.map fun v => v.category).sum ≤ 8) (hd : decode cc pc = .ok (.invokevirtual ix, 3)) (kk : ∀ m', Q2 m' → zV l G (y, cc, nL, ret) d rv Q (pc + 3) lv (v2 :: st) m') : zV l G (y, cc, nL, ret) d rv Q pc lv (a3 :: a2 :: a1 :: .ref a :: st) mm :=
  z_callV (As := [a1, a2, a3]) hy hs ho hlink hc hC hci ha hsh hd2 rfl hW hd (fun m' h => kk m' h)
theorem z_vV3 {a1 a2 a3 : Value} {a ci N : Nat} {C : String} {T : u_T} (hy : zMV y2 b2 n2 r2 3) (hs : zSem l G (y2, b2, n2, r2) d2 [.ref a, a1, a2, a3] mm none Q2) (ho : own = y.cls) (hlink : Cond.methodLink own ix y2 ∈ zU) (hc : vwCl[ci]? = some (C, T, N)) (hC : C = y2.cls) (hci : ci < 8) (ha : a ∈ zL G) (hsh : zsh G a = (ci, N)) (hd2 : d2 < d) (hW : (st.map fun v => v.category).sum ≤ 8) (hd : decode cc pc = .ok (.invokevirtual ix, 3)) (kk : ∀ m', Q2 m' → zV l G (y, cc, nL, ret) d rv Q (pc + 3) lv st m') : zV l G (y, cc, nL, ret) d rv Q pc lv (a3 :: a2 :: a1 :: .ref a :: st) mm :=
  z_callV (As := [a1, a2, a3]) hy hs ho hlink hc hC hci ha hsh hd2 rfl hW hd (fun m' h => kk m' h)
theorem z_pV4 {a1 a2 a3 a4 : Value} {a ci N : Nat} {C : String} {T : u_T} (hy : zMV y2 b2 n2 r2 4) (hs : zSem l G (y2, b2, n2, r2) d2 [.ref a, a1, a2, a3, a4] mm (some v2) (fun m' => m' = mm)) (ho : own = y.cls) (hlink : Cond.methodLink own ix y2 ∈ zU) (hc : vwCl[ci]? = some (C, T, N)) (hC : C = y2.cls) (hci : ci < 8) (ha : a ∈ zL G) (hsh : zsh G a = (ci, N)) (hd2 : d2 < d) (hW : (st.map fun v => v.category).sum ≤ 8) (hd : decode cc pc = .ok (.invokevirtual ix, 3)) (kk : zV l G (y, cc, nL, ret) d rv Q (pc + 3) lv (v2 :: st) mm) : zV l G (y, cc, nL, ret) d rv Q pc lv (a4 :: a3 :: a2 :: a1 :: .ref a :: st) mm :=
  z_callV (As := [a1, a2, a3, a4]) hy hs ho hlink hc hC hci ha hsh hd2 rfl hW hd (fun m' h => by subst h; exact kk)
theorem z_uV4 {a1 a2 a3 a4 : Value} {a ci N : Nat} {C : String} {T : u_T} (hy : zMV y2 b2 n2 r2 4) (hs : zSem l G (y2, b2, n2, r2) d2 [.ref a, a1, a2, a3, a4] mm (some v2) Q2) (ho : own = y.cls) (hlink : Cond.methodLink own ix y2 ∈ zU) (hc : vwCl[ci]? = some (C, T, N)) (hC : C = y2.cls) (hci : ci < 8) (ha : a ∈ zL G) (hsh : zsh G a = (ci, N)) (hd2 : d2 < d) (hW : (st.map fun v => v.category).sum ≤ 8) (hd : decode cc pc = .ok (.invokevirtual ix, 3)) (kk : ∀ m', Q2 m' → zV l G (y, cc, nL, ret) d rv Q (pc + 3) lv (v2 :: st) m') : zV l G (y, cc, nL, ret) d rv Q pc lv (a4 :: a3 :: a2 :: a1 :: .ref a :: st) mm :=
  z_callV (As := [a1, a2, a3, a4]) hy hs ho hlink hc hC hci ha hsh hd2 rfl hW hd (fun m' h => kk m' h)
theorem z_vV4 {a1 a2 a3 a4 : Value} {a ci N : Nat} {C : String} {T : u_T} (hy : zMV y2 b2 n2 r2 4) (hs : zSem l G (y2, b2, n2, r2) d2 [.ref a, a1, a2, a3, a4] mm none Q2) (ho : own = y.cls) (hlink : Cond.methodLink own ix y2 ∈ zU) (hc : vwCl[ci]? = some (C, T, N)) (hC : C = y2.cls) (hci : ci < 8) (ha : a ∈ zL G) (hsh : zsh G a = (ci, N)) (hd2 : d2 < d) (hW : (st.map fun v => v.category).sum ≤ 8) (hd : decode cc pc = .ok (.invokevirtual ix, 3)) (kk : ∀ m', Q2 m' → zV l G (y, cc, nL, ret) d rv Q (pc + 3) lv st m') : zV l G (y, cc, nL, ret) d rv Q pc lv (a4 :: a3 :: a2 :: a1 :: .ref a :: st) mm :=
  z_callV (As := [a1, a2, a3, a4]) hy hs ho hlink hc hC hci ha hsh hd2 rfl hW hd (fun m' h => kk m' h)
theorem z_pV5 {a1 a2 a3 a4 a5 : Value} {a ci N : Nat} {C : String} {T : u_T} (hy : zMV y2 b2 n2 r2 5) (hs : zSem l G (y2, b2, n2, r2) d2 [.ref a, a1, a2, a3, a4, a5] mm (some v2) (fun m' => m' = mm)) (ho : own = y.cls) (hlink : Cond.methodLink own ix y2 ∈ zU) (hc : vwCl[ci]? = some (C, T, N)) (hC : C = y2.cls) (hci : ci < 8) (ha : a ∈ zL G) (hsh : zsh G a = (ci, N)) (hd2 : d2 < d) (hW : (st.map fun v => v.category).sum ≤ 8) (hd : decode cc pc = .ok (.invokevirtual ix, 3)) (kk : zV l G (y, cc, nL, ret) d rv Q (pc + 3) lv (v2 :: st) mm) : zV l G (y, cc, nL, ret) d rv Q pc lv (a5 :: a4 :: a3 :: a2 :: a1 :: .ref a :: st) mm :=
  z_callV (As := [a1, a2, a3, a4, a5]) hy hs ho hlink hc hC hci ha hsh hd2 rfl hW hd (fun m' h => by subst h; exact kk)
theorem z_uV5 {a1 a2 a3 a4 a5 : Value} {a ci N : Nat} {C : String} {T : u_T} (hy : zMV y2 b2 n2 r2 5) (hs : zSem l G (y2, b2, n2, r2) d2 [.ref a, a1, a2, a3, a4, a5] mm (some v2) Q2) (ho : own = y.cls) (hlink : Cond.methodLink own ix y2 ∈ zU) (hc : vwCl[ci]? = some (C, T, N)) (hC : C = y2.cls) (hci : ci < 8) (ha : a ∈ zL G) (hsh : zsh G a = (ci, N)) (hd2 : d2 < d) (hW : (st.map fun v => v.category).sum ≤ 8) (hd : decode cc pc = .ok (.invokevirtual ix, 3)) (kk : ∀ m', Q2 m' → zV l G (y, cc, nL, ret) d rv Q (pc + 3) lv (v2 :: st) m') : zV l G (y, cc, nL, ret) d rv Q pc lv (a5 :: a4 :: a3 :: a2 :: a1 :: .ref a :: st) mm :=
  z_callV (As := [a1, a2, a3, a4, a5]) hy hs ho hlink hc hC hci ha hsh hd2 rfl hW hd (fun m' h => kk m' h)
theorem z_vV5 {a1 a2 a3 a4 a5 : Value} {a ci N : Nat} {C : String} {T : u_T} (hy : zMV y2 b2 n2 r2 5) (hs : zSem l G (y2, b2, n2, r2) d2 [.ref a, a1, a2, a3, a4, a5] mm none Q2) (ho : own = y.cls) (hlink : Cond.methodLink own ix y2 ∈ zU) (hc : vwCl[ci]? = some (C, T, N)) (hC : C = y2.cls) (hci : ci < 8) (ha : a ∈ zL G) (hsh : zsh G a = (ci, N)) (hd2 : d2 < d) (hW : (st.map fun v => v.category).sum ≤ 8) (hd : decode cc pc = .ok (.invokevirtual ix, 3)) (kk : ∀ m', Q2 m' → zV l G (y, cc, nL, ret) d rv Q (pc + 3) lv st m') : zV l G (y, cc, nL, ret) d rv Q pc lv (a5 :: a4 :: a3 :: a2 :: a1 :: .ref a :: st) mm :=
  z_callV (As := [a1, a2, a3, a4, a5]) hy hs ho hlink hc hC hci ha hsh hd2 rfl hW hd (fun m' h => kk m' h)
theorem z_pS1 {a1 : Value} (hy : zMS y2 b2 n2 r2 1) (hs : zSem l G (y2, b2, n2, r2) d2 [a1] mm (some v2) (fun m' => m' = mm)) (ho : own = y.cls) (hlink : Cond.methodLink own ix y2 ∈ zU) (hd2 : d2 < d) (hW : (st.map fun v => v.category).sum ≤ 8) (hd : decode cc pc = .ok (.invokestatic ix, 3)) (kk : zV l G (y, cc, nL, ret) d rv Q (pc + 3) lv (v2 :: st) mm) : zV l G (y, cc, nL, ret) d rv Q pc lv (a1 :: st) mm :=
  z_callS (As := [a1]) hy hs ho hlink hd2 rfl hW hd (fun m' h => by subst h; exact kk)
theorem z_pN1 {a1 : Value} {host : String} (hy : zMS y2 b2 n2 r2 1) (hs : zSem l G (y2, b2, n2, r2) d2 [a1] mm (some v2) (fun m' => m' = mm)) (ho : own = y.cls) (hlink : Cond.methodLinkNest own ix y2 host ∈ zN) (hd2 : d2 < d) (hW : (st.map fun v => v.category).sum ≤ 8) (hd : decode cc pc = .ok (.invokestatic ix, 3)) (kk : zV l G (y, cc, nL, ret) d rv Q (pc + 3) lv (v2 :: st) mm) : zV l G (y, cc, nL, ret) d rv Q pc lv (a1 :: st) mm :=
  z_callSN (As := [a1]) hy hs ho hlink hd2 rfl hW hd (fun m' h => by subst h; exact kk)
theorem z_vN1 {a1 : Value} {host : String} (hy : zMS y2 b2 n2 r2 1) (hs : zSem l G (y2, b2, n2, r2) d2 [a1] mm none Q2) (ho : own = y.cls) (hlink : Cond.methodLinkNest own ix y2 host ∈ zN) (hd2 : d2 < d) (hW : (st.map fun v => v.category).sum ≤ 8) (hd : decode cc pc = .ok (.invokestatic ix, 3)) (kk : ∀ m', Q2 m' → zV l G (y, cc, nL, ret) d rv Q (pc + 3) lv st m') : zV l G (y, cc, nL, ret) d rv Q pc lv (a1 :: st) mm :=
  z_callSN (As := [a1]) hy hs ho hlink hd2 rfl hW hd (fun m' h => kk m' h)
theorem z_pS2 {a1 a2 : Value} (hy : zMS y2 b2 n2 r2 2) (hs : zSem l G (y2, b2, n2, r2) d2 [a1, a2] mm (some v2) (fun m' => m' = mm)) (ho : own = y.cls) (hlink : Cond.methodLink own ix y2 ∈ zU) (hd2 : d2 < d) (hW : (st.map fun v => v.category).sum ≤ 8) (hd : decode cc pc = .ok (.invokestatic ix, 3)) (kk : zV l G (y, cc, nL, ret) d rv Q (pc + 3) lv (v2 :: st) mm) : zV l G (y, cc, nL, ret) d rv Q pc lv (a2 :: a1 :: st) mm :=
  z_callS (As := [a1, a2]) hy hs ho hlink hd2 rfl hW hd (fun m' h => by subst h; exact kk)
theorem z_pN2 {a1 a2 : Value} {host : String} (hy : zMS y2 b2 n2 r2 2) (hs : zSem l G (y2, b2, n2, r2) d2 [a1, a2] mm (some v2) (fun m' => m' = mm)) (ho : own = y.cls) (hlink : Cond.methodLinkNest own ix y2 host ∈ zN) (hd2 : d2 < d) (hW : (st.map fun v => v.category).sum ≤ 8) (hd : decode cc pc = .ok (.invokestatic ix, 3)) (kk : zV l G (y, cc, nL, ret) d rv Q (pc + 3) lv (v2 :: st) mm) : zV l G (y, cc, nL, ret) d rv Q pc lv (a2 :: a1 :: st) mm :=
  z_callSN (As := [a1, a2]) hy hs ho hlink hd2 rfl hW hd (fun m' h => by subst h; exact kk)
theorem z_vN2 {a1 a2 : Value} {host : String} (hy : zMS y2 b2 n2 r2 2) (hs : zSem l G (y2, b2, n2, r2) d2 [a1, a2] mm none Q2) (ho : own = y.cls) (hlink : Cond.methodLinkNest own ix y2 host ∈ zN) (hd2 : d2 < d) (hW : (st.map fun v => v.category).sum ≤ 8) (hd : decode cc pc = .ok (.invokestatic ix, 3)) (kk : ∀ m', Q2 m' → zV l G (y, cc, nL, ret) d rv Q (pc + 3) lv st m') : zV l G (y, cc, nL, ret) d rv Q pc lv (a2 :: a1 :: st) mm :=
  z_callSN (As := [a1, a2]) hy hs ho hlink hd2 rfl hW hd (fun m' h => kk m' h)
theorem z_pS3 {a1 a2 a3 : Value} (hy : zMS y2 b2 n2 r2 3) (hs : zSem l G (y2, b2, n2, r2) d2 [a1, a2, a3] mm (some v2) (fun m' => m' = mm)) (ho : own = y.cls) (hlink : Cond.methodLink own ix y2 ∈ zU) (hd2 : d2 < d) (hW : (st.map fun v => v.category).sum ≤ 8) (hd : decode cc pc = .ok (.invokestatic ix, 3)) (kk : zV l G (y, cc, nL, ret) d rv Q (pc + 3) lv (v2 :: st) mm) : zV l G (y, cc, nL, ret) d rv Q pc lv (a3 :: a2 :: a1 :: st) mm :=
  z_callS (As := [a1, a2, a3]) hy hs ho hlink hd2 rfl hW hd (fun m' h => by subst h; exact kk)
theorem z_pN3 {a1 a2 a3 : Value} {host : String} (hy : zMS y2 b2 n2 r2 3) (hs : zSem l G (y2, b2, n2, r2) d2 [a1, a2, a3] mm (some v2) (fun m' => m' = mm)) (ho : own = y.cls) (hlink : Cond.methodLinkNest own ix y2 host ∈ zN) (hd2 : d2 < d) (hW : (st.map fun v => v.category).sum ≤ 8) (hd : decode cc pc = .ok (.invokestatic ix, 3)) (kk : zV l G (y, cc, nL, ret) d rv Q (pc + 3) lv (v2 :: st) mm) : zV l G (y, cc, nL, ret) d rv Q pc lv (a3 :: a2 :: a1 :: st) mm :=
  z_callSN (As := [a1, a2, a3]) hy hs ho hlink hd2 rfl hW hd (fun m' h => by subst h; exact kk)
theorem z_vN3 {a1 a2 a3 : Value} {host : String} (hy : zMS y2 b2 n2 r2 3) (hs : zSem l G (y2, b2, n2, r2) d2 [a1, a2, a3] mm none Q2) (ho : own = y.cls) (hlink : Cond.methodLinkNest own ix y2 host ∈ zN) (hd2 : d2 < d) (hW : (st.map fun v => v.category).sum ≤ 8) (hd : decode cc pc = .ok (.invokestatic ix, 3)) (kk : ∀ m', Q2 m' → zV l G (y, cc, nL, ret) d rv Q (pc + 3) lv st m') : zV l G (y, cc, nL, ret) d rv Q pc lv (a3 :: a2 :: a1 :: st) mm :=
  z_callSN (As := [a1, a2, a3]) hy hs ho hlink hd2 rfl hW hd (fun m' h => kk m' h)
end ZA
/-! numbers -/
theorem nI_mul (a b : Nat) : nI a * nI b = nI (a * b) := (Int32.ofNat_mul a b).symm
section ZNI
variable {l : Launch} {G : zG} {y : MethodName} {cc : ByteArray} {nL : Nat} {ret : Option FieldType} {d : Nat} {rv : Option Value} {Q : zM → Prop} {pc : Nat} {lv : List (Option Value)} {st : List Value} {mm : zM}
theorem z_iaddN {a b : Nat} (hd : decode cc pc = .ok (.iadd, 1)) (k : zV l G (y, cc, nL, ret) d rv Q (pc + 1) lv (.int (nI (a + b)) :: st) mm) : zV l G (y, cc, nL, ret) d rv Q pc lv (.int (nI b) :: .int (nI a) :: st) mm := z_iadd hd (by rw [nI_add]; exact k)
theorem z_imulN {a b : Nat} (hd : decode cc pc = .ok (.imul, 1)) (k : zV l G (y, cc, nL, ret) d rv Q (pc + 1) lv (.int (nI (a * b)) :: st) mm) : zV l G (y, cc, nL, ret) d rv Q pc lv (.int (nI b) :: .int (nI a) :: st) mm := z_imul hd (by rw [nI_mul]; exact k)
theorem z_iincN {a n : Nat} (i : Nat) {lv' : List (Option Value)} (hi : lv[i]? = some (some (.int (nI a)))) (he : lv.set i (some (.int (nI (a + n)))) = lv') (hd : decode cc pc = .ok (.iinc i (n : Int), 3)) (k : zV l G (y, cc, nL, ret) d rv Q (pc + 3) lv' st mm) : zV l G (y, cc, nL, ret) d rv Q pc lv st mm :=
  z_iinc i hi (by rw [show Int32.ofInt (n : Int) = nI n from rfl, nI_add]) he hd k
end ZNI
/-! ===== the reference's picture: its object, its seven arrays ===== -/
def zMsh (j : Nat) : Nat × Nat := if j = 0 then (7, 15) else if j = 3 then (9, 2428) else if j = 5 then (9, 60) else if j = 6 then (9, 4) else if j = 7 then (9, 4) else (9, 607)
/-- which array a field holds, 0: it holds a number -/
def zMrf (k : Nat) : Nat := if k = 0 then 1 else if k = 1 then 2 else if k = 2 then 3 else if k = 4 then 4 else if k = 6 then 5 else if k = 8 then 6 else if k = 9 then 7 else 0
def suS (S : Nat → Nat → Int32) (j i : Nat) (x : Int32) : Nat → Nat → Int32 := fun b k => if b = j ∧ k = i then x else S b k
/-- v: the row of numbers; S j: array j (2 spare, 3 history, 4 kept, 5 text), S 0: the object's own numbers; m0: all else -/
def zMP (G : zG) (A : Nat → Nat) (m0 : zM) (v : Nat → Int32) (S : Nat → Nat → Int32) (mm : zM) : Prop :=
  (∀ j, j < 8 → A j ∈ zL G) ∧ (∀ j, j < 8 → zsh G (A j) = zMsh j) ∧ (∀ i j, i < 8 → j < 8 → A i = A j → i = j) ∧
  (∀ k, k < 15 → 0 < zMrf k → mm (A 0) k = .ref (A (zMrf k))) ∧ (∀ k, k < 15 → zMrf k = 0 → mm (A 0) k = .int (S 0 k)) ∧ (∀ i, i < 607 → mm (A 1) i = .int (v i)) ∧
  (∀ j i, 2 ≤ j → j < 6 → i < (zMsh j).2 → mm (A j) i = .int (S j i)) ∧ (∀ i, i < 4 → mm (A 6) i = .int (zLow i)) ∧ (∀ i, i < 4 → mm (A 7) i = .int (zHigh i)) ∧ ∀ b, (∀ j, j < 8 → b ≠ A j) → mm b = m0 b
theorem zMP.setv {G : zG} {A : Nat → Nat} {m0 mm : zM} {v : Nat → Int32} {S : Nat → Nat → Int32} (h : zMP G A m0 v S mm) (n : Nat) (x : Int32) : zMP G A m0 (upd v n x) S (zup mm (A 1) n (.int x)) := by
  obtain ⟨h1, h2, h3, h4, h5, h6, h7, h8, h9, h10⟩ := h
  have ne : ∀ i, i < 8 → i ≠ 1 → A i ≠ A 1 := fun i hi hn e => hn (h3 i 1 hi (by decide) e)
  refine ⟨h1, h2, h3, fun k hk hr => ?_, fun k hk hr => ?_, fun i hi => ?_, fun j i hj hj6 hi => ?_, fun i hi => ?_, fun i hi => ?_, fun b hb => ?_⟩
  · rw [zup_ne (fun q => ne 0 (by decide) (by decide) q.1)]; exact h4 k hk hr
  · rw [zup_ne (fun q => ne 0 (by decide) (by decide) q.1)]; exact h5 k hk hr
  · by_cases e : i = n
    · subst e; rw [zup_eq]; simp [upd]
    · rw [zup_ne (fun q => e q.2), h6 i hi]; simp [upd, e]
  · rw [zup_ne (fun q => ne j (by omega) (by omega) q.1)]; exact h7 j i hj hj6 hi
  · rw [zup_ne (fun q => ne 6 (by decide) (by decide) q.1)]; exact h8 i hi
  · rw [zup_ne (fun q => ne 7 (by decide) (by decide) q.1)]; exact h9 i hi
  · have e : zup mm (A 1) n (.int x) b = mm b := by funext j; exact zup_ne (fun q => hb 1 (by decide) q.1)
    rw [e]; exact h10 b hb
theorem zMP.setS {G : zG} {A : Nat → Nat} {m0 mm : zM} {v : Nat → Int32} {S : Nat → Nat → Int32} (h : zMP G A m0 v S mm) {j : Nat} (h2j : 2 ≤ j) (hj6 : j < 6) (n : Nat) (x : Int32) : zMP G A m0 v (suS S j n x) (zup mm (A j) n (.int x)) := by
  obtain ⟨h1, h2, h3, h4, h5, h6, h7, h8, h9, h10⟩ := h
  have ne : ∀ i, i < 8 → i ≠ j → A i ≠ A j := fun i hi hn e => hn (h3 i j hi (by omega) e)
  refine ⟨h1, h2, h3, fun k hk hr => ?_, fun k hk hr => ?_, fun i hi => ?_, fun j' i hj hj6' hi => ?_, fun i hi => ?_, fun i hi => ?_, fun b hb => ?_⟩
  · rw [zup_ne (fun q => ne 0 (by decide) (by omega) q.1)]; exact h4 k hk hr
  · rw [zup_ne (fun q => ne 0 (by decide) (by omega) q.1), h5 k hk hr]
    have e : ¬ (0 = j ∧ k = n) := fun q => by omega
    simp [suS, e]
  · rw [zup_ne (fun q => ne 1 (by decide) (by omega) q.1)]; exact h6 i hi
  · by_cases e : j' = j ∧ i = n
    · obtain ⟨rfl, rfl⟩ := e; rw [zup_eq]; simp [suS]
    · rw [zup_ne (fun q => e ⟨h3 j' j (by omega) (by omega) q.1, q.2⟩), h7 j' i hj hj6' hi]; simp [suS, e]
  · rw [zup_ne (fun q => ne 6 (by decide) (by omega) q.1)]; exact h8 i hi
  · rw [zup_ne (fun q => ne 7 (by decide) (by omega) q.1)]; exact h9 i hi
  · have e : zup mm (A j) n (.int x) b = mm b := by funext k; exact zup_ne (fun q => hb j (by omega) q.1)
    rw [e]; exact h10 b hb
theorem zMP.setF {G : zG} {A : Nat → Nat} {m0 mm : zM} {v : Nat → Int32} {S : Nat → Nat → Int32} (h : zMP G A m0 v S mm) {n : Nat} (hr0 : zMrf n = 0) (x : Int32) : zMP G A m0 v (suS S 0 n x) (zup mm (A 0) n (.int x)) := by
  obtain ⟨h1, h2, h3, h4, h5, h6, h7, h8, h9, h10⟩ := h
  have ne : ∀ i, i < 8 → i ≠ 0 → A i ≠ A 0 := fun i hi hn e => hn (h3 i 0 hi (by omega) e)
  refine ⟨h1, h2, h3, fun k hk hr => ?_, fun k hk hr => ?_, fun i hi => ?_, fun j' i hj hj6' hi => ?_, fun i hi => ?_, fun i hi => ?_, fun b hb => ?_⟩
  · rw [zup_ne (fun q => by have e := q.2; subst e; omega)]; exact h4 k hk hr
  · by_cases e : k = n
    · subst e; rw [zup_eq]; simp [suS]
    · rw [zup_ne (fun q => e q.2), h5 k hk hr]; simp [suS, e]
  · rw [zup_ne (fun q => ne 1 (by decide) (by omega) q.1)]; exact h6 i hi
  · rw [zup_ne (fun q => ne j' (by omega) (by omega) q.1), h7 j' i hj hj6' hi]
    have e : ¬ (j' = 0 ∧ i = n) := fun q => by omega
    simp [suS, e]
  · rw [zup_ne (fun q => ne 6 (by decide) (by omega) q.1)]; exact h8 i hi
  · rw [zup_ne (fun q => ne 7 (by decide) (by omega) q.1)]; exact h9 i hi
  · have e : zup mm (A 0) n (.int x) b = mm b := by funext k; exact zup_ne (fun q => hb 0 (by omega) q.1)
    rw [e]; exact h10 b hb
section ZMR
variable {l : Launch} {G : zG} {y : MethodName} {cc : ByteArray} {nL : Nat} {ret : Option FieldType} {d : Nat} {rv : Option Value} {Q : zM → Prop} {pc : Nat} {lv : List (Option Value)} {st : List Value} {mm m0 : zM} {A : Nat → Nat} {v : Nat → Int32} {S : Nat → Nat → Int32} {ix : Nat}
theorem zM_ref (k j : Nat) (hp : zMP G A m0 v S mm) (hk : k < 15) (hj : zMrf k = j) (hj0 : 0 < j) (hself : (TX7 k).1 = RX7) (ho : RX7 = y.cls) (hlink : Cond.fieldLink RX7 ix RX7 (TX7 k).2.1 (TX7 k).2.2.1 ∈ zU) (hd : decode cc pc = .ok (.getfield ix, 3)) (kk : zV l G (y, cc, nL, ret) d rv Q (pc + 3) lv (.ref (A j) :: st) mm) : zV l G (y, cc, nL, ret) d rv Q pc lv (.ref (A 0) :: st) mm := by
  subst hj
  exact z_get (ci := 7) zin7 rfl (by decide) hk hself ho hlink (hp.1 0 (by decide)) (hp.2.1 0 (by decide)) (hp.2.2.2.1 k hk hj0) hd kk
theorem zM_int (k : Nat) (hp : zMP G A m0 v S mm) (hk : k < 15) (hj : zMrf k = 0) (hself : (TX7 k).1 = RX7) (ho : RX7 = y.cls) (hlink : Cond.fieldLink RX7 ix RX7 (TX7 k).2.1 (TX7 k).2.2.1 ∈ zU) (hd : decode cc pc = .ok (.getfield ix, 3)) (kk : zV l G (y, cc, nL, ret) d rv Q (pc + 3) lv (.int (S 0 k) :: st) mm) : zV l G (y, cc, nL, ret) d rv Q pc lv (.ref (A 0) :: st) mm :=
  z_get (ci := 7) zin7 rfl (by decide) hk hself ho hlink (hp.1 0 (by decide)) (hp.2.1 0 (by decide)) (hp.2.2.2.2.1 k hk hj) hd kk
theorem zM_put (k : Nat) {x : Int32} (hp : zMP G A m0 v S mm) (hk : k < 15) (hj : zMrf k = 0) (hself : (TX7 k).1 = RX7) (hfin : (TX7 k).2.2.2 = false) {ty : FieldType} (hds : parseFieldDescriptor (TX7 k).2.2.1 = some ty) (hn : narrow ty (.int x) = .int x) (hfit : fits ty (.int x) = true) (ho : RX7 = y.cls) (hlink : Cond.fieldLink RX7 ix RX7 (TX7 k).2.1 (TX7 k).2.2.1 ∈ zU) (hd : decode cc pc = .ok (.putfield ix, 3)) (kk : ∀ mm', zMP G A m0 v (suS S 0 k x) mm' → zV l G (y, cc, nL, ret) d rv Q (pc + 3) lv st mm') : zV l G (y, cc, nL, ret) d rv Q pc lv (.int x :: .ref (A 0) :: st) mm :=
  z_put (ci := 7) zin7 tyX7_ok nmX7 rfl (by decide) hk hself hfin hds hn hfit ho hlink (hp.1 0 (by decide)) (hp.2.1 0 (by decide)) hd (kk _ (hp.setF hj x))
theorem zM_vld {n : Nat} (hp : zMP G A m0 v S mm) (hn : n < 607) (hd : decode cc pc = .ok (.iaload, 1)) (kk : zV l G (y, cc, nL, ret) d rv Q (pc + 1) lv (.int (v n) :: st) mm) : zV l G (y, cc, nL, ret) d rv Q pc lv (.int (nI n) :: .ref (A 1) :: st) mm :=
  z_iald (hp.1 1 (by decide)) (hp.2.1 1 (by decide)) rfl hn (by decide) (hp.2.2.2.2.2.1 n hn) hd kk
theorem zM_vst {n : Nat} {x : Int32} (hp : zMP G A m0 v S mm) (hn : n < 607) (hd : decode cc pc = .ok (.iastore, 1)) (kk : ∀ mm', zMP G A m0 (upd v n x) S mm' → zV l G (y, cc, nL, ret) d rv Q (pc + 1) lv st mm') : zV l G (y, cc, nL, ret) d rv Q pc lv (.int x :: .int (nI n) :: .ref (A 1) :: st) mm :=
  z_iast (hp.1 1 (by decide)) (hp.2.1 1 (by decide)) rfl hn (by decide) hd (kk _ (hp.setv n x))
theorem zM_ald (j N : Nat) {n : Nat} (hp : zMP G A m0 v S mm) (hj : 2 ≤ j) (hj6 : j < 6) (hN : zMsh j = (9, N)) (hN31 : N < 2 ^ 31) (hn : n < N) (hd : decode cc pc = .ok (.iaload, 1)) (kk : zV l G (y, cc, nL, ret) d rv Q (pc + 1) lv (.int (S j n) :: st) mm) : zV l G (y, cc, nL, ret) d rv Q pc lv (.int (nI n) :: .ref (A j) :: st) mm :=
  z_iald (hp.1 j (by omega)) ((hp.2.1 j (by omega)).trans hN) rfl hn hN31 (hp.2.2.2.2.2.2.1 j n hj hj6 (by rw [hN]; exact hn)) hd kk
theorem zM_ast (j N : Nat) {n : Nat} {x : Int32} (hp : zMP G A m0 v S mm) (hj : 2 ≤ j) (hj6 : j < 6) (hN : zMsh j = (9, N)) (hN31 : N < 2 ^ 31) (hn : n < N) (hd : decode cc pc = .ok (.iastore, 1)) (kk : ∀ mm', zMP G A m0 v (suS S j n x) mm' → zV l G (y, cc, nL, ret) d rv Q (pc + 1) lv st mm') : zV l G (y, cc, nL, ret) d rv Q pc lv (.int x :: .int (nI n) :: .ref (A j) :: st) mm :=
  z_iast (hp.1 j (by omega)) ((hp.2.1 j (by omega)).trans hN) rfl hn hN31 hd (kk _ (hp.setS hj hj6 n x))
theorem zM_lold {n : Nat} (hp : zMP G A m0 v S mm) (hn : n < 4) (hd : decode cc pc = .ok (.iaload, 1)) (kk : zV l G (y, cc, nL, ret) d rv Q (pc + 1) lv (.int (zLow n) :: st) mm) : zV l G (y, cc, nL, ret) d rv Q pc lv (.int (nI n) :: .ref (A 6) :: st) mm :=
  z_iald (hp.1 6 (by decide)) (hp.2.1 6 (by decide)) rfl hn (by decide) (hp.2.2.2.2.2.2.2.1 n hn) hd kk
theorem zM_hild {n : Nat} (hp : zMP G A m0 v S mm) (hn : n < 4) (hd : decode cc pc = .ok (.iaload, 1)) (kk : zV l G (y, cc, nL, ret) d rv Q (pc + 1) lv (.int (zHigh n) :: st) mm) : zV l G (y, cc, nL, ret) d rv Q pc lv (.int (nI n) :: .ref (A 7) :: st) mm :=
  z_iald (hp.1 7 (by decide)) (hp.2.1 7 (by decide)) rfl hn (by decide) (hp.2.2.2.2.2.2.2.2.1 n hn) hd kk
theorem zM_p0 {y2 : MethodName} {b2 : ByteArray} {n2 d2 : Nat} {r2 : Option FieldType} {v2 : Value} (hy : zMV y2 b2 n2 r2 0) (hs : zSem l G (y2, b2, n2, r2) d2 [.ref (A 0)] mm (some v2) (fun m' => m' = mm)) (hp : zMP G A m0 v S mm) (ho : RX7 = y.cls) (ho2 : RX7 = y2.cls) (hlink : Cond.methodLink RX7 ix y2 ∈ zU) (hd2 : d2 < d) (hW : (st.map fun v => v.category).sum ≤ 8) (hd : decode cc pc = .ok (.invokevirtual ix, 3)) (kk : zV l G (y, cc, nL, ret) d rv Q (pc + 3) lv (v2 :: st) mm) : zV l G (y, cc, nL, ret) d rv Q pc lv (.ref (A 0) :: st) mm :=
  z_pV0 hy hs ho hlink (ci := 7) rfl ho2 (by decide) (hp.1 0 (by decide)) (hp.2.1 0 (by decide)) hd2 hW hd kk
theorem zM_u0 {y2 : MethodName} {b2 : ByteArray} {n2 d2 : Nat} {r2 : Option FieldType} {Q2 : zM → Prop} {v2 : Value} (hy : zMV y2 b2 n2 r2 0) (hs : zSem l G (y2, b2, n2, r2) d2 [.ref (A 0)] mm (some v2) Q2) (hp : zMP G A m0 v S mm) (ho : RX7 = y.cls) (ho2 : RX7 = y2.cls) (hlink : Cond.methodLink RX7 ix y2 ∈ zU) (hd2 : d2 < d) (hW : (st.map fun v => v.category).sum ≤ 8) (hd : decode cc pc = .ok (.invokevirtual ix, 3)) (kk : ∀ m', Q2 m' → zV l G (y, cc, nL, ret) d rv Q (pc + 3) lv (v2 :: st) m') : zV l G (y, cc, nL, ret) d rv Q pc lv (.ref (A 0) :: st) mm :=
  z_uV0 hy hs ho hlink (ci := 7) rfl ho2 (by decide) (hp.1 0 (by decide)) (hp.2.1 0 (by decide)) hd2 hW hd kk
theorem zM_v0 {y2 : MethodName} {b2 : ByteArray} {n2 d2 : Nat} {r2 : Option FieldType} {Q2 : zM → Prop} (hy : zMV y2 b2 n2 r2 0) (hs : zSem l G (y2, b2, n2, r2) d2 [.ref (A 0)] mm none Q2) (hp : zMP G A m0 v S mm) (ho : RX7 = y.cls) (ho2 : RX7 = y2.cls) (hlink : Cond.methodLink RX7 ix y2 ∈ zU) (hd2 : d2 < d) (hW : (st.map fun v => v.category).sum ≤ 8) (hd : decode cc pc = .ok (.invokevirtual ix, 3)) (kk : ∀ m', Q2 m' → zV l G (y, cc, nL, ret) d rv Q (pc + 3) lv st m') : zV l G (y, cc, nL, ret) d rv Q pc lv (.ref (A 0) :: st) mm :=
  z_vV0 hy hs ho hlink (ci := 7) rfl ho2 (by decide) (hp.1 0 (by decide)) (hp.2.1 0 (by decide)) hd2 hW hd kk
theorem zM_p1 {y2 : MethodName} {b2 : ByteArray} {n2 d2 : Nat} {r2 : Option FieldType} {v2 : Value} {a1 : Value} (hy : zMV y2 b2 n2 r2 1) (hs : zSem l G (y2, b2, n2, r2) d2 [.ref (A 0), a1] mm (some v2) (fun m' => m' = mm)) (hp : zMP G A m0 v S mm) (ho : RX7 = y.cls) (ho2 : RX7 = y2.cls) (hlink : Cond.methodLink RX7 ix y2 ∈ zU) (hd2 : d2 < d) (hW : (st.map fun v => v.category).sum ≤ 8) (hd : decode cc pc = .ok (.invokevirtual ix, 3)) (kk : zV l G (y, cc, nL, ret) d rv Q (pc + 3) lv (v2 :: st) mm) : zV l G (y, cc, nL, ret) d rv Q pc lv (a1 :: .ref (A 0) :: st) mm :=
  z_pV1 hy hs ho hlink (ci := 7) rfl ho2 (by decide) (hp.1 0 (by decide)) (hp.2.1 0 (by decide)) hd2 hW hd kk
theorem zM_u1 {y2 : MethodName} {b2 : ByteArray} {n2 d2 : Nat} {r2 : Option FieldType} {Q2 : zM → Prop} {v2 : Value} {a1 : Value} (hy : zMV y2 b2 n2 r2 1) (hs : zSem l G (y2, b2, n2, r2) d2 [.ref (A 0), a1] mm (some v2) Q2) (hp : zMP G A m0 v S mm) (ho : RX7 = y.cls) (ho2 : RX7 = y2.cls) (hlink : Cond.methodLink RX7 ix y2 ∈ zU) (hd2 : d2 < d) (hW : (st.map fun v => v.category).sum ≤ 8) (hd : decode cc pc = .ok (.invokevirtual ix, 3)) (kk : ∀ m', Q2 m' → zV l G (y, cc, nL, ret) d rv Q (pc + 3) lv (v2 :: st) m') : zV l G (y, cc, nL, ret) d rv Q pc lv (a1 :: .ref (A 0) :: st) mm :=
  z_uV1 hy hs ho hlink (ci := 7) rfl ho2 (by decide) (hp.1 0 (by decide)) (hp.2.1 0 (by decide)) hd2 hW hd kk
theorem zM_v1 {y2 : MethodName} {b2 : ByteArray} {n2 d2 : Nat} {r2 : Option FieldType} {Q2 : zM → Prop} {a1 : Value} (hy : zMV y2 b2 n2 r2 1) (hs : zSem l G (y2, b2, n2, r2) d2 [.ref (A 0), a1] mm none Q2) (hp : zMP G A m0 v S mm) (ho : RX7 = y.cls) (ho2 : RX7 = y2.cls) (hlink : Cond.methodLink RX7 ix y2 ∈ zU) (hd2 : d2 < d) (hW : (st.map fun v => v.category).sum ≤ 8) (hd : decode cc pc = .ok (.invokevirtual ix, 3)) (kk : ∀ m', Q2 m' → zV l G (y, cc, nL, ret) d rv Q (pc + 3) lv st m') : zV l G (y, cc, nL, ret) d rv Q pc lv (a1 :: .ref (A 0) :: st) mm :=
  z_vV1 hy hs ho hlink (ci := 7) rfl ho2 (by decide) (hp.1 0 (by decide)) (hp.2.1 0 (by decide)) hd2 hW hd kk
theorem zM_p2 {y2 : MethodName} {b2 : ByteArray} {n2 d2 : Nat} {r2 : Option FieldType} {v2 : Value} {a1 a2 : Value} (hy : zMV y2 b2 n2 r2 2) (hs : zSem l G (y2, b2, n2, r2) d2 [.ref (A 0), a1, a2] mm (some v2) (fun m' => m' = mm)) (hp : zMP G A m0 v S mm) (ho : RX7 = y.cls) (ho2 : RX7 = y2.cls) (hlink : Cond.methodLink RX7 ix y2 ∈ zU) (hd2 : d2 < d) (hW : (st.map fun v => v.category).sum ≤ 8) (hd : decode cc pc = .ok (.invokevirtual ix, 3)) (kk : zV l G (y, cc, nL, ret) d rv Q (pc + 3) lv (v2 :: st) mm) : zV l G (y, cc, nL, ret) d rv Q pc lv (a2 :: a1 :: .ref (A 0) :: st) mm :=
  z_pV2 hy hs ho hlink (ci := 7) rfl ho2 (by decide) (hp.1 0 (by decide)) (hp.2.1 0 (by decide)) hd2 hW hd kk
theorem zM_u2 {y2 : MethodName} {b2 : ByteArray} {n2 d2 : Nat} {r2 : Option FieldType} {Q2 : zM → Prop} {v2 : Value} {a1 a2 : Value} (hy : zMV y2 b2 n2 r2 2) (hs : zSem l G (y2, b2, n2, r2) d2 [.ref (A 0), a1, a2] mm (some v2) Q2) (hp : zMP G A m0 v S mm) (ho : RX7 = y.cls) (ho2 : RX7 = y2.cls) (hlink : Cond.methodLink RX7 ix y2 ∈ zU) (hd2 : d2 < d) (hW : (st.map fun v => v.category).sum ≤ 8) (hd : decode cc pc = .ok (.invokevirtual ix, 3)) (kk : ∀ m', Q2 m' → zV l G (y, cc, nL, ret) d rv Q (pc + 3) lv (v2 :: st) m') : zV l G (y, cc, nL, ret) d rv Q pc lv (a2 :: a1 :: .ref (A 0) :: st) mm :=
  z_uV2 hy hs ho hlink (ci := 7) rfl ho2 (by decide) (hp.1 0 (by decide)) (hp.2.1 0 (by decide)) hd2 hW hd kk
theorem zM_v2 {y2 : MethodName} {b2 : ByteArray} {n2 d2 : Nat} {r2 : Option FieldType} {Q2 : zM → Prop} {a1 a2 : Value} (hy : zMV y2 b2 n2 r2 2) (hs : zSem l G (y2, b2, n2, r2) d2 [.ref (A 0), a1, a2] mm none Q2) (hp : zMP G A m0 v S mm) (ho : RX7 = y.cls) (ho2 : RX7 = y2.cls) (hlink : Cond.methodLink RX7 ix y2 ∈ zU) (hd2 : d2 < d) (hW : (st.map fun v => v.category).sum ≤ 8) (hd : decode cc pc = .ok (.invokevirtual ix, 3)) (kk : ∀ m', Q2 m' → zV l G (y, cc, nL, ret) d rv Q (pc + 3) lv st m') : zV l G (y, cc, nL, ret) d rv Q pc lv (a2 :: a1 :: .ref (A 0) :: st) mm :=
  z_vV2 hy hs ho hlink (ci := 7) rfl ho2 (by decide) (hp.1 0 (by decide)) (hp.2.1 0 (by decide)) hd2 hW hd kk
theorem zM_p3 {y2 : MethodName} {b2 : ByteArray} {n2 d2 : Nat} {r2 : Option FieldType} {v2 : Value} {a1 a2 a3 : Value} (hy : zMV y2 b2 n2 r2 3) (hs : zSem l G (y2, b2, n2, r2) d2 [.ref (A 0), a1, a2, a3] mm (some v2) (fun m' => m' = mm)) (hp : zMP G A m0 v S mm) (ho : RX7 = y.cls) (ho2 : RX7 = y2.cls) (hlink : Cond.methodLink RX7 ix y2 ∈ zU) (hd2 : d2 < d) (hW : (st.map fun v => v.category).sum ≤ 8) (hd : decode cc pc = .ok (.invokevirtual ix, 3)) (kk : zV l G (y, cc, nL, ret) d rv Q (pc + 3) lv (v2 :: st) mm) : zV l G (y, cc, nL, ret) d rv Q pc lv (a3 :: a2 :: a1 :: .ref (A 0) :: st) mm :=
  z_pV3 hy hs ho hlink (ci := 7) rfl ho2 (by decide) (hp.1 0 (by decide)) (hp.2.1 0 (by decide)) hd2 hW hd kk
theorem zM_u3 {y2 : MethodName} {b2 : ByteArray} {n2 d2 : Nat} {r2 : Option FieldType} {Q2 : zM → Prop} {v2 : Value} {a1 a2 a3 : Value} (hy : zMV y2 b2 n2 r2 3) (hs : zSem l G (y2, b2, n2, r2) d2 [.ref (A 0), a1, a2, a3] mm (some v2) Q2) (hp : zMP G A m0 v S mm) (ho : RX7 = y.cls) (ho2 : RX7 = y2.cls) (hlink : Cond.methodLink RX7 ix y2 ∈ zU) (hd2 : d2 < d) (hW : (st.map fun v => v.category).sum ≤ 8) (hd : decode cc pc = .ok (.invokevirtual ix, 3)) (kk : ∀ m', Q2 m' → zV l G (y, cc, nL, ret) d rv Q (pc + 3) lv (v2 :: st) m') : zV l G (y, cc, nL, ret) d rv Q pc lv (a3 :: a2 :: a1 :: .ref (A 0) :: st) mm :=
  z_uV3 hy hs ho hlink (ci := 7) rfl ho2 (by decide) (hp.1 0 (by decide)) (hp.2.1 0 (by decide)) hd2 hW hd kk
theorem zM_v3 {y2 : MethodName} {b2 : ByteArray} {n2 d2 : Nat} {r2 : Option FieldType} {Q2 : zM → Prop} {a1 a2 a3 : Value} (hy : zMV y2 b2 n2 r2 3) (hs : zSem l G (y2, b2, n2, r2) d2 [.ref (A 0), a1, a2, a3] mm none Q2) (hp : zMP G A m0 v S mm) (ho : RX7 = y.cls) (ho2 : RX7 = y2.cls) (hlink : Cond.methodLink RX7 ix y2 ∈ zU) (hd2 : d2 < d) (hW : (st.map fun v => v.category).sum ≤ 8) (hd : decode cc pc = .ok (.invokevirtual ix, 3)) (kk : ∀ m', Q2 m' → zV l G (y, cc, nL, ret) d rv Q (pc + 3) lv st m') : zV l G (y, cc, nL, ret) d rv Q pc lv (a3 :: a2 :: a1 :: .ref (A 0) :: st) mm :=
  z_vV3 hy hs ho hlink (ci := 7) rfl ho2 (by decide) (hp.1 0 (by decide)) (hp.2.1 0 (by decide)) hd2 hW hd kk
theorem zM_p4 {y2 : MethodName} {b2 : ByteArray} {n2 d2 : Nat} {r2 : Option FieldType} {v2 : Value} {a1 a2 a3 a4 : Value} (hy : zMV y2 b2 n2 r2 4) (hs : zSem l G (y2, b2, n2, r2) d2 [.ref (A 0), a1, a2, a3, a4] mm (some v2) (fun m' => m' = mm)) (hp : zMP G A m0 v S mm) (ho : RX7 = y.cls) (ho2 : RX7 = y2.cls) (hlink : Cond.methodLink RX7 ix y2 ∈ zU) (hd2 : d2 < d) (hW : (st.map fun v => v.category).sum ≤ 8) (hd : decode cc pc = .ok (.invokevirtual ix, 3)) (kk : zV l G (y, cc, nL, ret) d rv Q (pc + 3) lv (v2 :: st) mm) : zV l G (y, cc, nL, ret) d rv Q pc lv (a4 :: a3 :: a2 :: a1 :: .ref (A 0) :: st) mm :=
  z_pV4 hy hs ho hlink (ci := 7) rfl ho2 (by decide) (hp.1 0 (by decide)) (hp.2.1 0 (by decide)) hd2 hW hd kk
theorem zM_u4 {y2 : MethodName} {b2 : ByteArray} {n2 d2 : Nat} {r2 : Option FieldType} {Q2 : zM → Prop} {v2 : Value} {a1 a2 a3 a4 : Value} (hy : zMV y2 b2 n2 r2 4) (hs : zSem l G (y2, b2, n2, r2) d2 [.ref (A 0), a1, a2, a3, a4] mm (some v2) Q2) (hp : zMP G A m0 v S mm) (ho : RX7 = y.cls) (ho2 : RX7 = y2.cls) (hlink : Cond.methodLink RX7 ix y2 ∈ zU) (hd2 : d2 < d) (hW : (st.map fun v => v.category).sum ≤ 8) (hd : decode cc pc = .ok (.invokevirtual ix, 3)) (kk : ∀ m', Q2 m' → zV l G (y, cc, nL, ret) d rv Q (pc + 3) lv (v2 :: st) m') : zV l G (y, cc, nL, ret) d rv Q pc lv (a4 :: a3 :: a2 :: a1 :: .ref (A 0) :: st) mm :=
  z_uV4 hy hs ho hlink (ci := 7) rfl ho2 (by decide) (hp.1 0 (by decide)) (hp.2.1 0 (by decide)) hd2 hW hd kk
theorem zM_v4 {y2 : MethodName} {b2 : ByteArray} {n2 d2 : Nat} {r2 : Option FieldType} {Q2 : zM → Prop} {a1 a2 a3 a4 : Value} (hy : zMV y2 b2 n2 r2 4) (hs : zSem l G (y2, b2, n2, r2) d2 [.ref (A 0), a1, a2, a3, a4] mm none Q2) (hp : zMP G A m0 v S mm) (ho : RX7 = y.cls) (ho2 : RX7 = y2.cls) (hlink : Cond.methodLink RX7 ix y2 ∈ zU) (hd2 : d2 < d) (hW : (st.map fun v => v.category).sum ≤ 8) (hd : decode cc pc = .ok (.invokevirtual ix, 3)) (kk : ∀ m', Q2 m' → zV l G (y, cc, nL, ret) d rv Q (pc + 3) lv st m') : zV l G (y, cc, nL, ret) d rv Q pc lv (a4 :: a3 :: a2 :: a1 :: .ref (A 0) :: st) mm :=
  z_vV4 hy hs ho hlink (ci := 7) rfl ho2 (by decide) (hp.1 0 (by decide)) (hp.2.1 0 (by decide)) hd2 hW hd kk
theorem zM_p5 {y2 : MethodName} {b2 : ByteArray} {n2 d2 : Nat} {r2 : Option FieldType} {v2 : Value} {a1 a2 a3 a4 a5 : Value} (hy : zMV y2 b2 n2 r2 5) (hs : zSem l G (y2, b2, n2, r2) d2 [.ref (A 0), a1, a2, a3, a4, a5] mm (some v2) (fun m' => m' = mm)) (hp : zMP G A m0 v S mm) (ho : RX7 = y.cls) (ho2 : RX7 = y2.cls) (hlink : Cond.methodLink RX7 ix y2 ∈ zU) (hd2 : d2 < d) (hW : (st.map fun v => v.category).sum ≤ 8) (hd : decode cc pc = .ok (.invokevirtual ix, 3)) (kk : zV l G (y, cc, nL, ret) d rv Q (pc + 3) lv (v2 :: st) mm) : zV l G (y, cc, nL, ret) d rv Q pc lv (a5 :: a4 :: a3 :: a2 :: a1 :: .ref (A 0) :: st) mm :=
  z_pV5 hy hs ho hlink (ci := 7) rfl ho2 (by decide) (hp.1 0 (by decide)) (hp.2.1 0 (by decide)) hd2 hW hd kk
theorem zM_u5 {y2 : MethodName} {b2 : ByteArray} {n2 d2 : Nat} {r2 : Option FieldType} {Q2 : zM → Prop} {v2 : Value} {a1 a2 a3 a4 a5 : Value} (hy : zMV y2 b2 n2 r2 5) (hs : zSem l G (y2, b2, n2, r2) d2 [.ref (A 0), a1, a2, a3, a4, a5] mm (some v2) Q2) (hp : zMP G A m0 v S mm) (ho : RX7 = y.cls) (ho2 : RX7 = y2.cls) (hlink : Cond.methodLink RX7 ix y2 ∈ zU) (hd2 : d2 < d) (hW : (st.map fun v => v.category).sum ≤ 8) (hd : decode cc pc = .ok (.invokevirtual ix, 3)) (kk : ∀ m', Q2 m' → zV l G (y, cc, nL, ret) d rv Q (pc + 3) lv (v2 :: st) m') : zV l G (y, cc, nL, ret) d rv Q pc lv (a5 :: a4 :: a3 :: a2 :: a1 :: .ref (A 0) :: st) mm :=
  z_uV5 hy hs ho hlink (ci := 7) rfl ho2 (by decide) (hp.1 0 (by decide)) (hp.2.1 0 (by decide)) hd2 hW hd kk
theorem zM_v5 {y2 : MethodName} {b2 : ByteArray} {n2 d2 : Nat} {r2 : Option FieldType} {Q2 : zM → Prop} {a1 a2 a3 a4 a5 : Value} (hy : zMV y2 b2 n2 r2 5) (hs : zSem l G (y2, b2, n2, r2) d2 [.ref (A 0), a1, a2, a3, a4, a5] mm none Q2) (hp : zMP G A m0 v S mm) (ho : RX7 = y.cls) (ho2 : RX7 = y2.cls) (hlink : Cond.methodLink RX7 ix y2 ∈ zU) (hd2 : d2 < d) (hW : (st.map fun v => v.category).sum ≤ 8) (hd : decode cc pc = .ok (.invokevirtual ix, 3)) (kk : ∀ m', Q2 m' → zV l G (y, cc, nL, ret) d rv Q (pc + 3) lv st m') : zV l G (y, cc, nL, ret) d rv Q pc lv (a5 :: a4 :: a3 :: a2 :: a1 :: .ref (A 0) :: st) mm :=
  z_vV5 hy hs ho hlink (ci := 7) rfl ho2 (by decide) (hp.1 0 (by decide)) (hp.2.1 0 (by decide)) hd2 hW hd kk
end ZMR
end
section
theorem zc1 {As : List Value} (h : As.all (fun v => v.category == 1) = true) : ∀ v ∈ As, v.category = 1 := fun v hv => by simpa using List.all_eq_true.mp h v hv
def zB (b : Bool) : Int32 := if b then 1 else 0
theorem zB_t : zB true = 1 := rfl
theorem zB_f : zB false = 0 := rfl
theorem zB_nar (b : Bool) : narrow .boolean (.int (zB b)) = .int (zB b) := by cases b <;> rfl
section ZB
variable {l : Launch} {G : zG} {y : MethodName} {cc : ByteArray} {nL : Nat} {ret : Option FieldType} {d : Nat} {rv : Option Value} {Q : zM → Prop} {pc : Nat} {lv : List (Option Value)} {st : List Value} {mm : zM}
theorem z_if_eqB {b : Bool} {off : Int} (tgt : Nat) (hd : decode cc pc = .ok (.ifCond .eq off, 3)) (ht : (pc : Int) + off = (tgt : Int)) (kt : b = false → zV l G (y, cc, nL, ret) d rv Q tgt lv st mm) (kf : b = true → zV l G (y, cc, nL, ret) d rv Q (pc + 3) lv st mm) : zV l G (y, cc, nL, ret) d rv Q pc lv (.int (zB b) :: st) mm :=
  z_if_eq tgt hd ht (fun h => kt (by cases b; rfl; exact absurd h (by decide))) (fun h => kf (by cases b; exact absurd rfl h; rfl))
theorem z_if_neB {b : Bool} {off : Int} (tgt : Nat) (hd : decode cc pc = .ok (.ifCond .ne off, 3)) (ht : (pc : Int) + off = (tgt : Int)) (kt : b = true → zV l G (y, cc, nL, ret) d rv Q tgt lv st mm) (kf : b = false → zV l G (y, cc, nL, ret) d rv Q (pc + 3) lv st mm) : zV l G (y, cc, nL, ret) d rv Q pc lv (.int (zB b) :: st) mm :=
  z_if_ne tgt hd ht (fun h => kt (by cases b; exact absurd rfl h; rfl)) (fun h => kf (by cases b; rfl; exact absurd h (by decide)))
end ZB
theorem z_loop {P : Nat → Prop} (N : Nat) (h : ∀ i, i ≤ N → (i < N → P (i + 1)) → P i) : ∀ i, i ≤ N → P i := by
  have key : ∀ k i, i + k = N → P i := by
    intro k
    induction k with
    | zero => intro i e; exact h i (by omega) (fun q => absurd q (by omega))
    | succ k ih => intro i e; exact h i (by omega) (fun _ => ih (i + 1) (by omega))
  exact fun i hi => key (N - i) i (by omega)
theorem i_not_lt {a b : Int32} : ¬ a < b ↔ b ≤ a := Int32.not_lt
theorem i_not_le {a b : Int32} : ¬ a ≤ b ↔ b < a := Int32.not_le
/-! the reference's words -/
def zIn (x lo hi : Int32) : Bool := decide (lo ≤ x) && decide (x ≤ hi)
def nR (v : Nat → Int32) : Nat := (v 2).toNatClampNeg
def nD (v : Nat → Int32) : Nat := (v 1).toNatClampNeg
def sLeft (v : Nat → Int32) (d : Nat) : Int32 := v (27 + 12 * d + 0) - v 0
def sOpen (v : Nat → Int32) (d : Nat) : Bool := decide (0 < sLeft v d)
def sCnt (v : Nat → Int32) (d : Nat) (lo hi : Int32) : Nat → Nat
  | 0 => 0
  | n + 1 => sCnt v d lo hi n + if v (147 + 7 * n + 0) = nI d ∧ zIn (v (147 + 7 * n + 3)) lo hi = true then 1 else 0
def sOf (v : Nat → Int32) (d : Nat) (lo hi : Int32) : Nat := sCnt v d lo hi (nR v)
def sOut (v : Nat → Int32) (d : Nat) : Nat := sOf v d (nI 0) (nI 2)
/-- the indices are in their rows -/
def zJ2 (v : Nat → Int32) : Prop := v 2 = nI (nR v) ∧ nR v ≤ 60
def zJ1 (v : Nat → Int32) : Prop := v 1 = nI (nD v) ∧ nD v ≤ 10
set_option maxRecDepth 4000 in
theorem c_X7_in {l : Launch} {G : zG} {mm : zM} (x lo hi : Int32) : zSem l G (yX7_in, cX7_in, 3, (some .boolean)) 1 [.int x, .int lo, .int hi] mm (some (.int (zB (zIn x lo hi)))) (fun m' => m' = mm) := by
  refine z_met [some (.int x), some (.int lo), some (.int hi)] rfl (zc1 (by rfl)) (Nat.le_of_ble_eq_true rfl) rfl ?_
  refine z_iload_n 0 rfl rfl dX7_in_0 ?_
  refine z_iload_n 1 rfl rfl dX7_in_1 ?_
  refine z_icmp_lt 14 dX7_in_2 rfl (fun c2 => ?_) (fun c2 => ?_)
  · refine z_iconst (nI 0) dX7_in_14 rfl ?_
    exact z_zret dX7_in_15 (by first | rfl | exact zB_nar _) (by first | (simp [zIn, zB, i_not_lt.mp c2, i_not_lt.mp c7] <;> rfl) | (simp [zIn, zB, c2, c7] <;> rfl) | (simp [zIn, zB, i_not_le.mpr c2] <;> rfl) | (simp [zIn, zB, i_not_le.mpr c7] <;> rfl)) rfl
  · refine z_iload_n 0 rfl rfl dX7_in_5 ?_
    refine z_iload_n 2 rfl rfl dX7_in_6 ?_
    refine z_icmp_gt 14 dX7_in_7 rfl (fun c7 => ?_) (fun c7 => ?_)
    · refine z_iconst (nI 0) dX7_in_14 rfl ?_
      exact z_zret dX7_in_15 (by first | rfl | exact zB_nar _) (by first | (simp [zIn, zB, i_not_lt.mp c2, i_not_lt.mp c7] <;> rfl) | (simp [zIn, zB, c2, c7] <;> rfl) | (simp [zIn, zB, i_not_le.mpr c2] <;> rfl) | (simp [zIn, zB, i_not_le.mpr c7] <;> rfl)) rfl
    · refine z_iconst (nI 1) dX7_in_10 rfl ?_
      refine z_goto 15 dX7_in_11 rfl ?_
      exact z_zret dX7_in_15 (by first | rfl | exact zB_nar _) (by first | (simp [zIn, zB, i_not_lt.mp c2, i_not_lt.mp c7] <;> rfl) | (simp [zIn, zB, c2, c7] <;> rfl) | (simp [zIn, zB, i_not_le.mpr c2] <;> rfl) | (simp [zIn, zB, i_not_le.mpr c7] <;> rfl)) rfl
set_option maxRecDepth 4000 in
theorem c_X7_isHolder {l : Launch} {G : zG} {mm : zM} (x : Int32) : zSem l G (yX7_isHolder, cX7_isHolder, 1, (some .boolean)) 2 [.int x] mm (some (.int (zB (zIn x (nI 0) (nI 9))))) (fun m' => m' = mm) := by
  refine z_met [some (.int x)] rfl (zc1 (by rfl)) (Nat.le_of_ble_eq_true rfl) rfl ?_
  refine z_iload_n 0 rfl rfl dX7_isHolder_0 ?_
  refine z_iconst (nI 0) dX7_isHolder_1 rfl ?_
  refine z_bipush (nI 9) dX7_isHolder_2 rfl ?_
  refine z_pS3 zm_X7_in (c_X7_in _ _ _) rfl zl_X7_35 (by decide) (Nat.le_of_ble_eq_true rfl) dX7_isHolder_4 ?_
  exact z_zret dX7_isHolder_7 (by first | rfl | exact zB_nar _) rfl rfl
set_option maxRecDepth 4000 in
theorem c_X7_dateAt {l : Launch} {G : zG} {mm : zM} (d w : Nat) : zSem l G (yX7_dateAt, cX7_dateAt, 2, (some .int)) 1 [.int (nI d), .int (nI w)] mm (some (.int (nI (27 + 12 * d + w)))) (fun m' => m' = mm) := by
  refine z_met [some (.int (nI d)), some (.int (nI w))] rfl (zc1 (by rfl)) (Nat.le_of_ble_eq_true rfl) rfl ?_
  refine z_bipush (nI 27) dX7_dateAt_0 rfl ?_
  refine z_bipush (nI 12) dX7_dateAt_2 rfl ?_
  refine z_iload_n 0 rfl rfl dX7_dateAt_4 ?_
  refine z_imulN dX7_dateAt_5 ?_
  refine z_iaddN dX7_dateAt_6 ?_
  refine z_iload_n 1 rfl rfl dX7_dateAt_7 ?_
  refine z_iaddN dX7_dateAt_8 ?_
  exact z_iret dX7_dateAt_9 rfl rfl
set_option maxRecDepth 4000 in
theorem c_X7_rightAt {l : Launch} {G : zG} {mm : zM} (r w : Nat) : zSem l G (yX7_rightAt, cX7_rightAt, 2, (some .int)) 1 [.int (nI r), .int (nI w)] mm (some (.int (nI (147 + 7 * r + w)))) (fun m' => m' = mm) := by
  refine z_met [some (.int (nI r)), some (.int (nI w))] rfl (zc1 (by rfl)) (Nat.le_of_ble_eq_true rfl) rfl ?_
  refine z_sipush (nI 147) dX7_rightAt_0 rfl ?_
  refine z_bipush (nI 7) dX7_rightAt_3 rfl ?_
  refine z_iload_n 0 rfl rfl dX7_rightAt_5 ?_
  refine z_imulN dX7_rightAt_6 ?_
  refine z_iaddN dX7_rightAt_7 ?_
  refine z_iload_n 1 rfl rfl dX7_rightAt_8 ?_
  refine z_iaddN dX7_rightAt_9 ?_
  exact z_iret dX7_rightAt_10 rfl rfl
set_option maxRecDepth 4000 in
theorem c_X7_ofDate {l : Launch} {G : zG} {A : Nat → Nat} {m0 mm : zM} {v : Nat → Int32} {S : Nat → Nat → Int32} (hp : zMP G A m0 v S mm) (d w : Nat) (hd : d < 10) (hw : w < 12) : zSem l G (yX7_ofDate, cX7_ofDate, 3, (some .int)) 2 [.ref (A 0), .int (nI d), .int (nI w)] mm (some (.int (v (27 + 12 * d + w)))) (fun m' => m' = mm) := by
  refine z_met [some (.ref (A 0)), some (.int (nI d)), some (.int (nI w))] rfl (zc1 (by rfl)) (Nat.le_of_ble_eq_true rfl) rfl ?_
  refine z_aload_n 0 rfl rfl dX7_ofDate_0 ?_
  refine zM_ref 0 1 hp (by decide) rfl (by decide) rfl rfl zf_X7_7 dX7_ofDate_1 ?_
  refine z_iload_n 1 rfl rfl dX7_ofDate_4 ?_
  refine z_iload_n 2 rfl rfl dX7_ofDate_5 ?_
  refine z_pS2 zm_X7_dateAt (c_X7_dateAt _ _) rfl zl_X7_39 (by decide) (Nat.le_of_ble_eq_true rfl) dX7_ofDate_6 ?_
  refine zM_vld hp (by omega) dX7_ofDate_9 ?_
  exact z_iret dX7_ofDate_10 rfl rfl
set_option maxRecDepth 4000 in
theorem c_X7_of {l : Launch} {G : zG} {A : Nat → Nat} {m0 mm : zM} {v : Nat → Int32} {S : Nat → Nat → Int32} (hp : zMP G A m0 v S mm) (r w : Nat) (hd : r < 60) (hw : w < 7) : zSem l G (yX7_of, cX7_of, 3, (some .int)) 2 [.ref (A 0), .int (nI r), .int (nI w)] mm (some (.int (v (147 + 7 * r + w)))) (fun m' => m' = mm) := by
  refine z_met [some (.ref (A 0)), some (.int (nI r)), some (.int (nI w))] rfl (zc1 (by rfl)) (Nat.le_of_ble_eq_true rfl) rfl ?_
  refine z_aload_n 0 rfl rfl dX7_of_0 ?_
  refine zM_ref 0 1 hp (by decide) rfl (by decide) rfl rfl zf_X7_7 dX7_of_1 ?_
  refine z_iload_n 1 rfl rfl dX7_of_4 ?_
  refine z_iload_n 2 rfl rfl dX7_of_5 ?_
  refine z_pS2 zm_X7_rightAt (c_X7_rightAt _ _) rfl zl_X7_43 (by decide) (Nat.le_of_ble_eq_true rfl) dX7_of_6 ?_
  refine zM_vld hp (by omega) dX7_of_9 ?_
  exact z_iret dX7_of_10 rfl rfl
set_option maxRecDepth 4000 in
theorem c_X7_isDate {l : Launch} {G : zG} {A : Nat → Nat} {m0 mm : zM} {v : Nat → Int32} {S : Nat → Nat → Int32} (hp : zMP G A m0 v S mm) (x : Int32) : zSem l G (yX7_isDate, cX7_isDate, 2, (some .boolean)) 2 [.ref (A 0), .int x] mm (some (.int (zB (zIn x (nI 0) (v 1 - nI 1))))) (fun m' => m' = mm) := by
  refine z_met [some (.ref (A 0)), some (.int x)] rfl (zc1 (by rfl)) (Nat.le_of_ble_eq_true rfl) rfl ?_
  refine z_iload_n 1 rfl rfl dX7_isDate_0 ?_
  refine z_iconst (nI 0) dX7_isDate_1 rfl ?_
  refine z_aload_n 0 rfl rfl dX7_isDate_2 ?_
  refine zM_ref 0 1 hp (by decide) rfl (by decide) rfl rfl zf_X7_7 dX7_isDate_3 ?_
  refine z_iconst (nI 1) dX7_isDate_6 rfl ?_
  refine zM_vld hp (by omega) dX7_isDate_7 ?_
  refine z_iconst (nI 1) dX7_isDate_8 rfl ?_
  refine z_isub dX7_isDate_9 ?_
  refine z_pS3 zm_X7_in (c_X7_in _ _ _) rfl zl_X7_35 (by decide) (Nat.le_of_ble_eq_true rfl) dX7_isDate_10 ?_
  exact z_zret dX7_isDate_13 (by first | rfl | exact zB_nar _) rfl rfl
set_option maxRecDepth 4000 in
theorem c_X7_isRight {l : Launch} {G : zG} {A : Nat → Nat} {m0 mm : zM} {v : Nat → Int32} {S : Nat → Nat → Int32} (hp : zMP G A m0 v S mm) (x : Int32) : zSem l G (yX7_isRight, cX7_isRight, 2, (some .boolean)) 2 [.ref (A 0), .int x] mm (some (.int (zB (zIn x (nI 0) (v 2 - nI 1))))) (fun m' => m' = mm) := by
  refine z_met [some (.ref (A 0)), some (.int x)] rfl (zc1 (by rfl)) (Nat.le_of_ble_eq_true rfl) rfl ?_
  refine z_iload_n 1 rfl rfl dX7_isRight_0 ?_
  refine z_iconst (nI 0) dX7_isRight_1 rfl ?_
  refine z_aload_n 0 rfl rfl dX7_isRight_2 ?_
  refine zM_ref 0 1 hp (by decide) rfl (by decide) rfl rfl zf_X7_7 dX7_isRight_3 ?_
  refine z_iconst (nI 2) dX7_isRight_6 rfl ?_
  refine zM_vld hp (by omega) dX7_isRight_7 ?_
  refine z_iconst (nI 1) dX7_isRight_8 rfl ?_
  refine z_isub dX7_isRight_9 ?_
  refine z_pS3 zm_X7_in (c_X7_in _ _ _) rfl zl_X7_35 (by decide) (Nat.le_of_ble_eq_true rfl) dX7_isRight_10 ?_
  exact z_zret dX7_isRight_13 (by first | rfl | exact zB_nar _) rfl rfl
set_option maxRecDepth 4000 in
theorem c_X7_daysLeft {l : Launch} {G : zG} {A : Nat → Nat} {m0 mm : zM} {v : Nat → Int32} {S : Nat → Nat → Int32} (hp : zMP G A m0 v S mm) (d : Nat) (hd : d < 10) : zSem l G (yX7_daysLeft, cX7_daysLeft, 2, (some .int)) 3 [.ref (A 0), .int (nI d)] mm (some (.int (sLeft v d))) (fun m' => m' = mm) := by
  refine z_met [some (.ref (A 0)), some (.int (nI d))] rfl (zc1 (by rfl)) (Nat.le_of_ble_eq_true rfl) rfl ?_
  refine z_aload_n 0 rfl rfl dX7_daysLeft_0 ?_
  refine z_iload_n 1 rfl rfl dX7_daysLeft_1 ?_
  refine z_iconst (nI 0) dX7_daysLeft_2 rfl ?_
  refine zM_p2 zm_X7_ofDate (c_X7_ofDate hp _ _ (by omega) (by omega)) hp rfl rfl zl_X7_46 (by decide) (Nat.le_of_ble_eq_true rfl) dX7_daysLeft_3 ?_
  refine z_aload_n 0 rfl rfl dX7_daysLeft_6 ?_
  refine zM_ref 0 1 hp (by decide) rfl (by decide) rfl rfl zf_X7_7 dX7_daysLeft_7 ?_
  refine z_iconst (nI 0) dX7_daysLeft_10 rfl ?_
  refine zM_vld hp (by omega) dX7_daysLeft_11 ?_
  refine z_isub dX7_daysLeft_12 ?_
  exact z_iret dX7_daysLeft_13 rfl rfl
set_option maxRecDepth 4000 in
theorem c_X7_isOpen {l : Launch} {G : zG} {A : Nat → Nat} {m0 mm : zM} {v : Nat → Int32} {S : Nat → Nat → Int32} (hp : zMP G A m0 v S mm) (d : Nat) (hd : d < 10) : zSem l G (yX7_isOpen, cX7_isOpen, 2, (some .boolean)) 4 [.ref (A 0), .int (nI d)] mm (some (.int (zB (sOpen v d)))) (fun m' => m' = mm) := by
  refine z_met [some (.ref (A 0)), some (.int (nI d))] rfl (zc1 (by rfl)) (Nat.le_of_ble_eq_true rfl) rfl ?_
  refine z_aload_n 0 rfl rfl dX7_isOpen_0 ?_
  refine z_iload_n 1 rfl rfl dX7_isOpen_1 ?_
  refine zM_p1 zm_X7_daysLeft (c_X7_daysLeft hp _ (by omega)) hp rfl rfl zl_X7_49 (by decide) (Nat.le_of_ble_eq_true rfl) dX7_isOpen_2 ?_
  refine z_if_le 12 dX7_isOpen_5 rfl (fun c5 => ?_) (fun c5 => ?_)
  · refine z_iconst (nI 0) dX7_isOpen_12 rfl ?_
    exact z_zret dX7_isOpen_13 (by first | rfl | exact zB_nar _) (by first | (simp [sOpen, zB, c5] <;> rfl) | (simp [sOpen, zB, i_not_le.mp c5] <;> rfl) | (simp [sOpen, zB, i_not_lt.mpr c5] <;> rfl)) rfl
  · refine z_iconst (nI 1) dX7_isOpen_8 rfl ?_
    refine z_goto 13 dX7_isOpen_9 rfl ?_
    exact z_zret dX7_isOpen_13 (by first | rfl | exact zB_nar _) (by first | (simp [sOpen, zB, c5] <;> rfl) | (simp [sOpen, zB, i_not_le.mp c5] <;> rfl) | (simp [sOpen, zB, i_not_lt.mpr c5] <;> rfl)) rfl
set_option maxRecDepth 4000 in
theorem c_X7_isFree {l : Launch} {G : zG} {A : Nat → Nat} {m0 mm : zM} {v : Nat → Int32} {S : Nat → Nat → Int32} (hp : zMP G A m0 v S mm) (r : Nat) (hd : r < 60) : zSem l G (yX7_isFree, cX7_isFree, 2, (some .boolean)) 3 [.ref (A 0), .int (nI r)] mm (some (.int (zB (decide (v (147 + 7 * r + 3) < nI 2))))) (fun m' => m' = mm) := by
  refine z_met [some (.ref (A 0)), some (.int (nI r))] rfl (zc1 (by rfl)) (Nat.le_of_ble_eq_true rfl) rfl ?_
  refine z_aload_n 0 rfl rfl dX7_isFree_0 ?_
  refine z_iload_n 1 rfl rfl dX7_isFree_1 ?_
  refine z_iconst (nI 3) dX7_isFree_2 rfl ?_
  refine zM_p2 zm_X7_of (c_X7_of hp _ _ (by omega) (by omega)) hp rfl rfl zl_X7_53 (by decide) (Nat.le_of_ble_eq_true rfl) dX7_isFree_3 ?_
  refine z_iconst (nI 2) dX7_isFree_6 rfl ?_
  refine z_icmp_ge 14 dX7_isFree_7 rfl (fun c7 => ?_) (fun c7 => ?_)
  · refine z_iconst (nI 0) dX7_isFree_14 rfl ?_
    exact z_zret dX7_isFree_15 (by first | rfl | exact zB_nar _) (by first | (simp [zB, c7] <;> rfl) | (simp [zB, i_not_le.mp c7] <;> rfl) | (simp [zB, i_not_lt.mpr c7] <;> rfl)) rfl
  · refine z_iconst (nI 1) dX7_isFree_10 rfl ?_
    refine z_goto 15 dX7_isFree_11 rfl ?_
    exact z_zret dX7_isFree_15 (by first | rfl | exact zB_nar _) (by first | (simp [zB, c7] <;> rfl) | (simp [zB, i_not_le.mp c7] <;> rfl) | (simp [zB, i_not_lt.mpr c7] <;> rfl)) rfl
end
section
theorem z_isubN {l : Launch} {G : zG} {y : MethodName} {cc : ByteArray} {nL : Nat} {ret : Option FieldType} {d : Nat} {rv : Option Value} {Q : zM → Prop} {pc : Nat} {lv : List (Option Value)} {st : List Value} {mm : zM} {a b : Nat} (h : b ≤ a) (hd : decode cc pc = .ok (.isub, 1)) (k : zV l G (y, cc, nL, ret) d rv Q (pc + 1) lv (.int (nI (a - b)) :: st) mm) : zV l G (y, cc, nL, ret) d rv Q pc lv (.int (nI b) :: .int (nI a) :: st) mm := by
  refine z_isub hd ?_
  have e : nI a - nI b = nI (a - b) := by
    have : nI a = nI (a - b) + nI b := by rw [nI_add]; congr 1; omega
    rw [this]; simp
  rw [e]; exact k
theorem zIn_nI {x : Int32} {n : Nat} (hn : n < 2 ^ 31) (h : zIn x (nI 0) (nI n) = true) : ∃ j, j ≤ n ∧ x = nI j := by
  unfold zIn at h
  rw [Bool.and_eq_true, decide_eq_true_eq, decide_eq_true_eq] at h
  obtain ⟨j, hj, e⟩ := nI_of (x := x) (by rw [i_not_lt]; exact h.1)
  subst e
  exact ⟨j, (nI_leI hj hn).mp h.2, rfl⟩
theorem zIn_nIp {x : Int32} {n : Nat} (hn : n < 2 ^ 31) (h : zIn x (nI 0) (nI n - nI 1) = true) : ∃ j, j < n ∧ x = nI j := by
  cases n with
  | zero =>
    unfold zIn at h
    rw [Bool.and_eq_true, decide_eq_true_eq, decide_eq_true_eq] at h
    exact absurd (Int32.le_trans h.1 h.2) (by decide)
  | succ n =>
    have e : nI (n + 1) - nI 1 = nI n := nI_pred n
    rw [e] at h
    obtain ⟨j, h1, h2⟩ := zIn_nI (by omega) h
    exact ⟨j, by omega, h2⟩
/-- the price by the rule at so many days left -/
def sPrice (v : Nat → Int32) (d : Nat) (left : Int32) : Int32 :=
  if v (27 + 12 * d + 4) = nI 1 then v (27 + 12 * d + 3) + v (27 + 12 * d + 3) * nI (sOut v d) / v (27 + 12 * d + 1)
  else if v (27 + 12 * d + 4) = 0 then v (27 + 12 * d + 3)
  else v (27 + 12 * d + 3) * (nI 100 + nI 2 * (if nI 30 < left then nI 0 else nI 30 - left)) / nI 100
def sMost (v : Nat → Int32) (d : Nat) : Int32 := v (27 + 12 * d + 1) + (if v 3 < sLeft v d then v (27 + 12 * d + 2) else nI 0) - nI (sOut v d)
def sSell0 (v : Nat → Int32) (d : Nat) : Int32 := if sMost v d < nI 60 - v 2 then sMost v d else nI 60 - v 2
def sCan (v : Nat → Int32) (d : Nat) : Int32 := if 0 < sSell0 v d ∧ sOpen v d = true then sSell0 v d else nI 0
def sStage (v : Nat → Int32) (d : Nat) : Nat := if v 9 ≤ sLeft v d then 0 else if v 11 ≤ sLeft v d then 1 else if v 13 ≤ sLeft v d then 2 else 3
def sLow (v : Nat → Int32) (d : Nat) (s : Int32) (w : Nat) : Nat → Option Nat
  | 0 => none
  | n + 1 => if v (147 + 7 * n + 0) = nI d ∧ v (147 + 7 * n + 3) = s then (match sLow v d s w n with
      | none => some n
      | some b => if v (147 + 7 * n + w) < v (147 + 7 * b + w) then some n else some b) else sLow v d s w n
def zO (o : Option Nat) : Int32 := match o with
  | none => -1
  | some r => nI r
theorem sLow_lt {v : Nat → Int32} {d : Nat} {s : Int32} {w : Nat} : ∀ {n b : Nat}, sLow v d s w n = some b → b < n
  | 0, _, h => by simp [sLow] at h
  | n + 1, b, h => by
    unfold sLow at h
    split at h
    · split at h
      · cases h; omega
      · rename_i b' hb
        split at h
        · cases h; omega
        · cases h; have := sLow_lt hb; omega
    · have := sLow_lt h; omega
def sRef (v : Nat → Int32) (r d : Nat) : Int32 := v (147 + 7 * r + 2) - v (147 + 7 * r + 2) * v (9 + 2 * sStage v d + 1) / nI 100
def sEx (v : Nat → Int32) (r d : Nat) : Bool := decide (v (147 + 7 * r + 3) = 0) && (zIn (sLeft v d) (nI 1) (v 5) && decide (nI (sOf v d (nI 2) (nI 2)) < v (27 + 12 * d + 1)))
def sPl (v : Nat → Int32) (d : Nat) (h : Int32) : Nat → Int32
  | 0 => -5
  | n + 1 => if v (27 + 12 * d + (6 + n)) = h then nI n else sPl v d h n
set_option maxRecDepth 4000 in
theorem l_X7_rightsOf {l : Launch} {G : zG} {A : Nat → Nat} {m0 mm : zM} {v : Nat → Int32} {S : Nat → Nat → Int32} (hp : zMP G A m0 v S mm) (d : Nat) (lo hi0 : Int32) (hJ : zJ2 v) : ∀ i, i ≤ nR v → ∀ (cnt : Nat) (hc : cnt = sCnt v d lo hi0 i), zV l G (yX7_rightsOf, cX7_rightsOf, 6, (some .int)) 3 (some (.int (nI (sOf v d lo hi0)))) (fun m' => m' = mm) 6 [some (.ref (A 0)), some (.int (nI d)), some (.int lo), some (.int hi0), some (.int (nI cnt)), some (.int (nI i))] [] mm := by
  have hJ2 := hJ.2
  refine z_loop (nR v) (fun i hi ih cnt hc => ?_)
  refine z_iload 5 rfl dX7_rightsOf_6 ?_
  refine z_aload_n 0 rfl rfl dX7_rightsOf_8 ?_
  refine zM_ref 0 1 hp (by decide) rfl (by decide) rfl rfl zf_X7_7 dX7_rightsOf_9 ?_
  refine z_iconst (nI 2) dX7_rightsOf_12 rfl ?_
  refine zM_vld hp (by omega) dX7_rightsOf_13 ?_
  refine z_icmp_ge 59 dX7_rightsOf_14 rfl (fun c14 => ?_) (fun c14 => ?_)
  · have e : i = nR v := by rw [hJ.1] at c14; have := (nI_leI (by omega) (by omega)).mp c14; omega
    refine z_iload 4 rfl dX7_rightsOf_59 ?_
    exact z_iret dX7_rightsOf_61 (by subst e; rw [hc]; rfl) rfl
  · have hl : i < nR v := by rw [hJ.1] at c14; exact Nat.lt_of_not_le (fun q => c14 ((nI_leI (by omega) (by omega)).mpr q))
    refine z_iload 4 rfl dX7_rightsOf_17 ?_
    refine z_aload_n 0 rfl rfl dX7_rightsOf_19 ?_
    refine z_iload 5 rfl dX7_rightsOf_20 ?_
    refine z_iconst (nI 0) dX7_rightsOf_22 rfl ?_
    refine zM_p2 zm_X7_of (c_X7_of hp _ _ (by omega) (by omega)) hp rfl rfl zl_X7_53 (by decide) (Nat.le_of_ble_eq_true rfl) dX7_rightsOf_23 ?_
    refine z_iload_n 1 rfl rfl dX7_rightsOf_26 ?_
    refine z_icmp_ne 49 dX7_rightsOf_27 rfl (fun c27 => ?_) (fun c27 => ?_)
    · refine z_iconst (nI 0) dX7_rightsOf_49 rfl ?_
      refine z_iaddN dX7_rightsOf_50 ?_
      refine z_istore 4 (Nat.le_of_ble_eq_true rfl) rfl dX7_rightsOf_51 ?_
      refine z_iincN (n := 1) 5 rfl rfl dX7_rightsOf_53 ?_
      refine z_goto 6 dX7_rightsOf_56 rfl ?_
      exact ih hl _ (by first | rw [sCnt, if_pos (And.intro c27 c42), hc] | rw [sCnt, if_neg (fun q => c27 q.1), hc] | rw [sCnt, if_neg (fun q => by rw [c42] at q; exact absurd q.2 (by decide)), hc])
    · refine z_aload_n 0 rfl rfl dX7_rightsOf_30 ?_
      refine z_iload 5 rfl dX7_rightsOf_31 ?_
      refine z_iconst (nI 3) dX7_rightsOf_33 rfl ?_
      refine zM_p2 zm_X7_of (c_X7_of hp _ _ (by omega) (by omega)) hp rfl rfl zl_X7_53 (by decide) (Nat.le_of_ble_eq_true rfl) dX7_rightsOf_34 ?_
      refine z_iload_n 2 rfl rfl dX7_rightsOf_37 ?_
      refine z_iload_n 3 rfl rfl dX7_rightsOf_38 ?_
      refine z_pS3 zm_X7_in (c_X7_in _ _ _) rfl zl_X7_35 (by decide) (Nat.le_of_ble_eq_true rfl) dX7_rightsOf_39 ?_
      refine z_if_eqB 49 dX7_rightsOf_42 rfl (fun c42 => ?_) (fun c42 => ?_)
      · refine z_iconst (nI 0) dX7_rightsOf_49 rfl ?_
        refine z_iaddN dX7_rightsOf_50 ?_
        refine z_istore 4 (Nat.le_of_ble_eq_true rfl) rfl dX7_rightsOf_51 ?_
        refine z_iincN (n := 1) 5 rfl rfl dX7_rightsOf_53 ?_
        refine z_goto 6 dX7_rightsOf_56 rfl ?_
        exact ih hl _ (by first | rw [sCnt, if_pos (And.intro c27 c42), hc] | rw [sCnt, if_neg (fun q => c27 q.1), hc] | rw [sCnt, if_neg (fun q => by rw [c42] at q; exact absurd q.2 (by decide)), hc])
      · refine z_iconst (nI 1) dX7_rightsOf_45 rfl ?_
        refine z_goto 50 dX7_rightsOf_46 rfl ?_
        refine z_iaddN dX7_rightsOf_50 ?_
        refine z_istore 4 (Nat.le_of_ble_eq_true rfl) rfl dX7_rightsOf_51 ?_
        refine z_iincN (n := 1) 5 rfl rfl dX7_rightsOf_53 ?_
        refine z_goto 6 dX7_rightsOf_56 rfl ?_
        exact ih hl _ (by first | rw [sCnt, if_pos (And.intro c27 c42), hc] | rw [sCnt, if_neg (fun q => c27 q.1), hc] | rw [sCnt, if_neg (fun q => by rw [c42] at q; exact absurd q.2 (by decide)), hc])
set_option maxRecDepth 4000 in
theorem c_X7_rightsOf {l : Launch} {G : zG} {A : Nat → Nat} {m0 mm : zM} {v : Nat → Int32} {S : Nat → Nat → Int32} (hp : zMP G A m0 v S mm) (d : Nat) (lo hi : Int32) (hJ : zJ2 v) : zSem l G (yX7_rightsOf, cX7_rightsOf, 6, (some .int)) 3 [.ref (A 0), .int (nI d), .int lo, .int hi] mm (some (.int (nI (sOf v d lo hi)))) (fun m' => m' = mm) := by
  refine z_met [some (.ref (A 0)), some (.int (nI d)), some (.int lo), some (.int hi), none, none] rfl (zc1 (by rfl)) (Nat.le_of_ble_eq_true rfl) rfl ?_
  refine z_iconst (nI 0) dX7_rightsOf_0 rfl ?_
  refine z_istore 4 (Nat.le_of_ble_eq_true rfl) rfl dX7_rightsOf_1 ?_
  refine z_iconst (nI 0) dX7_rightsOf_3 rfl ?_
  refine z_istore 5 (Nat.le_of_ble_eq_true rfl) rfl dX7_rightsOf_4 ?_
  exact l_X7_rightsOf hp d lo hi hJ 0 (Nat.zero_le _) 0 rfl
set_option maxRecDepth 4000 in
theorem c_X7_out {l : Launch} {G : zG} {A : Nat → Nat} {m0 mm : zM} {v : Nat → Int32} {S : Nat → Nat → Int32} (hp : zMP G A m0 v S mm) (d : Nat) (hJ : zJ2 v) : zSem l G (yX7_out, cX7_out, 2, (some .int)) 4 [.ref (A 0), .int (nI d)] mm (some (.int (nI (sOut v d)))) (fun m' => m' = mm) := by
  refine z_met [some (.ref (A 0)), some (.int (nI d))] rfl (zc1 (by rfl)) (Nat.le_of_ble_eq_true rfl) rfl ?_
  refine z_aload_n 0 rfl rfl dX7_out_0 ?_
  refine z_iload_n 1 rfl rfl dX7_out_1 ?_
  refine z_iconst (nI 0) dX7_out_2 rfl ?_
  refine z_iconst (nI 2) dX7_out_3 rfl ?_
  refine zM_p3 zm_X7_rightsOf (c_X7_rightsOf hp _ _ _ hJ) hp rfl rfl zl_X7_56 (by decide) (Nat.le_of_ble_eq_true rfl) dX7_out_4 ?_
  exact z_iret dX7_out_7 rfl rfl
set_option maxRecDepth 4000 in
theorem c_X7_price {l : Launch} {G : zG} {A : Nat → Nat} {m0 mm : zM} {v : Nat → Int32} {S : Nat → Nat → Int32} (hp : zMP G A m0 v S mm) (d : Nat) (left : Int32) (hd : d < 10) (hJ : zJ2 v) (hpl : ¬ v (27 + 12 * d + 1) = 0) : zSem l G (yX7_price, cX7_price, 5, (some .int)) 5 [.ref (A 0), .int (nI d), .int left] mm (some (.int (sPrice v d left))) (fun m' => m' = mm) := by
  refine z_met [some (.ref (A 0)), some (.int (nI d)), some (.int left), none, none] rfl (zc1 (by rfl)) (Nat.le_of_ble_eq_true rfl) rfl ?_
  refine z_aload_n 0 rfl rfl dX7_price_0 ?_
  refine z_iload_n 1 rfl rfl dX7_price_1 ?_
  refine z_iconst (nI 3) dX7_price_2 rfl ?_
  refine zM_p2 zm_X7_ofDate (c_X7_ofDate hp _ _ (by omega) (by omega)) hp rfl rfl zl_X7_46 (by decide) (Nat.le_of_ble_eq_true rfl) dX7_price_3 ?_
  refine z_istore_n 3 rfl (Nat.le_of_ble_eq_true rfl) rfl dX7_price_6 ?_
  refine z_aload_n 0 rfl rfl dX7_price_7 ?_
  refine z_iload_n 1 rfl rfl dX7_price_8 ?_
  refine z_iconst (nI 4) dX7_price_9 rfl ?_
  refine zM_p2 zm_X7_ofDate (c_X7_ofDate hp _ _ (by omega) (by omega)) hp rfl rfl zl_X7_46 (by decide) (Nat.le_of_ble_eq_true rfl) dX7_price_10 ?_
  refine z_iconst (nI 1) dX7_price_13 rfl ?_
  refine z_icmp_ne 34 dX7_price_14 rfl (fun c14 => ?_) (fun c14 => ?_)
  · refine z_iload_n 2 rfl rfl dX7_price_34 ?_
    refine z_bipush (nI 30) dX7_price_35 rfl ?_
    refine z_icmp_le 44 dX7_price_37 rfl (fun c37 => ?_) (fun c37 => ?_)
    · refine z_bipush (nI 30) dX7_price_44 rfl ?_
      refine z_iload_n 2 rfl rfl dX7_price_46 ?_
      refine z_isub dX7_price_47 ?_
      refine z_istore 4 (Nat.le_of_ble_eq_true rfl) rfl dX7_price_48 ?_
      refine z_aload_n 0 rfl rfl dX7_price_50 ?_
      refine z_iload_n 1 rfl rfl dX7_price_51 ?_
      refine z_iconst (nI 4) dX7_price_52 rfl ?_
      refine zM_p2 zm_X7_ofDate (c_X7_ofDate hp _ _ (by omega) (by omega)) hp rfl rfl zl_X7_46 (by decide) (Nat.le_of_ble_eq_true rfl) dX7_price_53 ?_
      refine z_if_ne 63 dX7_price_56 rfl (fun c56 => ?_) (fun c56 => ?_)
      · refine z_iload_n 3 rfl rfl dX7_price_63 ?_
        refine z_bipush (nI 100) dX7_price_64 rfl ?_
        refine z_iconst (nI 2) dX7_price_66 rfl ?_
        refine z_iload 4 rfl dX7_price_67 ?_
        refine z_imul dX7_price_69 ?_
        refine z_iadd dX7_price_70 ?_
        refine z_imul dX7_price_71 ?_
        refine z_bipush (nI 100) dX7_price_72 rfl ?_
        refine z_idiv dX7_price_74 (by decide) ?_
        exact z_iret dX7_price_75 (by first | (rw [sPrice, if_neg c14, if_pos c56]; done) | rw [sPrice, if_neg c14, if_neg c56, if_neg (i_not_lt.mpr c37)] | rw [sPrice, if_neg c14, if_neg c56, if_pos (i_not_le.mp c37), nI_mul, nI_add]) rfl
      · refine z_iload_n 3 rfl rfl dX7_price_59 ?_
        refine z_goto 75 dX7_price_60 rfl ?_
        exact z_iret dX7_price_75 (by first | (rw [sPrice, if_neg c14, if_pos c56]; done) | rw [sPrice, if_neg c14, if_neg c56, if_neg (i_not_lt.mpr c37)] | rw [sPrice, if_neg c14, if_neg c56, if_pos (i_not_le.mp c37), nI_mul, nI_add]) rfl
    · refine z_iconst (nI 0) dX7_price_40 rfl ?_
      refine z_goto 48 dX7_price_41 rfl ?_
      refine z_istore 4 (Nat.le_of_ble_eq_true rfl) rfl dX7_price_48 ?_
      refine z_aload_n 0 rfl rfl dX7_price_50 ?_
      refine z_iload_n 1 rfl rfl dX7_price_51 ?_
      refine z_iconst (nI 4) dX7_price_52 rfl ?_
      refine zM_p2 zm_X7_ofDate (c_X7_ofDate hp _ _ (by omega) (by omega)) hp rfl rfl zl_X7_46 (by decide) (Nat.le_of_ble_eq_true rfl) dX7_price_53 ?_
      refine z_if_ne 63 dX7_price_56 rfl (fun c56 => ?_) (fun c56 => ?_)
      · refine z_iload_n 3 rfl rfl dX7_price_63 ?_
        refine z_bipush (nI 100) dX7_price_64 rfl ?_
        refine z_iconst (nI 2) dX7_price_66 rfl ?_
        refine z_iload 4 rfl dX7_price_67 ?_
        refine z_imulN dX7_price_69 ?_
        refine z_iaddN dX7_price_70 ?_
        refine z_imul dX7_price_71 ?_
        refine z_bipush (nI 100) dX7_price_72 rfl ?_
        refine z_idiv dX7_price_74 (by decide) ?_
        exact z_iret dX7_price_75 (by first | (rw [sPrice, if_neg c14, if_pos c56]; done) | rw [sPrice, if_neg c14, if_neg c56, if_neg (i_not_lt.mpr c37)] | rw [sPrice, if_neg c14, if_neg c56, if_pos (i_not_le.mp c37), nI_mul, nI_add]) rfl
      · refine z_iload_n 3 rfl rfl dX7_price_59 ?_
        refine z_goto 75 dX7_price_60 rfl ?_
        exact z_iret dX7_price_75 (by first | (rw [sPrice, if_neg c14, if_pos c56]; done) | rw [sPrice, if_neg c14, if_neg c56, if_neg (i_not_lt.mpr c37)] | rw [sPrice, if_neg c14, if_neg c56, if_pos (i_not_le.mp c37), nI_mul, nI_add]) rfl
  · refine z_iload_n 3 rfl rfl dX7_price_17 ?_
    refine z_iload_n 3 rfl rfl dX7_price_18 ?_
    refine z_aload_n 0 rfl rfl dX7_price_19 ?_
    refine z_iload_n 1 rfl rfl dX7_price_20 ?_
    refine zM_p1 zm_X7_out (c_X7_out hp _ hJ) hp rfl rfl zl_X7_60 (by decide) (Nat.le_of_ble_eq_true rfl) dX7_price_21 ?_
    refine z_imul dX7_price_24 ?_
    refine z_aload_n 0 rfl rfl dX7_price_25 ?_
    refine z_iload_n 1 rfl rfl dX7_price_26 ?_
    refine z_iconst (nI 1) dX7_price_27 rfl ?_
    refine zM_p2 zm_X7_ofDate (c_X7_ofDate hp _ _ (by omega) (by omega)) hp rfl rfl zl_X7_46 (by decide) (Nat.le_of_ble_eq_true rfl) dX7_price_28 ?_
    refine z_idiv dX7_price_31 hpl ?_
    refine z_iadd dX7_price_32 ?_
    exact z_iret dX7_price_33 (by rw [sPrice, if_pos c14]) rfl
set_option maxRecDepth 4000 in
theorem c_X7_canSell {l : Launch} {G : zG} {A : Nat → Nat} {m0 mm : zM} {v : Nat → Int32} {S : Nat → Nat → Int32} (hp : zMP G A m0 v S mm) (d : Nat) (hd : d < 10) (hJ : zJ2 v) : zSem l G (yX7_canSell, cX7_canSell, 4, (some .int)) 5 [.ref (A 0), .int (nI d)] mm (some (.int (sCan v d))) (fun m' => m' = mm) := by
  refine z_met [some (.ref (A 0)), some (.int (nI d)), none, none] rfl (zc1 (by rfl)) (Nat.le_of_ble_eq_true rfl) rfl ?_
  refine z_aload_n 0 rfl rfl dX7_canSell_0 ?_
  refine z_iload_n 1 rfl rfl dX7_canSell_1 ?_
  refine z_iconst (nI 1) dX7_canSell_2 rfl ?_
  refine zM_p2 zm_X7_ofDate (c_X7_ofDate hp _ _ (by omega) (by omega)) hp rfl rfl zl_X7_46 (by decide) (Nat.le_of_ble_eq_true rfl) dX7_canSell_3 ?_
  refine z_aload_n 0 rfl rfl dX7_canSell_6 ?_
  refine z_iload_n 1 rfl rfl dX7_canSell_7 ?_
  refine zM_p1 zm_X7_daysLeft (c_X7_daysLeft hp _ (by omega)) hp rfl rfl zl_X7_49 (by decide) (Nat.le_of_ble_eq_true rfl) dX7_canSell_8 ?_
  refine z_aload_n 0 rfl rfl dX7_canSell_11 ?_
  refine zM_ref 0 1 hp (by decide) rfl (by decide) rfl rfl zf_X7_7 dX7_canSell_12 ?_
  refine z_iconst (nI 3) dX7_canSell_15 rfl ?_
  refine zM_vld hp (by omega) dX7_canSell_16 ?_
  refine z_icmp_le 29 dX7_canSell_17 rfl (fun c17 => ?_) (fun c17 => ?_)
  · have e1 : v (27 + 12 * d + 1) + nI 0 - nI (sOut v d) = sMost v d := by rw [sMost, if_neg (i_not_lt.mpr c17)]
    refine z_iconst (nI 0) dX7_canSell_29 rfl ?_
    refine z_iadd dX7_canSell_30 ?_
    refine z_aload_n 0 rfl rfl dX7_canSell_31 ?_
    refine z_iload_n 1 rfl rfl dX7_canSell_32 ?_
    refine zM_p1 zm_X7_out (c_X7_out hp _ hJ) hp rfl rfl zl_X7_60 (by decide) (Nat.le_of_ble_eq_true rfl) dX7_canSell_33 ?_
    refine z_isub dX7_canSell_36 ?_
    rw [e1]
    refine z_istore_n 2 rfl (Nat.le_of_ble_eq_true rfl) rfl dX7_canSell_37 ?_
    refine z_bipush (nI 60) dX7_canSell_38 rfl ?_
    refine z_aload_n 0 rfl rfl dX7_canSell_40 ?_
    refine zM_ref 0 1 hp (by decide) rfl (by decide) rfl rfl zf_X7_7 dX7_canSell_41 ?_
    refine z_iconst (nI 2) dX7_canSell_44 rfl ?_
    refine zM_vld hp (by omega) dX7_canSell_45 ?_
    refine z_isub dX7_canSell_46 ?_
    refine z_istore_n 3 rfl (Nat.le_of_ble_eq_true rfl) rfl dX7_canSell_47 ?_
    refine z_iload_n 2 rfl rfl dX7_canSell_48 ?_
    refine z_iload_n 3 rfl rfl dX7_canSell_49 ?_
    refine z_icmp_ge 57 dX7_canSell_50 rfl (fun c50 => ?_) (fun c50 => ?_)
    · have e2 : nI 60 - v 2 = sSell0 v d := by rw [sSell0, if_neg (i_not_lt.mpr c50)]
      refine z_iload_n 3 rfl rfl dX7_canSell_57 ?_
      rw [e2]
      refine z_istore_n 2 rfl (Nat.le_of_ble_eq_true rfl) rfl dX7_canSell_58 ?_
      refine z_iload_n 2 rfl rfl dX7_canSell_59 ?_
      refine z_if_le 75 dX7_canSell_60 rfl (fun c60 => ?_) (fun c60 => ?_)
      · refine z_iconst (nI 0) dX7_canSell_75 rfl ?_
        exact z_iret dX7_canSell_76 (by first | rw [sCan, if_pos (And.intro (i_not_le.mp c60) c68)] | rw [sCan, if_neg (fun q => absurd q.1 (i_not_lt.mpr c60))] | rw [sCan, if_neg (fun q => by rw [c68] at q; exact absurd q.2 (by decide))]) rfl
      · refine z_aload_n 0 rfl rfl dX7_canSell_63 ?_
        refine z_iload_n 1 rfl rfl dX7_canSell_64 ?_
        refine zM_p1 zm_X7_isOpen (c_X7_isOpen hp _ (by omega)) hp rfl rfl zl_X7_63 (by decide) (Nat.le_of_ble_eq_true rfl) dX7_canSell_65 ?_
        refine z_if_eqB 75 dX7_canSell_68 rfl (fun c68 => ?_) (fun c68 => ?_)
        · refine z_iconst (nI 0) dX7_canSell_75 rfl ?_
          exact z_iret dX7_canSell_76 (by first | rw [sCan, if_pos (And.intro (i_not_le.mp c60) c68)] | rw [sCan, if_neg (fun q => absurd q.1 (i_not_lt.mpr c60))] | rw [sCan, if_neg (fun q => by rw [c68] at q; exact absurd q.2 (by decide))]) rfl
        · refine z_iload_n 2 rfl rfl dX7_canSell_71 ?_
          refine z_goto 76 dX7_canSell_72 rfl ?_
          exact z_iret dX7_canSell_76 (by first | rw [sCan, if_pos (And.intro (i_not_le.mp c60) c68)] | rw [sCan, if_neg (fun q => absurd q.1 (i_not_lt.mpr c60))] | rw [sCan, if_neg (fun q => by rw [c68] at q; exact absurd q.2 (by decide))]) rfl
    · have e2 : sMost v d = sSell0 v d := by rw [sSell0, if_pos (i_not_le.mp c50)]
      refine z_iload_n 2 rfl rfl dX7_canSell_53 ?_
      refine z_goto 58 dX7_canSell_54 rfl ?_
      rw [e2]
      refine z_istore_n 2 rfl (Nat.le_of_ble_eq_true rfl) rfl dX7_canSell_58 ?_
      refine z_iload_n 2 rfl rfl dX7_canSell_59 ?_
      refine z_if_le 75 dX7_canSell_60 rfl (fun c60 => ?_) (fun c60 => ?_)
      · refine z_iconst (nI 0) dX7_canSell_75 rfl ?_
        exact z_iret dX7_canSell_76 (by first | rw [sCan, if_pos (And.intro (i_not_le.mp c60) c68)] | rw [sCan, if_neg (fun q => absurd q.1 (i_not_lt.mpr c60))] | rw [sCan, if_neg (fun q => by rw [c68] at q; exact absurd q.2 (by decide))]) rfl
      · refine z_aload_n 0 rfl rfl dX7_canSell_63 ?_
        refine z_iload_n 1 rfl rfl dX7_canSell_64 ?_
        refine zM_p1 zm_X7_isOpen (c_X7_isOpen hp _ (by omega)) hp rfl rfl zl_X7_63 (by decide) (Nat.le_of_ble_eq_true rfl) dX7_canSell_65 ?_
        refine z_if_eqB 75 dX7_canSell_68 rfl (fun c68 => ?_) (fun c68 => ?_)
        · refine z_iconst (nI 0) dX7_canSell_75 rfl ?_
          exact z_iret dX7_canSell_76 (by first | rw [sCan, if_pos (And.intro (i_not_le.mp c60) c68)] | rw [sCan, if_neg (fun q => absurd q.1 (i_not_lt.mpr c60))] | rw [sCan, if_neg (fun q => by rw [c68] at q; exact absurd q.2 (by decide))]) rfl
        · refine z_iload_n 2 rfl rfl dX7_canSell_71 ?_
          refine z_goto 76 dX7_canSell_72 rfl ?_
          exact z_iret dX7_canSell_76 (by first | rw [sCan, if_pos (And.intro (i_not_le.mp c60) c68)] | rw [sCan, if_neg (fun q => absurd q.1 (i_not_lt.mpr c60))] | rw [sCan, if_neg (fun q => by rw [c68] at q; exact absurd q.2 (by decide))]) rfl
  · have e1 : v (27 + 12 * d + 1) + v (27 + 12 * d + 2) - nI (sOut v d) = sMost v d := by rw [sMost, if_pos (i_not_le.mp c17)]
    refine z_aload_n 0 rfl rfl dX7_canSell_20 ?_
    refine z_iload_n 1 rfl rfl dX7_canSell_21 ?_
    refine z_iconst (nI 2) dX7_canSell_22 rfl ?_
    refine zM_p2 zm_X7_ofDate (c_X7_ofDate hp _ _ (by omega) (by omega)) hp rfl rfl zl_X7_46 (by decide) (Nat.le_of_ble_eq_true rfl) dX7_canSell_23 ?_
    refine z_goto 30 dX7_canSell_26 rfl ?_
    refine z_iadd dX7_canSell_30 ?_
    refine z_aload_n 0 rfl rfl dX7_canSell_31 ?_
    refine z_iload_n 1 rfl rfl dX7_canSell_32 ?_
    refine zM_p1 zm_X7_out (c_X7_out hp _ hJ) hp rfl rfl zl_X7_60 (by decide) (Nat.le_of_ble_eq_true rfl) dX7_canSell_33 ?_
    refine z_isub dX7_canSell_36 ?_
    rw [e1]
    refine z_istore_n 2 rfl (Nat.le_of_ble_eq_true rfl) rfl dX7_canSell_37 ?_
    refine z_bipush (nI 60) dX7_canSell_38 rfl ?_
    refine z_aload_n 0 rfl rfl dX7_canSell_40 ?_
    refine zM_ref 0 1 hp (by decide) rfl (by decide) rfl rfl zf_X7_7 dX7_canSell_41 ?_
    refine z_iconst (nI 2) dX7_canSell_44 rfl ?_
    refine zM_vld hp (by omega) dX7_canSell_45 ?_
    refine z_isub dX7_canSell_46 ?_
    refine z_istore_n 3 rfl (Nat.le_of_ble_eq_true rfl) rfl dX7_canSell_47 ?_
    refine z_iload_n 2 rfl rfl dX7_canSell_48 ?_
    refine z_iload_n 3 rfl rfl dX7_canSell_49 ?_
    refine z_icmp_ge 57 dX7_canSell_50 rfl (fun c50 => ?_) (fun c50 => ?_)
    · have e2 : nI 60 - v 2 = sSell0 v d := by rw [sSell0, if_neg (i_not_lt.mpr c50)]
      refine z_iload_n 3 rfl rfl dX7_canSell_57 ?_
      rw [e2]
      refine z_istore_n 2 rfl (Nat.le_of_ble_eq_true rfl) rfl dX7_canSell_58 ?_
      refine z_iload_n 2 rfl rfl dX7_canSell_59 ?_
      refine z_if_le 75 dX7_canSell_60 rfl (fun c60 => ?_) (fun c60 => ?_)
      · refine z_iconst (nI 0) dX7_canSell_75 rfl ?_
        exact z_iret dX7_canSell_76 (by first | rw [sCan, if_pos (And.intro (i_not_le.mp c60) c68)] | rw [sCan, if_neg (fun q => absurd q.1 (i_not_lt.mpr c60))] | rw [sCan, if_neg (fun q => by rw [c68] at q; exact absurd q.2 (by decide))]) rfl
      · refine z_aload_n 0 rfl rfl dX7_canSell_63 ?_
        refine z_iload_n 1 rfl rfl dX7_canSell_64 ?_
        refine zM_p1 zm_X7_isOpen (c_X7_isOpen hp _ (by omega)) hp rfl rfl zl_X7_63 (by decide) (Nat.le_of_ble_eq_true rfl) dX7_canSell_65 ?_
        refine z_if_eqB 75 dX7_canSell_68 rfl (fun c68 => ?_) (fun c68 => ?_)
        · refine z_iconst (nI 0) dX7_canSell_75 rfl ?_
          exact z_iret dX7_canSell_76 (by first | rw [sCan, if_pos (And.intro (i_not_le.mp c60) c68)] | rw [sCan, if_neg (fun q => absurd q.1 (i_not_lt.mpr c60))] | rw [sCan, if_neg (fun q => by rw [c68] at q; exact absurd q.2 (by decide))]) rfl
        · refine z_iload_n 2 rfl rfl dX7_canSell_71 ?_
          refine z_goto 76 dX7_canSell_72 rfl ?_
          exact z_iret dX7_canSell_76 (by first | rw [sCan, if_pos (And.intro (i_not_le.mp c60) c68)] | rw [sCan, if_neg (fun q => absurd q.1 (i_not_lt.mpr c60))] | rw [sCan, if_neg (fun q => by rw [c68] at q; exact absurd q.2 (by decide))]) rfl
    · have e2 : sMost v d = sSell0 v d := by rw [sSell0, if_pos (i_not_le.mp c50)]
      refine z_iload_n 2 rfl rfl dX7_canSell_53 ?_
      refine z_goto 58 dX7_canSell_54 rfl ?_
      rw [e2]
      refine z_istore_n 2 rfl (Nat.le_of_ble_eq_true rfl) rfl dX7_canSell_58 ?_
      refine z_iload_n 2 rfl rfl dX7_canSell_59 ?_
      refine z_if_le 75 dX7_canSell_60 rfl (fun c60 => ?_) (fun c60 => ?_)
      · refine z_iconst (nI 0) dX7_canSell_75 rfl ?_
        exact z_iret dX7_canSell_76 (by first | rw [sCan, if_pos (And.intro (i_not_le.mp c60) c68)] | rw [sCan, if_neg (fun q => absurd q.1 (i_not_lt.mpr c60))] | rw [sCan, if_neg (fun q => by rw [c68] at q; exact absurd q.2 (by decide))]) rfl
      · refine z_aload_n 0 rfl rfl dX7_canSell_63 ?_
        refine z_iload_n 1 rfl rfl dX7_canSell_64 ?_
        refine zM_p1 zm_X7_isOpen (c_X7_isOpen hp _ (by omega)) hp rfl rfl zl_X7_63 (by decide) (Nat.le_of_ble_eq_true rfl) dX7_canSell_65 ?_
        refine z_if_eqB 75 dX7_canSell_68 rfl (fun c68 => ?_) (fun c68 => ?_)
        · refine z_iconst (nI 0) dX7_canSell_75 rfl ?_
          exact z_iret dX7_canSell_76 (by first | rw [sCan, if_pos (And.intro (i_not_le.mp c60) c68)] | rw [sCan, if_neg (fun q => absurd q.1 (i_not_lt.mpr c60))] | rw [sCan, if_neg (fun q => by rw [c68] at q; exact absurd q.2 (by decide))]) rfl
        · refine z_iload_n 2 rfl rfl dX7_canSell_71 ?_
          refine z_goto 76 dX7_canSell_72 rfl ?_
          exact z_iret dX7_canSell_76 (by first | rw [sCan, if_pos (And.intro (i_not_le.mp c60) c68)] | rw [sCan, if_neg (fun q => absurd q.1 (i_not_lt.mpr c60))] | rw [sCan, if_neg (fun q => by rw [c68] at q; exact absurd q.2 (by decide))]) rfl
set_option maxRecDepth 4000 in
theorem l_X7_stageOf {l : Launch} {G : zG} {A : Nat → Nat} {m0 mm : zM} {v : Nat → Int32} {S : Nat → Nat → Int32} (hp : zMP G A m0 v S mm) (d : Nat) (hd : d < 10) (hst : v 15 ≤ sLeft v d) : ∀ i, i ≤ 3 → ∀ (hj : ∀ j, j < i → ¬ v (9 + 2 * j) ≤ sLeft v d), zV l G (yX7_stageOf, cX7_stageOf, 3, (some .int)) 4 (some (.int (nI (sStage v d)))) (fun m' => m' = mm) 2 [some (.ref (A 0)), some (.int (nI d)), some (.int (nI i))] [] mm := by
  refine z_loop (3) (fun i hi ih hj => ?_)
  refine z_aload_n 0 rfl rfl dX7_stageOf_2 ?_
  refine zM_ref 0 1 hp (by decide) rfl (by decide) rfl rfl zf_X7_7 dX7_stageOf_3 ?_
  refine z_bipush (nI 9) dX7_stageOf_6 rfl ?_
  refine z_iconst (nI 2) dX7_stageOf_8 rfl ?_
  refine z_iload_n 2 rfl rfl dX7_stageOf_9 ?_
  refine z_imulN dX7_stageOf_10 ?_
  refine z_iaddN dX7_stageOf_11 ?_
  refine zM_vld hp (by omega) dX7_stageOf_12 ?_
  refine z_aload_n 0 rfl rfl dX7_stageOf_13 ?_
  refine z_iload_n 1 rfl rfl dX7_stageOf_14 ?_
  refine zM_p1 zm_X7_daysLeft (c_X7_daysLeft hp _ (by omega)) hp rfl rfl zl_X7_49 (by decide) (Nat.le_of_ble_eq_true rfl) dX7_stageOf_15 ?_
  refine z_icmp_le 27 dX7_stageOf_18 rfl (fun c18 => ?_) (fun c18 => ?_)
  · refine z_iload_n 2 rfl rfl dX7_stageOf_27 ?_
    exact z_iret dX7_stageOf_28 (by
        have h0 := hj 0; have h1 := hj 1; have h2 := hj 2
        rcases (by omega : i = 0 ∨ i = 1 ∨ i = 2 ∨ i = 3) with rfl | rfl | rfl | rfl
        · rw [sStage, if_pos c18]
        · rw [sStage, if_neg (h0 (by omega)), if_pos c18]
        · rw [sStage, if_neg (h0 (by omega)), if_neg (h1 (by omega)), if_pos c18]
        · rw [sStage, if_neg (h0 (by omega)), if_neg (h1 (by omega)), if_neg (h2 (by omega))]) rfl
  · have hl : i < 3 := by
      rcases Nat.lt_or_ge i 3 with q | q
      · exact q
      · have : i = 3 := by omega
        subst this
        exact absurd hst c18
    refine z_iincN (n := 1) 2 rfl rfl dX7_stageOf_21 ?_
    refine z_goto 2 dX7_stageOf_24 rfl ?_
    exact ih hl (fun j hj1 => by by_cases e : j = i; subst e; exact c18; exact hj j (by omega))
set_option maxRecDepth 4000 in
theorem c_X7_stageOf {l : Launch} {G : zG} {A : Nat → Nat} {m0 mm : zM} {v : Nat → Int32} {S : Nat → Nat → Int32} (hp : zMP G A m0 v S mm) (d : Nat) (hd : d < 10) (hst : v 15 ≤ sLeft v d) : zSem l G (yX7_stageOf, cX7_stageOf, 3, (some .int)) 4 [.ref (A 0), .int (nI d)] mm (some (.int (nI (sStage v d)))) (fun m' => m' = mm) := by
  refine z_met [some (.ref (A 0)), some (.int (nI d)), none] rfl (zc1 (by rfl)) (Nat.le_of_ble_eq_true rfl) rfl ?_
  refine z_iconst (nI 0) dX7_stageOf_0 rfl ?_
  refine z_istore_n 2 rfl (Nat.le_of_ble_eq_true rfl) rfl dX7_stageOf_1 ?_
  exact l_X7_stageOf hp d hd hst 0 (by omega) (fun j h => absurd h (by omega))
theorem l_X7_lowest_a {v : Nat → Int32} {d i : Nat} {s : Int32} {w : Nat} {o : Option Nat} (ho : o = sLow v d s w i) (h : ¬ (v (147 + 7 * i + 0) = nI d ∧ v (147 + 7 * i + 3) = s)) : o = sLow v d s w (i + 1) := by rw [sLow, if_neg h]; exact ho
set_option maxRecDepth 4000 in
theorem l_X7_lowest {l : Launch} {G : zG} {A : Nat → Nat} {m0 mm : zM} {v : Nat → Int32} {S : Nat → Nat → Int32} (hp : zMP G A m0 v S mm) (d : Nat) (s : Int32) (w : Nat) (hw : w < 7) (hJ : zJ2 v) : ∀ i, i ≤ nR v → ∀ (o : Option Nat) (ho : o = sLow v d s w i) (x6 : Option Value), zV l G (yX7_lowest, cX7_lowest, 7, (some .int)) 3 (some (.int (zO (sLow v d s w (nR v))))) (fun m' => m' = mm) 6 [some (.ref (A 0)), some (.int (nI d)), some (.int s), some (.int (nI w)), some (.int (zO o)), some (.int (nI i)), x6] [] mm := by
  have hJ2 := hJ.2
  refine z_loop (nR v) (fun i hi ih o ho x6 => ?_)
  rcases o with _ | b
  · show zV _ _ _ _ _ _ 6 [some (.ref (A 0)), some (.int (nI d)), some (.int s), some (.int (nI w)), some (.int (zO none)), some (.int (nI i)), x6] [] mm
    refine z_iload 5 rfl dX7_lowest_6 ?_
    refine z_aload_n 0 rfl rfl dX7_lowest_8 ?_
    refine zM_ref 0 1 hp (by decide) rfl (by decide) rfl rfl zf_X7_7 dX7_lowest_9 ?_
    refine z_iconst (nI 2) dX7_lowest_12 rfl ?_
    refine zM_vld hp (by omega) dX7_lowest_13 ?_
    refine z_icmp_ge 88 dX7_lowest_14 rfl (fun c14 => ?_) (fun c14 => ?_)
    · have e : i = nR v := by rw [hJ.1] at c14; have := (nI_leI (by omega) (by omega)).mp c14; omega
      refine z_iload 4 rfl dX7_lowest_88 ?_
      exact z_iret dX7_lowest_90 (by subst e; first | rw [← ho]; rfl | rw [← ho]) rfl
    · have hl : i < nR v := by rw [hJ.1] at c14; exact Nat.lt_of_not_le (fun q => c14 ((nI_leI (by omega) (by omega)).mpr q))
      refine z_aload_n 0 rfl rfl dX7_lowest_17 ?_
      refine z_iload 5 rfl dX7_lowest_18 ?_
      refine z_iconst (nI 0) dX7_lowest_20 rfl ?_
      refine zM_p2 zm_X7_of (c_X7_of hp _ _ (by omega) (by omega)) hp rfl rfl zl_X7_53 (by decide) (Nat.le_of_ble_eq_true rfl) dX7_lowest_21 ?_
      refine z_iload_n 1 rfl rfl dX7_lowest_24 ?_
      refine z_icmp_ne 43 dX7_lowest_25 rfl (fun c25 => ?_) (fun c25 => ?_)
      · refine z_iconst (nI 0) dX7_lowest_43 rfl ?_
        refine z_istore 6 (Nat.le_of_ble_eq_true rfl) rfl dX7_lowest_44 ?_
        refine z_iload 6 rfl dX7_lowest_46 ?_
        refine z_if_eq 78 dX7_lowest_48 rfl (fun c48 => ?_) (fun c48 => ?_)
        · refine z_iload 4 rfl dX7_lowest_78 ?_
          refine z_istore 4 (Nat.le_of_ble_eq_true rfl) rfl dX7_lowest_80 ?_
          refine z_iincN (n := 1) 5 rfl rfl dX7_lowest_82 ?_
          refine z_goto 6 dX7_lowest_85 rfl ?_
          first | exact ih hl none (l_X7_lowest_a ho (fun q => c25 q.1)) _ | exact ih hl none (l_X7_lowest_a ho (fun q => c36 q.2)) _ | exact ih hl (some i) (by rw [sLow, if_pos (And.intro c25 c36), ← ho]) _
        · exact absurd c48 (by decide)
      · refine z_aload_n 0 rfl rfl dX7_lowest_28 ?_
        refine z_iload 5 rfl dX7_lowest_29 ?_
        refine z_iconst (nI 3) dX7_lowest_31 rfl ?_
        refine zM_p2 zm_X7_of (c_X7_of hp _ _ (by omega) (by omega)) hp rfl rfl zl_X7_53 (by decide) (Nat.le_of_ble_eq_true rfl) dX7_lowest_32 ?_
        refine z_iload_n 2 rfl rfl dX7_lowest_35 ?_
        refine z_icmp_ne 43 dX7_lowest_36 rfl (fun c36 => ?_) (fun c36 => ?_)
        · refine z_iconst (nI 0) dX7_lowest_43 rfl ?_
          refine z_istore 6 (Nat.le_of_ble_eq_true rfl) rfl dX7_lowest_44 ?_
          refine z_iload 6 rfl dX7_lowest_46 ?_
          refine z_if_eq 78 dX7_lowest_48 rfl (fun c48 => ?_) (fun c48 => ?_)
          · refine z_iload 4 rfl dX7_lowest_78 ?_
            refine z_istore 4 (Nat.le_of_ble_eq_true rfl) rfl dX7_lowest_80 ?_
            refine z_iincN (n := 1) 5 rfl rfl dX7_lowest_82 ?_
            refine z_goto 6 dX7_lowest_85 rfl ?_
            first | exact ih hl none (l_X7_lowest_a ho (fun q => c25 q.1)) _ | exact ih hl none (l_X7_lowest_a ho (fun q => c36 q.2)) _ | exact ih hl (some i) (by rw [sLow, if_pos (And.intro c25 c36), ← ho]) _
          · exact absurd c48 (by decide)
        · refine z_iconst (nI 1) dX7_lowest_39 rfl ?_
          refine z_goto 44 dX7_lowest_40 rfl ?_
          refine z_istore 6 (Nat.le_of_ble_eq_true rfl) rfl dX7_lowest_44 ?_
          refine z_iload 6 rfl dX7_lowest_46 ?_
          refine z_if_eq 78 dX7_lowest_48 rfl (fun c48 => ?_) (fun c48 => ?_)
          · exact absurd c48 (by decide)
          · refine z_iload 4 rfl dX7_lowest_51 ?_
            refine z_if_lt 73 dX7_lowest_53 rfl (fun c53 => ?_) (fun c53 => ?_)
            · refine z_iload 5 rfl dX7_lowest_73 ?_
              refine z_goto 80 dX7_lowest_75 rfl ?_
              refine z_istore 4 (Nat.le_of_ble_eq_true rfl) rfl dX7_lowest_80 ?_
              refine z_iincN (n := 1) 5 rfl rfl dX7_lowest_82 ?_
              refine z_goto 6 dX7_lowest_85 rfl ?_
              first | exact ih hl none (l_X7_lowest_a ho (fun q => c25 q.1)) _ | exact ih hl none (l_X7_lowest_a ho (fun q => c36 q.2)) _ | exact ih hl (some i) (by rw [sLow, if_pos (And.intro c25 c36), ← ho]) _
            · exact absurd (by decide) c53
  · show zV _ _ _ _ _ _ 6 [some (.ref (A 0)), some (.int (nI d)), some (.int s), some (.int (nI w)), some (.int (nI b)), some (.int (nI i)), x6] [] mm
    have hb : b < i := sLow_lt ho.symm
    refine z_iload 5 rfl dX7_lowest_6 ?_
    refine z_aload_n 0 rfl rfl dX7_lowest_8 ?_
    refine zM_ref 0 1 hp (by decide) rfl (by decide) rfl rfl zf_X7_7 dX7_lowest_9 ?_
    refine z_iconst (nI 2) dX7_lowest_12 rfl ?_
    refine zM_vld hp (by omega) dX7_lowest_13 ?_
    refine z_icmp_ge 88 dX7_lowest_14 rfl (fun c14 => ?_) (fun c14 => ?_)
    · have e : i = nR v := by rw [hJ.1] at c14; have := (nI_leI (by omega) (by omega)).mp c14; omega
      refine z_iload 4 rfl dX7_lowest_88 ?_
      exact z_iret dX7_lowest_90 (by subst e; first | rw [← ho]; rfl | rw [← ho]) rfl
    · have hl : i < nR v := by rw [hJ.1] at c14; exact Nat.lt_of_not_le (fun q => c14 ((nI_leI (by omega) (by omega)).mpr q))
      refine z_aload_n 0 rfl rfl dX7_lowest_17 ?_
      refine z_iload 5 rfl dX7_lowest_18 ?_
      refine z_iconst (nI 0) dX7_lowest_20 rfl ?_
      refine zM_p2 zm_X7_of (c_X7_of hp _ _ (by omega) (by omega)) hp rfl rfl zl_X7_53 (by decide) (Nat.le_of_ble_eq_true rfl) dX7_lowest_21 ?_
      refine z_iload_n 1 rfl rfl dX7_lowest_24 ?_
      refine z_icmp_ne 43 dX7_lowest_25 rfl (fun c25 => ?_) (fun c25 => ?_)
      · refine z_iconst (nI 0) dX7_lowest_43 rfl ?_
        refine z_istore 6 (Nat.le_of_ble_eq_true rfl) rfl dX7_lowest_44 ?_
        refine z_iload 6 rfl dX7_lowest_46 ?_
        refine z_if_eq 78 dX7_lowest_48 rfl (fun c48 => ?_) (fun c48 => ?_)
        · refine z_iload 4 rfl dX7_lowest_78 ?_
          refine z_istore 4 (Nat.le_of_ble_eq_true rfl) rfl dX7_lowest_80 ?_
          refine z_iincN (n := 1) 5 rfl rfl dX7_lowest_82 ?_
          refine z_goto 6 dX7_lowest_85 rfl ?_
          first | exact ih hl (some b) (l_X7_lowest_a ho (fun q => c25 q.1)) _ | exact ih hl (some b) (l_X7_lowest_a ho (fun q => c36 q.2)) _ | exact ih hl (some i) (by rw [sLow, if_pos (And.intro c25 c36), ← ho]; simp only []; rw [if_pos (i_not_le.mp c70)]) _ | exact ih hl (some b) (by rw [sLow, if_pos (And.intro c25 c36), ← ho]; simp only []; rw [if_neg (i_not_lt.mpr c70)]) _
        · exact absurd c48 (by decide)
      · refine z_aload_n 0 rfl rfl dX7_lowest_28 ?_
        refine z_iload 5 rfl dX7_lowest_29 ?_
        refine z_iconst (nI 3) dX7_lowest_31 rfl ?_
        refine zM_p2 zm_X7_of (c_X7_of hp _ _ (by omega) (by omega)) hp rfl rfl zl_X7_53 (by decide) (Nat.le_of_ble_eq_true rfl) dX7_lowest_32 ?_
        refine z_iload_n 2 rfl rfl dX7_lowest_35 ?_
        refine z_icmp_ne 43 dX7_lowest_36 rfl (fun c36 => ?_) (fun c36 => ?_)
        · refine z_iconst (nI 0) dX7_lowest_43 rfl ?_
          refine z_istore 6 (Nat.le_of_ble_eq_true rfl) rfl dX7_lowest_44 ?_
          refine z_iload 6 rfl dX7_lowest_46 ?_
          refine z_if_eq 78 dX7_lowest_48 rfl (fun c48 => ?_) (fun c48 => ?_)
          · refine z_iload 4 rfl dX7_lowest_78 ?_
            refine z_istore 4 (Nat.le_of_ble_eq_true rfl) rfl dX7_lowest_80 ?_
            refine z_iincN (n := 1) 5 rfl rfl dX7_lowest_82 ?_
            refine z_goto 6 dX7_lowest_85 rfl ?_
            first | exact ih hl (some b) (l_X7_lowest_a ho (fun q => c25 q.1)) _ | exact ih hl (some b) (l_X7_lowest_a ho (fun q => c36 q.2)) _ | exact ih hl (some i) (by rw [sLow, if_pos (And.intro c25 c36), ← ho]; simp only []; rw [if_pos (i_not_le.mp c70)]) _ | exact ih hl (some b) (by rw [sLow, if_pos (And.intro c25 c36), ← ho]; simp only []; rw [if_neg (i_not_lt.mpr c70)]) _
          · exact absurd c48 (by decide)
        · refine z_iconst (nI 1) dX7_lowest_39 rfl ?_
          refine z_goto 44 dX7_lowest_40 rfl ?_
          refine z_istore 6 (Nat.le_of_ble_eq_true rfl) rfl dX7_lowest_44 ?_
          refine z_iload 6 rfl dX7_lowest_46 ?_
          refine z_if_eq 78 dX7_lowest_48 rfl (fun c48 => ?_) (fun c48 => ?_)
          · exact absurd c48 (by decide)
          · refine z_iload 4 rfl dX7_lowest_51 ?_
            refine z_if_lt 73 dX7_lowest_53 rfl (fun c53 => ?_) (fun c53 => ?_)
            · exact absurd c53 (nI_pos (by omega))
            · refine z_aload_n 0 rfl rfl dX7_lowest_56 ?_
              refine z_iload 5 rfl dX7_lowest_57 ?_
              refine z_iload_n 3 rfl rfl dX7_lowest_59 ?_
              refine zM_p2 zm_X7_of (c_X7_of hp _ _ (by omega) (by omega)) hp rfl rfl zl_X7_53 (by decide) (Nat.le_of_ble_eq_true rfl) dX7_lowest_60 ?_
              refine z_aload_n 0 rfl rfl dX7_lowest_63 ?_
              refine z_iload 4 rfl dX7_lowest_64 ?_
              refine z_iload_n 3 rfl rfl dX7_lowest_66 ?_
              refine zM_p2 zm_X7_of (c_X7_of hp _ _ (by omega) (by omega)) hp rfl rfl zl_X7_53 (by decide) (Nat.le_of_ble_eq_true rfl) dX7_lowest_67 ?_
              refine z_icmp_ge 78 dX7_lowest_70 rfl (fun c70 => ?_) (fun c70 => ?_)
              · refine z_iload 4 rfl dX7_lowest_78 ?_
                refine z_istore 4 (Nat.le_of_ble_eq_true rfl) rfl dX7_lowest_80 ?_
                refine z_iincN (n := 1) 5 rfl rfl dX7_lowest_82 ?_
                refine z_goto 6 dX7_lowest_85 rfl ?_
                first | exact ih hl (some b) (l_X7_lowest_a ho (fun q => c25 q.1)) _ | exact ih hl (some b) (l_X7_lowest_a ho (fun q => c36 q.2)) _ | exact ih hl (some i) (by rw [sLow, if_pos (And.intro c25 c36), ← ho]; simp only []; rw [if_pos (i_not_le.mp c70)]) _ | exact ih hl (some b) (by rw [sLow, if_pos (And.intro c25 c36), ← ho]; simp only []; rw [if_neg (i_not_lt.mpr c70)]) _
              · refine z_iload 5 rfl dX7_lowest_73 ?_
                refine z_goto 80 dX7_lowest_75 rfl ?_
                refine z_istore 4 (Nat.le_of_ble_eq_true rfl) rfl dX7_lowest_80 ?_
                refine z_iincN (n := 1) 5 rfl rfl dX7_lowest_82 ?_
                refine z_goto 6 dX7_lowest_85 rfl ?_
                first | exact ih hl (some b) (l_X7_lowest_a ho (fun q => c25 q.1)) _ | exact ih hl (some b) (l_X7_lowest_a ho (fun q => c36 q.2)) _ | exact ih hl (some i) (by rw [sLow, if_pos (And.intro c25 c36), ← ho]; simp only []; rw [if_pos (i_not_le.mp c70)]) _ | exact ih hl (some b) (by rw [sLow, if_pos (And.intro c25 c36), ← ho]; simp only []; rw [if_neg (i_not_lt.mpr c70)]) _
set_option maxRecDepth 4000 in
theorem c_X7_lowest {l : Launch} {G : zG} {A : Nat → Nat} {m0 mm : zM} {v : Nat → Int32} {S : Nat → Nat → Int32} (hp : zMP G A m0 v S mm) (d : Nat) (s : Int32) (w : Nat) (hw : w < 7) (hJ : zJ2 v) : zSem l G (yX7_lowest, cX7_lowest, 7, (some .int)) 3 [.ref (A 0), .int (nI d), .int s, .int (nI w)] mm (some (.int (zO (sLow v d s w (nR v))))) (fun m' => m' = mm) := by
  refine z_met [some (.ref (A 0)), some (.int (nI d)), some (.int s), some (.int (nI w)), none, none, none] rfl (zc1 (by rfl)) (Nat.le_of_ble_eq_true rfl) rfl ?_
  refine z_iconst (-1) dX7_lowest_0 (by decide) ?_
  refine z_istore 4 (Nat.le_of_ble_eq_true rfl) rfl dX7_lowest_1 ?_
  refine z_iconst (nI 0) dX7_lowest_3 rfl ?_
  refine z_istore 5 (Nat.le_of_ble_eq_true rfl) rfl dX7_lowest_4 ?_
  exact l_X7_lowest hp d s w hw hJ 0 (Nat.zero_le _) none rfl _
set_option maxRecDepth 4000 in
theorem c_X7_refund {l : Launch} {G : zG} {A : Nat → Nat} {m0 mm : zM} {v : Nat → Int32} {S : Nat → Nat → Int32} (hp : zMP G A m0 v S mm) (r d : Nat) (hr : r < 60) (hd : d < 10) (hF : v (147 + 7 * r + 0) = nI d) (hst : v 15 ≤ sLeft v d) : zSem l G (yX7_refund, cX7_refund, 3, (some .int)) 5 [.ref (A 0), .int (nI r)] mm (some (.int (sRef v r d))) (fun m' => m' = mm) := by
  refine z_met [some (.ref (A 0)), some (.int (nI r)), none] rfl (zc1 (by rfl)) (Nat.le_of_ble_eq_true rfl) rfl ?_
  refine z_aload_n 0 rfl rfl dX7_refund_0 ?_
  refine zM_ref 0 1 hp (by decide) rfl (by decide) rfl rfl zf_X7_7 dX7_refund_1 ?_
  refine z_bipush (nI 9) dX7_refund_4 rfl ?_
  refine z_iconst (nI 2) dX7_refund_6 rfl ?_
  refine z_aload_n 0 rfl rfl dX7_refund_7 ?_
  refine z_aload_n 0 rfl rfl dX7_refund_8 ?_
  refine z_iload_n 1 rfl rfl dX7_refund_9 ?_
  refine z_iconst (nI 0) dX7_refund_10 rfl ?_
  refine zM_p2 zm_X7_of (c_X7_of hp _ _ (by omega) (by omega)) hp rfl rfl zl_X7_53 (by decide) (Nat.le_of_ble_eq_true rfl) dX7_refund_11 ?_
  rw [hF]
  refine zM_p1 zm_X7_stageOf (c_X7_stageOf hp _ (by omega) (by assumption)) hp rfl rfl zl_X7_87 (by decide) (Nat.le_of_ble_eq_true rfl) dX7_refund_14 ?_
  have hs3 : sStage v d ≤ 3 := by unfold sStage; split; omega; split; omega; split; omega; omega
  refine z_imulN dX7_refund_17 ?_
  refine z_iaddN dX7_refund_18 ?_
  refine z_iconst (nI 1) dX7_refund_19 rfl ?_
  refine z_iaddN dX7_refund_20 ?_
  refine zM_vld hp (by omega) dX7_refund_21 ?_
  refine z_istore_n 2 rfl (Nat.le_of_ble_eq_true rfl) rfl dX7_refund_22 ?_
  refine z_aload_n 0 rfl rfl dX7_refund_23 ?_
  refine z_iload_n 1 rfl rfl dX7_refund_24 ?_
  refine z_iconst (nI 2) dX7_refund_25 rfl ?_
  refine zM_p2 zm_X7_of (c_X7_of hp _ _ (by omega) (by omega)) hp rfl rfl zl_X7_53 (by decide) (Nat.le_of_ble_eq_true rfl) dX7_refund_26 ?_
  refine z_aload_n 0 rfl rfl dX7_refund_29 ?_
  refine z_iload_n 1 rfl rfl dX7_refund_30 ?_
  refine z_iconst (nI 2) dX7_refund_31 rfl ?_
  refine zM_p2 zm_X7_of (c_X7_of hp _ _ (by omega) (by omega)) hp rfl rfl zl_X7_53 (by decide) (Nat.le_of_ble_eq_true rfl) dX7_refund_32 ?_
  refine z_iload_n 2 rfl rfl dX7_refund_35 ?_
  refine z_imul dX7_refund_36 ?_
  refine z_bipush (nI 100) dX7_refund_37 rfl ?_
  refine z_idiv dX7_refund_39 (by decide) ?_
  refine z_isub dX7_refund_40 ?_
  exact z_iret dX7_refund_41 rfl rfl
set_option maxRecDepth 4000 in
theorem c_X7_canExercise {l : Launch} {G : zG} {A : Nat → Nat} {m0 mm : zM} {v : Nat → Int32} {S : Nat → Nat → Int32} (hp : zMP G A m0 v S mm) (r d : Nat) (hr : r < 60) (hd : d < 10) (hF : v (147 + 7 * r + 0) = nI d) (hJ : zJ2 v) : zSem l G (yX7_canExercise, cX7_canExercise, 3, (some .boolean)) 4 [.ref (A 0), .int (nI r)] mm (some (.int (zB (sEx v r d)))) (fun m' => m' = mm) := by
  refine z_met [some (.ref (A 0)), some (.int (nI r)), none] rfl (zc1 (by rfl)) (Nat.le_of_ble_eq_true rfl) rfl ?_
  refine z_aload_n 0 rfl rfl dX7_canExercise_0 ?_
  refine z_iload_n 1 rfl rfl dX7_canExercise_1 ?_
  refine z_iconst (nI 0) dX7_canExercise_2 rfl ?_
  refine zM_p2 zm_X7_of (c_X7_of hp _ _ (by omega) (by omega)) hp rfl rfl zl_X7_53 (by decide) (Nat.le_of_ble_eq_true rfl) dX7_canExercise_3 ?_
  rw [hF]
  refine z_istore_n 2 rfl (Nat.le_of_ble_eq_true rfl) rfl dX7_canExercise_6 ?_
  refine z_aload_n 0 rfl rfl dX7_canExercise_7 ?_
  refine z_iload_n 1 rfl rfl dX7_canExercise_8 ?_
  refine z_iconst (nI 3) dX7_canExercise_9 rfl ?_
  refine zM_p2 zm_X7_of (c_X7_of hp _ _ (by omega) (by omega)) hp rfl rfl zl_X7_53 (by decide) (Nat.le_of_ble_eq_true rfl) dX7_canExercise_10 ?_
  refine z_if_ne 54 dX7_canExercise_13 rfl (fun c13 => ?_) (fun c13 => ?_)
  · refine z_iconst (nI 0) dX7_canExercise_54 rfl ?_
    exact z_zret dX7_canExercise_55 (by first | rfl | exact zB_nar _) (by first | (simp only [sEx, c13, c31, i_not_le.mp c47, decide_true, Bool.and_self]; rfl) | (simp only [sEx, decide_eq_false c13, Bool.false_and]; rfl) | (simp only [sEx, c31, Bool.and_false, Bool.false_and]; rfl) | (simp only [sEx, decide_eq_false (i_not_lt.mpr c47), Bool.and_false]; rfl)) rfl
  · refine z_aload_n 0 rfl rfl dX7_canExercise_16 ?_
    refine z_iload_n 2 rfl rfl dX7_canExercise_17 ?_
    refine zM_p1 zm_X7_daysLeft (c_X7_daysLeft hp _ (by omega)) hp rfl rfl zl_X7_49 (by decide) (Nat.le_of_ble_eq_true rfl) dX7_canExercise_18 ?_
    refine z_iconst (nI 1) dX7_canExercise_21 rfl ?_
    refine z_aload_n 0 rfl rfl dX7_canExercise_22 ?_
    refine zM_ref 0 1 hp (by decide) rfl (by decide) rfl rfl zf_X7_7 dX7_canExercise_23 ?_
    refine z_iconst (nI 5) dX7_canExercise_26 rfl ?_
    refine zM_vld hp (by omega) dX7_canExercise_27 ?_
    refine z_pS3 zm_X7_in (c_X7_in _ _ _) rfl zl_X7_35 (by decide) (Nat.le_of_ble_eq_true rfl) dX7_canExercise_28 ?_
    refine z_if_eqB 54 dX7_canExercise_31 rfl (fun c31 => ?_) (fun c31 => ?_)
    · refine z_iconst (nI 0) dX7_canExercise_54 rfl ?_
      exact z_zret dX7_canExercise_55 (by first | rfl | exact zB_nar _) (by first | (simp only [sEx, c13, c31, i_not_le.mp c47, decide_true, Bool.and_self]; rfl) | (simp only [sEx, decide_eq_false c13, Bool.false_and]; rfl) | (simp only [sEx, c31, Bool.and_false, Bool.false_and]; rfl) | (simp only [sEx, decide_eq_false (i_not_lt.mpr c47), Bool.and_false]; rfl)) rfl
    · refine z_aload_n 0 rfl rfl dX7_canExercise_34 ?_
      refine z_iload_n 2 rfl rfl dX7_canExercise_35 ?_
      refine z_iconst (nI 2) dX7_canExercise_36 rfl ?_
      refine z_iconst (nI 2) dX7_canExercise_37 rfl ?_
      refine zM_p3 zm_X7_rightsOf (c_X7_rightsOf hp _ _ _ hJ) hp rfl rfl zl_X7_56 (by decide) (Nat.le_of_ble_eq_true rfl) dX7_canExercise_38 ?_
      refine z_aload_n 0 rfl rfl dX7_canExercise_41 ?_
      refine z_iload_n 2 rfl rfl dX7_canExercise_42 ?_
      refine z_iconst (nI 1) dX7_canExercise_43 rfl ?_
      refine zM_p2 zm_X7_ofDate (c_X7_ofDate hp _ _ (by omega) (by omega)) hp rfl rfl zl_X7_46 (by decide) (Nat.le_of_ble_eq_true rfl) dX7_canExercise_44 ?_
      refine z_icmp_ge 54 dX7_canExercise_47 rfl (fun c47 => ?_) (fun c47 => ?_)
      · refine z_iconst (nI 0) dX7_canExercise_54 rfl ?_
        exact z_zret dX7_canExercise_55 (by first | rfl | exact zB_nar _) (by first | (simp only [sEx, c13, c31, i_not_le.mp c47, decide_true, Bool.and_self]; rfl) | (simp only [sEx, decide_eq_false c13, Bool.false_and]; rfl) | (simp only [sEx, c31, Bool.and_false, Bool.false_and]; rfl) | (simp only [sEx, decide_eq_false (i_not_lt.mpr c47), Bool.and_false]; rfl)) rfl
      · refine z_iconst (nI 1) dX7_canExercise_50 rfl ?_
        refine z_goto 55 dX7_canExercise_51 rfl ?_
        exact z_zret dX7_canExercise_55 (by first | rfl | exact zB_nar _) (by first | (simp only [sEx, c13, c31, i_not_le.mp c47, decide_true, Bool.and_self]; rfl) | (simp only [sEx, decide_eq_false c13, Bool.false_and]; rfl) | (simp only [sEx, c31, Bool.and_false, Bool.false_and]; rfl) | (simp only [sEx, decide_eq_false (i_not_lt.mpr c47), Bool.and_false]; rfl)) rfl
set_option maxRecDepth 4000 in
theorem l_X7_placeOf {l : Launch} {G : zG} {A : Nat → Nat} {m0 mm : zM} {v : Nat → Int32} {S : Nat → Nat → Int32} (hp : zMP G A m0 v S mm) (d n : Nat) (h : Int32) (hd : d < 10) (hW : v (27 + 12 * d + 5) = nI n) (hn : n ≤ 6) : ∀ i, i ≤ n → ∀ (b : Int32) (hb : b = sPl v d h i), zV l G (yX7_placeOf, cX7_placeOf, 5, (some .int)) 3 (some (.int (sPl v d h n))) (fun m' => m' = mm) 6 [some (.ref (A 0)), some (.int h), some (.int (nI d)), some (.int b), some (.int (nI i))] [] mm := by
  refine z_loop (n) (fun i hi ih b hb => ?_)
  refine z_iload 4 rfl dX7_placeOf_6 ?_
  refine z_aload_n 0 rfl rfl dX7_placeOf_8 ?_
  refine z_iload_n 2 rfl rfl dX7_placeOf_9 ?_
  refine z_iconst (nI 5) dX7_placeOf_10 rfl ?_
  refine zM_p2 zm_X7_ofDate (c_X7_ofDate hp _ _ (by omega) (by omega)) hp rfl rfl zl_X7_46 (by decide) (Nat.le_of_ble_eq_true rfl) dX7_placeOf_11 ?_
  refine z_icmp_ge 44 dX7_placeOf_14 rfl (fun c14 => ?_) (fun c14 => ?_)
  · have e : i = n := by rw [hW] at c14; have := (nI_leI (by omega) (by omega)).mp c14; omega
    refine z_iload_n 3 rfl rfl dX7_placeOf_44 ?_
    exact z_iret dX7_placeOf_45 (by subst e; rw [hb]) rfl
  · have hl : i < n := by rw [hW] at c14; exact Nat.lt_of_not_le (fun q => c14 ((nI_leI (by omega) (by omega)).mpr q))
    refine z_aload_n 0 rfl rfl dX7_placeOf_17 ?_
    refine z_iload_n 2 rfl rfl dX7_placeOf_18 ?_
    refine z_bipush (nI 6) dX7_placeOf_19 rfl ?_
    refine z_iload 4 rfl dX7_placeOf_21 ?_
    refine z_iaddN dX7_placeOf_23 ?_
    refine zM_p2 zm_X7_ofDate (c_X7_ofDate hp _ _ (by omega) (by omega)) hp rfl rfl zl_X7_46 (by decide) (Nat.le_of_ble_eq_true rfl) dX7_placeOf_24 ?_
    refine z_iload_n 1 rfl rfl dX7_placeOf_27 ?_
    refine z_icmp_ne 36 dX7_placeOf_28 rfl (fun c28 => ?_) (fun c28 => ?_)
    · refine z_iload_n 3 rfl rfl dX7_placeOf_36 ?_
      refine z_istore_n 3 rfl (Nat.le_of_ble_eq_true rfl) rfl dX7_placeOf_37 ?_
      refine z_iincN (n := 1) 4 rfl rfl dX7_placeOf_38 ?_
      refine z_goto 6 dX7_placeOf_41 rfl ?_
      exact ih hl _ (by first | rw [sPl, if_pos c28] | rw [sPl, if_neg c28, hb])
    · refine z_iload 4 rfl dX7_placeOf_31 ?_
      refine z_goto 37 dX7_placeOf_33 rfl ?_
      refine z_istore_n 3 rfl (Nat.le_of_ble_eq_true rfl) rfl dX7_placeOf_37 ?_
      refine z_iincN (n := 1) 4 rfl rfl dX7_placeOf_38 ?_
      refine z_goto 6 dX7_placeOf_41 rfl ?_
      exact ih hl _ (by first | rw [sPl, if_pos c28] | rw [sPl, if_neg c28, hb])
set_option maxRecDepth 4000 in
theorem c_X7_placeOf {l : Launch} {G : zG} {A : Nat → Nat} {m0 mm : zM} {v : Nat → Int32} {S : Nat → Nat → Int32} (hp : zMP G A m0 v S mm) (d n : Nat) (h : Int32) (hd : d < 10) (hW : v (27 + 12 * d + 5) = nI n) (hn : n ≤ 6) : zSem l G (yX7_placeOf, cX7_placeOf, 5, (some .int)) 3 [.ref (A 0), .int h, .int (nI d)] mm (some (.int (sPl v d h n))) (fun m' => m' = mm) := by
  refine z_met [some (.ref (A 0)), some (.int h), some (.int (nI d)), none, none] rfl (zc1 (by rfl)) (Nat.le_of_ble_eq_true rfl) rfl ?_
  refine z_bipush (-5) dX7_placeOf_0 (by decide) ?_
  refine z_istore_n 3 rfl (Nat.le_of_ble_eq_true rfl) rfl dX7_placeOf_2 ?_
  refine z_iconst (nI 0) dX7_placeOf_3 rfl ?_
  refine z_istore 4 (Nat.le_of_ble_eq_true rfl) rfl dX7_placeOf_4 ?_
  exact l_X7_placeOf hp d n h hd hW hn 0 (Nat.zero_le _) _ rfl
end
section
theorem z_iincD {l : Launch} {G : zG} {y : MethodName} {cc : ByteArray} {nL : Nat} {ret : Option FieldType} {d : Nat} {rv : Option Value} {Q : zM → Prop} {pc : Nat} {lv : List (Option Value)} {st : List Value} {mm : zM} {a : Nat} (i : Nat) {lv' : List (Option Value)} (ha : 1 ≤ a) (hi : lv[i]? = some (some (.int (nI a)))) (he : lv.set i (some (.int (nI (a - 1)))) = lv') (hd : decode cc pc = .ok (.iinc i (-1), 3)) (k : zV l G (y, cc, nL, ret) d rv Q (pc + 3) lv' st mm) : zV l G (y, cc, nL, ret) d rv Q pc lv st mm :=
  z_iinc i hi (by
    have e : nI a = nI (a - 1) + 1 := by rw [nI_1]; congr 1; omega
    rw [e, show Int32.ofInt (-1) = -1 from rfl, Int32.add_assoc, show (1 : Int32) + -1 = 0 from by decide, Int32.add_zero]) he hd k
/-! the reference's changes -/
def sPays (v : Nat → Int32) (h : Nat) (c : Int32) : Nat → Int32 := upd (upd v (17 + h) (v (17 + h) - c)) 7 (upd v (17 + h) (v (17 + h) - c) 7 + c)
def sBec (v : Nat → Int32) (r : Nat) (s : Int32) : Nat → Int32 := upd (upd v (147 + 7 * r + 3) s) (147 + 7 * r + 4) (-5)
def sShf (v : Nat → Int32) (i : Nat) : Nat → Int32 := fun j => if 606 - i < j ∧ j < 607 then v (j - 4) else v j
def sLog0 (v : Nat → Int32) (k r c : Int32) : Nat → Int32 := upd (upd (upd (upd (sShf v 36) 567 k) 568 r) 569 c) 570 (upd (upd (upd (sShf v 36) 567 k) 568 r) 569 c 0)
def sLog (v : Nat → Int32) (k r c : Int32) : Nat → Int32 := upd (sLog0 v k r c) 8 (sLog0 v k r c 8 + if sLog0 v k r c 8 < nI 10 then nI 1 else nI 0)
def sNew (v : Nat → Int32) (r d h : Nat) (c : Int32) : Nat → Int32 :=
  upd (upd (upd (upd (upd (upd (upd v (147 + 7 * r + 0) (nI d)) (147 + 7 * r + 1) (nI h)) (147 + 7 * r + 2) c) (147 + 7 * r + 3) (nI 0)) (147 + 7 * r + 4) (-5)) (147 + 7 * r + 5) (upd (upd (upd (upd (upd v (147 + 7 * r + 0) (nI d)) (147 + 7 * r + 1) (nI h)) (147 + 7 * r + 2) c) (147 + 7 * r + 3) (nI 0)) (147 + 7 * r + 4) (-5) 0)) (147 + 7 * r + 6) (nI 0)
def sNew2 (v : Nat → Int32) (r d h : Nat) (c : Int32) : Nat → Int32 := upd (sNew v r d h c) 2 (sNew v r d h c 2 + nI 1)
def sSells (v : Nat → Int32) (h d : Nat) : Nat → Int32 := sLog (sPays (sNew2 v (nR v) d h (sPrice v d (sLeft v d))) h (sPrice v d (sLeft v d))) (nI 0) (nI (nR v)) (sPrice v d (sLeft v d))
def sDr (v : Nat → Int32) (d p i : Nat) : Nat → Int32 := fun j => if 27 + 12 * d + 6 + p ≤ j ∧ j < 27 + 12 * d + 6 + p + i then v (j + 1) else v j
def sDrop (v : Nat → Int32) (d p n : Nat) : Nat → Int32 := upd (sDr v d p (n - 1 - p)) (27 + 12 * d + 5) (sDr v d p (n - 1 - p) (27 + 12 * d + 5) - nI 1)
def sLB (d : Nat) : Nat → (Nat → Int32) → (Nat → Int32)
  | 0, v => v
  | n + 1, v => if 0 < sCan v d then sLB d n (sSells (sDrop v d 0 (n + 1)) (v (27 + 12 * d + 6)).toNatClampNeg d) else v
/-! what holds of the indices -/
def zKd (v : Nat → Int32) (d : Nat) : Prop := ∃ n, n ≤ 6 ∧ v (27 + 12 * d + 5) = nI n ∧ ∀ k, k < n → ∃ h, h < 10 ∧ v (27 + 12 * d + (6 + k)) = nI h
def zKr (v : Nat → Int32) (r : Nat) : Prop := (∃ d, d < nD v ∧ v (147 + 7 * r + 0) = nI d) ∧ ∃ h, h < 10 ∧ v (147 + 7 * r + 1) = nI h
def zK (v : Nat → Int32) : Prop := zJ1 v ∧ zJ2 v ∧ (∀ d, d < 10 → zKd v d) ∧ (∀ d, d < nD v → ¬ v (27 + 12 * d + 1) = 0) ∧ ∀ r, r < nR v → zKr v r
theorem nR_of {v w : Nat → Int32} (h : w 2 = v 2) : nR w = nR v := by unfold nR; rw [h]
theorem nD_of {v w : Nat → Int32} (h : w 1 = v 1) : nD w = nD v := by unfold nD; rw [h]
theorem zJ1.of {v w : Nat → Int32} (h : zJ1 v) (e : w 1 = v 1) : zJ1 w := by unfold zJ1 at *; rw [nD_of e, e]; exact h
theorem zJ2.of {v w : Nat → Int32} (h : zJ2 v) (e : w 2 = v 2) : zJ2 w := by unfold zJ2 at *; rw [nR_of e, e]; exact h
theorem zKd.of {v w : Nat → Int32} {d : Nat} (h : zKd v d) (e : ∀ k, 5 ≤ k → k < 12 → w (27 + 12 * d + k) = v (27 + 12 * d + k)) : zKd w d := by
  obtain ⟨n, h1, h2, h3⟩ := h
  exact ⟨n, h1, by rw [e 5 (by omega) (by omega)]; exact h2, fun k hk => by rw [e (6 + k) (by omega) (by omega)]; exact h3 k hk⟩
theorem zKr.of {v w : Nat → Int32} {r : Nat} (h : zKr v r) (e1 : w 1 = v 1) (e : ∀ k, k < 2 → w (147 + 7 * r + k) = v (147 + 7 * r + k)) : zKr w r := by
  unfold zKr
  rw [e 0 (by omega), e 1 (by omega), nD_of e1]; exact h
theorem zK.of {v w : Nat → Int32} (h : zK v) (e1 : w 1 = v 1) (e2 : w 2 = v 2) (ed : ∀ d k, d < 10 → k = 1 ∨ 5 ≤ k → k < 12 → w (27 + 12 * d + k) = v (27 + 12 * d + k)) (er : ∀ r k, r < 60 → k < 2 → w (147 + 7 * r + k) = v (147 + 7 * r + k)) : zK w :=
  ⟨h.1.of e1, h.2.1.of e2, fun d hd => (h.2.2.1 d hd).of (fun k h1 h2 => ed d k hd (Or.inr h1) h2), fun d hd => by
    rw [nD_of e1] at hd
    rw [ed d 1 (by have := h.1.2; omega) (Or.inl rfl) (by omega)]; exact h.2.2.2.1 d hd, fun r hr => by
    rw [nR_of e2] at hr
    exact (h.2.2.2.2 r hr).of e1 (fun k hk => er r k (by have := h.2.1.2; omega) hk)⟩
theorem upd_ne {v : Nat → Int32} {i j : Nat} {x : Int32} (h : j ≠ i) : upd v i x j = v j := by simp [upd, h]
theorem upd_eq {v : Nat → Int32} {i : Nat} {x : Int32} : upd v i x i = x := by simp [upd]
theorem sPays_at {v : Nat → Int32} {h : Nat} {c : Int32} {j : Nat} (h7 : j ≠ 7) (hj : j ≠ 17 + h) : sPays v h c j = v j := by unfold sPays; rw [upd_ne h7, upd_ne hj]
theorem sBec_at {v : Nat → Int32} {r : Nat} {s : Int32} {j : Nat} (h3 : j ≠ 147 + 7 * r + 3) (h4 : j ≠ 147 + 7 * r + 4) : sBec v r s j = v j := by unfold sBec; rw [upd_ne h4, upd_ne h3]
theorem sLog_at {v : Nat → Int32} {k r c : Int32} {j : Nat} (h8 : j ≠ 8) (hj : j < 567) : sLog v k r c j = v j := by
  unfold sLog sLog0
  rw [upd_ne h8, upd_ne (by omega), upd_ne (by omega), upd_ne (by omega), upd_ne (by omega), sShf, if_neg (by omega)]
theorem sNew2_at {v : Nat → Int32} {r d h : Nat} {c : Int32} {j : Nat} (h2 : j ≠ 2) (hj : j < 147 + 7 * r ∨ 147 + 7 * r + 7 ≤ j) : sNew2 v r d h c j = v j := by
  unfold sNew2 sNew
  rw [upd_ne h2, upd_ne (by omega), upd_ne (by omega), upd_ne (by omega), upd_ne (by omega), upd_ne (by omega), upd_ne (by omega), upd_ne (by omega)]
theorem zK.pays {v : Nat → Int32} {h : Nat} {c : Int32} (hK : zK v) (hh : h < 10) : zK (sPays v h c) :=
  hK.of (sPays_at (by omega) (by omega)) (sPays_at (by omega) (by omega)) (fun d k hd hk h12 => sPays_at (by omega) (by omega)) (fun r k hr hk => sPays_at (by omega) (by omega))
theorem zK.bec {v : Nat → Int32} {r : Nat} {s : Int32} (hK : zK v) : zK (sBec v r s) :=
  hK.of (sBec_at (by omega) (by omega)) (sBec_at (by omega) (by omega)) (fun d k hd hk h12 => sBec_at (by omega) (by omega)) (fun r k hr hk => sBec_at (by omega) (by omega))
theorem zK.log {v : Nat → Int32} {k r c : Int32} (hK : zK v) : zK (sLog v k r c) :=
  hK.of (sLog_at (by omega) (by omega)) (sLog_at (by omega) (by omega)) (fun d k hd hk h12 => sLog_at (by omega) (by omega)) (fun r k hr hk => sLog_at (by omega) (by omega))
theorem sNew2_2 {v : Nat → Int32} {r d h : Nat} {c : Int32} : sNew2 v r d h c 2 = v 2 + nI 1 := by
  unfold sNew2
  rw [upd_eq]
  unfold sNew
  rw [upd_ne (by omega), upd_ne (by omega), upd_ne (by omega), upd_ne (by omega), upd_ne (by omega), upd_ne (by omega), upd_ne (by omega)]
theorem sNew2_r0 {v : Nat → Int32} {r d h : Nat} {c : Int32} : sNew2 v r d h c (147 + 7 * r + 0) = nI d := by
  unfold sNew2 sNew
  rw [upd_ne (by omega), upd_ne (by omega), upd_ne (by omega), upd_ne (by omega), upd_ne (by omega), upd_ne (by omega), upd_ne (by omega), upd_eq]
theorem sNew2_r1 {v : Nat → Int32} {r d h : Nat} {c : Int32} : sNew2 v r d h c (147 + 7 * r + 1) = nI h := by
  unfold sNew2 sNew
  rw [upd_ne (by omega), upd_ne (by omega), upd_ne (by omega), upd_ne (by omega), upd_ne (by omega), upd_ne (by omega), upd_eq]
theorem zK.new {v : Nat → Int32} {d h : Nat} {c : Int32} (hK : zK v) (hR : nR v < 60) (hd : d < nD v) (hh : h < 10) : zK (sNew2 v (nR v) d h c) ∧ nR (sNew2 v (nR v) d h c) = nR v + 1 := by
  have e1 : sNew2 v (nR v) d h c 1 = v 1 := sNew2_at (by omega) (by omega)
  have e2 : sNew2 v (nR v) d h c 2 = nI (nR v + 1) := by rw [sNew2_2, hK.2.1.1, nI_add]
  have hR1 : nR (sNew2 v (nR v) d h c) = nR v + 1 := by unfold nR at e2 ⊢; rw [e2]; exact nI_clamp (by have := hK.2.1.2; unfold nR at this; omega)
  refine ⟨⟨hK.1.of e1, ⟨by rw [hR1, e2], by omega⟩, fun d hd => (hK.2.2.1 d hd).of (fun k h1 h2 => sNew2_at (by omega) (by omega)), fun d hd => ?_, fun r hr => ?_⟩, hR1⟩
  · rw [nD_of e1] at hd
    rw [sNew2_at (by omega) (by have := hK.1.2; omega)]; exact hK.2.2.2.1 d hd
  · rw [hR1] at hr
    by_cases e : r = nR v
    · subst e
      exact ⟨⟨d, by rw [nD_of e1]; exact hd, sNew2_r0⟩, h, hh, sNew2_r1⟩
    · exact (hK.2.2.2.2 r (by omega)).of e1 (fun k hk => sNew2_at (by omega) (by omega))
theorem zK.sells {v : Nat → Int32} {d h : Nat} (hK : zK v) (hR : nR v < 60) (hd : d < nD v) (hh : h < 10) : zK (sSells v h d) := ((hK.new hR hd hh).1.pays hh).log
theorem sSells_at {v : Nat → Int32} {d h j : Nat} (h2 : j ≠ 2) (h7 : j ≠ 7) (h8 : j ≠ 8) (hh : j ≠ 17 + h) (hj : j < 147 ∨ (147 + 7 * nR v + 7 ≤ j ∧ j < 567)) : sSells v h d j = v j := by
  unfold sSells
  rw [sLog_at h8 (by omega), sPays_at h7 hh, sNew2_at h2 (by omega)]
theorem sDrop_at {v : Nat → Int32} {d p n j : Nat} (h5 : j ≠ 27 + 12 * d + 5) (hj : j < 27 + 12 * d + 6 + p ∨ 27 + 12 * d + 6 + n - 1 ≤ j) (hp : p < n) : sDrop v d p n j = v j := by
  unfold sDrop
  rw [upd_ne h5, sDr, if_neg (by omega)]
theorem sDrop_in {v : Nat → Int32} {d p n j : Nat} (h1 : 27 + 12 * d + 6 + p ≤ j) (h2 : j < 27 + 12 * d + 6 + n - 1) (hp : p < n) : sDrop v d p n j = v (j + 1) := by
  unfold sDrop
  rw [upd_ne (by omega), sDr, if_pos (by omega)]
theorem sDrop_5 {v : Nat → Int32} {d p n : Nat} (hp : p < n) (h : v (27 + 12 * d + 5) = nI n) : sDrop v d p n (27 + 12 * d + 5) = nI (n - 1) := by
  unfold sDrop
  rw [upd_eq, sDr, if_neg (by omega), h]
  have e : nI n = nI (n - 1 + 1) := by congr 1; omega
  rw [e]; exact nI_pred _
theorem zK.drop {v : Nat → Int32} {d p n : Nat} (hK : zK v) (hd : d < 10) (hn : n ≤ 6) (hp : p < n) (h5 : v (27 + 12 * d + 5) = nI n) : zK (sDrop v d p n) := by
  have e1 : sDrop v d p n 1 = v 1 := sDrop_at (by omega) (by omega) hp
  have e2 : sDrop v d p n 2 = v 2 := sDrop_at (by omega) (by omega) hp
  refine ⟨hK.1.of e1, hK.2.1.of e2, fun d' hd' => ?_, fun d' hd' => ?_, fun r hr => ?_⟩
  · by_cases e : d' = d
    · subst e
      obtain ⟨n', q1, q2, q3⟩ := hK.2.2.1 d' hd
      have en : n' = n := (nI_eq (by omega) (by omega)).mp (q2.symm.trans h5)
      subst en
      refine ⟨n' - 1, by omega, sDrop_5 hp h5, fun k hk => ?_⟩
      by_cases hkp : k < p
      · rw [sDrop_at (by omega) (by omega) hp]; exact q3 k (by omega)
      · rw [sDrop_in (by omega) (by omega) hp]
        exact q3 (k + 1) (by omega)
    · refine (hK.2.2.1 d' hd').of (fun k h1 h2 => sDrop_at (by omega) (by omega) hp)
  · rw [nD_of e1] at hd'
    rw [sDrop_at (by have := hK.1.2; omega) (by have := hK.1.2; omega) hp]; exact hK.2.2.2.1 d' hd'
  · rw [nR_of e2] at hr
    exact (hK.2.2.2.2 r hr).of e1 (fun k hk => sDrop_at (by omega) (by omega) hp)
theorem sCan_pos {v : Nat → Int32} {d : Nat} (hJ : zJ2 v) (h : 0 < sCan v d) : nR v < 60 ∧ sOpen v d = true := by
  unfold sCan at h
  split at h
  · rename_i q
    refine ⟨?_, q.2⟩
    rcases Nat.lt_or_ge (nR v) 60 with z | z
    · exact z
    · have e : nR v = 60 := by have := hJ.2; omega
      have e2 : nI 60 - v 2 = 0 := by rw [hJ.1, e]; decide
      have h0 := q.1
      unfold sSell0 at h0
      rw [e2] at h0
      split at h0
      · rename_i h1
        exact absurd (Int32.lt_trans h0 h1) (by decide)
      · exact absurd h0 (by decide)
  · exact absurd h (by decide)
end
section
set_option maxRecDepth 4000 in
theorem c_X7_pays {l : Launch} {G : zG} {A : Nat → Nat} {m0 mm : zM} {v : Nat → Int32} {S : Nat → Nat → Int32} (hp : zMP G A m0 v S mm) (h : Nat) (c : Int32) (hh : h < 10) : zSem l G (yX7_pays, cX7_pays, 3, none) 1 [.ref (A 0), .int (nI h), .int c] mm none (fun m' => zMP G A m0 (sPays v h c) S m') := by
  refine z_met [some (.ref (A 0)), some (.int (nI h)), some (.int c)] rfl (zc1 (by rfl)) (Nat.le_of_ble_eq_true rfl) rfl ?_
  refine z_aload_n 0 rfl rfl dX7_pays_0 ?_
  refine zM_ref 0 1 hp (by decide) rfl (by decide) rfl rfl zf_X7_7 dX7_pays_1 ?_
  refine z_bipush (nI 17) dX7_pays_4 rfl ?_
  refine z_iload_n 1 rfl rfl dX7_pays_6 ?_
  refine z_iaddN dX7_pays_7 ?_
  refine z_dup2 dX7_pays_8 rfl rfl ?_
  refine zM_vld hp (by omega) dX7_pays_9 ?_
  refine z_iload_n 2 rfl rfl dX7_pays_10 ?_
  refine z_isub dX7_pays_11 ?_
  refine zM_vst hp (by omega) dX7_pays_12 (fun mm hp => ?_)
  refine z_aload_n 0 rfl rfl dX7_pays_13 ?_
  refine zM_ref 0 1 hp (by decide) rfl (by decide) rfl rfl zf_X7_7 dX7_pays_14 ?_
  refine z_bipush (nI 7) dX7_pays_17 rfl ?_
  refine z_dup2 dX7_pays_19 rfl rfl ?_
  refine zM_vld hp (by omega) dX7_pays_20 ?_
  refine z_iload_n 2 rfl rfl dX7_pays_21 ?_
  refine z_iadd dX7_pays_22 ?_
  refine zM_vst hp (by omega) dX7_pays_23 (fun mm hp => ?_)
  exact z_vret dX7_pays_24 rfl hp
set_option maxRecDepth 4000 in
theorem c_X7_becomes {l : Launch} {G : zG} {A : Nat → Nat} {m0 mm : zM} {v : Nat → Int32} {S : Nat → Nat → Int32} (hp : zMP G A m0 v S mm) (r : Nat) (s : Int32) (hr : r < 60) : zSem l G (yX7_becomes, cX7_becomes, 3, none) 2 [.ref (A 0), .int (nI r), .int s] mm none (fun m' => zMP G A m0 (sBec v r s) S m') := by
  refine z_met [some (.ref (A 0)), some (.int (nI r)), some (.int s)] rfl (zc1 (by rfl)) (Nat.le_of_ble_eq_true rfl) rfl ?_
  refine z_aload_n 0 rfl rfl dX7_becomes_0 ?_
  refine zM_ref 0 1 hp (by decide) rfl (by decide) rfl rfl zf_X7_7 dX7_becomes_1 ?_
  refine z_iload_n 1 rfl rfl dX7_becomes_4 ?_
  refine z_iconst (nI 3) dX7_becomes_5 rfl ?_
  refine z_pS2 zm_X7_rightAt (c_X7_rightAt _ _) rfl zl_X7_43 (by decide) (Nat.le_of_ble_eq_true rfl) dX7_becomes_6 ?_
  refine z_iload_n 2 rfl rfl dX7_becomes_9 ?_
  refine zM_vst hp (by omega) dX7_becomes_10 (fun mm hp => ?_)
  refine z_aload_n 0 rfl rfl dX7_becomes_11 ?_
  refine zM_ref 0 1 hp (by decide) rfl (by decide) rfl rfl zf_X7_7 dX7_becomes_12 ?_
  refine z_iload_n 1 rfl rfl dX7_becomes_15 ?_
  refine z_iconst (nI 4) dX7_becomes_16 rfl ?_
  refine z_pS2 zm_X7_rightAt (c_X7_rightAt _ _) rfl zl_X7_43 (by decide) (Nat.le_of_ble_eq_true rfl) dX7_becomes_17 ?_
  refine z_bipush (-5) dX7_becomes_20 (by decide) ?_
  refine zM_vst hp (by omega) dX7_becomes_22 (fun mm hp => ?_)
  exact z_vret dX7_becomes_23 rfl hp
theorem sShf_step (v : Nat → Int32) {i : Nat} (hi : i < 36) : upd (sShf v i) (567 + (39 - i)) (sShf v i (567 + (39 - i) - 4)) = sShf v (i + 1) := by
  funext j
  simp only [upd, sShf]
  by_cases e : j = 567 + (39 - i)
  · rw [if_pos e, if_neg (by omega), if_pos (by omega), e]
  · rw [if_neg e]
    by_cases h : 606 - i < j ∧ j < 607
    · rw [if_pos h, if_pos (by omega)]
    · rw [if_neg h, if_neg (by omega)]
set_option maxRecDepth 4000 in
theorem l_X7_log {l : Launch} {G : zG} {A : Nat → Nat} {m0 : zM} {v : Nat → Int32} {S : Nat → Nat → Int32} (k r c : Int32) : ∀ i, i ≤ 36 → ∀ (mm : zM) (hp : zMP G A m0 (sShf v i) S mm), zV l G (yX7_log, cX7_log, 5, none) 1 none (fun m' => zMP G A m0 (sLog v k r c) S m') 4 [some (.ref (A 0)), some (.int k), some (.int r), some (.int c), some (.int (nI (39 - i)))] [] mm := by
  refine z_loop (36) (fun i hi ih mm hp => ?_)
  refine z_iload 4 rfl dX7_log_4 ?_
  refine z_iconst (nI 3) dX7_log_6 rfl ?_
  refine z_icmp_le 40 dX7_log_7 rfl (fun c7 => ?_) (fun c7 => ?_)
  · have e : i = 36 := by have := (nI_leI (by omega) (by omega)).mp c7; omega
    subst e
    refine z_aload_n 0 rfl rfl dX7_log_40 ?_
    refine zM_ref 0 1 hp (by decide) rfl (by decide) rfl rfl zf_X7_7 dX7_log_41 ?_
    refine z_sipush (nI 567) dX7_log_44 rfl ?_
    refine z_iload_n 1 rfl rfl dX7_log_47 ?_
    refine zM_vst hp (by omega) dX7_log_48 (fun mm hp => ?_)
    refine z_aload_n 0 rfl rfl dX7_log_49 ?_
    refine zM_ref 0 1 hp (by decide) rfl (by decide) rfl rfl zf_X7_7 dX7_log_50 ?_
    refine z_sipush (nI 568) dX7_log_53 rfl ?_
    refine z_iload_n 2 rfl rfl dX7_log_56 ?_
    refine zM_vst hp (by omega) dX7_log_57 (fun mm hp => ?_)
    refine z_aload_n 0 rfl rfl dX7_log_58 ?_
    refine zM_ref 0 1 hp (by decide) rfl (by decide) rfl rfl zf_X7_7 dX7_log_59 ?_
    refine z_sipush (nI 569) dX7_log_62 rfl ?_
    refine z_iload_n 3 rfl rfl dX7_log_65 ?_
    refine zM_vst hp (by omega) dX7_log_66 (fun mm hp => ?_)
    refine z_aload_n 0 rfl rfl dX7_log_67 ?_
    refine zM_ref 0 1 hp (by decide) rfl (by decide) rfl rfl zf_X7_7 dX7_log_68 ?_
    refine z_sipush (nI 570) dX7_log_71 rfl ?_
    refine z_aload_n 0 rfl rfl dX7_log_74 ?_
    refine zM_ref 0 1 hp (by decide) rfl (by decide) rfl rfl zf_X7_7 dX7_log_75 ?_
    refine z_iconst (nI 0) dX7_log_78 rfl ?_
    refine zM_vld hp (by omega) dX7_log_79 ?_
    refine zM_vst hp (by omega) dX7_log_80 (fun mm hp => ?_)
    refine z_aload_n 0 rfl rfl dX7_log_81 ?_
    refine zM_ref 0 1 hp (by decide) rfl (by decide) rfl rfl zf_X7_7 dX7_log_82 ?_
    refine z_bipush (nI 8) dX7_log_85 rfl ?_
    refine z_dup2 dX7_log_87 rfl rfl ?_
    refine zM_vld hp (by omega) dX7_log_88 ?_
    refine z_aload_n 0 rfl rfl dX7_log_89 ?_
    refine zM_ref 0 1 hp (by decide) rfl (by decide) rfl rfl zf_X7_7 dX7_log_90 ?_
    refine z_bipush (nI 8) dX7_log_93 rfl ?_
    refine zM_vld hp (by omega) dX7_log_95 ?_
    refine z_bipush (nI 10) dX7_log_96 rfl ?_
    refine z_icmp_ge 105 dX7_log_98 rfl (fun c98 => ?_) (fun c98 => ?_)
    · refine z_iconst (nI 0) dX7_log_105 rfl ?_
      refine z_iadd dX7_log_106 ?_
      refine zM_vst hp (by omega) dX7_log_107 (fun mm hp => ?_)
      exact z_vret dX7_log_108 rfl (by
          unfold sLog sLog0
          first | rw [if_pos (i_not_le.mp c98)] | rw [if_neg (i_not_lt.mpr c98)]
          exact hp)
    · refine z_iconst (nI 1) dX7_log_101 rfl ?_
      refine z_goto 106 dX7_log_102 rfl ?_
      refine z_iadd dX7_log_106 ?_
      refine zM_vst hp (by omega) dX7_log_107 (fun mm hp => ?_)
      exact z_vret dX7_log_108 rfl (by
          unfold sLog sLog0
          first | rw [if_pos (i_not_le.mp c98)] | rw [if_neg (i_not_lt.mpr c98)]
          exact hp)
  · have hl : i < 36 := Nat.lt_of_not_le (fun q => c7 ((nI_leI (by omega) (by omega)).mpr (by omega)))
    refine z_aload_n 0 rfl rfl dX7_log_10 ?_
    refine zM_ref 0 1 hp (by decide) rfl (by decide) rfl rfl zf_X7_7 dX7_log_11 ?_
    refine z_sipush (nI 567) dX7_log_14 rfl ?_
    refine z_iload 4 rfl dX7_log_17 ?_
    refine z_iaddN dX7_log_19 ?_
    refine z_aload_n 0 rfl rfl dX7_log_20 ?_
    refine zM_ref 0 1 hp (by decide) rfl (by decide) rfl rfl zf_X7_7 dX7_log_21 ?_
    refine z_sipush (nI 567) dX7_log_24 rfl ?_
    refine z_iload 4 rfl dX7_log_27 ?_
    refine z_iaddN dX7_log_29 ?_
    refine z_iconst (nI 4) dX7_log_30 rfl ?_
    refine z_isubN (by omega) dX7_log_31 ?_
    refine zM_vld hp (by omega) dX7_log_32 ?_
    refine zM_vst hp (by omega) dX7_log_33 (fun mm hp => ?_)
    rw [sShf_step v hl] at hp
    refine z_iincD 4 (by omega) rfl rfl dX7_log_34 ?_
    refine z_goto 4 dX7_log_37 rfl ?_
    exact ih hl _ hp
theorem sShf_0 (v : Nat → Int32) : sShf v 0 = v := by
  funext j
  simp only [sShf]
  rw [if_neg (by omega)]
set_option maxRecDepth 4000 in
theorem c_X7_log {l : Launch} {G : zG} {A : Nat → Nat} {m0 mm : zM} {v : Nat → Int32} {S : Nat → Nat → Int32} (hp : zMP G A m0 v S mm) (k r c : Int32) : zSem l G (yX7_log, cX7_log, 5, none) 1 [.ref (A 0), .int k, .int r, .int c] mm none (fun m' => zMP G A m0 (sLog v k r c) S m') := by
  refine z_met [some (.ref (A 0)), some (.int k), some (.int r), some (.int c), none] rfl (zc1 (by rfl)) (Nat.le_of_ble_eq_true rfl) rfl ?_
  refine z_bipush (nI 39) dX7_log_0 rfl ?_
  refine z_istore 4 (Nat.le_of_ble_eq_true rfl) rfl dX7_log_2 ?_
  exact l_X7_log k r c 0 (Nat.zero_le _) mm (by rw [sShf_0]; exact hp)
set_option maxRecDepth 4000 in
theorem c_X7_sells {l : Launch} {G : zG} {A : Nat → Nat} {m0 mm : zM} {v : Nat → Int32} {S : Nat → Nat → Int32} (hp : zMP G A m0 v S mm) (h d : Nat) (hh : h < 10) (hd : d < 10) (hR : nR v < 60) (hJ : zJ2 v) (hpl : ¬ v (27 + 12 * d + 1) = 0) : zSem l G (yX7_sells, cX7_sells, 5, (some .int)) 6 [.ref (A 0), .int (nI h), .int (nI d)] mm (some (.int (nI (nR v)))) (fun m' => zMP G A m0 (sSells v h d) S m') := by
  refine z_met [some (.ref (A 0)), some (.int (nI h)), some (.int (nI d)), none, none] rfl (zc1 (by rfl)) (Nat.le_of_ble_eq_true rfl) rfl ?_
  refine z_aload_n 0 rfl rfl dX7_sells_0 ?_
  refine zM_ref 0 1 hp (by decide) rfl (by decide) rfl rfl zf_X7_7 dX7_sells_1 ?_
  refine z_iconst (nI 2) dX7_sells_4 rfl ?_
  refine zM_vld hp (by omega) dX7_sells_5 ?_
  rw [hJ.1]
  refine z_istore_n 3 rfl (Nat.le_of_ble_eq_true rfl) rfl dX7_sells_6 ?_
  refine z_aload_n 0 rfl rfl dX7_sells_7 ?_
  refine z_iload_n 2 rfl rfl dX7_sells_8 ?_
  refine z_aload_n 0 rfl rfl dX7_sells_9 ?_
  refine z_iload_n 2 rfl rfl dX7_sells_10 ?_
  refine zM_p1 zm_X7_daysLeft (c_X7_daysLeft hp _ (by omega)) hp rfl rfl zl_X7_49 (by decide) (Nat.le_of_ble_eq_true rfl) dX7_sells_11 ?_
  refine zM_p2 zm_X7_price (c_X7_price hp _ _ (by omega) hJ (by assumption)) hp rfl rfl zl_X7_67 (by decide) (Nat.le_of_ble_eq_true rfl) dX7_sells_14 ?_
  refine z_istore 4 (Nat.le_of_ble_eq_true rfl) rfl dX7_sells_17 ?_
  refine z_aload_n 0 rfl rfl dX7_sells_19 ?_
  refine zM_ref 0 1 hp (by decide) rfl (by decide) rfl rfl zf_X7_7 dX7_sells_20 ?_
  refine z_iload_n 3 rfl rfl dX7_sells_23 ?_
  refine z_iconst (nI 0) dX7_sells_24 rfl ?_
  refine z_pS2 zm_X7_rightAt (c_X7_rightAt _ _) rfl zl_X7_43 (by decide) (Nat.le_of_ble_eq_true rfl) dX7_sells_25 ?_
  refine z_iload_n 2 rfl rfl dX7_sells_28 ?_
  refine zM_vst hp (by omega) dX7_sells_29 (fun mm hp => ?_)
  refine z_aload_n 0 rfl rfl dX7_sells_30 ?_
  refine zM_ref 0 1 hp (by decide) rfl (by decide) rfl rfl zf_X7_7 dX7_sells_31 ?_
  refine z_iload_n 3 rfl rfl dX7_sells_34 ?_
  refine z_iconst (nI 1) dX7_sells_35 rfl ?_
  refine z_pS2 zm_X7_rightAt (c_X7_rightAt _ _) rfl zl_X7_43 (by decide) (Nat.le_of_ble_eq_true rfl) dX7_sells_36 ?_
  refine z_iload_n 1 rfl rfl dX7_sells_39 ?_
  refine zM_vst hp (by omega) dX7_sells_40 (fun mm hp => ?_)
  refine z_aload_n 0 rfl rfl dX7_sells_41 ?_
  refine zM_ref 0 1 hp (by decide) rfl (by decide) rfl rfl zf_X7_7 dX7_sells_42 ?_
  refine z_iload_n 3 rfl rfl dX7_sells_45 ?_
  refine z_iconst (nI 2) dX7_sells_46 rfl ?_
  refine z_pS2 zm_X7_rightAt (c_X7_rightAt _ _) rfl zl_X7_43 (by decide) (Nat.le_of_ble_eq_true rfl) dX7_sells_47 ?_
  refine z_iload 4 rfl dX7_sells_50 ?_
  refine zM_vst hp (by omega) dX7_sells_52 (fun mm hp => ?_)
  refine z_aload_n 0 rfl rfl dX7_sells_53 ?_
  refine zM_ref 0 1 hp (by decide) rfl (by decide) rfl rfl zf_X7_7 dX7_sells_54 ?_
  refine z_iload_n 3 rfl rfl dX7_sells_57 ?_
  refine z_iconst (nI 3) dX7_sells_58 rfl ?_
  refine z_pS2 zm_X7_rightAt (c_X7_rightAt _ _) rfl zl_X7_43 (by decide) (Nat.le_of_ble_eq_true rfl) dX7_sells_59 ?_
  refine z_iconst (nI 0) dX7_sells_62 rfl ?_
  refine zM_vst hp (by omega) dX7_sells_63 (fun mm hp => ?_)
  refine z_aload_n 0 rfl rfl dX7_sells_64 ?_
  refine zM_ref 0 1 hp (by decide) rfl (by decide) rfl rfl zf_X7_7 dX7_sells_65 ?_
  refine z_iload_n 3 rfl rfl dX7_sells_68 ?_
  refine z_iconst (nI 4) dX7_sells_69 rfl ?_
  refine z_pS2 zm_X7_rightAt (c_X7_rightAt _ _) rfl zl_X7_43 (by decide) (Nat.le_of_ble_eq_true rfl) dX7_sells_70 ?_
  refine z_bipush (-5) dX7_sells_73 (by decide) ?_
  refine zM_vst hp (by omega) dX7_sells_75 (fun mm hp => ?_)
  refine z_aload_n 0 rfl rfl dX7_sells_76 ?_
  refine zM_ref 0 1 hp (by decide) rfl (by decide) rfl rfl zf_X7_7 dX7_sells_77 ?_
  refine z_iload_n 3 rfl rfl dX7_sells_80 ?_
  refine z_iconst (nI 5) dX7_sells_81 rfl ?_
  refine z_pS2 zm_X7_rightAt (c_X7_rightAt _ _) rfl zl_X7_43 (by decide) (Nat.le_of_ble_eq_true rfl) dX7_sells_82 ?_
  refine z_aload_n 0 rfl rfl dX7_sells_85 ?_
  refine zM_ref 0 1 hp (by decide) rfl (by decide) rfl rfl zf_X7_7 dX7_sells_86 ?_
  refine z_iconst (nI 0) dX7_sells_89 rfl ?_
  refine zM_vld hp (by omega) dX7_sells_90 ?_
  refine zM_vst hp (by omega) dX7_sells_91 (fun mm hp => ?_)
  refine z_aload_n 0 rfl rfl dX7_sells_92 ?_
  refine zM_ref 0 1 hp (by decide) rfl (by decide) rfl rfl zf_X7_7 dX7_sells_93 ?_
  refine z_iload_n 3 rfl rfl dX7_sells_96 ?_
  refine z_bipush (nI 6) dX7_sells_97 rfl ?_
  refine z_pS2 zm_X7_rightAt (c_X7_rightAt _ _) rfl zl_X7_43 (by decide) (Nat.le_of_ble_eq_true rfl) dX7_sells_99 ?_
  refine z_iconst (nI 0) dX7_sells_102 rfl ?_
  refine zM_vst hp (by omega) dX7_sells_103 (fun mm hp => ?_)
  refine z_aload_n 0 rfl rfl dX7_sells_104 ?_
  refine zM_ref 0 1 hp (by decide) rfl (by decide) rfl rfl zf_X7_7 dX7_sells_105 ?_
  refine z_iconst (nI 2) dX7_sells_108 rfl ?_
  refine z_dup2 dX7_sells_109 rfl rfl ?_
  refine zM_vld hp (by omega) dX7_sells_110 ?_
  refine z_iconst (nI 1) dX7_sells_111 rfl ?_
  refine z_iadd dX7_sells_112 ?_
  refine zM_vst hp (by omega) dX7_sells_113 (fun mm hp => ?_)
  have hp : zMP G A m0 (sNew2 v (nR v) d h (sPrice v d (sLeft v d))) S mm := hp
  refine z_aload_n 0 rfl rfl dX7_sells_114 ?_
  refine z_iload_n 1 rfl rfl dX7_sells_115 ?_
  refine z_iload 4 rfl dX7_sells_116 ?_
  refine zM_v2 zm_X7_pays (c_X7_pays hp _ _ (by omega)) hp rfl rfl zl_X7_70 (by decide) (Nat.le_of_ble_eq_true rfl) dX7_sells_118 (fun mm hp => ?_)
  refine z_aload_n 0 rfl rfl dX7_sells_121 ?_
  refine z_iconst (nI 0) dX7_sells_122 rfl ?_
  refine z_iload_n 3 rfl rfl dX7_sells_123 ?_
  refine z_iload 4 rfl dX7_sells_124 ?_
  refine zM_v3 zm_X7_log (c_X7_log hp _ _ _) hp rfl rfl zl_X7_74 (by decide) (Nat.le_of_ble_eq_true rfl) dX7_sells_126 (fun mm hp => ?_)
  refine z_iload_n 3 rfl rfl dX7_sells_129 ?_
  exact z_iret dX7_sells_130 rfl hp
theorem sDr_step (v : Nat → Int32) {d p i : Nat} : upd (sDr v d p i) (27 + 12 * d + (6 + (p + i))) (sDr v d p i (27 + 12 * d + (6 + (p + i) + 1))) = sDr v d p (i + 1) := by
  funext j
  simp only [upd, sDr]
  by_cases e : j = 27 + 12 * d + (6 + (p + i))
  · rw [if_pos e, if_neg (by omega), if_pos (by omega), e]; congr 1
  · rw [if_neg e]
    by_cases h : 27 + 12 * d + 6 + p ≤ j ∧ j < 27 + 12 * d + 6 + p + i
    · rw [if_pos h, if_pos (by omega)]
    · rw [if_neg h, if_neg (by omega)]
theorem sDr_0 (v : Nat → Int32) (d p : Nat) : sDr v d p 0 = v := by
  funext j
  simp only [sDr]
  rw [if_neg (by omega)]
set_option maxRecDepth 4000 in
theorem l_X7_dropFirst {l : Launch} {G : zG} {A : Nat → Nat} {m0 : zM} {v : Nat → Int32} {S : Nat → Nat → Int32} (d p n : Nat) (hd : d < 10) (hn : n ≤ 6) (hpn : p < n) (h5 : v (27 + 12 * d + 5) = nI n) : ∀ i, i ≤ (n - 1 - p) → ∀ (mm : zM) (hp : zMP G A m0 (sDr v d p i) S mm), zV l G (yX7_dropFirst, cX7_dropFirst, 4, none) 3 none (fun m' => zMP G A m0 (sDrop v d p n) S m') 2 [some (.ref (A 0)), some (.int (nI d)), some (.int (nI p)), some (.int (nI (p + i)))] [] mm := by
  refine z_loop ((n - 1 - p)) (fun i hi ih mm hp => ?_)
  refine z_iload_n 3 rfl rfl dX7_dropFirst_2 ?_
  refine z_aload_n 0 rfl rfl dX7_dropFirst_3 ?_
  refine z_iload_n 1 rfl rfl dX7_dropFirst_4 ?_
  refine z_iconst (nI 5) dX7_dropFirst_5 rfl ?_
  refine zM_p2 zm_X7_ofDate (c_X7_ofDate hp _ _ (by omega) (by omega)) hp rfl rfl zl_X7_46 (by decide) (Nat.le_of_ble_eq_true rfl) dX7_dropFirst_6 ?_
  rw [show sDr v d p i (27 + 12 * d + 5) = nI n by rw [sDr, if_neg (by omega), h5]]
  refine z_iconst (nI 1) dX7_dropFirst_9 rfl ?_
  refine z_isubN (by omega) dX7_dropFirst_10 ?_
  refine z_icmp_ge 44 dX7_dropFirst_11 rfl (fun c11 => ?_) (fun c11 => ?_)
  · have e : i = n - 1 - p := by have := (nI_leI (by omega) (by omega)).mp c11; omega
    subst e
    refine z_aload_n 0 rfl rfl dX7_dropFirst_44 ?_
    refine zM_ref 0 1 hp (by decide) rfl (by decide) rfl rfl zf_X7_7 dX7_dropFirst_45 ?_
    refine z_iload_n 1 rfl rfl dX7_dropFirst_48 ?_
    refine z_iconst (nI 5) dX7_dropFirst_49 rfl ?_
    refine z_pS2 zm_X7_dateAt (c_X7_dateAt _ _) rfl zl_X7_39 (by decide) (Nat.le_of_ble_eq_true rfl) dX7_dropFirst_50 ?_
    refine z_dup2 dX7_dropFirst_53 rfl rfl ?_
    refine zM_vld hp (by omega) dX7_dropFirst_54 ?_
    refine z_iconst (nI 1) dX7_dropFirst_55 rfl ?_
    refine z_isub dX7_dropFirst_56 ?_
    refine zM_vst hp (by omega) dX7_dropFirst_57 (fun mm hp => ?_)
    exact z_vret dX7_dropFirst_58 rfl hp
  · have hl : i < n - 1 - p := Nat.lt_of_not_le (fun q => c11 ((nI_leI (by omega) (by omega)).mpr (by omega)))
    refine z_aload_n 0 rfl rfl dX7_dropFirst_14 ?_
    refine zM_ref 0 1 hp (by decide) rfl (by decide) rfl rfl zf_X7_7 dX7_dropFirst_15 ?_
    refine z_iload_n 1 rfl rfl dX7_dropFirst_18 ?_
    refine z_bipush (nI 6) dX7_dropFirst_19 rfl ?_
    refine z_iload_n 3 rfl rfl dX7_dropFirst_21 ?_
    refine z_iaddN dX7_dropFirst_22 ?_
    refine z_pS2 zm_X7_dateAt (c_X7_dateAt _ _) rfl zl_X7_39 (by decide) (Nat.le_of_ble_eq_true rfl) dX7_dropFirst_23 ?_
    refine z_aload_n 0 rfl rfl dX7_dropFirst_26 ?_
    refine z_iload_n 1 rfl rfl dX7_dropFirst_27 ?_
    refine z_bipush (nI 6) dX7_dropFirst_28 rfl ?_
    refine z_iload_n 3 rfl rfl dX7_dropFirst_30 ?_
    refine z_iaddN dX7_dropFirst_31 ?_
    refine z_iconst (nI 1) dX7_dropFirst_32 rfl ?_
    refine z_iaddN dX7_dropFirst_33 ?_
    refine zM_p2 zm_X7_ofDate (c_X7_ofDate hp _ _ (by omega) (by omega)) hp rfl rfl zl_X7_46 (by decide) (Nat.le_of_ble_eq_true rfl) dX7_dropFirst_34 ?_
    refine zM_vst hp (by omega) dX7_dropFirst_37 (fun mm hp => ?_)
    rw [sDr_step] at hp
    refine z_iincN (n := 1) 3 rfl rfl dX7_dropFirst_38 ?_
    refine z_goto 2 dX7_dropFirst_41 rfl ?_
    exact ih hl _ hp
set_option maxRecDepth 4000 in
theorem c_X7_dropFirst {l : Launch} {G : zG} {A : Nat → Nat} {m0 mm : zM} {v : Nat → Int32} {S : Nat → Nat → Int32} (hp : zMP G A m0 v S mm) (d p n : Nat) (hd : d < 10) (hn : n ≤ 6) (hpn : p < n) (h5 : v (27 + 12 * d + 5) = nI n) : zSem l G (yX7_dropFirst, cX7_dropFirst, 4, none) 3 [.ref (A 0), .int (nI d), .int (nI p)] mm none (fun m' => zMP G A m0 (sDrop v d p n) S m') := by
  refine z_met [some (.ref (A 0)), some (.int (nI d)), some (.int (nI p)), none] rfl (zc1 (by rfl)) (Nat.le_of_ble_eq_true rfl) rfl ?_
  refine z_iload_n 2 rfl rfl dX7_dropFirst_0 ?_
  refine z_istore_n 3 rfl (Nat.le_of_ble_eq_true rfl) rfl dX7_dropFirst_1 ?_
  exact l_X7_dropFirst d p n hd hn hpn h5 0 (Nat.zero_le _) mm (by rw [sDr_0]; exact hp)
set_option maxRecDepth 4000 in
theorem l_X7_listBuys {l : Launch} {G : zG} {A : Nat → Nat} {m0 : zM} {S : Nat → Nat → Int32} (d : Nat) : ∀ (n : Nat) (v : Nat → Int32) (mm : zM) (x2 : Option Value), zMP G A m0 v S mm → zK v → d < nD v → v (27 + 12 * d + 5) = nI n → n ≤ 6 → zV l G (yX7_listBuys, cX7_listBuys, 3, none) 7 none (fun m' => zMP G A m0 (sLB d n v) S m') 0 [some (.ref (A 0)), some (.int (nI d)), x2] [] mm := by
  intro n
  induction n with
  | zero =>
    intro v mm x2 hp hK hd h5 hn
    have hd10 := hK.1.2
    refine z_aload_n 0 rfl rfl dX7_listBuys_0 ?_
    refine z_iload_n 1 rfl rfl dX7_listBuys_1 ?_
    refine z_iconst (nI 5) dX7_listBuys_2 rfl ?_
    refine zM_p2 zm_X7_ofDate (c_X7_ofDate hp _ _ (by omega) (by omega)) hp rfl rfl zl_X7_46 (by decide) (Nat.le_of_ble_eq_true rfl) dX7_listBuys_3 ?_
    rw [h5]
    refine z_if_le 41 dX7_listBuys_6 rfl (fun c6 => ?_) (fun c6 => ?_)
    · exact z_vret dX7_listBuys_41 rfl hp
    · exact absurd (by decide) c6
  | succ n ih =>
    intro v mm x2 hp hK hd h5 hn
    have hd10 := hK.1.2
    have hJ := hK.2.1
    have hpl := hK.2.2.2.1 d hd
    refine z_aload_n 0 rfl rfl dX7_listBuys_0 ?_
    refine z_iload_n 1 rfl rfl dX7_listBuys_1 ?_
    refine z_iconst (nI 5) dX7_listBuys_2 rfl ?_
    refine zM_p2 zm_X7_ofDate (c_X7_ofDate hp _ _ (by omega) (by omega)) hp rfl rfl zl_X7_46 (by decide) (Nat.le_of_ble_eq_true rfl) dX7_listBuys_3 ?_
    rw [h5]
    refine z_if_le 41 dX7_listBuys_6 rfl (fun c6 => ?_) (fun c6 => ?_)
    · exact absurd c6 (nI_nle (by omega) (by omega))
    · refine z_aload_n 0 rfl rfl dX7_listBuys_9 ?_
      refine z_iload_n 1 rfl rfl dX7_listBuys_10 ?_
      refine zM_p1 zm_X7_canSell (c_X7_canSell hp _ (by omega) hJ) hp rfl rfl zl_X7_78 (by decide) (Nat.le_of_ble_eq_true rfl) dX7_listBuys_11 ?_
      refine z_if_le 41 dX7_listBuys_14 rfl (fun c14 => ?_) (fun c14 => ?_)
      · have e : ¬ 0 < sCan v d := i_not_lt.mpr c14
        exact z_vret dX7_listBuys_41 rfl (by rw [sLB, if_neg e]; exact hp)
      · have hc := i_not_le.mp c14
        obtain ⟨hR, hop⟩ := sCan_pos hK.2.1 hc
        refine z_aload_n 0 rfl rfl dX7_listBuys_17 ?_
        refine z_iload_n 1 rfl rfl dX7_listBuys_18 ?_
        refine z_bipush (nI 6) dX7_listBuys_19 rfl ?_
        refine zM_p2 zm_X7_ofDate (c_X7_ofDate hp _ _ (by omega) (by omega)) hp rfl rfl zl_X7_46 (by decide) (Nat.le_of_ble_eq_true rfl) dX7_listBuys_21 ?_
        obtain ⟨n9, q1, q2, q3⟩ := hK.2.2.1 d (by omega)
        have en : n9 = n + 1 := (nI_eq (by omega) (by omega)).mp (q2.symm.trans h5)
        subst en
        obtain ⟨h, hh, e6⟩ := q3 0 (by omega)
        have e6 : v (27 + 12 * d + 6) = nI h := e6
        rw [e6]
        refine z_istore_n 2 rfl (Nat.le_of_ble_eq_true rfl) rfl dX7_listBuys_24 ?_
        refine z_aload_n 0 rfl rfl dX7_listBuys_25 ?_
        refine z_iload_n 1 rfl rfl dX7_listBuys_26 ?_
        refine z_iconst (nI 0) dX7_listBuys_27 rfl ?_
        refine zM_v2 zm_X7_dropFirst (c_X7_dropFirst hp _ _ (n + 1) (by omega) (by omega) (by omega) h5) hp rfl rfl zl_X7_81 (by decide) (Nat.le_of_ble_eq_true rfl) dX7_listBuys_28 (fun mm hp => ?_)
        have hK1 := hK.drop (p := 0) (by omega) (by omega) (by omega) h5
        have e2 : sDrop v d 0 (n + 1) 2 = v 2 := sDrop_at (by omega) (by omega) (by omega)
        have eR := nR_of e2
        have e1 : nD (sDrop v d 0 (n + 1)) = nD v := nD_of (sDrop_at (by omega) (by omega) (by omega))
        have hJ := hK1.2.1
        have hpl1 := hK1.2.2.2.1 d (by omega)
        refine z_aload_n 0 rfl rfl dX7_listBuys_31 ?_
        refine z_iload_n 2 rfl rfl dX7_listBuys_32 ?_
        refine z_iload_n 1 rfl rfl dX7_listBuys_33 ?_
        refine zM_u2 zm_X7_sells (c_X7_sells hp _ _ (by omega) (by omega) (by omega) hJ (by assumption)) hp rfl rfl zl_X7_84 (by decide) (Nat.le_of_ble_eq_true rfl) dX7_listBuys_34 (fun mm hp => ?_)
        have hK2 := hK1.sells (d := d) (h := h) (by omega) (by omega) (by omega)
        have h5b : sSells (sDrop v d 0 (n + 1)) h d (27 + 12 * d + 5) = nI n := by rw [sSells_at (by omega) (by omega) (by omega) (by omega) (by omega)]; exact sDrop_5 (by omega) h5
        have e1b : nD (sSells (sDrop v d 0 (n + 1)) h d) = nD v := by rw [← e1]; exact nD_of (sSells_at (by omega) (by omega) (by omega) (by omega) (by omega))
        have e9 : sLB d (n + 1) v = sLB d n (sSells (sDrop v d 0 (n + 1)) h d) := by rw [sLB, if_pos hc, e6, nI_clamp (by omega)]
        rw [e9]
        refine z_pop dX7_listBuys_37 rfl ?_
        refine z_goto 0 dX7_listBuys_38 rfl ?_
        exact ih _ _ _ hp hK2 (by omega) h5b (by omega)
theorem c_X7_listBuys {l : Launch} {G : zG} {A : Nat → Nat} {m0 mm : zM} {v : Nat → Int32} {S : Nat → Nat → Int32} (hp : zMP G A m0 v S mm) (d n : Nat) (hK : zK v) (hd : d < nD v) (h5 : v (27 + 12 * d + 5) = nI n) (hn : n ≤ 6) : zSem l G (yX7_listBuys, cX7_listBuys, 3, none) 7 [.ref (A 0), .int (nI d)] mm none (fun m' => zMP G A m0 (sLB d n v) S m') :=
  z_met [some (.ref (A 0)), some (.int (nI d)), none] rfl (zc1 (by rfl)) (Nat.le_of_ble_eq_true rfl) rfl (l_X7_listBuys d n v mm none hp hK hd h5 hn)
end
section
def zn (x : Int32) : Nat := x.toNatClampNeg
theorem zn_nI {n : Nat} (h : n < 2 ^ 31) : zn (nI n) = n := nI_clamp h
theorem zO_none : zO none = -1 := rfl
theorem zO_some (r : Nat) : zO (some r) = nI r := rfl
theorem zO_neg {o : Option Nat} (ho : ∀ r, o = some r → r < 60) (h : zO o < 0) : o = none := by
  cases o with
  | none => rfl
  | some r => exact absurd h (nI_pos (by have := ho r rfl; omega))
theorem zO_pos {o : Option Nat} (h : ¬ zO o < 0) : ∃ r, o = some r := by
  cases o with
  | none => exact absurd (by decide) h
  | some r => exact ⟨r, rfl⟩
theorem sCan_ne {v : Nat → Int32} {d : Nat} (h : ¬ sCan v d = 0) : 0 < sCan v d := by
  unfold sCan at h ⊢
  split
  · rename_i q; exact q.1
  · rename_i q; rw [if_neg q] at h; exact absurd rfl h
theorem zRt {v : Nat → Int32} (hK : zK v) {x : Int32} (h : zIn x (nI 0) (v 2 - nI 1) = true) : ∃ r d g, r < nR v ∧ x = nI r ∧ d < nD v ∧ v (147 + 7 * r + 0) = nI d ∧ g < 10 ∧ v (147 + 7 * r + 1) = nI g := by
  rw [hK.2.1.1] at h
  obtain ⟨r, hr, rfl⟩ := zIn_nIp (by have := hK.2.1.2; omega) h
  obtain ⟨⟨d, hd, e1⟩, g, hg, e2⟩ := hK.2.2.2.2 r hr
  exact ⟨r, d, g, hr, rfl, hd, e1, hg, e2⟩
theorem zDt {v : Nat → Int32} (hK : zK v) {x : Int32} (h : zIn x (nI 0) (v 1 - nI 1) = true) : ∃ d, d < nD v ∧ x = nI d := by
  rw [hK.1.1] at h
  exact zIn_nIp (by have := hK.1.2; omega) h
def sDoBuy (v : Nat → Int32) (x y : Int32) : Int32 × (Nat → Int32) :=
  if zIn x (nI 0) (nI 9) = true ∧ zIn y (nI 0) (v 1 - nI 1) = true then
    if sOpen v (zn y) = true then (if sCan v (zn y) = 0 then (-3, v) else (nI (nR v), sSells v (zn x) (zn y))) else (-4, v)
  else (-1, v)
def sOff2 (v : Nat → Int32) (r h g : Nat) : Nat → Int32 :=
  upd (sPays (sPays v h (v (147 + 7 * r + 4))) g (v (147 + 7 * r + 4) * v 4 / nI 100 - v (147 + 7 * r + 4))) (147 + 7 * r + 1) (nI h)
def sOff (v : Nat → Int32) (r h g : Nat) : Nat → Int32 :=
  sLog (sBec (upd (sOff2 v r h g) (147 + 7 * r + 6) (sOff2 v r h g (147 + 7 * r + 6) + nI 1)) r (nI 0)) (nI 1) (nI r) (v (147 + 7 * r + 4))
def sDoOff (v : Nat → Int32) (x y : Int32) : Int32 × (Nat → Int32) :=
  if zIn x (nI 0) (nI 9) = true ∧ zIn y (nI 0) (v 1 - nI 1) = true then
    match sLow v (zn y) (nI 1) 4 (nR v) with
    | none => (-4, v)
    | some r => if v (147 + 7 * r + 1) = x then (-4, v) else (nI r, sOff v r (zn x) (zn (v (147 + 7 * r + 1))))
  else (-1, v)
def sCan1 (v : Nat → Int32) (r d g : Nat) : Nat → Int32 := sLog (sBec (sPays v g (-sRef v r d)) r (nI 3)) (nI 4) (nI r) (sRef v r d)
def sDoCan (v : Nat → Int32) (x : Int32) : Int32 × (Nat → Int32) :=
  if zIn x (nI 0) (v 2 - nI 1) = true then
    if v (147 + 7 * zn x + 3) < nI 2 then
      (sRef v (zn x) (zn (v (147 + 7 * zn x + 0))), sLB (zn (v (147 + 7 * zn x + 0))) (zn (v (27 + 12 * zn (v (147 + 7 * zn x + 0)) + 5))) (sCan1 v (zn x) (zn (v (147 + 7 * zn x + 0))) (zn (v (147 + 7 * zn x + 1)))))
    else (-4, v)
  else (-1, v)
def sDoOfr (v : Nat → Int32) (x p : Int32) : Int32 × (Nat → Int32) :=
  if zIn x (nI 0) (v 2 - nI 1) = true then
    if v (147 + 7 * zn x + 3) < nI 2 then
      if zIn p (nI 1) (nI 2 * v (27 + 12 * zn (v (147 + 7 * zn x + 0)) + 3)) = true then
        if v (147 + 7 * zn x + 4) = p then (-5, v)
        else (if 0 ≤ v (147 + 7 * zn x + 4) then v (147 + 7 * zn x + 4) else nI 0, sLog (upd (upd v (147 + 7 * zn x + 3) (nI 1)) (147 + 7 * zn x + 4) p) (nI 2) x p)
      else (-2, v)
    else (-4, v)
  else (-1, v)
def sEx1 (v : Nat → Int32) (r g : Nat) : Nat → Int32 := sLog (sBec (sPays v g (v 6)) r (nI 2)) (nI 3) (nI r) (sBec (sPays v g (v 6)) r (nI 2) 6)
def sDoEx (v : Nat → Int32) (x : Int32) : Int32 × (Nat → Int32) :=
  if zIn x (nI 0) (v 2 - nI 1) = true then
    if sEx v (zn x) (zn (v (147 + 7 * zn x + 0))) = true then
      (nI (sOf (sEx1 v (zn x) (zn (v (147 + 7 * zn x + 1)))) (zn (v (147 + 7 * zn x + 0))) (nI 2) (nI 2)), sEx1 v (zn x) (zn (v (147 + 7 * zn x + 1))))
    else (-4, v)
  else (-1, v)
/-- the rights that can be cancelled are of open dates -/
def zOpn (v : Nat → Int32) : Prop := ∀ r, r < nR v → v (147 + 7 * r + 3) < nI 2 → v 15 ≤ sLeft v (zn (v (147 + 7 * r + 0)))
set_option maxRecDepth 4000 in
theorem c_X7_doBuy {l : Launch} {G : zG} {A : Nat → Nat} {m0 mm : zM} {v : Nat → Int32} {S : Nat → Nat → Int32} (hp : zMP G A m0 v S mm) (x y : Int32) (hK : zK v) : zSem l G (yX7_doBuy, cX7_doBuy, 3, (some .int)) 7 [.ref (A 0), .int x, .int y] mm (some (.int (sDoBuy v x y).1)) (fun m' => zMP G A m0 (sDoBuy v x y).2 S m') := by
  have hJ := hK.2.1
  have hJ2 := hK.2.1.2
  have hD2 := hK.1.2
  refine z_met [some (.ref (A 0)), some (.int x), some (.int y)] rfl (zc1 (by rfl)) (Nat.le_of_ble_eq_true rfl) rfl ?_
  refine z_iload_n 1 rfl rfl dX7_doBuy_0 ?_
  refine z_pS1 zm_X7_isHolder (c_X7_isHolder _) rfl zl_X7_90 (by decide) (Nat.le_of_ble_eq_true rfl) dX7_doBuy_1 ?_
  refine z_if_eqB 15 dX7_doBuy_4 rfl (fun c4 => ?_) (fun c4 => ?_)
  · refine z_iconst (-1) dX7_doBuy_15 (by decide) ?_
    have e9 : sDoBuy v x y = (-1, v) := by simp only [sDoBuy, c4, and_self, and_true, true_and, and_false, false_and, reduceIte, Bool.false_eq_true, reduceCtorEq]
    exact z_iret dX7_doBuy_16 (by rw [e9]) (by rw [e9]; exact hp)
  · obtain ⟨h, hh, rfl⟩ := zIn_nI (by decide) c4
    refine z_aload_n 0 rfl rfl dX7_doBuy_7 ?_
    refine z_iload_n 2 rfl rfl dX7_doBuy_8 ?_
    refine zM_p1 zm_X7_isDate (c_X7_isDate hp _) hp rfl rfl zl_X7_93 (by decide) (Nat.le_of_ble_eq_true rfl) dX7_doBuy_9 ?_
    refine z_if_neB 17 dX7_doBuy_12 rfl (fun c12 => ?_) (fun c12 => ?_)
    · obtain ⟨d, hd, rfl⟩ := zDt hK c12
      have hpl := hK.2.2.2.1 d hd
      refine z_aload_n 0 rfl rfl dX7_doBuy_17 ?_
      refine z_iload_n 2 rfl rfl dX7_doBuy_18 ?_
      refine zM_p1 zm_X7_isOpen (c_X7_isOpen hp _ (by omega)) hp rfl rfl zl_X7_63 (by decide) (Nat.le_of_ble_eq_true rfl) dX7_doBuy_19 ?_
      refine z_if_neB 28 dX7_doBuy_22 rfl (fun c22 => ?_) (fun c22 => ?_)
      · refine z_aload_n 0 rfl rfl dX7_doBuy_28 ?_
        refine z_iload_n 2 rfl rfl dX7_doBuy_29 ?_
        refine zM_p1 zm_X7_canSell (c_X7_canSell hp _ (by omega) hJ) hp rfl rfl zl_X7_78 (by decide) (Nat.le_of_ble_eq_true rfl) dX7_doBuy_30 ?_
        refine z_if_ne 41 dX7_doBuy_33 rfl (fun c33 => ?_) (fun c33 => ?_)
        · have hR := (sCan_pos hJ (sCan_ne c33)).1
          refine z_aload_n 0 rfl rfl dX7_doBuy_41 ?_
          refine z_iload_n 1 rfl rfl dX7_doBuy_42 ?_
          refine z_iload_n 2 rfl rfl dX7_doBuy_43 ?_
          refine zM_u2 zm_X7_sells (c_X7_sells hp _ _ (by omega) (by omega) (by omega) hJ (by assumption)) hp rfl rfl zl_X7_84 (by decide) (Nat.le_of_ble_eq_true rfl) dX7_doBuy_44 (fun mm hp => ?_)
          have e9 : sDoBuy v (nI h) (nI d) = (if sCan v d = 0 then (-3, v) else (nI (nR v), sSells v h d)) := by simp only [sDoBuy, c4, c12, zn_nI (show d < 2 ^ 31 by omega), zn_nI (show h < 2 ^ 31 by omega), c22, and_self, and_true, true_and, and_false, false_and, reduceIte, Bool.false_eq_true, reduceCtorEq]
          first | rw [if_pos c33] at e9 | rw [if_neg c33] at e9
          exact z_iret dX7_doBuy_47 (by rw [e9]) (by rw [e9]; exact hp)
        · refine z_bipush (-3) dX7_doBuy_36 (by decide) ?_
          refine z_goto 47 dX7_doBuy_38 rfl ?_
          have e9 : sDoBuy v (nI h) (nI d) = (if sCan v d = 0 then (-3, v) else (nI (nR v), sSells v h d)) := by simp only [sDoBuy, c4, c12, zn_nI (show d < 2 ^ 31 by omega), zn_nI (show h < 2 ^ 31 by omega), c22, and_self, and_true, true_and, and_false, false_and, reduceIte, Bool.false_eq_true, reduceCtorEq]
          first | rw [if_pos c33] at e9 | rw [if_neg c33] at e9
          exact z_iret dX7_doBuy_47 (by rw [e9]) (by rw [e9]; exact hp)
      · refine z_bipush (-4) dX7_doBuy_25 (by decide) ?_
        have e9 : sDoBuy v (nI h) (nI d) = (-4, v) := by simp only [sDoBuy, c4, c12, zn_nI (show d < 2 ^ 31 by omega), c22, and_self, and_true, true_and, and_false, false_and, reduceIte, Bool.false_eq_true, reduceCtorEq]
        exact z_iret dX7_doBuy_27 (by rw [e9]) (by rw [e9]; exact hp)
    · refine z_iconst (-1) dX7_doBuy_15 (by decide) ?_
      have e9 : sDoBuy v (nI h) y = (-1, v) := by simp only [sDoBuy, c4, c12, and_self, and_true, true_and, and_false, false_and, reduceIte, Bool.false_eq_true, reduceCtorEq]
      exact z_iret dX7_doBuy_16 (by rw [e9]) (by rw [e9]; exact hp)
set_option maxRecDepth 4000 in
theorem c_X7_doBuyOffered {l : Launch} {G : zG} {A : Nat → Nat} {m0 mm : zM} {v : Nat → Int32} {S : Nat → Nat → Int32} (hp : zMP G A m0 v S mm) (x y : Int32) (hK : zK v) : zSem l G (yX7_doBuyOffered, cX7_doBuyOffered, 6, (some .int)) 5 [.ref (A 0), .int x, .int y] mm (some (.int (sDoOff v x y).1)) (fun m' => zMP G A m0 (sDoOff v x y).2 S m') := by
  have hJ := hK.2.1
  have hJ2 := hK.2.1.2
  have hD2 := hK.1.2
  refine z_met [some (.ref (A 0)), some (.int x), some (.int y), none, none, none] rfl (zc1 (by rfl)) (Nat.le_of_ble_eq_true rfl) rfl ?_
  refine z_iload_n 1 rfl rfl dX7_doBuyOffered_0 ?_
  refine z_pS1 zm_X7_isHolder (c_X7_isHolder _) rfl zl_X7_90 (by decide) (Nat.le_of_ble_eq_true rfl) dX7_doBuyOffered_1 ?_
  refine z_if_eqB 15 dX7_doBuyOffered_4 rfl (fun c4 => ?_) (fun c4 => ?_)
  · refine z_iconst (-1) dX7_doBuyOffered_15 (by decide) ?_
    have e9 : sDoOff v x y = (-1, v) := by simp only [sDoOff, c4, and_self, and_true, true_and, and_false, false_and, reduceIte, Bool.false_eq_true, reduceCtorEq]
    exact z_iret dX7_doBuyOffered_16 (by rw [e9]) (by rw [e9]; exact hp)
  · obtain ⟨h, hh, rfl⟩ := zIn_nI (by decide) c4
    refine z_aload_n 0 rfl rfl dX7_doBuyOffered_7 ?_
    refine z_iload_n 2 rfl rfl dX7_doBuyOffered_8 ?_
    refine zM_p1 zm_X7_isDate (c_X7_isDate hp _) hp rfl rfl zl_X7_93 (by decide) (Nat.le_of_ble_eq_true rfl) dX7_doBuyOffered_9 ?_
    refine z_if_neB 17 dX7_doBuyOffered_12 rfl (fun c12 => ?_) (fun c12 => ?_)
    · obtain ⟨d, hd, rfl⟩ := zDt hK c12
      have hpl := hK.2.2.2.1 d hd
      refine z_aload_n 0 rfl rfl dX7_doBuyOffered_17 ?_
      refine z_iload_n 2 rfl rfl dX7_doBuyOffered_18 ?_
      refine z_iconst (nI 1) dX7_doBuyOffered_19 rfl ?_
      refine z_iconst (nI 4) dX7_doBuyOffered_20 rfl ?_
      refine zM_p3 zm_X7_lowest (c_X7_lowest hp _ _ _ (by omega) hJ) hp rfl rfl zl_X7_96 (by decide) (Nat.le_of_ble_eq_true rfl) dX7_doBuyOffered_21 ?_
      refine z_istore_n 3 rfl (Nat.le_of_ble_eq_true rfl) rfl dX7_doBuyOffered_24 ?_
      refine z_iload_n 3 rfl rfl dX7_doBuyOffered_25 ?_
      refine z_if_lt 39 dX7_doBuyOffered_26 rfl (fun c26 => ?_) (fun c26 => ?_)
      · have ho := zO_neg (fun r q => by have := sLow_lt q; omega) c26
        refine z_bipush (-4) dX7_doBuyOffered_39 (by decide) ?_
        have e9 : sDoOff v (nI h) (nI d) = (-4, v) := by first | (simp only [sDoOff, c4, c12, zn_nI (show d < 2 ^ 31 by omega), ho, c36, and_self, and_true, true_and, and_false, false_and, reduceIte, Bool.false_eq_true, reduceCtorEq]; done) | simp only [sDoOff, c4, c12, zn_nI (show d < 2 ^ 31 by omega), ho, and_self, and_true, true_and, and_false, false_and, reduceIte, Bool.false_eq_true, reduceCtorEq]
        exact z_iret dX7_doBuyOffered_41 (by rw [e9]) (by rw [e9]; exact hp)
      · obtain ⟨r, ho⟩ := zO_pos c26
        have hr := sLow_lt ho
        obtain ⟨-, g, hg, e1⟩ := hK.2.2.2.2 r hr
        rw [ho, zO_some]
        refine z_aload_n 0 rfl rfl dX7_doBuyOffered_29 ?_
        refine z_iload_n 3 rfl rfl dX7_doBuyOffered_30 ?_
        refine z_iconst (nI 1) dX7_doBuyOffered_31 rfl ?_
        refine zM_p2 zm_X7_of (c_X7_of hp _ _ (by omega) (by omega)) hp rfl rfl zl_X7_53 (by decide) (Nat.le_of_ble_eq_true rfl) dX7_doBuyOffered_32 ?_
        refine z_iload_n 1 rfl rfl dX7_doBuyOffered_35 ?_
        refine z_icmp_ne 42 dX7_doBuyOffered_36 rfl (fun c36 => ?_) (fun c36 => ?_)
        · refine z_aload_n 0 rfl rfl dX7_doBuyOffered_42 ?_
          refine z_iload_n 3 rfl rfl dX7_doBuyOffered_43 ?_
          refine z_iconst (nI 4) dX7_doBuyOffered_44 rfl ?_
          refine zM_p2 zm_X7_of (c_X7_of hp _ _ (by omega) (by omega)) hp rfl rfl zl_X7_53 (by decide) (Nat.le_of_ble_eq_true rfl) dX7_doBuyOffered_45 ?_
          refine z_istore 4 (Nat.le_of_ble_eq_true rfl) rfl dX7_doBuyOffered_48 ?_
          refine z_iload 4 rfl dX7_doBuyOffered_50 ?_
          refine z_aload_n 0 rfl rfl dX7_doBuyOffered_52 ?_
          refine zM_ref 0 1 hp (by decide) rfl (by decide) rfl rfl zf_X7_7 dX7_doBuyOffered_53 ?_
          refine z_iconst (nI 4) dX7_doBuyOffered_56 rfl ?_
          refine zM_vld hp (by omega) dX7_doBuyOffered_57 ?_
          refine z_imul dX7_doBuyOffered_58 ?_
          refine z_bipush (nI 100) dX7_doBuyOffered_59 rfl ?_
          refine z_idiv dX7_doBuyOffered_61 (by decide) ?_
          refine z_istore 5 (Nat.le_of_ble_eq_true rfl) rfl dX7_doBuyOffered_62 ?_
          refine z_aload_n 0 rfl rfl dX7_doBuyOffered_64 ?_
          refine z_iload_n 1 rfl rfl dX7_doBuyOffered_65 ?_
          refine z_iload 4 rfl dX7_doBuyOffered_66 ?_
          refine zM_v2 zm_X7_pays (c_X7_pays hp _ _ (by omega)) hp rfl rfl zl_X7_70 (by decide) (Nat.le_of_ble_eq_true rfl) dX7_doBuyOffered_68 (fun mm hp => ?_)
          refine z_aload_n 0 rfl rfl dX7_doBuyOffered_71 ?_
          refine z_aload_n 0 rfl rfl dX7_doBuyOffered_72 ?_
          refine z_iload_n 3 rfl rfl dX7_doBuyOffered_73 ?_
          refine z_iconst (nI 1) dX7_doBuyOffered_74 rfl ?_
          refine zM_p2 zm_X7_of (c_X7_of hp _ _ (by omega) (by omega)) hp rfl rfl zl_X7_53 (by decide) (Nat.le_of_ble_eq_true rfl) dX7_doBuyOffered_75 ?_
          rw [show sPays v h (v (147 + 7 * r + 4)) (147 + 7 * r + 1) = nI g by rw [sPays_at (by omega) (by omega)]; exact e1]
          refine z_iload 5 rfl dX7_doBuyOffered_78 ?_
          refine z_iload 4 rfl dX7_doBuyOffered_80 ?_
          refine z_isub dX7_doBuyOffered_82 ?_
          refine zM_v2 zm_X7_pays (c_X7_pays hp _ _ (by omega)) hp rfl rfl zl_X7_70 (by decide) (Nat.le_of_ble_eq_true rfl) dX7_doBuyOffered_83 (fun mm hp => ?_)
          refine z_aload_n 0 rfl rfl dX7_doBuyOffered_86 ?_
          refine zM_ref 0 1 hp (by decide) rfl (by decide) rfl rfl zf_X7_7 dX7_doBuyOffered_87 ?_
          refine z_iload_n 3 rfl rfl dX7_doBuyOffered_90 ?_
          refine z_iconst (nI 1) dX7_doBuyOffered_91 rfl ?_
          refine z_pS2 zm_X7_rightAt (c_X7_rightAt _ _) rfl zl_X7_43 (by decide) (Nat.le_of_ble_eq_true rfl) dX7_doBuyOffered_92 ?_
          refine z_iload_n 1 rfl rfl dX7_doBuyOffered_95 ?_
          refine zM_vst hp (by omega) dX7_doBuyOffered_96 (fun mm hp => ?_)
          refine z_aload_n 0 rfl rfl dX7_doBuyOffered_97 ?_
          refine zM_ref 0 1 hp (by decide) rfl (by decide) rfl rfl zf_X7_7 dX7_doBuyOffered_98 ?_
          refine z_iload_n 3 rfl rfl dX7_doBuyOffered_101 ?_
          refine z_bipush (nI 6) dX7_doBuyOffered_102 rfl ?_
          refine z_pS2 zm_X7_rightAt (c_X7_rightAt _ _) rfl zl_X7_43 (by decide) (Nat.le_of_ble_eq_true rfl) dX7_doBuyOffered_104 ?_
          refine z_dup2 dX7_doBuyOffered_107 rfl rfl ?_
          refine zM_vld hp (by omega) dX7_doBuyOffered_108 ?_
          refine z_iconst (nI 1) dX7_doBuyOffered_109 rfl ?_
          refine z_iadd dX7_doBuyOffered_110 ?_
          refine zM_vst hp (by omega) dX7_doBuyOffered_111 (fun mm hp => ?_)
          have hp : zMP G A m0 (upd (sOff2 v r h g) (147 + 7 * r + 6) (sOff2 v r h g (147 + 7 * r + 6) + nI 1)) S mm := hp
          refine z_aload_n 0 rfl rfl dX7_doBuyOffered_112 ?_
          refine z_iload_n 3 rfl rfl dX7_doBuyOffered_113 ?_
          refine z_iconst (nI 0) dX7_doBuyOffered_114 rfl ?_
          refine zM_v2 zm_X7_becomes (c_X7_becomes hp _ _ (by omega)) hp rfl rfl zl_X7_99 (by decide) (Nat.le_of_ble_eq_true rfl) dX7_doBuyOffered_115 (fun mm hp => ?_)
          refine z_aload_n 0 rfl rfl dX7_doBuyOffered_118 ?_
          refine z_iconst (nI 1) dX7_doBuyOffered_119 rfl ?_
          refine z_iload_n 3 rfl rfl dX7_doBuyOffered_120 ?_
          refine z_iload 4 rfl dX7_doBuyOffered_121 ?_
          refine zM_v3 zm_X7_log (c_X7_log hp _ _ _) hp rfl rfl zl_X7_74 (by decide) (Nat.le_of_ble_eq_true rfl) dX7_doBuyOffered_123 (fun mm hp => ?_)
          refine z_iload_n 3 rfl rfl dX7_doBuyOffered_126 ?_
          have e9 : sDoOff v (nI h) (nI d) = (nI r, sOff v r h g) := by simp only [sDoOff, c4, c12, zn_nI (show d < 2 ^ 31 by omega), zn_nI (show h < 2 ^ 31 by omega), ho, and_self, and_true, true_and, and_false, false_and, reduceIte, Bool.false_eq_true, reduceCtorEq]; rw [if_neg c36, e1, zn_nI (by omega)]
          exact z_iret dX7_doBuyOffered_127 (by rw [e9]) (by rw [e9]; exact hp)
        · refine z_bipush (-4) dX7_doBuyOffered_39 (by decide) ?_
          have e9 : sDoOff v (nI h) (nI d) = (-4, v) := by first | (simp only [sDoOff, c4, c12, zn_nI (show d < 2 ^ 31 by omega), ho, c36, and_self, and_true, true_and, and_false, false_and, reduceIte, Bool.false_eq_true, reduceCtorEq]; done) | simp only [sDoOff, c4, c12, zn_nI (show d < 2 ^ 31 by omega), ho, and_self, and_true, true_and, and_false, false_and, reduceIte, Bool.false_eq_true, reduceCtorEq]
          exact z_iret dX7_doBuyOffered_41 (by rw [e9]) (by rw [e9]; exact hp)
    · refine z_iconst (-1) dX7_doBuyOffered_15 (by decide) ?_
      have e9 : sDoOff v (nI h) y = (-1, v) := by simp only [sDoOff, c4, c12, and_self, and_true, true_and, and_false, false_and, reduceIte, Bool.false_eq_true, reduceCtorEq]
      exact z_iret dX7_doBuyOffered_16 (by rw [e9]) (by rw [e9]; exact hp)
set_option maxRecDepth 4000 in
theorem c_X7_doCancel {l : Launch} {G : zG} {A : Nat → Nat} {m0 mm : zM} {v : Nat → Int32} {S : Nat → Nat → Int32} (hp : zMP G A m0 v S mm) (x : Int32) (hK : zK v) (hO : zOpn v) : zSem l G (yX7_doCancel, cX7_doCancel, 3, (some .int)) 8 [.ref (A 0), .int x] mm (some (.int (sDoCan v x).1)) (fun m' => zMP G A m0 (sDoCan v x).2 S m') := by
  have hJ := hK.2.1
  have hJ2 := hK.2.1.2
  have hD2 := hK.1.2
  refine z_met [some (.ref (A 0)), some (.int x), none] rfl (zc1 (by rfl)) (Nat.le_of_ble_eq_true rfl) rfl ?_
  refine z_aload_n 0 rfl rfl dX7_doCancel_0 ?_
  refine z_iload_n 1 rfl rfl dX7_doCancel_1 ?_
  refine zM_p1 zm_X7_isRight (c_X7_isRight hp _) hp rfl rfl zl_X7_102 (by decide) (Nat.le_of_ble_eq_true rfl) dX7_doCancel_2 ?_
  refine z_if_neB 10 dX7_doCancel_5 rfl (fun c5 => ?_) (fun c5 => ?_)
  · obtain ⟨r, d, g, hr, rfl, hd, e0, hg, e1⟩ := zRt hK c5
    refine z_aload_n 0 rfl rfl dX7_doCancel_10 ?_
    refine z_iload_n 1 rfl rfl dX7_doCancel_11 ?_
    refine zM_p1 zm_X7_isFree (c_X7_isFree hp _ (by omega)) hp rfl rfl zl_X7_105 (by decide) (Nat.le_of_ble_eq_true rfl) dX7_doCancel_12 ?_
    refine z_if_neB 21 dX7_doCancel_15 rfl (fun c15 => ?_) (fun c15 => ?_)
    · have hst : v 15 ≤ sLeft v d := by have := hO r hr (of_decide_eq_true c15); rwa [e0, zn_nI (by omega)] at this
      refine z_aload_n 0 rfl rfl dX7_doCancel_21 ?_
      refine z_iload_n 1 rfl rfl dX7_doCancel_22 ?_
      refine zM_p1 zm_X7_refund (c_X7_refund hp _ d (by omega) (by omega) e0 hst) hp rfl rfl zl_X7_108 (by decide) (Nat.le_of_ble_eq_true rfl) dX7_doCancel_23 ?_
      refine z_istore_n 2 rfl (Nat.le_of_ble_eq_true rfl) rfl dX7_doCancel_26 ?_
      refine z_aload_n 0 rfl rfl dX7_doCancel_27 ?_
      refine z_aload_n 0 rfl rfl dX7_doCancel_28 ?_
      refine z_iload_n 1 rfl rfl dX7_doCancel_29 ?_
      refine z_iconst (nI 1) dX7_doCancel_30 rfl ?_
      refine zM_p2 zm_X7_of (c_X7_of hp _ _ (by omega) (by omega)) hp rfl rfl zl_X7_53 (by decide) (Nat.le_of_ble_eq_true rfl) dX7_doCancel_31 ?_
      rw [e1]
      refine z_iload_n 2 rfl rfl dX7_doCancel_34 ?_
      refine z_ineg dX7_doCancel_35 ?_
      refine zM_v2 zm_X7_pays (c_X7_pays hp _ _ (by omega)) hp rfl rfl zl_X7_70 (by decide) (Nat.le_of_ble_eq_true rfl) dX7_doCancel_36 (fun mm hp => ?_)
      refine z_aload_n 0 rfl rfl dX7_doCancel_39 ?_
      refine z_iload_n 1 rfl rfl dX7_doCancel_40 ?_
      refine z_iconst (nI 3) dX7_doCancel_41 rfl ?_
      refine zM_v2 zm_X7_becomes (c_X7_becomes hp _ _ (by omega)) hp rfl rfl zl_X7_99 (by decide) (Nat.le_of_ble_eq_true rfl) dX7_doCancel_42 (fun mm hp => ?_)
      refine z_aload_n 0 rfl rfl dX7_doCancel_45 ?_
      refine z_iconst (nI 4) dX7_doCancel_46 rfl ?_
      refine z_iload_n 1 rfl rfl dX7_doCancel_47 ?_
      refine z_iload_n 2 rfl rfl dX7_doCancel_48 ?_
      refine zM_v3 zm_X7_log (c_X7_log hp _ _ _) hp rfl rfl zl_X7_74 (by decide) (Nat.le_of_ble_eq_true rfl) dX7_doCancel_49 (fun mm hp => ?_)
      have hp : zMP G A m0 (sCan1 v r d g) S mm := hp
      have hK1 : zK (sCan1 v r d g) := ((hK.pays hg).bec).log
      have eat : ∀ j, j ≠ 7 → j ≠ 8 → (j < 17 ∨ 27 ≤ j) → (j < 147 ∨ (147 ≤ j ∧ j < 567 ∧ j ≠ 147 + 7 * r + 3 ∧ j ≠ 147 + 7 * r + 4)) → sCan1 v r d g j = v j := fun j h7 h8 hj h9 => by unfold sCan1; rw [sLog_at h8 (by omega), sBec_at (by omega) (by omega), sPays_at h7 (by omega)]
      refine z_aload_n 0 rfl rfl dX7_doCancel_52 ?_
      refine z_aload_n 0 rfl rfl dX7_doCancel_53 ?_
      refine z_iload_n 1 rfl rfl dX7_doCancel_54 ?_
      refine z_iconst (nI 0) dX7_doCancel_55 rfl ?_
      refine zM_p2 zm_X7_of (c_X7_of hp _ _ (by omega) (by omega)) hp rfl rfl zl_X7_53 (by decide) (Nat.le_of_ble_eq_true rfl) dX7_doCancel_56 ?_
      rw [show sCan1 v r d g (147 + 7 * r + 0) = nI d by rw [eat _ (by omega) (by omega) (by omega) (by omega)]; exact e0]
      obtain ⟨n, hn, h5, -⟩ := hK.2.2.1 d (by omega)
      have h5b : sCan1 v r d g (27 + 12 * d + 5) = nI n := by rw [eat _ (by omega) (by omega) (by omega) (by omega)]; exact h5
      have hd1 : d < nD (sCan1 v r d g) := by rw [nD_of (eat 1 (by omega) (by omega) (by omega) (by omega))]; exact hd
      refine zM_v1 zm_X7_listBuys (c_X7_listBuys hp _ _ (by assumption) (by omega) (by assumption) (by omega)) hp rfl rfl zl_X7_111 (by decide) (Nat.le_of_ble_eq_true rfl) dX7_doCancel_59 (fun mm hp => ?_)
      refine z_iload_n 2 rfl rfl dX7_doCancel_62 ?_
      have e9 : sDoCan v (nI r) = (sRef v r d, sLB d n (sCan1 v r d g)) := by simp only [sDoCan, c5, zn_nI (show r < 2 ^ 31 by omega), e0, e1, zn_nI (show d < 2 ^ 31 by omega), zn_nI (show g < 2 ^ 31 by omega), of_decide_eq_true c15, h5, zn_nI (show n < 2 ^ 31 by omega), and_self, and_true, true_and, and_false, false_and, reduceIte, Bool.false_eq_true, reduceCtorEq]
      exact z_iret dX7_doCancel_63 (by rw [e9]) (by rw [e9]; exact hp)
    · refine z_bipush (-4) dX7_doCancel_18 (by decide) ?_
      have e9 : sDoCan v (nI r) = (-4, v) := by simp only [sDoCan, c5, zn_nI (show r < 2 ^ 31 by omega), of_decide_eq_false c15, and_self, and_true, true_and, and_false, false_and, reduceIte, Bool.false_eq_true, reduceCtorEq]
      exact z_iret dX7_doCancel_20 (by rw [e9]) (by rw [e9]; exact hp)
  · refine z_iconst (-1) dX7_doCancel_8 (by decide) ?_
    have e9 : sDoCan v x = (-1, v) := by simp only [sDoCan, c5, and_self, and_true, true_and, and_false, false_and, reduceIte, Bool.false_eq_true, reduceCtorEq]
    exact z_iret dX7_doCancel_9 (by rw [e9]) (by rw [e9]; exact hp)
set_option maxRecDepth 4000 in
theorem c_X7_doOffer {l : Launch} {G : zG} {A : Nat → Nat} {m0 mm : zM} {v : Nat → Int32} {S : Nat → Nat → Int32} (hp : zMP G A m0 v S mm) (x p : Int32) (hK : zK v) : zSem l G (yX7_doOffer, cX7_doOffer, 4, (some .int)) 4 [.ref (A 0), .int x, .int p] mm (some (.int (sDoOfr v x p).1)) (fun m' => zMP G A m0 (sDoOfr v x p).2 S m') := by
  have hJ := hK.2.1
  have hJ2 := hK.2.1.2
  have hD2 := hK.1.2
  refine z_met [some (.ref (A 0)), some (.int x), some (.int p), none] rfl (zc1 (by rfl)) (Nat.le_of_ble_eq_true rfl) rfl ?_
  refine z_aload_n 0 rfl rfl dX7_doOffer_0 ?_
  refine z_iload_n 1 rfl rfl dX7_doOffer_1 ?_
  refine zM_p1 zm_X7_isRight (c_X7_isRight hp _) hp rfl rfl zl_X7_102 (by decide) (Nat.le_of_ble_eq_true rfl) dX7_doOffer_2 ?_
  refine z_if_neB 10 dX7_doOffer_5 rfl (fun c5 => ?_) (fun c5 => ?_)
  · obtain ⟨r, d, g, hr, rfl, hd, e0, hg, e1⟩ := zRt hK c5
    refine z_aload_n 0 rfl rfl dX7_doOffer_10 ?_
    refine z_iload_n 1 rfl rfl dX7_doOffer_11 ?_
    refine zM_p1 zm_X7_isFree (c_X7_isFree hp _ (by omega)) hp rfl rfl zl_X7_105 (by decide) (Nat.le_of_ble_eq_true rfl) dX7_doOffer_12 ?_
    refine z_if_neB 21 dX7_doOffer_15 rfl (fun c15 => ?_) (fun c15 => ?_)
    · refine z_iload_n 2 rfl rfl dX7_doOffer_21 ?_
      refine z_iconst (nI 1) dX7_doOffer_22 rfl ?_
      refine z_iconst (nI 2) dX7_doOffer_23 rfl ?_
      refine z_aload_n 0 rfl rfl dX7_doOffer_24 ?_
      refine z_aload_n 0 rfl rfl dX7_doOffer_25 ?_
      refine z_iload_n 1 rfl rfl dX7_doOffer_26 ?_
      refine z_iconst (nI 0) dX7_doOffer_27 rfl ?_
      refine zM_p2 zm_X7_of (c_X7_of hp _ _ (by omega) (by omega)) hp rfl rfl zl_X7_53 (by decide) (Nat.le_of_ble_eq_true rfl) dX7_doOffer_28 ?_
      rw [e0]
      refine z_iconst (nI 3) dX7_doOffer_31 rfl ?_
      refine zM_p2 zm_X7_ofDate (c_X7_ofDate hp _ _ (by omega) (by omega)) hp rfl rfl zl_X7_46 (by decide) (Nat.le_of_ble_eq_true rfl) dX7_doOffer_32 ?_
      refine z_imul dX7_doOffer_35 ?_
      refine z_pS3 zm_X7_in (c_X7_in _ _ _) rfl zl_X7_35 (by decide) (Nat.le_of_ble_eq_true rfl) dX7_doOffer_36 ?_
      refine z_if_neB 45 dX7_doOffer_39 rfl (fun c39 => ?_) (fun c39 => ?_)
      · refine z_aload_n 0 rfl rfl dX7_doOffer_45 ?_
        refine z_iload_n 1 rfl rfl dX7_doOffer_46 ?_
        refine z_iconst (nI 4) dX7_doOffer_47 rfl ?_
        refine zM_p2 zm_X7_of (c_X7_of hp _ _ (by omega) (by omega)) hp rfl rfl zl_X7_53 (by decide) (Nat.le_of_ble_eq_true rfl) dX7_doOffer_48 ?_
        refine z_istore_n 3 rfl (Nat.le_of_ble_eq_true rfl) rfl dX7_doOffer_51 ?_
        refine z_iload_n 3 rfl rfl dX7_doOffer_52 ?_
        refine z_iload_n 2 rfl rfl dX7_doOffer_53 ?_
        refine z_icmp_ne 60 dX7_doOffer_54 rfl (fun c54 => ?_) (fun c54 => ?_)
        · refine z_aload_n 0 rfl rfl dX7_doOffer_60 ?_
          refine zM_ref 0 1 hp (by decide) rfl (by decide) rfl rfl zf_X7_7 dX7_doOffer_61 ?_
          refine z_iload_n 1 rfl rfl dX7_doOffer_64 ?_
          refine z_iconst (nI 3) dX7_doOffer_65 rfl ?_
          refine z_pS2 zm_X7_rightAt (c_X7_rightAt _ _) rfl zl_X7_43 (by decide) (Nat.le_of_ble_eq_true rfl) dX7_doOffer_66 ?_
          refine z_iconst (nI 1) dX7_doOffer_69 rfl ?_
          refine zM_vst hp (by omega) dX7_doOffer_70 (fun mm hp => ?_)
          refine z_aload_n 0 rfl rfl dX7_doOffer_71 ?_
          refine zM_ref 0 1 hp (by decide) rfl (by decide) rfl rfl zf_X7_7 dX7_doOffer_72 ?_
          refine z_iload_n 1 rfl rfl dX7_doOffer_75 ?_
          refine z_iconst (nI 4) dX7_doOffer_76 rfl ?_
          refine z_pS2 zm_X7_rightAt (c_X7_rightAt _ _) rfl zl_X7_43 (by decide) (Nat.le_of_ble_eq_true rfl) dX7_doOffer_77 ?_
          refine z_iload_n 2 rfl rfl dX7_doOffer_80 ?_
          refine zM_vst hp (by omega) dX7_doOffer_81 (fun mm hp => ?_)
          refine z_aload_n 0 rfl rfl dX7_doOffer_82 ?_
          refine z_iconst (nI 2) dX7_doOffer_83 rfl ?_
          refine z_iload_n 1 rfl rfl dX7_doOffer_84 ?_
          refine z_iload_n 2 rfl rfl dX7_doOffer_85 ?_
          refine zM_v3 zm_X7_log (c_X7_log hp _ _ _) hp rfl rfl zl_X7_74 (by decide) (Nat.le_of_ble_eq_true rfl) dX7_doOffer_86 (fun mm hp => ?_)
          refine z_iload_n 3 rfl rfl dX7_doOffer_89 ?_
          refine z_if_ge 97 dX7_doOffer_90 rfl (fun c90 => ?_) (fun c90 => ?_)
          · refine z_iload_n 3 rfl rfl dX7_doOffer_97 ?_
            have e9 : sDoOfr v (nI r) p = (if 0 ≤ v (147 + 7 * r + 4) then v (147 + 7 * r + 4) else nI 0, sLog (upd (upd v (147 + 7 * r + 3) (nI 1)) (147 + 7 * r + 4) p) (nI 2) (nI r) p) := by simp only [sDoOfr, c5, zn_nI (show r < 2 ^ 31 by omega), e0, e1, zn_nI (show d < 2 ^ 31 by omega), zn_nI (show g < 2 ^ 31 by omega), of_decide_eq_true c15, c39, and_self, and_true, true_and, and_false, false_and, reduceIte, Bool.false_eq_true, reduceCtorEq]; rw [if_neg c54]
            first | rw [if_pos c90] at e9 | rw [if_neg c90] at e9
            exact z_iret dX7_doOffer_98 (by rw [e9]) (by rw [e9]; exact hp)
          · refine z_iconst (nI 0) dX7_doOffer_93 rfl ?_
            refine z_goto 98 dX7_doOffer_94 rfl ?_
            have e9 : sDoOfr v (nI r) p = (if 0 ≤ v (147 + 7 * r + 4) then v (147 + 7 * r + 4) else nI 0, sLog (upd (upd v (147 + 7 * r + 3) (nI 1)) (147 + 7 * r + 4) p) (nI 2) (nI r) p) := by simp only [sDoOfr, c5, zn_nI (show r < 2 ^ 31 by omega), e0, e1, zn_nI (show d < 2 ^ 31 by omega), zn_nI (show g < 2 ^ 31 by omega), of_decide_eq_true c15, c39, and_self, and_true, true_and, and_false, false_and, reduceIte, Bool.false_eq_true, reduceCtorEq]; rw [if_neg c54]
            first | rw [if_pos c90] at e9 | rw [if_neg c90] at e9
            exact z_iret dX7_doOffer_98 (by rw [e9]) (by rw [e9]; exact hp)
        · refine z_bipush (-5) dX7_doOffer_57 (by decide) ?_
          have e9 : sDoOfr v (nI r) p = (-5, v) := by simp only [sDoOfr, c5, zn_nI (show r < 2 ^ 31 by omega), e0, e1, zn_nI (show d < 2 ^ 31 by omega), zn_nI (show g < 2 ^ 31 by omega), of_decide_eq_true c15, c39, and_self, and_true, true_and, and_false, false_and, reduceIte, Bool.false_eq_true, reduceCtorEq]; rw [if_pos c54]
          exact z_iret dX7_doOffer_59 (by rw [e9]) (by rw [e9]; exact hp)
      · refine z_bipush (-2) dX7_doOffer_42 (by decide) ?_
        have e9 : sDoOfr v (nI r) p = (-2, v) := by simp only [sDoOfr, c5, zn_nI (show r < 2 ^ 31 by omega), e0, e1, zn_nI (show d < 2 ^ 31 by omega), zn_nI (show g < 2 ^ 31 by omega), of_decide_eq_true c15, c39, and_self, and_true, true_and, and_false, false_and, reduceIte, Bool.false_eq_true, reduceCtorEq]
        exact z_iret dX7_doOffer_44 (by rw [e9]) (by rw [e9]; exact hp)
    · refine z_bipush (-4) dX7_doOffer_18 (by decide) ?_
      have e9 : sDoOfr v (nI r) p = (-4, v) := by simp only [sDoOfr, c5, zn_nI (show r < 2 ^ 31 by omega), of_decide_eq_false c15, and_self, and_true, true_and, and_false, false_and, reduceIte, Bool.false_eq_true, reduceCtorEq]
      exact z_iret dX7_doOffer_20 (by rw [e9]) (by rw [e9]; exact hp)
  · refine z_iconst (-1) dX7_doOffer_8 (by decide) ?_
    have e9 : sDoOfr v x p = (-1, v) := by simp only [sDoOfr, c5, and_self, and_true, true_and, and_false, false_and, reduceIte, Bool.false_eq_true, reduceCtorEq]
    exact z_iret dX7_doOffer_9 (by rw [e9]) (by rw [e9]; exact hp)
set_option maxRecDepth 4000 in
theorem c_X7_doExercise {l : Launch} {G : zG} {A : Nat → Nat} {m0 mm : zM} {v : Nat → Int32} {S : Nat → Nat → Int32} (hp : zMP G A m0 v S mm) (x : Int32) (hK : zK v) : zSem l G (yX7_doExercise, cX7_doExercise, 2, (some .int)) 5 [.ref (A 0), .int x] mm (some (.int (sDoEx v x).1)) (fun m' => zMP G A m0 (sDoEx v x).2 S m') := by
  have hJ := hK.2.1
  have hJ2 := hK.2.1.2
  have hD2 := hK.1.2
  refine z_met [some (.ref (A 0)), some (.int x)] rfl (zc1 (by rfl)) (Nat.le_of_ble_eq_true rfl) rfl ?_
  refine z_aload_n 0 rfl rfl dX7_doExercise_0 ?_
  refine z_iload_n 1 rfl rfl dX7_doExercise_1 ?_
  refine zM_p1 zm_X7_isRight (c_X7_isRight hp _) hp rfl rfl zl_X7_102 (by decide) (Nat.le_of_ble_eq_true rfl) dX7_doExercise_2 ?_
  refine z_if_neB 10 dX7_doExercise_5 rfl (fun c5 => ?_) (fun c5 => ?_)
  · obtain ⟨r, d, g, hr, rfl, hd, e0, hg, e1⟩ := zRt hK c5
    refine z_aload_n 0 rfl rfl dX7_doExercise_10 ?_
    refine z_iload_n 1 rfl rfl dX7_doExercise_11 ?_
    refine zM_p1 zm_X7_canExercise (c_X7_canExercise hp _ d (by omega) (by omega) e0 hJ) hp rfl rfl zl_X7_115 (by decide) (Nat.le_of_ble_eq_true rfl) dX7_doExercise_12 ?_
    refine z_if_neB 21 dX7_doExercise_15 rfl (fun c15 => ?_) (fun c15 => ?_)
    · refine z_aload_n 0 rfl rfl dX7_doExercise_21 ?_
      refine z_aload_n 0 rfl rfl dX7_doExercise_22 ?_
      refine z_iload_n 1 rfl rfl dX7_doExercise_23 ?_
      refine z_iconst (nI 1) dX7_doExercise_24 rfl ?_
      refine zM_p2 zm_X7_of (c_X7_of hp _ _ (by omega) (by omega)) hp rfl rfl zl_X7_53 (by decide) (Nat.le_of_ble_eq_true rfl) dX7_doExercise_25 ?_
      rw [e1]
      refine z_aload_n 0 rfl rfl dX7_doExercise_28 ?_
      refine zM_ref 0 1 hp (by decide) rfl (by decide) rfl rfl zf_X7_7 dX7_doExercise_29 ?_
      refine z_bipush (nI 6) dX7_doExercise_32 rfl ?_
      refine zM_vld hp (by omega) dX7_doExercise_34 ?_
      refine zM_v2 zm_X7_pays (c_X7_pays hp _ _ (by omega)) hp rfl rfl zl_X7_70 (by decide) (Nat.le_of_ble_eq_true rfl) dX7_doExercise_35 (fun mm hp => ?_)
      refine z_aload_n 0 rfl rfl dX7_doExercise_38 ?_
      refine z_iload_n 1 rfl rfl dX7_doExercise_39 ?_
      refine z_iconst (nI 2) dX7_doExercise_40 rfl ?_
      refine zM_v2 zm_X7_becomes (c_X7_becomes hp _ _ (by omega)) hp rfl rfl zl_X7_99 (by decide) (Nat.le_of_ble_eq_true rfl) dX7_doExercise_41 (fun mm hp => ?_)
      refine z_aload_n 0 rfl rfl dX7_doExercise_44 ?_
      refine z_iconst (nI 3) dX7_doExercise_45 rfl ?_
      refine z_iload_n 1 rfl rfl dX7_doExercise_46 ?_
      refine z_aload_n 0 rfl rfl dX7_doExercise_47 ?_
      refine zM_ref 0 1 hp (by decide) rfl (by decide) rfl rfl zf_X7_7 dX7_doExercise_48 ?_
      refine z_bipush (nI 6) dX7_doExercise_51 rfl ?_
      refine zM_vld hp (by omega) dX7_doExercise_53 ?_
      refine zM_v3 zm_X7_log (c_X7_log hp _ _ _) hp rfl rfl zl_X7_74 (by decide) (Nat.le_of_ble_eq_true rfl) dX7_doExercise_54 (fun mm hp => ?_)
      have hp : zMP G A m0 (sEx1 v r g) S mm := hp
      have hK1 : zK (sEx1 v r g) := ((hK.pays hg).bec).log
      have hJ := hK1.2.1
      refine z_aload_n 0 rfl rfl dX7_doExercise_57 ?_
      refine z_aload_n 0 rfl rfl dX7_doExercise_58 ?_
      refine z_iload_n 1 rfl rfl dX7_doExercise_59 ?_
      refine z_iconst (nI 0) dX7_doExercise_60 rfl ?_
      refine zM_p2 zm_X7_of (c_X7_of hp _ _ (by omega) (by omega)) hp rfl rfl zl_X7_53 (by decide) (Nat.le_of_ble_eq_true rfl) dX7_doExercise_61 ?_
      rw [show sEx1 v r g (147 + 7 * r + 0) = nI d by unfold sEx1; rw [sLog_at (by omega) (by omega), sBec_at (by omega) (by omega), sPays_at (by omega) (by omega)]; exact e0]
      refine z_iconst (nI 2) dX7_doExercise_64 rfl ?_
      refine z_iconst (nI 2) dX7_doExercise_65 rfl ?_
      refine zM_p3 zm_X7_rightsOf (c_X7_rightsOf hp _ _ _ hJ) hp rfl rfl zl_X7_56 (by decide) (Nat.le_of_ble_eq_true rfl) dX7_doExercise_66 ?_
      have e9 : sDoEx v (nI r) = (nI (sOf (sEx1 v r g) d (nI 2) (nI 2)), sEx1 v r g) := by simp only [sDoEx, c5, zn_nI (show r < 2 ^ 31 by omega), e0, e1, zn_nI (show d < 2 ^ 31 by omega), zn_nI (show g < 2 ^ 31 by omega), c15, and_self, and_true, true_and, and_false, false_and, reduceIte, Bool.false_eq_true, reduceCtorEq]
      exact z_iret dX7_doExercise_69 (by rw [e9]) (by rw [e9]; exact hp)
    · refine z_bipush (-4) dX7_doExercise_18 (by decide) ?_
      have e9 : sDoEx v (nI r) = (-4, v) := by simp only [sDoEx, c5, zn_nI (show r < 2 ^ 31 by omega), e0, e1, zn_nI (show d < 2 ^ 31 by omega), zn_nI (show g < 2 ^ 31 by omega), c15, and_self, and_true, true_and, and_false, false_and, reduceIte, Bool.false_eq_true, reduceCtorEq]
      exact z_iret dX7_doExercise_20 (by rw [e9]) (by rw [e9]; exact hp)
  · refine z_iconst (-1) dX7_doExercise_8 (by decide) ?_
    have e9 : sDoEx v x = (-1, v) := by simp only [sDoEx, c5, and_self, and_true, true_and, and_false, false_and, reduceIte, Bool.false_eq_true, reduceCtorEq]
    exact z_iret dX7_doExercise_9 (by rw [e9]) (by rw [e9]; exact hp)
end
section
theorem sLow_spec {v : Nat → Int32} {d : Nat} {s : Int32} {w : Nat} : ∀ {n b : Nat}, sLow v d s w n = some b → b < n ∧ v (147 + 7 * b + 0) = nI d ∧ v (147 + 7 * b + 3) = s
  | 0, _, h => by simp [sLow] at h
  | n + 1, b, h => by
    unfold sLow at h
    split at h
    · rename_i q
      split at h
      · cases h; exact ⟨by omega, q.1, q.2⟩
      · rename_i b' hb
        split at h
        · cases h; exact ⟨by omega, q.1, q.2⟩
        · cases h; have := sLow_spec hb; exact ⟨by omega, this.2⟩
    · have := sLow_spec h; exact ⟨by omega, this.2⟩
theorem sLow_none {v : Nat → Int32} {d : Nat} {s : Int32} {w : Nat} : ∀ {n : Nat}, sLow v d s w n = none → ∀ r, r < n → ¬ (v (147 + 7 * r + 0) = nI d ∧ v (147 + 7 * r + 3) = s)
  | 0, _, _, h => by omega
  | n + 1, h, r, hr => by
    unfold sLow at h
    split at h
    · split at h
      · cases h
      · split at h <;> cases h
    · rename_i q
      by_cases e : r = n
      · subst e; exact q
      · exact sLow_none h r (by omega)
theorem sCnt_ex {v : Nat → Int32} {d : Nat} {lo hi : Int32} : ∀ {n : Nat}, 0 < sCnt v d lo hi n → ∃ r, r < n ∧ v (147 + 7 * r + 0) = nI d ∧ zIn (v (147 + 7 * r + 3)) lo hi = true
  | 0, h => by simp [sCnt] at h
  | n + 1, h => by
    unfold sCnt at h
    by_cases q : v (147 + 7 * n + 0) = nI d ∧ zIn (v (147 + 7 * n + 3)) lo hi = true
    · exact ⟨n, by omega, q⟩
    · rw [if_neg q] at h
      obtain ⟨r, h1, h2⟩ := sCnt_ex (n := n) (by omega)
      exact ⟨r, by omega, h2⟩
theorem sCnt_of {v w : Nat → Int32} {d : Nat} {lo hi : Int32} : ∀ {n : Nat}, (∀ r, r < n → w (147 + 7 * r + 0) = v (147 + 7 * r + 0) ∧ w (147 + 7 * r + 3) = v (147 + 7 * r + 3)) → sCnt w d lo hi n = sCnt v d lo hi n
  | 0, _ => rfl
  | n + 1, h => by
    unfold sCnt
    rw [sCnt_of (fun r hr => h r (by omega)), (h n (by omega)).1, (h n (by omega)).2]
theorem sCnt_dec {v w : Nat → Int32} {d r : Nat} {lo hi : Int32} (h0 : v (147 + 7 * r + 0) = nI d) (h3 : zIn (v (147 + 7 * r + 3)) lo hi = true) (w3 : zIn (w (147 + 7 * r + 3)) lo hi = false) : ∀ {n : Nat}, r < n → (∀ j, j < n → j ≠ r → w (147 + 7 * j + 0) = v (147 + 7 * j + 0) ∧ w (147 + 7 * j + 3) = v (147 + 7 * j + 3)) → sCnt v d lo hi n = sCnt w d lo hi n + 1
  | 0, hr, _ => by omega
  | n + 1, hr, h => by
    unfold sCnt
    by_cases e : r = n
    · subst e
      rw [if_pos ⟨h0, h3⟩, if_neg (fun q => by rw [w3] at q; exact absurd q.2 (by decide)), sCnt_of (fun j hj => h j (by omega) (by omega))]
    · rw [sCnt_dec h0 h3 w3 (n := n) (by omega) (fun j hj hne => h j (by omega) hne), (h n (by omega) (by omega)).1, (h n (by omega) (by omega)).2]
      omega
theorem zIn01 {x : Int32} (h : zIn x (nI 0) (nI 1) = true) : x = nI 0 ∨ x = nI 1 := by
  obtain ⟨j, hj, rfl⟩ := zIn_nI (by decide) h
  rcases (by omega : j = 0 ∨ j = 1) with rfl | rfl
  · exact Or.inl rfl
  · exact Or.inr rfl
theorem sLow_ex {v : Nat → Int32} {d n : Nat} (hc : 0 < sCnt v d (nI 0) (nI 1) n) (h1 : sLow v d (nI 1) 4 n = none) : ∃ r, sLow v d (nI 0) 2 n = some r := by
  obtain ⟨r, hr, h0, h3⟩ := sCnt_ex hc
  rcases zIn01 h3 with e | e
  · cases ho : sLow v d (nI 0) 2 n with
    | some b => exact ⟨b, rfl⟩
    | none => exact absurd ⟨h0, e⟩ (sLow_none ho r hr)
  · exact absurd ⟨h0, e⟩ (sLow_none h1 r hr)
def sLap (v : Nat → Int32) (d : Nat) : Nat → Nat × (Nat → Int32)
  | 0 => (0, v)
  | i + 1 => match sLap v d i with
    | (n, u) => if u (147 + 7 * i + 0) = nI d ∧ u (147 + 7 * i + 3) < nI 2 then (n + 1, sLog (sBec u i (nI 5)) (nI 6) (nI i) (sBec u i (nI 5) (147 + 7 * i + 2))) else (n, u)
def sLapses (v : Nat → Int32) (d : Nat) : Nat × (Nat → Int32) := match sLap v d (nR v) with
  | (n, u) => (n, upd u (27 + 12 * d + 5) (nI 0))
def sCvR (v : Nat → Int32) (d : Nat) : Nat := match sLow v d (nI 1) 4 (nR v) with
  | some r => r
  | none => match sLow v d (nI 0) 2 (nR v) with
    | some r => r
    | none => 0
def sCvC (v : Nat → Int32) (d : Nat) : Int32 := match sLow v d (nI 1) 4 (nR v) with
  | some r => v (147 + 7 * r + 4)
  | none => v (147 + 7 * sCvR v d + 2) * nI 3 / nI 2
def sCv2 (v : Nat → Int32) (r g : Nat) (c : Int32) : Nat → Int32 := sLog (sBec (sPays v g (-c)) r (nI 4)) (nI 5) (nI r) c
def sCv1 (v : Nat → Int32) (d : Nat) : Nat → Int32 := sCv2 v (sCvR v d) (zn (v (147 + 7 * sCvR v d + 1))) (sCvC v d)
def sCov (d : Nat) : Nat → Int32 → (Nat → Int32) → Int32 × (Nat → Int32)
  | 0, s, v => (s, v)
  | n + 1, s, v => if v (27 + 12 * d + 1) < nI (sOut v d) ∧ 0 < nI (sOf v d (nI 0) (nI 1)) then sCov d n (s + sCvC v d) (sCv1 v d) else (s, v)
theorem sCv2_at {v : Nat → Int32} {r g : Nat} {c : Int32} {j : Nat} (hg : g < 10) (h7 : j ≠ 7) (h8 : j ≠ 8) (h1 : j < 17 ∨ 27 ≤ j) (h2 : j < 567) (h3 : j ≠ 147 + 7 * r + 3) (h4 : j ≠ 147 + 7 * r + 4) : sCv2 v r g c j = v j := by
  unfold sCv2
  rw [sLog_at h8 h2, sBec_at h3 h4, sPays_at h7 (by omega)]
theorem sCv2_3 {v : Nat → Int32} {r g : Nat} {c : Int32} (hr : r < 60) : sCv2 v r g c (147 + 7 * r + 3) = nI 4 := by
  unfold sCv2
  rw [sLog_at (by omega) (by omega)]
  unfold sBec
  rw [upd_ne (by omega), upd_eq]
theorem sCv2_cnt {v : Nat → Int32} {d r g : Nat} {c : Int32} (hJ : zJ2 v) (hr : r < nR v) (hg : g < 10) (h0 : v (147 + 7 * r + 0) = nI d) (h3 : zIn (v (147 + 7 * r + 3)) (nI 0) (nI 1) = true) : sOf v d (nI 0) (nI 1) = sOf (sCv2 v r g c) d (nI 0) (nI 1) + 1 := by
  have h60 := hJ.2
  unfold sOf
  rw [nR_of (w := sCv2 v r g c) (v := v) (sCv2_at hg (by omega) (by omega) (by omega) (by omega) (by omega) (by omega))]
  exact sCnt_dec h0 h3 (by rw [sCv2_3 (by omega)]; decide) hr (fun j hj hne => ⟨sCv2_at hg (by omega) (by omega) (by omega) (by omega) (by omega) (by omega), sCv2_at hg (by omega) (by omega) (by omega) (by omega) (by omega) (by omega)⟩)
theorem zK.cv2 {v : Nat → Int32} {r g : Nat} {c : Int32} (hK : zK v) (hg : g < 10) : zK (sCv2 v r g c) := ((hK.pays hg).bec).log
theorem zO_nn {o : Option Nat} (h : 0 ≤ zO o) : ∃ r, o = some r := by
  cases o with
  | none => exact absurd h (by decide)
  | some r => exact ⟨r, rfl⟩
theorem zO_nn' {o : Option Nat} (ho : ∀ r, o = some r → r < 60) (h : ¬ 0 ≤ zO o) : o = none := by
  cases o with
  | none => rfl
  | some r => exact absurd (nI_pos' (by have := ho r rfl; omega)) h
theorem sLap_nn {v : Nat → Int32} {d : Nat} (hK : zK v) : ∀ (i n : Nat) (u : Nat → Int32), sLap v d i = (n, u) → zK u ∧ u 2 = v 2 ∧ u 1 = v 1
  | 0, n, u, h => by cases h; exact ⟨hK, rfl, rfl⟩
  | i + 1, n, u, h => by
    unfold sLap at h
    cases hq : sLap v d i with
    | mk n1 u1 =>
      rw [hq] at h
      obtain ⟨a, b, c⟩ := sLap_nn hK i n1 u1 hq
      by_cases q : u1 (147 + 7 * i + 0) = nI d ∧ u1 (147 + 7 * i + 3) < nI 2
      · simp only [if_pos q] at h
        cases h
        exact ⟨(a.bec).log, by rw [sLog_at (by omega) (by omega), sBec_at (by omega) (by omega)]; exact b, by rw [sLog_at (by omega) (by omega), sBec_at (by omega) (by omega)]; exact c⟩
      · simp only [if_neg q] at h
        cases h
        exact ⟨a, b, c⟩
theorem zK.w0 {v : Nat → Int32} {d : Nat} (hK : zK v) (hd : d < 10) : zK (upd v (27 + 12 * d + 5) (nI 0)) := by
  refine ⟨hK.1.of (upd_ne (by omega)), hK.2.1.of (upd_ne (by omega)), fun d' hd' => ?_, fun d' hd' => ?_, fun r hr => ?_⟩
  · by_cases e : d' = d
    · subst e; exact ⟨0, by omega, upd_eq, fun k hk => by omega⟩
    · exact (hK.2.2.1 d' hd').of (fun k h1 h2 => upd_ne (by omega))
  · rw [nD_of (upd_ne (by omega))] at hd'
    rw [upd_ne (by have := hK.1.2; omega)]; exact hK.2.2.2.1 d' hd'
  · rw [nR_of (upd_ne (by omega))] at hr
    exact (hK.2.2.2.2 r hr).of (upd_ne (by omega)) (fun k hk => upd_ne (by omega))
theorem sLapses_nn {v : Nat → Int32} {d : Nat} (hK : zK v) (hd : d < 10) : zK (sLapses v d).2 ∧ (sLapses v d).2 2 = v 2 ∧ (sLapses v d).2 1 = v 1 := by
  unfold sLapses
  cases hq : sLap v d (nR v) with
  | mk n u =>
    obtain ⟨a, b, c⟩ := sLap_nn hK _ n u hq
    exact ⟨a.w0 hd, (show upd u (27 + 12 * d + 5) (nI 0) 2 = v 2 by rw [upd_ne (by omega)]; exact b), (show upd u (27 + 12 * d + 5) (nI 0) 1 = v 1 by rw [upd_ne (by omega)]; exact c)⟩
theorem sLB_nn {d : Nat} : ∀ (n : Nat) (v : Nat → Int32), zK v → d < nD v → v (27 + 12 * d + 5) = nI n → n ≤ 6 → zK (sLB d n v) ∧ (sLB d n v) 1 = v 1
  | 0, v, hK, _, _, _ => ⟨hK, rfl⟩
  | n + 1, v, hK, hd, h5, hn => by
    have hd10 := hK.1.2
    unfold sLB
    by_cases hc : 0 < sCan v d
    · rw [if_pos hc]
      obtain ⟨hR, -⟩ := sCan_pos hK.2.1 hc
      obtain ⟨n9, q1, q2, q3⟩ := hK.2.2.1 d (by omega)
      have en : n9 = n + 1 := (nI_eq (by omega) (by omega)).mp (q2.symm.trans h5)
      subst en
      obtain ⟨h, hh, e6⟩ := q3 0 (by omega)
      have e6 : v (27 + 12 * d + 6) = nI h := e6
      rw [e6, nI_clamp (by omega)]
      have hK1 := hK.drop (p := 0) (by omega) (by omega) (by omega) h5
      have eR : nR (sDrop v d 0 (n + 1)) = nR v := nR_of (sDrop_at (by omega) (by omega) (by omega))
      have e1 : sDrop v d 0 (n + 1) 1 = v 1 := sDrop_at (by omega) (by omega) (by omega)
      have eD : nD (sDrop v d 0 (n + 1)) = nD v := nD_of e1
      have hK2 := hK1.sells (d := d) (h := h) (by omega) (by omega) hh
      have h5b : sSells (sDrop v d 0 (n + 1)) h d (27 + 12 * d + 5) = nI n := by rw [sSells_at (by omega) (by omega) (by omega) (by omega) (by omega)]; exact sDrop_5 (by omega) h5
      have e1b : sSells (sDrop v d 0 (n + 1)) h d 1 = v 1 := by rw [sSells_at (by omega) (by omega) (by omega) (by omega) (by omega)]; exact e1
      obtain ⟨z1, z2⟩ := sLB_nn n _ hK2 (by rw [nD_of e1b]; exact hd) h5b (by omega)
      exact ⟨z1, z2.trans e1b⟩
    · rw [if_neg hc]; exact ⟨hK, rfl⟩
theorem sCv_r {v : Nat → Int32} {d : Nat} (hK : zK v) (hc : 0 < sOf v d (nI 0) (nI 1)) : sCvR v d < nR v ∧ v (147 + 7 * sCvR v d + 0) = nI d ∧ zIn (v (147 + 7 * sCvR v d + 3)) (nI 0) (nI 1) = true := by
  unfold sCvR
  cases h1 : sLow v d (nI 1) 4 (nR v) with
  | some r =>
    obtain ⟨a, b, c⟩ := sLow_spec h1
    exact ⟨a, b, by show zIn (v (147 + 7 * r + 3)) _ _ = true; rw [c]; decide⟩
  | none =>
    obtain ⟨r, h2⟩ := sLow_ex hc h1
    obtain ⟨a, b, c⟩ := sLow_spec h2
    simp only [h2]
    exact ⟨a, b, by rw [c]; decide⟩
theorem sCov_nn {d : Nat} : ∀ (n : Nat) (s : Int32) (v : Nat → Int32), zK v → zK (sCov d n s v).2 ∧ (sCov d n s v).2 1 = v 1 ∧ (sCov d n s v).2 2 = v 2
  | 0, s, v, hK => ⟨hK, rfl, rfl⟩
  | n + 1, s, v, hK => by
    unfold sCov
    by_cases q : v (27 + 12 * d + 1) < nI (sOut v d) ∧ 0 < nI (sOf v d (nI 0) (nI 1))
    · rw [if_pos q]
      have hc : 0 < sOf v d (nI 0) (nI 1) := by
        rcases Nat.eq_zero_or_pos (sOf v d (nI 0) (nI 1)) with z | z
        · rw [z] at q; exact absurd q.2 (by decide)
        · exact z
      obtain ⟨hr, -, -⟩ := sCv_r hK hc
      obtain ⟨-, g, hg, e1⟩ := hK.2.2.2.2 _ hr
      have h60 := hK.2.1.2
      unfold sCv1
      rw [e1, zn_nI (by omega)]
      obtain ⟨z1, z2, z3⟩ := sCov_nn n (s + sCvC v d) _ (hK.cv2 (r := sCvR v d) (c := sCvC v d) hg)
      exact ⟨z1, z2.trans (sCv2_at hg (by omega) (by omega) (by omega) (by omega) (by omega) (by omega)), z3.trans (sCv2_at hg (by omega) (by omega) (by omega) (by omega) (by omega) (by omega))⟩
    · rw [if_neg q]; exact ⟨hK, rfl, rfl⟩
set_option maxRecDepth 4000 in
theorem l_X7_lapses {l : Launch} {G : zG} {A : Nat → Nat} {m0 : zM} {v : Nat → Int32} {S : Nat → Nat → Int32} (d : Nat) (hK : zK v) (hd : d < 10) : ∀ i, i ≤ nR v → ∀ (n : Nat) (u : Nat → Int32) (hu : sLap v d i = (n, u)) (mm : zM) (hp : zMP G A m0 u S mm), zV l G (yX7_lapses, cX7_lapses, 4, (some .int)) 4 (some (.int (nI (sLapses v d).1))) (fun m' => zMP G A m0 (sLapses v d).2 S m') 4 [some (.ref (A 0)), some (.int (nI d)), some (.int (nI n)), some (.int (nI i))] [] mm := by
  refine z_loop (nR v) (fun i hi ih n u hu mm hp => ?_)
  obtain ⟨hKu, e2, e1⟩ := sLap_nn hK i n u hu
  have h60 := hK.2.1.2
  have eu2 : u 2 = nI (nR v) := e2.trans hK.2.1.1
  refine z_iload_n 3 rfl rfl dX7_lapses_4 ?_
  refine z_aload_n 0 rfl rfl dX7_lapses_5 ?_
  refine zM_ref 0 1 hp (by decide) rfl (by decide) rfl rfl zf_X7_7 dX7_lapses_6 ?_
  refine z_iconst (nI 2) dX7_lapses_9 rfl ?_
  refine zM_vld hp (by omega) dX7_lapses_10 ?_
  rw [eu2]
  refine z_icmp_ge 60 dX7_lapses_11 rfl (fun c11 => ?_) (fun c11 => ?_)
  · have e : i = nR v := by have := (nI_leI (by omega) (by omega)).mp c11; omega
    subst e
    refine z_aload_n 0 rfl rfl dX7_lapses_60 ?_
    refine zM_ref 0 1 hp (by decide) rfl (by decide) rfl rfl zf_X7_7 dX7_lapses_61 ?_
    refine z_iload_n 1 rfl rfl dX7_lapses_64 ?_
    refine z_iconst (nI 5) dX7_lapses_65 rfl ?_
    refine z_pS2 zm_X7_dateAt (c_X7_dateAt _ _) rfl zl_X7_39 (by decide) (Nat.le_of_ble_eq_true rfl) dX7_lapses_66 ?_
    refine z_iconst (nI 0) dX7_lapses_69 rfl ?_
    refine zM_vst hp (by omega) dX7_lapses_70 (fun mm hp => ?_)
    refine z_iload_n 2 rfl rfl dX7_lapses_71 ?_
    exact z_iret dX7_lapses_72 (by unfold sLapses; rw [hu]) (by unfold sLapses; rw [hu]; exact hp)
  · have hl : i < nR v := Nat.lt_of_not_le (fun q => c11 ((nI_leI (by omega) (by omega)).mpr q))
    refine z_aload_n 0 rfl rfl dX7_lapses_14 ?_
    refine z_iload_n 3 rfl rfl dX7_lapses_15 ?_
    refine z_iconst (nI 0) dX7_lapses_16 rfl ?_
    refine zM_p2 zm_X7_of (c_X7_of hp _ _ (by omega) (by omega)) hp rfl rfl zl_X7_53 (by decide) (Nat.le_of_ble_eq_true rfl) dX7_lapses_17 ?_
    refine z_iload_n 1 rfl rfl dX7_lapses_20 ?_
    refine z_icmp_ne 54 dX7_lapses_21 rfl (fun c21 => ?_) (fun c21 => ?_)
    · refine z_iincN (n := 1) 3 rfl rfl dX7_lapses_54 ?_
      refine z_goto 4 dX7_lapses_57 rfl ?_
      first | exact ih hl _ _ (by simp only [sLap, hu]; exact if_pos (And.intro c21 (of_decide_eq_true c29))) _ hp | exact ih hl _ _ (by simp only [sLap, hu]; exact if_neg (fun q => c21 q.1)) _ hp | exact ih hl _ _ (by simp only [sLap, hu]; exact if_neg (fun q => of_decide_eq_false c29 q.2)) _ hp
    · refine z_aload_n 0 rfl rfl dX7_lapses_24 ?_
      refine z_iload_n 3 rfl rfl dX7_lapses_25 ?_
      refine zM_p1 zm_X7_isFree (c_X7_isFree hp _ (by omega)) hp rfl rfl zl_X7_105 (by decide) (Nat.le_of_ble_eq_true rfl) dX7_lapses_26 ?_
      refine z_if_eqB 54 dX7_lapses_29 rfl (fun c29 => ?_) (fun c29 => ?_)
      · refine z_iincN (n := 1) 3 rfl rfl dX7_lapses_54 ?_
        refine z_goto 4 dX7_lapses_57 rfl ?_
        first | exact ih hl _ _ (by simp only [sLap, hu]; exact if_pos (And.intro c21 (of_decide_eq_true c29))) _ hp | exact ih hl _ _ (by simp only [sLap, hu]; exact if_neg (fun q => c21 q.1)) _ hp | exact ih hl _ _ (by simp only [sLap, hu]; exact if_neg (fun q => of_decide_eq_false c29 q.2)) _ hp
      · refine z_aload_n 0 rfl rfl dX7_lapses_32 ?_
        refine z_iload_n 3 rfl rfl dX7_lapses_33 ?_
        refine z_iconst (nI 5) dX7_lapses_34 rfl ?_
        refine zM_v2 zm_X7_becomes (c_X7_becomes hp _ _ (by omega)) hp rfl rfl zl_X7_99 (by decide) (Nat.le_of_ble_eq_true rfl) dX7_lapses_35 (fun mm hp => ?_)
        refine z_aload_n 0 rfl rfl dX7_lapses_38 ?_
        refine z_bipush (nI 6) dX7_lapses_39 rfl ?_
        refine z_iload_n 3 rfl rfl dX7_lapses_41 ?_
        refine z_aload_n 0 rfl rfl dX7_lapses_42 ?_
        refine z_iload_n 3 rfl rfl dX7_lapses_43 ?_
        refine z_iconst (nI 2) dX7_lapses_44 rfl ?_
        refine zM_p2 zm_X7_of (c_X7_of hp _ _ (by omega) (by omega)) hp rfl rfl zl_X7_53 (by decide) (Nat.le_of_ble_eq_true rfl) dX7_lapses_45 ?_
        refine zM_v3 zm_X7_log (c_X7_log hp _ _ _) hp rfl rfl zl_X7_74 (by decide) (Nat.le_of_ble_eq_true rfl) dX7_lapses_48 (fun mm hp => ?_)
        refine z_iincN (n := 1) 2 rfl rfl dX7_lapses_51 ?_
        refine z_iincN (n := 1) 3 rfl rfl dX7_lapses_54 ?_
        refine z_goto 4 dX7_lapses_57 rfl ?_
        first | exact ih hl _ _ (by simp only [sLap, hu]; exact if_pos (And.intro c21 (of_decide_eq_true c29))) _ hp | exact ih hl _ _ (by simp only [sLap, hu]; exact if_neg (fun q => c21 q.1)) _ hp | exact ih hl _ _ (by simp only [sLap, hu]; exact if_neg (fun q => of_decide_eq_false c29 q.2)) _ hp
set_option maxRecDepth 4000 in
theorem c_X7_lapses {l : Launch} {G : zG} {A : Nat → Nat} {m0 mm : zM} {v : Nat → Int32} {S : Nat → Nat → Int32} (hp : zMP G A m0 v S mm) (d : Nat) (hK : zK v) (hd : d < 10) : zSem l G (yX7_lapses, cX7_lapses, 4, (some .int)) 4 [.ref (A 0), .int (nI d)] mm (some (.int (nI (sLapses v d).1))) (fun m' => zMP G A m0 (sLapses v d).2 S m') := by
  refine z_met [some (.ref (A 0)), some (.int (nI d)), none, none] rfl (zc1 (by rfl)) (Nat.le_of_ble_eq_true rfl) rfl ?_
  refine z_iconst (nI 0) dX7_lapses_0 rfl ?_
  refine z_istore_n 2 rfl (Nat.le_of_ble_eq_true rfl) rfl dX7_lapses_1 ?_
  refine z_iconst (nI 0) dX7_lapses_2 rfl ?_
  refine z_istore_n 3 rfl (Nat.le_of_ble_eq_true rfl) rfl dX7_lapses_3 ?_
  exact l_X7_lapses d hK hd 0 (Nat.zero_le _) 0 v rfl mm hp
set_option maxRecDepth 4000 in
theorem l_X7_covers {l : Launch} {G : zG} {A : Nat → Nat} {m0 : zM} {S : Nat → Nat → Int32} (d : Nat) : ∀ (N : Nat) (s : Int32) (v : Nat → Int32) (mm : zM) (x3 x4 : Option Value), zMP G A m0 v S mm → zK v → d < nD v → sOf v d (nI 0) (nI 1) ≤ N → zV l G (yX7_covers, cX7_covers, 5, (some .int)) 5 (some (.int (sCov d N s v).1)) (fun m' => zMP G A m0 (sCov d N s v).2 S m') 2 [some (.ref (A 0)), some (.int (nI d)), some (.int s), x3, x4] [] mm := by
  intro N
  induction N using Nat.strongRecOn with
  | _ N ih =>
  intro s v mm x3 x4 hp hK hd hN
  have hd10 := hK.1.2
  have hJ := hK.2.1
  have h60 := hK.2.1.2
  refine z_aload_n 0 rfl rfl dX7_covers_2 ?_
  refine z_iload_n 1 rfl rfl dX7_covers_3 ?_
  refine zM_p1 zm_X7_out (c_X7_out hp _ hJ) hp rfl rfl zl_X7_60 (by decide) (Nat.le_of_ble_eq_true rfl) dX7_covers_4 ?_
  refine z_aload_n 0 rfl rfl dX7_covers_7 ?_
  refine z_iload_n 1 rfl rfl dX7_covers_8 ?_
  refine z_iconst (nI 1) dX7_covers_9 rfl ?_
  refine zM_p2 zm_X7_ofDate (c_X7_ofDate hp _ _ (by omega) (by omega)) hp rfl rfl zl_X7_46 (by decide) (Nat.le_of_ble_eq_true rfl) dX7_covers_10 ?_
  refine z_icmp_le 109 dX7_covers_13 rfl (fun c13 => ?_) (fun c13 => ?_)
  · have e9 : sCov d N s v = (s, v) := by cases N with
      | zero => rfl
      | succ N => unfold sCov; exact if_neg (fun q => absurd q.1 (i_not_lt.mpr c13))
    refine z_iload_n 2 rfl rfl dX7_covers_109 ?_
    exact z_iret dX7_covers_110 (by rw [e9]) (by rw [e9]; exact hp)
  · have h13 := i_not_le.mp c13
    refine z_aload_n 0 rfl rfl dX7_covers_16 ?_
    refine z_iload_n 1 rfl rfl dX7_covers_17 ?_
    refine z_iconst (nI 0) dX7_covers_18 rfl ?_
    refine z_iconst (nI 1) dX7_covers_19 rfl ?_
    refine zM_p3 zm_X7_rightsOf (c_X7_rightsOf hp _ _ _ hJ) hp rfl rfl zl_X7_56 (by decide) (Nat.le_of_ble_eq_true rfl) dX7_covers_20 ?_
    refine z_if_le 109 dX7_covers_23 rfl (fun c23 => ?_) (fun c23 => ?_)
    · have e9 : sCov d N s v = (s, v) := by cases N with
        | zero => rfl
        | succ N => unfold sCov; exact if_neg (fun q => absurd q.2 (i_not_lt.mpr c23))
      refine z_iload_n 2 rfl rfl dX7_covers_109 ?_
      exact z_iret dX7_covers_110 (by rw [e9]) (by rw [e9]; exact hp)
    · have h23 := i_not_le.mp c23
      have hc : 0 < sOf v d (nI 0) (nI 1) := by
        rcases Nat.eq_zero_or_pos (sOf v d (nI 0) (nI 1)) with z | z
        · rw [z] at h23; exact absurd h23 (by decide)
        · exact z
      refine z_aload_n 0 rfl rfl dX7_covers_26 ?_
      refine z_iload_n 1 rfl rfl dX7_covers_27 ?_
      refine z_iconst (nI 1) dX7_covers_28 rfl ?_
      refine z_iconst (nI 4) dX7_covers_29 rfl ?_
      refine zM_p3 zm_X7_lowest (c_X7_lowest hp _ _ _ (by omega) hJ) hp rfl rfl zl_X7_96 (by decide) (Nat.le_of_ble_eq_true rfl) dX7_covers_30 ?_
      refine z_istore_n 3 rfl (Nat.le_of_ble_eq_true rfl) rfl dX7_covers_33 ?_
      refine z_iload_n 3 rfl rfl dX7_covers_34 ?_
      refine z_if_ge 42 dX7_covers_35 rfl (fun c35 => ?_) (fun c35 => ?_)
      · obtain ⟨r, ho⟩ := zO_nn c35
        obtain ⟨hr, h0, h3⟩ := sLow_spec ho
        obtain ⟨-, g, hg, e1⟩ := hK.2.2.2.2 r hr
        have hR : sCvR v d = r := by unfold sCvR; rw [ho]
        have hC : sCvC v d = v (147 + 7 * r + 4) := by unfold sCvC; rw [ho]
        rw [ho, zO_some]
        refine z_aload_n 0 rfl rfl dX7_covers_42 ?_
        refine z_iload_n 3 rfl rfl dX7_covers_43 ?_
        refine z_iconst (nI 4) dX7_covers_44 rfl ?_
        refine zM_p2 zm_X7_of (c_X7_of hp _ _ (by omega) (by omega)) hp rfl rfl zl_X7_53 (by decide) (Nat.le_of_ble_eq_true rfl) dX7_covers_45 ?_
        refine z_istore 4 (Nat.le_of_ble_eq_true rfl) rfl dX7_covers_48 ?_
        refine z_iload_n 3 rfl rfl dX7_covers_50 ?_
        refine z_if_ge 74 dX7_covers_51 rfl (fun c51 => ?_) (fun c51 => ?_)
        · refine z_aload_n 0 rfl rfl dX7_covers_74 ?_
          refine z_aload_n 0 rfl rfl dX7_covers_75 ?_
          refine z_iload_n 3 rfl rfl dX7_covers_76 ?_
          refine z_iconst (nI 1) dX7_covers_77 rfl ?_
          refine zM_p2 zm_X7_of (c_X7_of hp _ _ (by omega) (by omega)) hp rfl rfl zl_X7_53 (by decide) (Nat.le_of_ble_eq_true rfl) dX7_covers_78 ?_
          rw [e1]
          refine z_iload 4 rfl dX7_covers_81 ?_
          refine z_ineg dX7_covers_83 ?_
          refine zM_v2 zm_X7_pays (c_X7_pays hp _ _ (by omega)) hp rfl rfl zl_X7_70 (by decide) (Nat.le_of_ble_eq_true rfl) dX7_covers_84 (fun mm hp => ?_)
          refine z_aload_n 0 rfl rfl dX7_covers_87 ?_
          refine z_iload_n 3 rfl rfl dX7_covers_88 ?_
          refine z_iconst (nI 4) dX7_covers_89 rfl ?_
          refine zM_v2 zm_X7_becomes (c_X7_becomes hp _ _ (by omega)) hp rfl rfl zl_X7_99 (by decide) (Nat.le_of_ble_eq_true rfl) dX7_covers_90 (fun mm hp => ?_)
          refine z_aload_n 0 rfl rfl dX7_covers_93 ?_
          refine z_iconst (nI 5) dX7_covers_94 rfl ?_
          refine z_iload_n 3 rfl rfl dX7_covers_95 ?_
          refine z_iload 4 rfl dX7_covers_96 ?_
          refine zM_v3 zm_X7_log (c_X7_log hp _ _ _) hp rfl rfl zl_X7_74 (by decide) (Nat.le_of_ble_eq_true rfl) dX7_covers_98 (fun mm hp => ?_)
          have hp : zMP G A m0 (sCv2 v r g (sCvC v d)) S mm := by rw [hC]; exact hp
          refine z_iload_n 2 rfl rfl dX7_covers_101 ?_
          refine z_iload 4 rfl dX7_covers_102 ?_
          refine z_iadd dX7_covers_104 ?_
          refine z_istore_n 2 rfl (Nat.le_of_ble_eq_true rfl) rfl dX7_covers_105 ?_
          refine z_goto 2 dX7_covers_106 rfl ?_
          have hcn := sCv2_cnt (c := sCvC v d) hJ hr hg h0 (by rw [h3]; decide)
          have hN1 : ∃ N1, N = N1 + 1 := ⟨N - 1, by omega⟩
          obtain ⟨N1, rfl⟩ := hN1
          have e9 : sCov d (N1 + 1) s v = sCov d N1 (s + sCvC v d) (sCv2 v r g (sCvC v d)) := by
            conv => lhs; unfold sCov
            rw [if_pos (And.intro h13 h23)]
            unfold sCv1
            rw [hR, e1, zn_nI (by omega)]
          rw [e9, ← hC]
          exact ih N1 (by omega) _ _ _ _ _ hp (hK.cv2 hg) (by have e1' : nD (sCv2 v r g (sCvC v d)) = nD v := nD_of (sCv2_at hg (by omega) (by omega) (by omega) (by omega) (by omega) (by omega)); omega) (by omega)
        · exact absurd (nI_pos' (by omega)) c51
      · have ho1 := zO_nn' (fun r q => by have := sLow_lt q; omega) c35
        obtain ⟨r, ho⟩ := sLow_ex hc ho1
        obtain ⟨hr, h0, h3⟩ := sLow_spec ho
        obtain ⟨-, g, hg, e1⟩ := hK.2.2.2.2 r hr
        have hR : sCvR v d = r := by unfold sCvR; rw [ho1, ho]
        have hC : sCvC v d = v (147 + 7 * r + 2) * nI 3 / nI 2 := by unfold sCvC; rw [ho1, hR]
        rw [ho1, zO_none]
        refine z_iconst (nI 0) dX7_covers_38 rfl ?_
        refine z_goto 48 dX7_covers_39 rfl ?_
        refine z_istore 4 (Nat.le_of_ble_eq_true rfl) rfl dX7_covers_48 ?_
        refine z_iload_n 3 rfl rfl dX7_covers_50 ?_
        refine z_if_ge 74 dX7_covers_51 rfl (fun c51 => ?_) (fun c51 => ?_)
        · exact absurd c51 (by decide)
        · refine z_aload_n 0 rfl rfl dX7_covers_54 ?_
          refine z_iload_n 1 rfl rfl dX7_covers_55 ?_
          refine z_iconst (nI 0) dX7_covers_56 rfl ?_
          refine z_iconst (nI 2) dX7_covers_57 rfl ?_
          refine zM_p3 zm_X7_lowest (c_X7_lowest hp _ _ _ (by omega) hJ) hp rfl rfl zl_X7_96 (by decide) (Nat.le_of_ble_eq_true rfl) dX7_covers_58 ?_
          rw [ho, zO_some]
          refine z_istore_n 3 rfl (Nat.le_of_ble_eq_true rfl) rfl dX7_covers_61 ?_
          refine z_aload_n 0 rfl rfl dX7_covers_62 ?_
          refine z_iload_n 3 rfl rfl dX7_covers_63 ?_
          refine z_iconst (nI 2) dX7_covers_64 rfl ?_
          refine zM_p2 zm_X7_of (c_X7_of hp _ _ (by omega) (by omega)) hp rfl rfl zl_X7_53 (by decide) (Nat.le_of_ble_eq_true rfl) dX7_covers_65 ?_
          refine z_iconst (nI 3) dX7_covers_68 rfl ?_
          refine z_imul dX7_covers_69 ?_
          refine z_iconst (nI 2) dX7_covers_70 rfl ?_
          refine z_idiv dX7_covers_71 (by decide) ?_
          refine z_istore 4 (Nat.le_of_ble_eq_true rfl) rfl dX7_covers_72 ?_
          refine z_aload_n 0 rfl rfl dX7_covers_74 ?_
          refine z_aload_n 0 rfl rfl dX7_covers_75 ?_
          refine z_iload_n 3 rfl rfl dX7_covers_76 ?_
          refine z_iconst (nI 1) dX7_covers_77 rfl ?_
          refine zM_p2 zm_X7_of (c_X7_of hp _ _ (by omega) (by omega)) hp rfl rfl zl_X7_53 (by decide) (Nat.le_of_ble_eq_true rfl) dX7_covers_78 ?_
          rw [e1]
          refine z_iload 4 rfl dX7_covers_81 ?_
          refine z_ineg dX7_covers_83 ?_
          refine zM_v2 zm_X7_pays (c_X7_pays hp _ _ (by omega)) hp rfl rfl zl_X7_70 (by decide) (Nat.le_of_ble_eq_true rfl) dX7_covers_84 (fun mm hp => ?_)
          refine z_aload_n 0 rfl rfl dX7_covers_87 ?_
          refine z_iload_n 3 rfl rfl dX7_covers_88 ?_
          refine z_iconst (nI 4) dX7_covers_89 rfl ?_
          refine zM_v2 zm_X7_becomes (c_X7_becomes hp _ _ (by omega)) hp rfl rfl zl_X7_99 (by decide) (Nat.le_of_ble_eq_true rfl) dX7_covers_90 (fun mm hp => ?_)
          refine z_aload_n 0 rfl rfl dX7_covers_93 ?_
          refine z_iconst (nI 5) dX7_covers_94 rfl ?_
          refine z_iload_n 3 rfl rfl dX7_covers_95 ?_
          refine z_iload 4 rfl dX7_covers_96 ?_
          refine zM_v3 zm_X7_log (c_X7_log hp _ _ _) hp rfl rfl zl_X7_74 (by decide) (Nat.le_of_ble_eq_true rfl) dX7_covers_98 (fun mm hp => ?_)
          have hp : zMP G A m0 (sCv2 v r g (sCvC v d)) S mm := by rw [hC]; exact hp
          refine z_iload_n 2 rfl rfl dX7_covers_101 ?_
          refine z_iload 4 rfl dX7_covers_102 ?_
          refine z_iadd dX7_covers_104 ?_
          refine z_istore_n 2 rfl (Nat.le_of_ble_eq_true rfl) rfl dX7_covers_105 ?_
          refine z_goto 2 dX7_covers_106 rfl ?_
          have hcn := sCv2_cnt (c := sCvC v d) hJ hr hg h0 (by rw [h3]; decide)
          have hN1 : ∃ N1, N = N1 + 1 := ⟨N - 1, by omega⟩
          obtain ⟨N1, rfl⟩ := hN1
          have e9 : sCov d (N1 + 1) s v = sCov d N1 (s + sCvC v d) (sCv2 v r g (sCvC v d)) := by
            conv => lhs; unfold sCov
            rw [if_pos (And.intro h13 h23)]
            unfold sCv1
            rw [hR, e1, zn_nI (by omega)]
          rw [e9, ← hC]
          exact ih N1 (by omega) _ _ _ _ _ hp (hK.cv2 hg) (by have e1' : nD (sCv2 v r g (sCvC v d)) = nD v := nD_of (sCv2_at hg (by omega) (by omega) (by omega) (by omega) (by omega) (by omega)); omega) (by omega)
set_option maxRecDepth 4000 in
theorem c_X7_covers {l : Launch} {G : zG} {A : Nat → Nat} {m0 mm : zM} {v : Nat → Int32} {S : Nat → Nat → Int32} (hp : zMP G A m0 v S mm) (d N : Nat) (hK : zK v) (hd : d < nD v) (hN : sOf v d (nI 0) (nI 1) ≤ N) : zSem l G (yX7_covers, cX7_covers, 5, (some .int)) 5 [.ref (A 0), .int (nI d)] mm (some (.int (sCov d N (nI 0) v).1)) (fun m' => zMP G A m0 (sCov d N (nI 0) v).2 S m') := by
  refine z_met [some (.ref (A 0)), some (.int (nI d)), none, none, none] rfl (zc1 (by rfl)) (Nat.le_of_ble_eq_true rfl) rfl ?_
  refine z_iconst (nI 0) dX7_covers_0 rfl ?_
  refine z_istore_n 2 rfl (Nat.le_of_ble_eq_true rfl) rfl dX7_covers_1 ?_
  exact l_X7_covers d N (nI 0) v mm _ _ hp hK hd hN
end
