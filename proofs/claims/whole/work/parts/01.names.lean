-- ===== PART A: goes FIRST, ahead of the names: the tables' words, and 'selects' of the private methods out of them =====
/-- a private method of a class that the tables say can be made, by its rows of tables_1 -/
def lw_okq (q : MethodName × Nat) : Prop := (q.1.cls ≠ "java/lang/invoke/MethodHandle" ∧ q.1.cls ≠ "java/lang/invoke/VarHandle") ∧ Cond.instantiable q.1.cls q.2 ∈ tables_1 ∧ Cond.privateMethod q.1 ∈ tables_1 ∧ Cond.instanceMethod q.1 ∈ tables_1
theorem lw_p0 : lw_okq (⟨"RightsDesk$State", "isStage", "(I)Z"⟩, 12) := ⟨⟨by decide +kernel, by decide +kernel⟩, List.mem_of_getElem? (i := 19) (by decide +kernel), List.mem_of_getElem? (i := 295) (by decide +kernel), List.mem_of_getElem? (i := 296) (by decide +kernel)⟩
theorem lw_p1 : lw_okq (⟨"RightsDesk$State", "fitsStage", "(II)Z"⟩, 12) := ⟨⟨by decide +kernel, by decide +kernel⟩, List.mem_of_getElem? (i := 19) (by decide +kernel), List.mem_of_getElem? (i := 299) (by decide +kernel), List.mem_of_getElem? (i := 300) (by decide +kernel)⟩
theorem lw_p2 : lw_okq (⟨"RightsDesk$State", "isOpen", "(LRightsDesk$DateRow;)Z"⟩, 12) := ⟨⟨by decide +kernel, by decide +kernel⟩, List.mem_of_getElem? (i := 19) (by decide +kernel), List.mem_of_getElem? (i := 330) (by decide +kernel), List.mem_of_getElem? (i := 331) (by decide +kernel)⟩
theorem lw_p3 : lw_okq (⟨"RightsDesk$State", "sell", "(ILRightsDesk$DateRow;)I"⟩, 12) := ⟨⟨by decide +kernel, by decide +kernel⟩, List.mem_of_getElem? (i := 19) (by decide +kernel), List.mem_of_getElem? (i := 334) (by decide +kernel), List.mem_of_getElem? (i := 335) (by decide +kernel)⟩
theorem lw_p4 : lw_okq (⟨"RightsDesk$State", "sellable", "(LRightsDesk$DateRow;)I"⟩, 12) := ⟨⟨by decide +kernel, by decide +kernel⟩, List.mem_of_getElem? (i := 19) (by decide +kernel), List.mem_of_getElem? (i := 338) (by decide +kernel), List.mem_of_getElem? (i := 339) (by decide +kernel)⟩
theorem lw_p5 : lw_okq (⟨"RightsDesk$State", "priceNow", "(LRightsDesk$DateRow;)I"⟩, 12) := ⟨⟨by decide +kernel, by decide +kernel⟩, List.mem_of_getElem? (i := 19) (by decide +kernel), List.mem_of_getElem? (i := 354) (by decide +kernel), List.mem_of_getElem? (i := 355) (by decide +kernel)⟩
theorem lw_p6 : lw_okq (⟨"RightsDesk$State", "give", "(II)V"⟩, 12) := ⟨⟨by decide +kernel, by decide +kernel⟩, List.mem_of_getElem? (i := 19) (by decide +kernel), List.mem_of_getElem? (i := 366) (by decide +kernel), List.mem_of_getElem? (i := 367) (by decide +kernel)⟩
theorem lw_p7 : lw_okq (⟨"RightsDesk$State", "log", "(ILRightsDesk$RightRow;I)V"⟩, 12) := ⟨⟨by decide +kernel, by decide +kernel⟩, List.mem_of_getElem? (i := 19) (by decide +kernel), List.mem_of_getElem? (i := 370) (by decide +kernel), List.mem_of_getElem? (i := 371) (by decide +kernel)⟩
theorem lw_p8 : lw_okq (⟨"RightsDesk$State", "cheapestOffered", "(LRightsDesk$DateRow;)LRightsDesk$RightRow;"⟩, 12) := ⟨⟨by decide +kernel, by decide +kernel⟩, List.mem_of_getElem? (i := 19) (by decide +kernel), List.mem_of_getElem? (i := 382) (by decide +kernel), List.mem_of_getElem? (i := 383) (by decide +kernel)⟩
theorem lw_p9 : lw_okq (⟨"RightsDesk$State", "refund", "(LRightsDesk$RightRow;)I"⟩, 12) := ⟨⟨by decide +kernel, by decide +kernel⟩, List.mem_of_getElem? (i := 19) (by decide +kernel), List.mem_of_getElem? (i := 398) (by decide +kernel), List.mem_of_getElem? (i := 399) (by decide +kernel)⟩
theorem lw_p10 : lw_okq (⟨"RightsDesk$State", "stageOf", "(LRightsDesk$DateRow;)I"⟩, 12) := ⟨⟨by decide +kernel, by decide +kernel⟩, List.mem_of_getElem? (i := 19) (by decide +kernel), List.mem_of_getElem? (i := 406) (by decide +kernel), List.mem_of_getElem? (i := 407) (by decide +kernel)⟩
theorem lw_p11 : lw_okq (⟨"RightsDesk$State", "letListBuy", "(LRightsDesk$DateRow;)V"⟩, 12) := ⟨⟨by decide +kernel, by decide +kernel⟩, List.mem_of_getElem? (i := 19) (by decide +kernel), List.mem_of_getElem? (i := 410) (by decide +kernel), List.mem_of_getElem? (i := 411) (by decide +kernel)⟩
theorem lw_p12 : lw_okq (⟨"RightsDesk$State", "canBeExercised", "(LRightsDesk$RightRow;LRightsDesk$DateRow;)Z"⟩, 12) := ⟨⟨by decide +kernel, by decide +kernel⟩, List.mem_of_getElem? (i := 19) (by decide +kernel), List.mem_of_getElem? (i := 446) (by decide +kernel), List.mem_of_getElem? (i := 447) (by decide +kernel)⟩
theorem lw_p13 : lw_okq (⟨"RightsDesk$State", "rightsIn", "(LRightsDesk$DateRow;I)I"⟩, 12) := ⟨⟨by decide +kernel, by decide +kernel⟩, List.mem_of_getElem? (i := 19) (by decide +kernel), List.mem_of_getElem? (i := 450) (by decide +kernel), List.mem_of_getElem? (i := 451) (by decide +kernel)⟩
theorem lw_p14 : lw_okq (⟨"RightsDesk$State", "passOneDay", "()I"⟩, 12) := ⟨⟨by decide +kernel, by decide +kernel⟩, List.mem_of_getElem? (i := 19) (by decide +kernel), List.mem_of_getElem? (i := 486) (by decide +kernel), List.mem_of_getElem? (i := 487) (by decide +kernel)⟩
theorem lw_p15 : lw_okq (⟨"RightsDesk$State", "endDate", "(LRightsDesk$DateRow;)I"⟩, 12) := ⟨⟨by decide +kernel, by decide +kernel⟩, List.mem_of_getElem? (i := 19) (by decide +kernel), List.mem_of_getElem? (i := 490) (by decide +kernel), List.mem_of_getElem? (i := 491) (by decide +kernel)⟩
def lw_privs_1 : List (MethodName × Nat) := [(⟨"RightsDesk$State", "isStage", "(I)Z"⟩, 12), (⟨"RightsDesk$State", "fitsStage", "(II)Z"⟩, 12), (⟨"RightsDesk$State", "isOpen", "(LRightsDesk$DateRow;)Z"⟩, 12), (⟨"RightsDesk$State", "sell", "(ILRightsDesk$DateRow;)I"⟩, 12), (⟨"RightsDesk$State", "sellable", "(LRightsDesk$DateRow;)I"⟩, 12), (⟨"RightsDesk$State", "priceNow", "(LRightsDesk$DateRow;)I"⟩, 12), (⟨"RightsDesk$State", "give", "(II)V"⟩, 12), (⟨"RightsDesk$State", "log", "(ILRightsDesk$RightRow;I)V"⟩, 12), (⟨"RightsDesk$State", "cheapestOffered", "(LRightsDesk$DateRow;)LRightsDesk$RightRow;"⟩, 12), (⟨"RightsDesk$State", "refund", "(LRightsDesk$RightRow;)I"⟩, 12), (⟨"RightsDesk$State", "stageOf", "(LRightsDesk$DateRow;)I"⟩, 12), (⟨"RightsDesk$State", "letListBuy", "(LRightsDesk$DateRow;)V"⟩, 12), (⟨"RightsDesk$State", "canBeExercised", "(LRightsDesk$RightRow;LRightsDesk$DateRow;)Z"⟩, 12), (⟨"RightsDesk$State", "rightsIn", "(LRightsDesk$DateRow;I)I"⟩, 12), (⟨"RightsDesk$State", "passOneDay", "()I"⟩, 12), (⟨"RightsDesk$State", "endDate", "(LRightsDesk$DateRow;)I"⟩, 12)]
theorem lw_r1 : ∀ q ∈ lw_privs_1, lw_okq q := List.forall_mem_cons.mpr ⟨lw_p0, List.forall_mem_cons.mpr ⟨lw_p1, List.forall_mem_cons.mpr ⟨lw_p2, List.forall_mem_cons.mpr ⟨lw_p3, List.forall_mem_cons.mpr ⟨lw_p4, List.forall_mem_cons.mpr ⟨lw_p5, List.forall_mem_cons.mpr ⟨lw_p6, List.forall_mem_cons.mpr ⟨lw_p7, List.forall_mem_cons.mpr ⟨lw_p8, List.forall_mem_cons.mpr ⟨lw_p9, List.forall_mem_cons.mpr ⟨lw_p10, List.forall_mem_cons.mpr ⟨lw_p11, List.forall_mem_cons.mpr ⟨lw_p12, List.forall_mem_cons.mpr ⟨lw_p13, List.forall_mem_cons.mpr ⟨lw_p14, List.forall_mem_cons.mpr ⟨lw_p15, fun _ h => absurd h List.not_mem_nil⟩⟩⟩⟩⟩⟩⟩⟩⟩⟩⟩⟩⟩⟩⟩⟩
theorem lw_p16 : lw_okq (⟨"RightsDesk$State", "nextToCover", "(LRightsDesk$DateRow;)LRightsDesk$RightRow;"⟩, 12) := ⟨⟨by decide +kernel, by decide +kernel⟩, List.mem_of_getElem? (i := 19) (by decide +kernel), List.mem_of_getElem? (i := 498) (by decide +kernel), List.mem_of_getElem? (i := 499) (by decide +kernel)⟩
theorem lw_p17 : lw_okq (⟨"RightsDesk$State", "cheapestHeld", "(LRightsDesk$DateRow;)LRightsDesk$RightRow;"⟩, 12) := ⟨⟨by decide +kernel, by decide +kernel⟩, List.mem_of_getElem? (i := 19) (by decide +kernel), List.mem_of_getElem? (i := 502) (by decide +kernel), List.mem_of_getElem? (i := 503) (by decide +kernel)⟩
theorem lw_p18 : lw_okq (⟨"RightsDesk$State", "coverOne", "(LRightsDesk$RightRow;)I"⟩, 12) := ⟨⟨by decide +kernel, by decide +kernel⟩, List.mem_of_getElem? (i := 19) (by decide +kernel), List.mem_of_getElem? (i := 506) (by decide +kernel), List.mem_of_getElem? (i := 507) (by decide +kernel)⟩
theorem lw_p19 : lw_okq (⟨"RightsDesk$OrderText", "here", "()C"⟩, 6) := ⟨⟨by decide +kernel, by decide +kernel⟩, List.mem_of_getElem? (i := 202) (by decide +kernel), List.mem_of_getElem? (i := 542) (by decide +kernel), List.mem_of_getElem? (i := 543) (by decide +kernel)⟩
theorem lw_p20 : lw_okq (⟨"RightsDesk$OrderText", "readHolderAndDate", "()Z"⟩, 6) := ⟨⟨by decide +kernel, by decide +kernel⟩, List.mem_of_getElem? (i := 202) (by decide +kernel), List.mem_of_getElem? (i := 550) (by decide +kernel), List.mem_of_getElem? (i := 551) (by decide +kernel)⟩
theorem lw_p21 : lw_okq (⟨"RightsDesk$OrderText", "isDigitHere", "()Z"⟩, 6) := ⟨⟨by decide +kernel, by decide +kernel⟩, List.mem_of_getElem? (i := 202) (by decide +kernel), List.mem_of_getElem? (i := 554) (by decide +kernel), List.mem_of_getElem? (i := 555) (by decide +kernel)⟩
theorem lw_p22 : lw_okq (⟨"RightsDesk$OrderText", "takeDigit", "()I"⟩, 6) := ⟨⟨by decide +kernel, by decide +kernel⟩, List.mem_of_getElem? (i := 202) (by decide +kernel), List.mem_of_getElem? (i := 558) (by decide +kernel), List.mem_of_getElem? (i := 559) (by decide +kernel)⟩
theorem lw_p23 : lw_okq (⟨"RightsDesk$OrderText", "readRight", "()Z"⟩, 6) := ⟨⟨by decide +kernel, by decide +kernel⟩, List.mem_of_getElem? (i := 202) (by decide +kernel), List.mem_of_getElem? (i := 562) (by decide +kernel), List.mem_of_getElem? (i := 563) (by decide +kernel)⟩
theorem lw_p24 : lw_okq (⟨"RightsDesk$OrderText", "readPrice", "()Z"⟩, 6) := ⟨⟨by decide +kernel, by decide +kernel⟩, List.mem_of_getElem? (i := 202) (by decide +kernel), List.mem_of_getElem? (i := 566) (by decide +kernel), List.mem_of_getElem? (i := 567) (by decide +kernel)⟩
theorem lw_p25 : lw_okq (⟨"RightsDesk", "performNext", "()I"⟩, 5) := ⟨⟨by decide +kernel, by decide +kernel⟩, List.mem_of_getElem? (i := 11) (by decide +kernel), List.mem_of_getElem? (i := 571) (by decide +kernel), List.mem_of_getElem? (i := 572) (by decide +kernel)⟩
theorem lw_p26 : lw_okq (⟨"RightsDesk$State", "lowestAsking", "(LRightsDesk$DateRow;)I"⟩, 12) := ⟨⟨by decide +kernel, by decide +kernel⟩, List.mem_of_getElem? (i := 19) (by decide +kernel), List.mem_of_getElem? (i := 603) (by decide +kernel), List.mem_of_getElem? (i := 604) (by decide +kernel)⟩
theorem lw_p27 : lw_okq (⟨"RightsDesk$State", "tellExercisable", "(LRightsDesk$RightRow;)I"⟩, 12) := ⟨⟨by decide +kernel, by decide +kernel⟩, List.mem_of_getElem? (i := 19) (by decide +kernel), List.mem_of_getElem? (i := 621) (by decide +kernel), List.mem_of_getElem? (i := 622) (by decide +kernel)⟩
theorem lw_p28 : lw_okq (⟨"RightsDesk$State", "rightsOfHolder", "(II)I"⟩, 12) := ⟨⟨by decide +kernel, by decide +kernel⟩, List.mem_of_getElem? (i := 19) (by decide +kernel), List.mem_of_getElem? (i := 635) (by decide +kernel), List.mem_of_getElem? (i := 636) (by decide +kernel)⟩
theorem lw_p29 : lw_okq (⟨"RightsDesk$State", "listsWith", "(I)I"⟩, 12) := ⟨⟨by decide +kernel, by decide +kernel⟩, List.mem_of_getElem? (i := 19) (by decide +kernel), List.mem_of_getElem? (i := 639) (by decide +kernel), List.mem_of_getElem? (i := 640) (by decide +kernel)⟩
theorem lw_p30 : lw_okq (⟨"RightsDesk$State", "rightsInAll", "(I)I"⟩, 12) := ⟨⟨by decide +kernel, by decide +kernel⟩, List.mem_of_getElem? (i := 19) (by decide +kernel), List.mem_of_getElem? (i := 683) (by decide +kernel), List.mem_of_getElem? (i := 684) (by decide +kernel)⟩
theorem lw_p31 : lw_okq (⟨"RightsDeskModel", "record", "()V"⟩, 15) := ⟨⟨by decide +kernel, by decide +kernel⟩, List.mem_of_getElem? (i := 687) (by decide +kernel), List.mem_of_getElem? (i := 746) (by decide +kernel), List.mem_of_getElem? (i := 747) (by decide +kernel)⟩
def lw_privs_2 : List (MethodName × Nat) := [(⟨"RightsDesk$State", "nextToCover", "(LRightsDesk$DateRow;)LRightsDesk$RightRow;"⟩, 12), (⟨"RightsDesk$State", "cheapestHeld", "(LRightsDesk$DateRow;)LRightsDesk$RightRow;"⟩, 12), (⟨"RightsDesk$State", "coverOne", "(LRightsDesk$RightRow;)I"⟩, 12), (⟨"RightsDesk$OrderText", "here", "()C"⟩, 6), (⟨"RightsDesk$OrderText", "readHolderAndDate", "()Z"⟩, 6), (⟨"RightsDesk$OrderText", "isDigitHere", "()Z"⟩, 6), (⟨"RightsDesk$OrderText", "takeDigit", "()I"⟩, 6), (⟨"RightsDesk$OrderText", "readRight", "()Z"⟩, 6), (⟨"RightsDesk$OrderText", "readPrice", "()Z"⟩, 6), (⟨"RightsDesk", "performNext", "()I"⟩, 5), (⟨"RightsDesk$State", "lowestAsking", "(LRightsDesk$DateRow;)I"⟩, 12), (⟨"RightsDesk$State", "tellExercisable", "(LRightsDesk$RightRow;)I"⟩, 12), (⟨"RightsDesk$State", "rightsOfHolder", "(II)I"⟩, 12), (⟨"RightsDesk$State", "listsWith", "(I)I"⟩, 12), (⟨"RightsDesk$State", "rightsInAll", "(I)I"⟩, 12), (⟨"RightsDeskModel", "record", "()V"⟩, 15)]
theorem lw_r2 : ∀ q ∈ lw_privs_2, lw_okq q := List.forall_mem_cons.mpr ⟨lw_p16, List.forall_mem_cons.mpr ⟨lw_p17, List.forall_mem_cons.mpr ⟨lw_p18, List.forall_mem_cons.mpr ⟨lw_p19, List.forall_mem_cons.mpr ⟨lw_p20, List.forall_mem_cons.mpr ⟨lw_p21, List.forall_mem_cons.mpr ⟨lw_p22, List.forall_mem_cons.mpr ⟨lw_p23, List.forall_mem_cons.mpr ⟨lw_p24, List.forall_mem_cons.mpr ⟨lw_p25, List.forall_mem_cons.mpr ⟨lw_p26, List.forall_mem_cons.mpr ⟨lw_p27, List.forall_mem_cons.mpr ⟨lw_p28, List.forall_mem_cons.mpr ⟨lw_p29, List.forall_mem_cons.mpr ⟨lw_p30, List.forall_mem_cons.mpr ⟨lw_p31, fun _ h => absurd h List.not_mem_nil⟩⟩⟩⟩⟩⟩⟩⟩⟩⟩⟩⟩⟩⟩⟩⟩
theorem lw_p32 : lw_okq (⟨"RightsDeskModel", "aside", "()V"⟩, 15) := ⟨⟨by decide +kernel, by decide +kernel⟩, List.mem_of_getElem? (i := 687) (by decide +kernel), List.mem_of_getElem? (i := 765) (by decide +kernel), List.mem_of_getElem? (i := 766) (by decide +kernel)⟩
theorem lw_p33 : lw_okq (⟨"RightsDeskModel", "doBuy", "(II)I"⟩, 15) := ⟨⟨by decide +kernel, by decide +kernel⟩, List.mem_of_getElem? (i := 687) (by decide +kernel), List.mem_of_getElem? (i := 769) (by decide +kernel), List.mem_of_getElem? (i := 770) (by decide +kernel)⟩
theorem lw_p34 : lw_okq (⟨"RightsDeskModel", "isDate", "(I)Z"⟩, 15) := ⟨⟨by decide +kernel, by decide +kernel⟩, List.mem_of_getElem? (i := 687) (by decide +kernel), List.mem_of_getElem? (i := 776) (by decide +kernel), List.mem_of_getElem? (i := 777) (by decide +kernel)⟩
theorem lw_p35 : lw_okq (⟨"RightsDeskModel", "isOpen", "(I)Z"⟩, 15) := ⟨⟨by decide +kernel, by decide +kernel⟩, List.mem_of_getElem? (i := 687) (by decide +kernel), List.mem_of_getElem? (i := 780) (by decide +kernel), List.mem_of_getElem? (i := 781) (by decide +kernel)⟩
theorem lw_p36 : lw_okq (⟨"RightsDeskModel", "daysLeft", "(I)I"⟩, 15) := ⟨⟨by decide +kernel, by decide +kernel⟩, List.mem_of_getElem? (i := 687) (by decide +kernel), List.mem_of_getElem? (i := 784) (by decide +kernel), List.mem_of_getElem? (i := 785) (by decide +kernel)⟩
theorem lw_p37 : lw_okq (⟨"RightsDeskModel", "ofDate", "(II)I"⟩, 15) := ⟨⟨by decide +kernel, by decide +kernel⟩, List.mem_of_getElem? (i := 687) (by decide +kernel), List.mem_of_getElem? (i := 788) (by decide +kernel), List.mem_of_getElem? (i := 789) (by decide +kernel)⟩
theorem lw_p38 : lw_okq (⟨"RightsDeskModel", "canSell", "(I)I"⟩, 15) := ⟨⟨by decide +kernel, by decide +kernel⟩, List.mem_of_getElem? (i := 687) (by decide +kernel), List.mem_of_getElem? (i := 792) (by decide +kernel), List.mem_of_getElem? (i := 793) (by decide +kernel)⟩
theorem lw_p39 : lw_okq (⟨"RightsDeskModel", "out", "(I)I"⟩, 15) := ⟨⟨by decide +kernel, by decide +kernel⟩, List.mem_of_getElem? (i := 687) (by decide +kernel), List.mem_of_getElem? (i := 796) (by decide +kernel), List.mem_of_getElem? (i := 797) (by decide +kernel)⟩
theorem lw_p40 : lw_okq (⟨"RightsDeskModel", "rightsOf", "(III)I"⟩, 15) := ⟨⟨by decide +kernel, by decide +kernel⟩, List.mem_of_getElem? (i := 687) (by decide +kernel), List.mem_of_getElem? (i := 800) (by decide +kernel), List.mem_of_getElem? (i := 801) (by decide +kernel)⟩
theorem lw_p41 : lw_okq (⟨"RightsDeskModel", "of", "(II)I"⟩, 15) := ⟨⟨by decide +kernel, by decide +kernel⟩, List.mem_of_getElem? (i := 687) (by decide +kernel), List.mem_of_getElem? (i := 804) (by decide +kernel), List.mem_of_getElem? (i := 805) (by decide +kernel)⟩
theorem lw_p42 : lw_okq (⟨"RightsDeskModel", "sells", "(II)I"⟩, 15) := ⟨⟨by decide +kernel, by decide +kernel⟩, List.mem_of_getElem? (i := 687) (by decide +kernel), List.mem_of_getElem? (i := 811) (by decide +kernel), List.mem_of_getElem? (i := 812) (by decide +kernel)⟩
theorem lw_p43 : lw_okq (⟨"RightsDeskModel", "price", "(II)I"⟩, 15) := ⟨⟨by decide +kernel, by decide +kernel⟩, List.mem_of_getElem? (i := 687) (by decide +kernel), List.mem_of_getElem? (i := 815) (by decide +kernel), List.mem_of_getElem? (i := 816) (by decide +kernel)⟩
theorem lw_p44 : lw_okq (⟨"RightsDeskModel", "pays", "(II)V"⟩, 15) := ⟨⟨by decide +kernel, by decide +kernel⟩, List.mem_of_getElem? (i := 687) (by decide +kernel), List.mem_of_getElem? (i := 819) (by decide +kernel), List.mem_of_getElem? (i := 820) (by decide +kernel)⟩
theorem lw_p45 : lw_okq (⟨"RightsDeskModel", "log", "(III)V"⟩, 15) := ⟨⟨by decide +kernel, by decide +kernel⟩, List.mem_of_getElem? (i := 687) (by decide +kernel), List.mem_of_getElem? (i := 823) (by decide +kernel), List.mem_of_getElem? (i := 824) (by decide +kernel)⟩
theorem lw_p46 : lw_okq (⟨"RightsDeskModel", "acted", "(I)I"⟩, 15) := ⟨⟨by decide +kernel, by decide +kernel⟩, List.mem_of_getElem? (i := 687) (by decide +kernel), List.mem_of_getElem? (i := 827) (by decide +kernel), List.mem_of_getElem? (i := 828) (by decide +kernel)⟩
theorem lw_p47 : lw_okq (⟨"RightsDeskModel", "bringBack", "()V"⟩, 15) := ⟨⟨by decide +kernel, by decide +kernel⟩, List.mem_of_getElem? (i := 687) (by decide +kernel), List.mem_of_getElem? (i := 831) (by decide +kernel), List.mem_of_getElem? (i := 832) (by decide +kernel)⟩
def lw_privs_3 : List (MethodName × Nat) := [(⟨"RightsDeskModel", "aside", "()V"⟩, 15), (⟨"RightsDeskModel", "doBuy", "(II)I"⟩, 15), (⟨"RightsDeskModel", "isDate", "(I)Z"⟩, 15), (⟨"RightsDeskModel", "isOpen", "(I)Z"⟩, 15), (⟨"RightsDeskModel", "daysLeft", "(I)I"⟩, 15), (⟨"RightsDeskModel", "ofDate", "(II)I"⟩, 15), (⟨"RightsDeskModel", "canSell", "(I)I"⟩, 15), (⟨"RightsDeskModel", "out", "(I)I"⟩, 15), (⟨"RightsDeskModel", "rightsOf", "(III)I"⟩, 15), (⟨"RightsDeskModel", "of", "(II)I"⟩, 15), (⟨"RightsDeskModel", "sells", "(II)I"⟩, 15), (⟨"RightsDeskModel", "price", "(II)I"⟩, 15), (⟨"RightsDeskModel", "pays", "(II)V"⟩, 15), (⟨"RightsDeskModel", "log", "(III)V"⟩, 15), (⟨"RightsDeskModel", "acted", "(I)I"⟩, 15), (⟨"RightsDeskModel", "bringBack", "()V"⟩, 15)]
theorem lw_r3 : ∀ q ∈ lw_privs_3, lw_okq q := List.forall_mem_cons.mpr ⟨lw_p32, List.forall_mem_cons.mpr ⟨lw_p33, List.forall_mem_cons.mpr ⟨lw_p34, List.forall_mem_cons.mpr ⟨lw_p35, List.forall_mem_cons.mpr ⟨lw_p36, List.forall_mem_cons.mpr ⟨lw_p37, List.forall_mem_cons.mpr ⟨lw_p38, List.forall_mem_cons.mpr ⟨lw_p39, List.forall_mem_cons.mpr ⟨lw_p40, List.forall_mem_cons.mpr ⟨lw_p41, List.forall_mem_cons.mpr ⟨lw_p42, List.forall_mem_cons.mpr ⟨lw_p43, List.forall_mem_cons.mpr ⟨lw_p44, List.forall_mem_cons.mpr ⟨lw_p45, List.forall_mem_cons.mpr ⟨lw_p46, List.forall_mem_cons.mpr ⟨lw_p47, fun _ h => absurd h List.not_mem_nil⟩⟩⟩⟩⟩⟩⟩⟩⟩⟩⟩⟩⟩⟩⟩⟩
theorem lw_p48 : lw_okq (⟨"RightsDeskModel", "doBuyOffered", "(II)I"⟩, 15) := ⟨⟨by decide +kernel, by decide +kernel⟩, List.mem_of_getElem? (i := 687) (by decide +kernel), List.mem_of_getElem? (i := 839) (by decide +kernel), List.mem_of_getElem? (i := 840) (by decide +kernel)⟩
theorem lw_p49 : lw_okq (⟨"RightsDeskModel", "lowest", "(III)I"⟩, 15) := ⟨⟨by decide +kernel, by decide +kernel⟩, List.mem_of_getElem? (i := 687) (by decide +kernel), List.mem_of_getElem? (i := 843) (by decide +kernel), List.mem_of_getElem? (i := 844) (by decide +kernel)⟩
theorem lw_p50 : lw_okq (⟨"RightsDeskModel", "becomes", "(II)V"⟩, 15) := ⟨⟨by decide +kernel, by decide +kernel⟩, List.mem_of_getElem? (i := 687) (by decide +kernel), List.mem_of_getElem? (i := 847) (by decide +kernel), List.mem_of_getElem? (i := 848) (by decide +kernel)⟩
theorem lw_p51 : lw_okq (⟨"RightsDeskModel", "doCancel", "(I)I"⟩, 15) := ⟨⟨by decide +kernel, by decide +kernel⟩, List.mem_of_getElem? (i := 687) (by decide +kernel), List.mem_of_getElem? (i := 855) (by decide +kernel), List.mem_of_getElem? (i := 856) (by decide +kernel)⟩
theorem lw_p52 : lw_okq (⟨"RightsDeskModel", "isRight", "(I)Z"⟩, 15) := ⟨⟨by decide +kernel, by decide +kernel⟩, List.mem_of_getElem? (i := 687) (by decide +kernel), List.mem_of_getElem? (i := 859) (by decide +kernel), List.mem_of_getElem? (i := 860) (by decide +kernel)⟩
theorem lw_p53 : lw_okq (⟨"RightsDeskModel", "isFree", "(I)Z"⟩, 15) := ⟨⟨by decide +kernel, by decide +kernel⟩, List.mem_of_getElem? (i := 687) (by decide +kernel), List.mem_of_getElem? (i := 863) (by decide +kernel), List.mem_of_getElem? (i := 864) (by decide +kernel)⟩
theorem lw_p54 : lw_okq (⟨"RightsDeskModel", "refund", "(I)I"⟩, 15) := ⟨⟨by decide +kernel, by decide +kernel⟩, List.mem_of_getElem? (i := 687) (by decide +kernel), List.mem_of_getElem? (i := 867) (by decide +kernel), List.mem_of_getElem? (i := 868) (by decide +kernel)⟩
theorem lw_p55 : lw_okq (⟨"RightsDeskModel", "stageOf", "(I)I"⟩, 15) := ⟨⟨by decide +kernel, by decide +kernel⟩, List.mem_of_getElem? (i := 687) (by decide +kernel), List.mem_of_getElem? (i := 871) (by decide +kernel), List.mem_of_getElem? (i := 872) (by decide +kernel)⟩
theorem lw_p56 : lw_okq (⟨"RightsDeskModel", "listBuys", "(I)V"⟩, 15) := ⟨⟨by decide +kernel, by decide +kernel⟩, List.mem_of_getElem? (i := 687) (by decide +kernel), List.mem_of_getElem? (i := 875) (by decide +kernel), List.mem_of_getElem? (i := 876) (by decide +kernel)⟩
theorem lw_p57 : lw_okq (⟨"RightsDeskModel", "dropFirst", "(II)V"⟩, 15) := ⟨⟨by decide +kernel, by decide +kernel⟩, List.mem_of_getElem? (i := 687) (by decide +kernel), List.mem_of_getElem? (i := 879) (by decide +kernel), List.mem_of_getElem? (i := 880) (by decide +kernel)⟩
theorem lw_p58 : lw_okq (⟨"RightsDeskModel", "doOffer", "(II)I"⟩, 15) := ⟨⟨by decide +kernel, by decide +kernel⟩, List.mem_of_getElem? (i := 687) (by decide +kernel), List.mem_of_getElem? (i := 887) (by decide +kernel), List.mem_of_getElem? (i := 888) (by decide +kernel)⟩
theorem lw_p59 : lw_okq (⟨"RightsDeskModel", "doExercise", "(I)I"⟩, 15) := ⟨⟨by decide +kernel, by decide +kernel⟩, List.mem_of_getElem? (i := 687) (by decide +kernel), List.mem_of_getElem? (i := 899) (by decide +kernel), List.mem_of_getElem? (i := 900) (by decide +kernel)⟩
theorem lw_p60 : lw_okq (⟨"RightsDeskModel", "canExercise", "(I)Z"⟩, 15) := ⟨⟨by decide +kernel, by decide +kernel⟩, List.mem_of_getElem? (i := 687) (by decide +kernel), List.mem_of_getElem? (i := 903) (by decide +kernel), List.mem_of_getElem? (i := 904) (by decide +kernel)⟩
theorem lw_p61 : lw_okq (⟨"RightsDeskModel", "placeOf", "(II)I"⟩, 15) := ⟨⟨by decide +kernel, by decide +kernel⟩, List.mem_of_getElem? (i := 687) (by decide +kernel), List.mem_of_getElem? (i := 911) (by decide +kernel), List.mem_of_getElem? (i := 912) (by decide +kernel)⟩
theorem lw_p62 : lw_okq (⟨"RightsDeskModel", "oneDay", "()I"⟩, 15) := ⟨⟨by decide +kernel, by decide +kernel⟩, List.mem_of_getElem? (i := 687) (by decide +kernel), List.mem_of_getElem? (i := 923) (by decide +kernel), List.mem_of_getElem? (i := 924) (by decide +kernel)⟩
theorem lw_p63 : lw_okq (⟨"RightsDeskModel", "lapses", "(I)I"⟩, 15) := ⟨⟨by decide +kernel, by decide +kernel⟩, List.mem_of_getElem? (i := 687) (by decide +kernel), List.mem_of_getElem? (i := 927) (by decide +kernel), List.mem_of_getElem? (i := 928) (by decide +kernel)⟩
def lw_privs_4 : List (MethodName × Nat) := [(⟨"RightsDeskModel", "doBuyOffered", "(II)I"⟩, 15), (⟨"RightsDeskModel", "lowest", "(III)I"⟩, 15), (⟨"RightsDeskModel", "becomes", "(II)V"⟩, 15), (⟨"RightsDeskModel", "doCancel", "(I)I"⟩, 15), (⟨"RightsDeskModel", "isRight", "(I)Z"⟩, 15), (⟨"RightsDeskModel", "isFree", "(I)Z"⟩, 15), (⟨"RightsDeskModel", "refund", "(I)I"⟩, 15), (⟨"RightsDeskModel", "stageOf", "(I)I"⟩, 15), (⟨"RightsDeskModel", "listBuys", "(I)V"⟩, 15), (⟨"RightsDeskModel", "dropFirst", "(II)V"⟩, 15), (⟨"RightsDeskModel", "doOffer", "(II)I"⟩, 15), (⟨"RightsDeskModel", "doExercise", "(I)I"⟩, 15), (⟨"RightsDeskModel", "canExercise", "(I)Z"⟩, 15), (⟨"RightsDeskModel", "placeOf", "(II)I"⟩, 15), (⟨"RightsDeskModel", "oneDay", "()I"⟩, 15), (⟨"RightsDeskModel", "lapses", "(I)I"⟩, 15)]
theorem lw_r4 : ∀ q ∈ lw_privs_4, lw_okq q := List.forall_mem_cons.mpr ⟨lw_p48, List.forall_mem_cons.mpr ⟨lw_p49, List.forall_mem_cons.mpr ⟨lw_p50, List.forall_mem_cons.mpr ⟨lw_p51, List.forall_mem_cons.mpr ⟨lw_p52, List.forall_mem_cons.mpr ⟨lw_p53, List.forall_mem_cons.mpr ⟨lw_p54, List.forall_mem_cons.mpr ⟨lw_p55, List.forall_mem_cons.mpr ⟨lw_p56, List.forall_mem_cons.mpr ⟨lw_p57, List.forall_mem_cons.mpr ⟨lw_p58, List.forall_mem_cons.mpr ⟨lw_p59, List.forall_mem_cons.mpr ⟨lw_p60, List.forall_mem_cons.mpr ⟨lw_p61, List.forall_mem_cons.mpr ⟨lw_p62, List.forall_mem_cons.mpr ⟨lw_p63, fun _ h => absurd h List.not_mem_nil⟩⟩⟩⟩⟩⟩⟩⟩⟩⟩⟩⟩⟩⟩⟩⟩
theorem lw_p64 : lw_okq (⟨"RightsDeskModel", "covers", "(I)I"⟩, 15) := ⟨⟨by decide +kernel, by decide +kernel⟩, List.mem_of_getElem? (i := 687) (by decide +kernel), List.mem_of_getElem? (i := 931) (by decide +kernel), List.mem_of_getElem? (i := 932) (by decide +kernel)⟩
theorem lw_p65 : lw_okq (⟨"RightsDeskModel", "isGood", "()Z"⟩, 15) := ⟨⟨by decide +kernel, by decide +kernel⟩, List.mem_of_getElem? (i := 687) (by decide +kernel), List.mem_of_getElem? (i := 947) (by decide +kernel), List.mem_of_getElem? (i := 948) (by decide +kernel)⟩
theorem lw_p66 : lw_okq (⟨"RightsDeskModel", "readOrder", "()Z"⟩, 15) := ⟨⟨by decide +kernel, by decide +kernel⟩, List.mem_of_getElem? (i := 687) (by decide +kernel), List.mem_of_getElem? (i := 951) (by decide +kernel), List.mem_of_getElem? (i := 952) (by decide +kernel)⟩
theorem lw_p67 : lw_okq (⟨"RightsDeskModel", "sign", "(I)Z"⟩, 15) := ⟨⟨by decide +kernel, by decide +kernel⟩, List.mem_of_getElem? (i := 687) (by decide +kernel), List.mem_of_getElem? (i := 955) (by decide +kernel), List.mem_of_getElem? (i := 956) (by decide +kernel)⟩
theorem lw_p68 : lw_okq (⟨"RightsDeskModel", "readNumber", "(I)Z"⟩, 15) := ⟨⟨by decide +kernel, by decide +kernel⟩, List.mem_of_getElem? (i := 687) (by decide +kernel), List.mem_of_getElem? (i := 959) (by decide +kernel), List.mem_of_getElem? (i := 960) (by decide +kernel)⟩
theorem lw_p69 : lw_okq (⟨"RightsDeskModel", "doOrder", "()I"⟩, 15) := ⟨⟨by decide +kernel, by decide +kernel⟩, List.mem_of_getElem? (i := 687) (by decide +kernel), List.mem_of_getElem? (i := 963) (by decide +kernel), List.mem_of_getElem? (i := 964) (by decide +kernel)⟩
def lw_privs_5 : List (MethodName × Nat) := [(⟨"RightsDeskModel", "covers", "(I)I"⟩, 15), (⟨"RightsDeskModel", "isGood", "()Z"⟩, 15), (⟨"RightsDeskModel", "readOrder", "()Z"⟩, 15), (⟨"RightsDeskModel", "sign", "(I)Z"⟩, 15), (⟨"RightsDeskModel", "readNumber", "(I)Z"⟩, 15), (⟨"RightsDeskModel", "doOrder", "()I"⟩, 15)]
theorem lw_r5 : ∀ q ∈ lw_privs_5, lw_okq q := List.forall_mem_cons.mpr ⟨lw_p64, List.forall_mem_cons.mpr ⟨lw_p65, List.forall_mem_cons.mpr ⟨lw_p66, List.forall_mem_cons.mpr ⟨lw_p67, List.forall_mem_cons.mpr ⟨lw_p68, List.forall_mem_cons.mpr ⟨lw_p69, fun _ h => absurd h List.not_mem_nil⟩⟩⟩⟩⟩⟩
def lw_privs : List (MethodName × Nat) := lw_privs_1 ++ (lw_privs_2 ++ (lw_privs_3 ++ (lw_privs_4 ++ (lw_privs_5))))
def lw_tbl : List Cond := k2_sels lw_privs ++ tables_1
theorem lw_privs_ok : ∀ q ∈ lw_privs, lw_okq q := by
  show ∀ q ∈ lw_privs_1 ++ (lw_privs_2 ++ (lw_privs_3 ++ (lw_privs_4 ++ (lw_privs_5)))), lw_okq q
  exact List.forall_mem_append.mpr ⟨lw_r1, List.forall_mem_append.mpr ⟨lw_r2, List.forall_mem_append.mpr ⟨lw_r3, List.forall_mem_append.mpr ⟨lw_r4, lw_r5⟩⟩⟩⟩
def RX0 : String := "RightsDesk$DateRow"
def TX0 : u_T := fun k => match k with
  | 0 => ("RightsDesk$DateRow", "number", "I", true)
  | 1 => ("RightsDesk$DateRow", "day", "I", false)
  | 2 => ("RightsDesk$DateRow", "places", "I", false)
  | 3 => ("RightsDesk$DateRow", "surplus", "I", false)
  | 4 => ("RightsDesk$DateRow", "base", "I", false)
  | 5 => ("RightsDesk$DateRow", "rule", "I", false)
  | 6 => ("RightsDesk$DateRow", "list", "[I", true)
  | _ => ("RightsDesk$DateRow", "listLength", "I", false)
def tyX0 : Nat → FieldType := fun k => match k with
  | 0 => .int
  | 1 => .int
  | 2 => .int
  | 3 => .int
  | 4 => .int
  | 5 => .int
  | 6 => .array .int
  | _ => .int
abbrev wsX00 : List Cond := u_ws RX0 TX0 8
theorem nmX0 : ∀ a, a < 8 → ∀ b, b < 8 → a ≠ b → (TX0 a).2.1 ≠ (TX0 b).2.1 := by decide +kernel
theorem tyX0_ok : ∀ k, k < 8 → parseFieldDescriptor (TX0 k).2.2.1 = some (tyX0 k) := by decide +kernel
abbrev cX0_init : ByteArray := prog_2_method_1_code
def yX0_init : MethodName := ⟨RX0, "<init>", "(I)V"⟩
abbrev cX0_copyFrom : ByteArray := prog_2_method_2_code
def yX0_copyFrom : MethodName := ⟨RX0, "copyFrom", "(LRightsDesk$DateRow;)V"⟩
abbrev cX0_priceFor : ByteArray := prog_2_method_3_code
def yX0_priceFor : MethodName := ⟨RX0, "priceFor", "(II)I"⟩
abbrev cX0_waitingAt : ByteArray := prog_2_method_4_code
def yX0_waitingAt : MethodName := ⟨RX0, "waitingAt", "(I)I"⟩
abbrev cX0_placeOf : ByteArray := prog_2_method_5_code
def yX0_placeOf : MethodName := ⟨RX0, "placeOf", "(I)I"⟩
abbrev cX0_appendToList : ByteArray := prog_2_method_6_code
def yX0_appendToList : MethodName := ⟨RX0, "appendToList", "(I)I"⟩
abbrev cX0_removeFromList : ByteArray := prog_2_method_7_code
def yX0_removeFromList : MethodName := ⟨RX0, "removeFromList", "(I)V"⟩
def RX1 : String := "RightsDesk$EventRow"
def TX1 : u_T := fun k => match k with
  | 0 => ("RightsDesk$EventRow", "kind", "I", false)
  | 1 => ("RightsDesk$EventRow", "right", "I", false)
  | 2 => ("RightsDesk$EventRow", "cents", "I", false)
  | _ => ("RightsDesk$EventRow", "day", "I", false)
def tyX1 : Nat → FieldType := fun k => match k with
  | 0 => .int
  | 1 => .int
  | 2 => .int
  | _ => .int
abbrev wsX10 : List Cond := u_ws RX1 TX1 4
theorem nmX1 : ∀ a, a < 4 → ∀ b, b < 4 → a ≠ b → (TX1 a).2.1 ≠ (TX1 b).2.1 := by decide +kernel
theorem tyX1_ok : ∀ k, k < 4 → parseFieldDescriptor (TX1 k).2.2.1 = some (tyX1 k) := by decide +kernel
abbrev cX1_init : ByteArray := prog_3_method_1_code
def yX1_init : MethodName := ⟨RX1, "<init>", "()V"⟩
abbrev cX1_copyFrom : ByteArray := prog_3_method_2_code
def yX1_copyFrom : MethodName := ⟨RX1, "copyFrom", "(LRightsDesk$EventRow;)V"⟩
abbrev cX1_tell : ByteArray := prog_3_method_3_code
def yX1_tell : MethodName := ⟨RX1, "tell", "(I)I"⟩
def RX2 : String := "RightsDesk$History"
def TX2 : u_T := fun k => match k with
  | 0 => ("RightsDesk$History", "past", "[LRightsDesk$State;", true)
  | 1 => ("RightsDesk$History", "count", "I", false)
  | _ => ("RightsDesk$History", "prepared", "LRightsDesk$State;", false)
def tyX2 : Nat → FieldType := fun k => match k with
  | 0 => .array (.object "RightsDesk$State")
  | 1 => .int
  | _ => .object "RightsDesk$State"
abbrev wsX20 : List Cond := u_ws RX2 TX2 3
theorem nmX2 : ∀ a, a < 3 → ∀ b, b < 3 → a ≠ b → (TX2 a).2.1 ≠ (TX2 b).2.1 := by decide +kernel
theorem tyX2_ok : ∀ k, k < 3 → parseFieldDescriptor (TX2 k).2.2.1 = some (tyX2 k) := by decide +kernel
abbrev cX2_init : ByteArray := prog_4_method_1_code
def yX2_init : MethodName := ⟨RX2, "<init>", "()V"⟩
abbrev cX2_prepare : ByteArray := prog_4_method_2_code
def yX2_prepare : MethodName := ⟨RX2, "prepare", "(LRightsDesk$State;)V"⟩
abbrev cX2_settle : ByteArray := prog_4_method_3_code
def yX2_settle : MethodName := ⟨RX2, "settle", "(I)I"⟩
abbrev cX2_takeLatest : ByteArray := prog_4_method_4_code
def yX2_takeLatest : MethodName := ⟨RX2, "takeLatest", "()LRightsDesk$State;"⟩
def RX3 : String := "RightsDesk$OrderText"
def TX3 : u_T := fun k => match k with
  | 0 => ("RightsDesk$OrderText", "signs", "[C", true)
  | 1 => ("RightsDesk$OrderText", "length", "I", false)
  | 2 => ("RightsDesk$OrderText", "at", "I", false)
  | 3 => ("RightsDesk$OrderText", "kind", "I", false)
  | 4 => ("RightsDesk$OrderText", "first", "I", false)
  | _ => ("RightsDesk$OrderText", "second", "I", false)
def tyX3 : Nat → FieldType := fun k => match k with
  | 0 => .array .char
  | 1 => .int
  | 2 => .int
  | 3 => .int
  | 4 => .int
  | _ => .int
abbrev wsX30 : List Cond := u_ws RX3 TX3 6
theorem nmX3 : ∀ a, a < 6 → ∀ b, b < 6 → a ≠ b → (TX3 a).2.1 ≠ (TX3 b).2.1 := by decide +kernel
theorem tyX3_ok : ∀ k, k < 6 → parseFieldDescriptor (TX3 k).2.2.1 = some (tyX3 k) := by decide +kernel
abbrev cX3_init : ByteArray := prog_5_method_1_code
def yX3_init : MethodName := ⟨RX3, "<init>", "()V"⟩
abbrev cX3_append : ByteArray := prog_5_method_2_code
def yX3_append : MethodName := ⟨RX3, "append", "(C)I"⟩
abbrev cX3_empty : ByteArray := prog_5_method_3_code
def yX3_empty : MethodName := ⟨RX3, "empty", "()I"⟩
abbrev cX3_countOrders : ByteArray := prog_5_method_4_code
def yX3_countOrders : MethodName := ⟨RX3, "countOrders", "()I"⟩
abbrev cX3_goToStart : ByteArray := prog_5_method_5_code
def yX3_goToStart : MethodName := ⟨RX3, "goToStart", "()V"⟩
abbrev cX3_readOrder : ByteArray := prog_5_method_6_code
def yX3_readOrder : MethodName := ⟨RX3, "readOrder", "()Z"⟩
abbrev cX3_skip : ByteArray := prog_5_method_7_code
def yX3_skip : MethodName := ⟨RX3, "skip", "(C)Z"⟩
abbrev cX3_readHolderAndDate : ByteArray := prog_5_method_8_code
def yX3_readHolderAndDate : MethodName := ⟨RX3, "readHolderAndDate", "()Z"⟩
abbrev cX3_readRight : ByteArray := prog_5_method_9_code
def yX3_readRight : MethodName := ⟨RX3, "readRight", "()Z"⟩
abbrev cX3_readPrice : ByteArray := prog_5_method_10_code
def yX3_readPrice : MethodName := ⟨RX3, "readPrice", "()Z"⟩
abbrev cX3_isDigitHere : ByteArray := prog_5_method_11_code
def yX3_isDigitHere : MethodName := ⟨RX3, "isDigitHere", "()Z"⟩
abbrev cX3_takeDigit : ByteArray := prog_5_method_12_code
def yX3_takeDigit : MethodName := ⟨RX3, "takeDigit", "()I"⟩
abbrev cX3_here : ByteArray := prog_5_method_13_code
def yX3_here : MethodName := ⟨RX3, "here", "()C"⟩
def RX4 : String := "RightsDesk$RightRow"
def TX4 : u_T := fun k => match k with
  | 0 => ("RightsDesk$RightRow", "number", "I", true)
  | 1 => ("RightsDesk$RightRow", "date", "I", false)
  | 2 => ("RightsDesk$RightRow", "holder", "I", false)
  | 3 => ("RightsDesk$RightRow", "cost", "I", false)
  | 4 => ("RightsDesk$RightRow", "state", "I", false)
  | 5 => ("RightsDesk$RightRow", "asking", "I", false)
  | 6 => ("RightsDesk$RightRow", "soldOn", "I", false)
  | _ => ("RightsDesk$RightRow", "resold", "I", false)
def tyX4 : Nat → FieldType := fun k => match k with
  | 0 => .int
  | 1 => .int
  | 2 => .int
  | 3 => .int
  | 4 => .int
  | 5 => .int
  | 6 => .int
  | _ => .int
abbrev wsX40 : List Cond := u_ws RX4 TX4 8
theorem nmX4 : ∀ a, a < 8 → ∀ b, b < 8 → a ≠ b → (TX4 a).2.1 ≠ (TX4 b).2.1 := by decide +kernel
theorem tyX4_ok : ∀ k, k < 8 → parseFieldDescriptor (TX4 k).2.2.1 = some (tyX4 k) := by decide +kernel
abbrev cX4_init : ByteArray := prog_6_method_1_code
def yX4_init : MethodName := ⟨RX4, "<init>", "(I)V"⟩
abbrev cX4_copyFrom : ByteArray := prog_6_method_2_code
def yX4_copyFrom : MethodName := ⟨RX4, "copyFrom", "(LRightsDesk$RightRow;)V"⟩
abbrev cX4_isHeldOrOffered : ByteArray := prog_6_method_3_code
def yX4_isHeldOrOffered : MethodName := ⟨RX4, "isHeldOrOffered", "()Z"⟩
abbrev cX4_turnTo : ByteArray := prog_6_method_4_code
def yX4_turnTo : MethodName := ⟨RX4, "turnTo", "(II)V"⟩
def RX5 : String := "RightsDesk$State"
def TX5 : u_T := fun k => match k with
  | 0 => ("RightsDesk$State", "day", "I", false)
  | 1 => ("RightsDesk$State", "numbers", "[I", true)
  | 2 => ("RightsDesk$State", "stageDays", "[I", true)
  | 3 => ("RightsDesk$State", "stageFees", "[I", true)
  | 4 => ("RightsDesk$State", "dateCount", "I", false)
  | 5 => ("RightsDesk$State", "dates", "[LRightsDesk$DateRow;", true)
  | 6 => ("RightsDesk$State", "rightCount", "I", false)
  | 7 => ("RightsDesk$State", "rights", "[LRightsDesk$RightRow;", true)
  | 8 => ("RightsDesk$State", "accounts", "[I", true)
  | 9 => ("RightsDesk$State", "provider", "I", false)
  | 10 => ("RightsDesk$State", "eventCount", "I", false)
  | _ => ("RightsDesk$State", "events", "[LRightsDesk$EventRow;", true)
def tyX5 : Nat → FieldType := fun k => match k with
  | 0 => .int
  | 1 => .array .int
  | 2 => .array .int
  | 3 => .array .int
  | 4 => .int
  | 5 => .array (.object "RightsDesk$DateRow")
  | 6 => .int
  | 7 => .array (.object "RightsDesk$RightRow")
  | 8 => .array .int
  | 9 => .int
  | 10 => .int
  | _ => .array (.object "RightsDesk$EventRow")
abbrev wsX50 : List Cond := u_ws RX5 TX5 12
theorem nmX5 : ∀ a, a < 12 → ∀ b, b < 12 → a ≠ b → (TX5 a).2.1 ≠ (TX5 b).2.1 := by decide +kernel
theorem tyX5_ok : ∀ k, k < 12 → parseFieldDescriptor (TX5 k).2.2.1 = some (tyX5 k) := by decide +kernel
abbrev cX5_init : ByteArray := prog_7_method_1_code
def yX5_init : MethodName := ⟨RX5, "<init>", "()V"⟩
abbrev cX5_copyFrom : ByteArray := prog_7_method_2_code
def yX5_copyFrom : MethodName := ⟨RX5, "copyFrom", "(LRightsDesk$State;)V"⟩
abbrev cX5_dateRow : ByteArray := prog_7_method_3_code
def yX5_dateRow : MethodName := ⟨RX5, "dateRow", "(I)LRightsDesk$DateRow;"⟩
abbrev cX5_rightRow : ByteArray := prog_7_method_4_code
def yX5_rightRow : MethodName := ⟨RX5, "rightRow", "(I)LRightsDesk$RightRow;"⟩
abbrev cX5_eventRow : ByteArray := prog_7_method_5_code
def yX5_eventRow : MethodName := ⟨RX5, "eventRow", "(I)LRightsDesk$EventRow;"⟩
abbrev cX5_openDate : ByteArray := prog_7_method_6_code
def yX5_openDate : MethodName := ⟨RX5, "openDate", "(IIIII)I"⟩
abbrev cX5_changeStage : ByteArray := prog_7_method_7_code
def yX5_changeStage : MethodName := ⟨RX5, "changeStage", "(III)I"⟩
abbrev cX5_isStage : ByteArray := prog_7_method_8_code
def yX5_isStage : MethodName := ⟨RX5, "isStage", "(I)Z"⟩
abbrev cX5_fitsStage : ByteArray := prog_7_method_9_code
def yX5_fitsStage : MethodName := ⟨RX5, "fitsStage", "(II)Z"⟩
abbrev cX5_changeNumber : ByteArray := prog_7_method_10_code
def yX5_changeNumber : MethodName := ⟨RX5, "changeNumber", "(II)I"⟩
abbrev cX5_sellTo : ByteArray := prog_7_method_11_code
def yX5_sellTo : MethodName := ⟨RX5, "sellTo", "(II)I"⟩
abbrev cX5_resellTo : ByteArray := prog_7_method_12_code
def yX5_resellTo : MethodName := ⟨RX5, "resellTo", "(II)I"⟩
abbrev cX5_cancelRight : ByteArray := prog_7_method_13_code
def yX5_cancelRight : MethodName := ⟨RX5, "cancelRight", "(I)I"⟩
abbrev cX5_offerRight : ByteArray := prog_7_method_14_code
def yX5_offerRight : MethodName := ⟨RX5, "offerRight", "(II)I"⟩
abbrev cX5_withdrawOffer : ByteArray := prog_7_method_15_code
def yX5_withdrawOffer : MethodName := ⟨RX5, "withdrawOffer", "(I)I"⟩
abbrev cX5_exerciseRight : ByteArray := prog_7_method_16_code
def yX5_exerciseRight : MethodName := ⟨RX5, "exerciseRight", "(I)I"⟩
abbrev cX5_joinList : ByteArray := prog_7_method_17_code
def yX5_joinList : MethodName := ⟨RX5, "joinList", "(II)I"⟩
abbrev cX5_quitList : ByteArray := prog_7_method_18_code
def yX5_quitList : MethodName := ⟨RX5, "quitList", "(II)I"⟩
abbrev cX5_passDays : ByteArray := prog_7_method_19_code
def yX5_passDays : MethodName := ⟨RX5, "passDays", "(I)I"⟩
abbrev cX5_passOneDay : ByteArray := prog_7_method_20_code
def yX5_passOneDay : MethodName := ⟨RX5, "passOneDay", "()I"⟩
abbrev cX5_endDate : ByteArray := prog_7_method_21_code
def yX5_endDate : MethodName := ⟨RX5, "endDate", "(LRightsDesk$DateRow;)I"⟩
abbrev cX5_coverRightsOf : ByteArray := prog_7_method_22_code
def yX5_coverRightsOf : MethodName := ⟨RX5, "coverRightsOf", "(LRightsDesk$DateRow;)I"⟩
abbrev cX5_coverOne : ByteArray := prog_7_method_23_code
def yX5_coverOne : MethodName := ⟨RX5, "coverOne", "(LRightsDesk$RightRow;)I"⟩
abbrev cX5_nextToCover : ByteArray := prog_7_method_24_code
def yX5_nextToCover : MethodName := ⟨RX5, "nextToCover", "(LRightsDesk$DateRow;)LRightsDesk$RightRow;"⟩
abbrev cX5_letListBuy : ByteArray := prog_7_method_25_code
def yX5_letListBuy : MethodName := ⟨RX5, "letListBuy", "(LRightsDesk$DateRow;)V"⟩
abbrev cX5_sell : ByteArray := prog_7_method_26_code
def yX5_sell : MethodName := ⟨RX5, "sell", "(ILRightsDesk$DateRow;)I"⟩
abbrev cX5_sellable : ByteArray := prog_7_method_27_code
def yX5_sellable : MethodName := ⟨RX5, "sellable", "(LRightsDesk$DateRow;)I"⟩
abbrev cX5_priceNow : ByteArray := prog_7_method_28_code
def yX5_priceNow : MethodName := ⟨RX5, "priceNow", "(LRightsDesk$DateRow;)I"⟩
abbrev cX5_give : ByteArray := prog_7_method_29_code
def yX5_give : MethodName := ⟨RX5, "give", "(II)V"⟩
abbrev cX5_log : ByteArray := prog_7_method_30_code
def yX5_log : MethodName := ⟨RX5, "log", "(ILRightsDesk$RightRow;I)V"⟩
abbrev cX5_daysLeft : ByteArray := prog_7_method_31_code
def yX5_daysLeft : MethodName := ⟨RX5, "daysLeft", "(LRightsDesk$DateRow;)I"⟩
abbrev cX5_isOpen : ByteArray := prog_7_method_32_code
def yX5_isOpen : MethodName := ⟨RX5, "isOpen", "(LRightsDesk$DateRow;)Z"⟩
abbrev cX5_rightsOut : ByteArray := prog_7_method_33_code
def yX5_rightsOut : MethodName := ⟨RX5, "rightsOut", "(LRightsDesk$DateRow;)I"⟩
abbrev cX5_rightsIn : ByteArray := prog_7_method_34_code
def yX5_rightsIn : MethodName := ⟨RX5, "rightsIn", "(LRightsDesk$DateRow;I)I"⟩
abbrev cX5_rightsInAll : ByteArray := prog_7_method_35_code
def yX5_rightsInAll : MethodName := ⟨RX5, "rightsInAll", "(I)I"⟩
abbrev cX5_cheapestOffered : ByteArray := prog_7_method_36_code
def yX5_cheapestOffered : MethodName := ⟨RX5, "cheapestOffered", "(LRightsDesk$DateRow;)LRightsDesk$RightRow;"⟩
abbrev cX5_cheapestHeld : ByteArray := prog_7_method_37_code
def yX5_cheapestHeld : MethodName := ⟨RX5, "cheapestHeld", "(LRightsDesk$DateRow;)LRightsDesk$RightRow;"⟩
abbrev cX5_stageOf : ByteArray := prog_7_method_38_code
def yX5_stageOf : MethodName := ⟨RX5, "stageOf", "(LRightsDesk$DateRow;)I"⟩
abbrev cX5_refund : ByteArray := prog_7_method_39_code
def yX5_refund : MethodName := ⟨RX5, "refund", "(LRightsDesk$RightRow;)I"⟩
abbrev cX5_canBeExercised : ByteArray := prog_7_method_40_code
def yX5_canBeExercised : MethodName := ⟨RX5, "canBeExercised", "(LRightsDesk$RightRow;LRightsDesk$DateRow;)Z"⟩
abbrev cX5_tellOfDate : ByteArray := prog_7_method_41_code
def yX5_tellOfDate : MethodName := ⟨RX5, "tellOfDate", "(LRightsDesk$DateRow;I)I"⟩
abbrev cX5_lowestAsking : ByteArray := prog_7_method_42_code
def yX5_lowestAsking : MethodName := ⟨RX5, "lowestAsking", "(LRightsDesk$DateRow;)I"⟩
abbrev cX5_tellOfRight : ByteArray := prog_7_method_43_code
def yX5_tellOfRight : MethodName := ⟨RX5, "tellOfRight", "(LRightsDesk$RightRow;I)I"⟩
abbrev cX5_tellExercisable : ByteArray := prog_7_method_44_code
def yX5_tellExercisable : MethodName := ⟨RX5, "tellExercisable", "(LRightsDesk$RightRow;)I"⟩
abbrev cX5_tellOfHolder : ByteArray := prog_7_method_45_code
def yX5_tellOfHolder : MethodName := ⟨RX5, "tellOfHolder", "(II)I"⟩
abbrev cX5_rightsOfHolder : ByteArray := prog_7_method_46_code
def yX5_rightsOfHolder : MethodName := ⟨RX5, "rightsOfHolder", "(II)I"⟩
abbrev cX5_listsWith : ByteArray := prog_7_method_47_code
def yX5_listsWith : MethodName := ⟨RX5, "listsWith", "(I)I"⟩
abbrev cX5_tellOfStage : ByteArray := prog_7_method_48_code
def yX5_tellOfStage : MethodName := ⟨RX5, "tellOfStage", "(II)I"⟩
abbrev cX5_tellCount : ByteArray := prog_7_method_49_code
def yX5_tellCount : MethodName := ⟨RX5, "tellCount", "(I)I"⟩
def RX6 : String := "RightsDesk"
def TX6 : u_T := fun k => match k with
  | 0 => ("RightsDesk", "now", "LRightsDesk$State;", true)
  | 1 => ("RightsDesk", "kept", "LRightsDesk$State;", true)
  | 2 => ("RightsDesk", "hasKept", "Z", false)
  | 3 => ("RightsDesk", "history", "LRightsDesk$History;", true)
  | _ => ("RightsDesk", "text", "LRightsDesk$OrderText;", true)
def tyX6 : Nat → FieldType := fun k => match k with
  | 0 => .object "RightsDesk$State"
  | 1 => .object "RightsDesk$State"
  | 2 => .boolean
  | 3 => .object "RightsDesk$History"
  | _ => .object "RightsDesk$OrderText"
abbrev wsX60 : List Cond := u_ws RX6 TX6 5
theorem nmX6 : ∀ a, a < 5 → ∀ b, b < 5 → a ≠ b → (TX6 a).2.1 ≠ (TX6 b).2.1 := by decide +kernel
theorem tyX6_ok : ∀ k, k < 5 → parseFieldDescriptor (TX6 k).2.2.1 = some (tyX6 k) := by decide +kernel
abbrev cX6_init : ByteArray := prog_1_method_1_code
def yX6_init : MethodName := ⟨RX6, "<init>", "()V"⟩
abbrev cX6_addDate : ByteArray := prog_1_method_2_code
def yX6_addDate : MethodName := ⟨RX6, "addDate", "(IIIII)I"⟩
abbrev cX6_setStage : ByteArray := prog_1_method_3_code
def yX6_setStage : MethodName := ⟨RX6, "setStage", "(III)I"⟩
abbrev cX6_set : ByteArray := prog_1_method_4_code
def yX6_set : MethodName := ⟨RX6, "set", "(II)I"⟩
abbrev cX6_buy : ByteArray := prog_1_method_5_code
def yX6_buy : MethodName := ⟨RX6, "buy", "(II)I"⟩
abbrev cX6_buyOffered : ByteArray := prog_1_method_6_code
def yX6_buyOffered : MethodName := ⟨RX6, "buyOffered", "(II)I"⟩
abbrev cX6_cancel : ByteArray := prog_1_method_7_code
def yX6_cancel : MethodName := ⟨RX6, "cancel", "(I)I"⟩
abbrev cX6_offer : ByteArray := prog_1_method_8_code
def yX6_offer : MethodName := ⟨RX6, "offer", "(II)I"⟩
abbrev cX6_takeBack : ByteArray := prog_1_method_9_code
def yX6_takeBack : MethodName := ⟨RX6, "takeBack", "(I)I"⟩
abbrev cX6_exercise : ByteArray := prog_1_method_10_code
def yX6_exercise : MethodName := ⟨RX6, "exercise", "(I)I"⟩
abbrev cX6_await : ByteArray := prog_1_method_11_code
def yX6_await : MethodName := ⟨RX6, "await", "(II)I"⟩
abbrev cX6_leave : ByteArray := prog_1_method_12_code
def yX6_leave : MethodName := ⟨RX6, "leave", "(II)I"⟩
abbrev cX6_pass : ByteArray := prog_1_method_13_code
def yX6_pass : MethodName := ⟨RX6, "pass", "(I)I"⟩
abbrev cX6_type : ByteArray := prog_1_method_14_code
def yX6_type : MethodName := ⟨RX6, "type", "(C)I"⟩
abbrev cX6_clearText : ByteArray := prog_1_method_15_code
def yX6_clearText : MethodName := ⟨RX6, "clearText", "()I"⟩
abbrev cX6_perform : ByteArray := prog_1_method_16_code
def yX6_perform : MethodName := ⟨RX6, "perform", "()I"⟩
abbrev cX6_undo : ByteArray := prog_1_method_17_code
def yX6_undo : MethodName := ⟨RX6, "undo", "()I"⟩
abbrev cX6_keep : ByteArray := prog_1_method_18_code
def yX6_keep : MethodName := ⟨RX6, "keep", "()I"⟩
abbrev cX6_restore : ByteArray := prog_1_method_19_code
def yX6_restore : MethodName := ⟨RX6, "restore", "()I"⟩
abbrev cX6_date : ByteArray := prog_1_method_20_code
def yX6_date : MethodName := ⟨RX6, "date", "(II)I"⟩
abbrev cX6_waiting : ByteArray := prog_1_method_21_code
def yX6_waiting : MethodName := ⟨RX6, "waiting", "(II)I"⟩
abbrev cX6_right : ByteArray := prog_1_method_22_code
def yX6_right : MethodName := ⟨RX6, "right", "(II)I"⟩
abbrev cX6_holder : ByteArray := prog_1_method_23_code
def yX6_holder : MethodName := ⟨RX6, "holder", "(II)I"⟩
abbrev cX6_stage : ByteArray := prog_1_method_24_code
def yX6_stage : MethodName := ⟨RX6, "stage", "(II)I"⟩
abbrev cX6_priceIn : ByteArray := prog_1_method_25_code
def yX6_priceIn : MethodName := ⟨RX6, "priceIn", "(II)I"⟩
abbrev cX6_wouldCover : ByteArray := prog_1_method_26_code
def yX6_wouldCover : MethodName := ⟨RX6, "wouldCover", "(I)I"⟩
abbrev cX6_event : ByteArray := prog_1_method_27_code
def yX6_event : MethodName := ⟨RX6, "event", "(II)I"⟩
abbrev cX6_count : ByteArray := prog_1_method_28_code
def yX6_count : MethodName := ⟨RX6, "count", "(I)I"⟩
abbrev cX6_performNext : ByteArray := prog_1_method_29_code
def yX6_performNext : MethodName := ⟨RX6, "performNext", "()I"⟩
abbrev cX6_isHolder : ByteArray := prog_1_method_30_code
def yX6_isHolder : MethodName := ⟨RX6, "isHolder", "(I)Z"⟩
abbrev cX6_copyAll : ByteArray := prog_1_method_31_code
def yX6_copyAll : MethodName := ⟨RX6, "copyAll", "([I[I)V"⟩
def RX7 : String := "RightsDeskModel"
def TX7 : u_T := fun k => match k with
  | 0 => ("RightsDeskModel", "v", "[I", true)
  | 1 => ("RightsDeskModel", "spare", "[I", true)
  | 2 => ("RightsDeskModel", "history", "[I", true)
  | 3 => ("RightsDeskModel", "states", "I", false)
  | 4 => ("RightsDeskModel", "kept", "[I", true)
  | 5 => ("RightsDeskModel", "isKept", "Z", false)
  | 6 => ("RightsDeskModel", "text", "[I", true)
  | 7 => ("RightsDeskModel", "length", "I", false)
  | 8 => ("RightsDeskModel", "lows", "[I", true)
  | 9 => ("RightsDeskModel", "highs", "[I", true)
  | 10 => ("RightsDeskModel", "place", "I", false)
  | 11 => ("RightsDeskModel", "letter", "I", false)
  | 12 => ("RightsDeskModel", "one", "I", false)
  | 13 => ("RightsDeskModel", "other", "I", false)
  | _ => ("RightsDeskModel", "number", "I", false)
def tyX7 : Nat → FieldType := fun k => match k with
  | 0 => .array .int
  | 1 => .array .int
  | 2 => .array .int
  | 3 => .int
  | 4 => .array .int
  | 5 => .boolean
  | 6 => .array .int
  | 7 => .int
  | 8 => .array .int
  | 9 => .array .int
  | 10 => .int
  | 11 => .int
  | 12 => .int
  | 13 => .int
  | _ => .int
abbrev wsX70 : List Cond := u_ws RX7 TX7 15
theorem nmX7 : ∀ a, a < 15 → ∀ b, b < 15 → a ≠ b → (TX7 a).2.1 ≠ (TX7 b).2.1 := by decide +kernel
theorem tyX7_ok : ∀ k, k < 15 → parseFieldDescriptor (TX7 k).2.2.1 = some (tyX7 k) := by decide +kernel
abbrev cX7_init : ByteArray := prog_9_method_1_code
def yX7_init : MethodName := ⟨RX7, "<init>", "()V"⟩
abbrev cX7_in : ByteArray := prog_9_method_3_code
def yX7_in : MethodName := ⟨RX7, "in", "(III)Z"⟩
abbrev cX7_record : ByteArray := prog_9_method_4_code
def yX7_record : MethodName := ⟨RX7, "record", "()V"⟩
abbrev cX7_isDate : ByteArray := prog_9_method_5_code
def yX7_isDate : MethodName := ⟨RX7, "isDate", "(I)Z"⟩
abbrev cX7_isRight : ByteArray := prog_9_method_6_code
def yX7_isRight : MethodName := ⟨RX7, "isRight", "(I)Z"⟩
abbrev cX7_isHolder : ByteArray := prog_9_method_7_code
def yX7_isHolder : MethodName := ⟨RX7, "isHolder", "(I)Z"⟩
abbrev cX7_dateAt : ByteArray := prog_9_method_8_code
def yX7_dateAt : MethodName := ⟨RX7, "dateAt", "(II)I"⟩
abbrev cX7_rightAt : ByteArray := prog_9_method_9_code
def yX7_rightAt : MethodName := ⟨RX7, "rightAt", "(II)I"⟩
abbrev cX7_ofDate : ByteArray := prog_9_method_10_code
def yX7_ofDate : MethodName := ⟨RX7, "ofDate", "(II)I"⟩
abbrev cX7_of : ByteArray := prog_9_method_11_code
def yX7_of : MethodName := ⟨RX7, "of", "(II)I"⟩
abbrev cX7_log : ByteArray := prog_9_method_12_code
def yX7_log : MethodName := ⟨RX7, "log", "(III)V"⟩
abbrev cX7_pays : ByteArray := prog_9_method_13_code
def yX7_pays : MethodName := ⟨RX7, "pays", "(II)V"⟩
abbrev cX7_daysLeft : ByteArray := prog_9_method_14_code
def yX7_daysLeft : MethodName := ⟨RX7, "daysLeft", "(I)I"⟩
abbrev cX7_isOpen : ByteArray := prog_9_method_15_code
def yX7_isOpen : MethodName := ⟨RX7, "isOpen", "(I)Z"⟩
abbrev cX7_rightsOf : ByteArray := prog_9_method_16_code
def yX7_rightsOf : MethodName := ⟨RX7, "rightsOf", "(III)I"⟩
abbrev cX7_out : ByteArray := prog_9_method_17_code
def yX7_out : MethodName := ⟨RX7, "out", "(I)I"⟩
abbrev cX7_price : ByteArray := prog_9_method_18_code
def yX7_price : MethodName := ⟨RX7, "price", "(II)I"⟩
abbrev cX7_canSell : ByteArray := prog_9_method_19_code
def yX7_canSell : MethodName := ⟨RX7, "canSell", "(I)I"⟩
abbrev cX7_stageOf : ByteArray := prog_9_method_20_code
def yX7_stageOf : MethodName := ⟨RX7, "stageOf", "(I)I"⟩
abbrev cX7_sells : ByteArray := prog_9_method_21_code
def yX7_sells : MethodName := ⟨RX7, "sells", "(II)I"⟩
abbrev cX7_dropFirst : ByteArray := prog_9_method_22_code
def yX7_dropFirst : MethodName := ⟨RX7, "dropFirst", "(II)V"⟩
abbrev cX7_listBuys : ByteArray := prog_9_method_23_code
def yX7_listBuys : MethodName := ⟨RX7, "listBuys", "(I)V"⟩
abbrev cX7_lowest : ByteArray := prog_9_method_24_code
def yX7_lowest : MethodName := ⟨RX7, "lowest", "(III)I"⟩
abbrev cX7_refund : ByteArray := prog_9_method_25_code
def yX7_refund : MethodName := ⟨RX7, "refund", "(I)I"⟩
abbrev cX7_canExercise : ByteArray := prog_9_method_26_code
def yX7_canExercise : MethodName := ⟨RX7, "canExercise", "(I)Z"⟩
abbrev cX7_isFree : ByteArray := prog_9_method_27_code
def yX7_isFree : MethodName := ⟨RX7, "isFree", "(I)Z"⟩
abbrev cX7_becomes : ByteArray := prog_9_method_28_code
def yX7_becomes : MethodName := ⟨RX7, "becomes", "(II)V"⟩
abbrev cX7_doBuy : ByteArray := prog_9_method_29_code
def yX7_doBuy : MethodName := ⟨RX7, "doBuy", "(II)I"⟩
abbrev cX7_doBuyOffered : ByteArray := prog_9_method_30_code
def yX7_doBuyOffered : MethodName := ⟨RX7, "doBuyOffered", "(II)I"⟩
abbrev cX7_doCancel : ByteArray := prog_9_method_31_code
def yX7_doCancel : MethodName := ⟨RX7, "doCancel", "(I)I"⟩
abbrev cX7_doOffer : ByteArray := prog_9_method_32_code
def yX7_doOffer : MethodName := ⟨RX7, "doOffer", "(II)I"⟩
abbrev cX7_doExercise : ByteArray := prog_9_method_33_code
def yX7_doExercise : MethodName := ⟨RX7, "doExercise", "(I)I"⟩
abbrev cX7_lapses : ByteArray := prog_9_method_34_code
def yX7_lapses : MethodName := ⟨RX7, "lapses", "(I)I"⟩
abbrev cX7_covers : ByteArray := prog_9_method_35_code
def yX7_covers : MethodName := ⟨RX7, "covers", "(I)I"⟩
abbrev cX7_oneDay : ByteArray := prog_9_method_36_code
def yX7_oneDay : MethodName := ⟨RX7, "oneDay", "()I"⟩
abbrev cX7_addDate : ByteArray := prog_9_method_37_code
def yX7_addDate : MethodName := ⟨RX7, "addDate", "(IIIII)I"⟩
abbrev cX7_setStage : ByteArray := prog_9_method_38_code
def yX7_setStage : MethodName := ⟨RX7, "setStage", "(III)I"⟩
abbrev cX7_set : ByteArray := prog_9_method_39_code
def yX7_set : MethodName := ⟨RX7, "set", "(II)I"⟩
abbrev cX7_aside : ByteArray := prog_9_method_40_code
def yX7_aside : MethodName := ⟨RX7, "aside", "()V"⟩
abbrev cX7_bringBack : ByteArray := prog_9_method_41_code
def yX7_bringBack : MethodName := ⟨RX7, "bringBack", "()V"⟩
abbrev cX7_acted : ByteArray := prog_9_method_42_code
def yX7_acted : MethodName := ⟨RX7, "acted", "(I)I"⟩
abbrev cX7_buy : ByteArray := prog_9_method_43_code
def yX7_buy : MethodName := ⟨RX7, "buy", "(II)I"⟩
abbrev cX7_buyOffered : ByteArray := prog_9_method_44_code
def yX7_buyOffered : MethodName := ⟨RX7, "buyOffered", "(II)I"⟩
abbrev cX7_cancel : ByteArray := prog_9_method_45_code
def yX7_cancel : MethodName := ⟨RX7, "cancel", "(I)I"⟩
abbrev cX7_offer : ByteArray := prog_9_method_46_code
def yX7_offer : MethodName := ⟨RX7, "offer", "(II)I"⟩
abbrev cX7_takeBack : ByteArray := prog_9_method_47_code
def yX7_takeBack : MethodName := ⟨RX7, "takeBack", "(I)I"⟩
abbrev cX7_exercise : ByteArray := prog_9_method_48_code
def yX7_exercise : MethodName := ⟨RX7, "exercise", "(I)I"⟩
abbrev cX7_placeOf : ByteArray := prog_9_method_49_code
def yX7_placeOf : MethodName := ⟨RX7, "placeOf", "(II)I"⟩
abbrev cX7_await : ByteArray := prog_9_method_50_code
def yX7_await : MethodName := ⟨RX7, "await", "(II)I"⟩
abbrev cX7_leave : ByteArray := prog_9_method_51_code
def yX7_leave : MethodName := ⟨RX7, "leave", "(II)I"⟩
abbrev cX7_pass : ByteArray := prog_9_method_52_code
def yX7_pass : MethodName := ⟨RX7, "pass", "(I)I"⟩
abbrev cX7_type : ByteArray := prog_9_method_53_code
def yX7_type : MethodName := ⟨RX7, "type", "(C)I"⟩
abbrev cX7_clearText : ByteArray := prog_9_method_54_code
def yX7_clearText : MethodName := ⟨RX7, "clearText", "()I"⟩
abbrev cX7_sign : ByteArray := prog_9_method_55_code
def yX7_sign : MethodName := ⟨RX7, "sign", "(I)Z"⟩
abbrev cX7_readNumber : ByteArray := prog_9_method_56_code
def yX7_readNumber : MethodName := ⟨RX7, "readNumber", "(I)Z"⟩
abbrev cX7_readOrder : ByteArray := prog_9_method_57_code
def yX7_readOrder : MethodName := ⟨RX7, "readOrder", "()Z"⟩
abbrev cX7_isGood : ByteArray := prog_9_method_58_code
def yX7_isGood : MethodName := ⟨RX7, "isGood", "()Z"⟩
abbrev cX7_doOrder : ByteArray := prog_9_method_59_code
def yX7_doOrder : MethodName := ⟨RX7, "doOrder", "()I"⟩
abbrev cX7_perform : ByteArray := prog_9_method_60_code
def yX7_perform : MethodName := ⟨RX7, "perform", "()I"⟩
abbrev cX7_undo : ByteArray := prog_9_method_61_code
def yX7_undo : MethodName := ⟨RX7, "undo", "()I"⟩
abbrev cX7_keep : ByteArray := prog_9_method_62_code
def yX7_keep : MethodName := ⟨RX7, "keep", "()I"⟩
abbrev cX7_restore : ByteArray := prog_9_method_63_code
def yX7_restore : MethodName := ⟨RX7, "restore", "()I"⟩
abbrev cX7_date : ByteArray := prog_9_method_64_code
def yX7_date : MethodName := ⟨RX7, "date", "(II)I"⟩
abbrev cX7_waiting : ByteArray := prog_9_method_65_code
def yX7_waiting : MethodName := ⟨RX7, "waiting", "(II)I"⟩
abbrev cX7_right : ByteArray := prog_9_method_66_code
def yX7_right : MethodName := ⟨RX7, "right", "(II)I"⟩
abbrev cX7_holder : ByteArray := prog_9_method_67_code
def yX7_holder : MethodName := ⟨RX7, "holder", "(II)I"⟩
abbrev cX7_stage : ByteArray := prog_9_method_68_code
def yX7_stage : MethodName := ⟨RX7, "stage", "(II)I"⟩
abbrev cX7_priceIn : ByteArray := prog_9_method_69_code
def yX7_priceIn : MethodName := ⟨RX7, "priceIn", "(II)I"⟩
abbrev cX7_wouldCover : ByteArray := prog_9_method_70_code
def yX7_wouldCover : MethodName := ⟨RX7, "wouldCover", "(I)I"⟩
abbrev cX7_event : ByteArray := prog_9_method_71_code
def yX7_event : MethodName := ⟨RX7, "event", "(II)I"⟩
abbrev cX7_count : ByteArray := prog_9_method_72_code
def yX7_count : MethodName := ⟨RX7, "count", "(I)I"⟩
def RJ9 : String := "java/lang/Math"
abbrev cJ9_max_7cf53 : ByteArray := prog_11_method_65_code
def yJ9_max_7cf53 : MethodName := ⟨RJ9, "max", "(II)I"⟩
abbrev cJ9_min_7cf53 : ByteArray := prog_11_method_69_code
def yJ9_min_7cf53 : MethodName := ⟨RJ9, "min", "(II)I"⟩
def RL : String := "RightsDeskLaw"
abbrev cL_law : ByteArray := code
def yL_law : MethodName := ⟨RL, "law", "([I)Z"⟩
abbrev vwCl : List vw_C := [(RX0, TX0, 8), (RX1, TX1, 4), (RX2, TX2, 3), (RX3, TX3, 6), (RX4, TX4, 8), (RX5, TX5, 12), (RX6, TX6, 5), (RX7, TX7, 15)]
/-! the words: those of the tables that callees may want -/
def zU : List Cond := lw_tbl.filter goodWord
theorem zmem (i : Nat) {w : Cond} (h : lw_tbl[i]? = some w) (g : goodWord w = true) : w ∈ zU := List.mem_filter.mpr ⟨List.mem_of_getElem? h, g⟩
theorem zU_tbl {w : Cond} (h : w ∈ zU) : w ∈ lw_tbl := (List.mem_filter.mp h).1
theorem zU_good {w : Cond} (h : w ∈ zU) : (w.onTables && w.keeps) = true ∨ ∃ ty, w = .arrayClass ty := good_of_word (List.mem_filter.mp h).2
theorem zU_self : GoodIn zU zU := fun _ h => ⟨h, zU_good h⟩
