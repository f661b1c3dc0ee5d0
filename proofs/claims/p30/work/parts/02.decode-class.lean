theorem dX0_init_0 : decode cX0_init 0 = .ok (.aload_n 0, 1) := by decide +kernel
theorem dX0_init_1 : decode cX0_init 1 = .ok (.invokespecial 3, 3) := by decide +kernel
theorem dX0_init_4 : decode cX0_init 4 = .ok (.aload_n 0, 1) := by decide +kernel
theorem dX0_init_5 : decode cX0_init 5 = .ok (.bipush 6, 2) := by decide +kernel
theorem dX0_init_7 : decode cX0_init 7 = .ok (.newarray .int, 2) := by decide +kernel
theorem dX0_init_9 : decode cX0_init 9 = .ok (.putfield 9, 3) := by decide +kernel
theorem dX0_init_12 : decode cX0_init 12 = .ok (.aload_n 0, 1) := by decide +kernel
theorem dX0_init_13 : decode cX0_init 13 = .ok (.iload_n 1, 1) := by decide +kernel
theorem dX0_init_14 : decode cX0_init 14 = .ok (.putfield 15, 3) := by decide +kernel
theorem dX0_init_17 : decode cX0_init 17 = .ok (.return_, 1) := by decide +kernel
theorem dX0_copyFrom_0 : decode cX0_copyFrom 0 = .ok (.aload_n 0, 1) := by decide +kernel
theorem dX0_copyFrom_1 : decode cX0_copyFrom 1 = .ok (.aload_n 1, 1) := by decide +kernel
theorem dX0_copyFrom_2 : decode cX0_copyFrom 2 = .ok (.getfield 19, 3) := by decide +kernel
theorem dX0_copyFrom_5 : decode cX0_copyFrom 5 = .ok (.putfield 19, 3) := by decide +kernel
theorem dX0_copyFrom_8 : decode cX0_copyFrom 8 = .ok (.aload_n 0, 1) := by decide +kernel
theorem dX0_copyFrom_9 : decode cX0_copyFrom 9 = .ok (.aload_n 1, 1) := by decide +kernel
theorem dX0_copyFrom_10 : decode cX0_copyFrom 10 = .ok (.getfield 22, 3) := by decide +kernel
theorem dX0_copyFrom_13 : decode cX0_copyFrom 13 = .ok (.putfield 22, 3) := by decide +kernel
theorem dX0_copyFrom_16 : decode cX0_copyFrom 16 = .ok (.aload_n 0, 1) := by decide +kernel
theorem dX0_copyFrom_17 : decode cX0_copyFrom 17 = .ok (.aload_n 1, 1) := by decide +kernel
theorem dX0_copyFrom_18 : decode cX0_copyFrom 18 = .ok (.getfield 25, 3) := by decide +kernel
theorem dX0_copyFrom_21 : decode cX0_copyFrom 21 = .ok (.putfield 25, 3) := by decide +kernel
theorem dX0_copyFrom_24 : decode cX0_copyFrom 24 = .ok (.aload_n 0, 1) := by decide +kernel
theorem dX0_copyFrom_25 : decode cX0_copyFrom 25 = .ok (.aload_n 1, 1) := by decide +kernel
theorem dX0_copyFrom_26 : decode cX0_copyFrom 26 = .ok (.getfield 28, 3) := by decide +kernel
theorem dX0_copyFrom_29 : decode cX0_copyFrom 29 = .ok (.putfield 28, 3) := by decide +kernel
theorem dX0_copyFrom_32 : decode cX0_copyFrom 32 = .ok (.aload_n 0, 1) := by decide +kernel
theorem dX0_copyFrom_33 : decode cX0_copyFrom 33 = .ok (.aload_n 1, 1) := by decide +kernel
theorem dX0_copyFrom_34 : decode cX0_copyFrom 34 = .ok (.getfield 31, 3) := by decide +kernel
theorem dX0_copyFrom_37 : decode cX0_copyFrom 37 = .ok (.putfield 31, 3) := by decide +kernel
theorem dX0_copyFrom_40 : decode cX0_copyFrom 40 = .ok (.aload_n 1, 1) := by decide +kernel
theorem dX0_copyFrom_41 : decode cX0_copyFrom 41 = .ok (.getfield 9, 3) := by decide +kernel
theorem dX0_copyFrom_44 : decode cX0_copyFrom 44 = .ok (.aload_n 0, 1) := by decide +kernel
theorem dX0_copyFrom_45 : decode cX0_copyFrom 45 = .ok (.getfield 9, 3) := by decide +kernel
theorem dX0_copyFrom_48 : decode cX0_copyFrom 48 = .ok (.invokestatic 34, 3) := by decide +kernel
theorem dX0_copyFrom_51 : decode cX0_copyFrom 51 = .ok (.aload_n 0, 1) := by decide +kernel
theorem dX0_copyFrom_52 : decode cX0_copyFrom 52 = .ok (.aload_n 1, 1) := by decide +kernel
theorem dX0_copyFrom_53 : decode cX0_copyFrom 53 = .ok (.getfield 38, 3) := by decide +kernel
theorem dX0_copyFrom_56 : decode cX0_copyFrom 56 = .ok (.putfield 38, 3) := by decide +kernel
theorem dX0_copyFrom_59 : decode cX0_copyFrom 59 = .ok (.return_, 1) := by decide +kernel
theorem dX0_priceFor_0 : decode cX0_priceFor 0 = .ok (.aload_n 0, 1) := by decide +kernel
theorem dX0_priceFor_1 : decode cX0_priceFor 1 = .ok (.getfield 31, 3) := by decide +kernel
theorem dX0_priceFor_4 : decode cX0_priceFor 4 = .ok (.iconst 1, 1) := by decide +kernel
theorem dX0_priceFor_5 : decode cX0_priceFor 5 = .ok (.if_icmp .ne 27, 3) := by decide +kernel
theorem dX0_priceFor_8 : decode cX0_priceFor 8 = .ok (.aload_n 0, 1) := by decide +kernel
theorem dX0_priceFor_9 : decode cX0_priceFor 9 = .ok (.getfield 22, 3) := by decide +kernel
theorem dX0_priceFor_12 : decode cX0_priceFor 12 = .ok (.ifCond .le 20, 3) := by decide +kernel
theorem dX0_priceFor_15 : decode cX0_priceFor 15 = .ok (.aload_n 0, 1) := by decide +kernel
theorem dX0_priceFor_16 : decode cX0_priceFor 16 = .ok (.getfield 28, 3) := by decide +kernel
theorem dX0_priceFor_19 : decode cX0_priceFor 19 = .ok (.aload_n 0, 1) := by decide +kernel
theorem dX0_priceFor_20 : decode cX0_priceFor 20 = .ok (.getfield 28, 3) := by decide +kernel
theorem dX0_priceFor_23 : decode cX0_priceFor 23 = .ok (.iload_n 1, 1) := by decide +kernel
theorem dX0_priceFor_24 : decode cX0_priceFor 24 = .ok (.imul, 1) := by decide +kernel
theorem dX0_priceFor_25 : decode cX0_priceFor 25 = .ok (.aload_n 0, 1) := by decide +kernel
theorem dX0_priceFor_26 : decode cX0_priceFor 26 = .ok (.getfield 22, 3) := by decide +kernel
theorem dX0_priceFor_29 : decode cX0_priceFor 29 = .ok (.idiv, 1) := by decide +kernel
theorem dX0_priceFor_30 : decode cX0_priceFor 30 = .ok (.iadd, 1) := by decide +kernel
theorem dX0_priceFor_31 : decode cX0_priceFor 31 = .ok (.ireturn, 1) := by decide +kernel
theorem dX0_priceFor_32 : decode cX0_priceFor 32 = .ok (.aload_n 0, 1) := by decide +kernel
theorem dX0_priceFor_33 : decode cX0_priceFor 33 = .ok (.getfield 31, 3) := by decide +kernel
theorem dX0_priceFor_36 : decode cX0_priceFor 36 = .ok (.iconst 2, 1) := by decide +kernel
theorem dX0_priceFor_37 : decode cX0_priceFor 37 = .ok (.if_icmp .ne 33, 3) := by decide +kernel
theorem dX0_priceFor_40 : decode cX0_priceFor 40 = .ok (.iload_n 2, 1) := by decide +kernel
theorem dX0_priceFor_41 : decode cX0_priceFor 41 = .ok (.bipush 30, 2) := by decide +kernel
theorem dX0_priceFor_43 : decode cX0_priceFor 43 = .ok (.if_icmp .ge 10, 3) := by decide +kernel
theorem dX0_priceFor_46 : decode cX0_priceFor 46 = .ok (.bipush 30, 2) := by decide +kernel
theorem dX0_priceFor_48 : decode cX0_priceFor 48 = .ok (.iload_n 2, 1) := by decide +kernel
theorem dX0_priceFor_49 : decode cX0_priceFor 49 = .ok (.isub, 1) := by decide +kernel
theorem dX0_priceFor_50 : decode cX0_priceFor 50 = .ok (.goto 4, 3) := by decide +kernel
theorem dX0_priceFor_53 : decode cX0_priceFor 53 = .ok (.iconst 0, 1) := by decide +kernel
theorem dX0_priceFor_54 : decode cX0_priceFor 54 = .ok (.istore_n 3, 1) := by decide +kernel
theorem dX0_priceFor_55 : decode cX0_priceFor 55 = .ok (.aload_n 0, 1) := by decide +kernel
theorem dX0_priceFor_56 : decode cX0_priceFor 56 = .ok (.getfield 28, 3) := by decide +kernel
theorem dX0_priceFor_59 : decode cX0_priceFor 59 = .ok (.bipush 100, 2) := by decide +kernel
theorem dX0_priceFor_61 : decode cX0_priceFor 61 = .ok (.iconst 2, 1) := by decide +kernel
theorem dX0_priceFor_62 : decode cX0_priceFor 62 = .ok (.iload_n 3, 1) := by decide +kernel
theorem dX0_priceFor_63 : decode cX0_priceFor 63 = .ok (.imul, 1) := by decide +kernel
theorem dX0_priceFor_64 : decode cX0_priceFor 64 = .ok (.iadd, 1) := by decide +kernel
theorem dX0_priceFor_65 : decode cX0_priceFor 65 = .ok (.imul, 1) := by decide +kernel
theorem dX0_priceFor_66 : decode cX0_priceFor 66 = .ok (.bipush 100, 2) := by decide +kernel
theorem dX0_priceFor_68 : decode cX0_priceFor 68 = .ok (.idiv, 1) := by decide +kernel
theorem dX0_priceFor_69 : decode cX0_priceFor 69 = .ok (.ireturn, 1) := by decide +kernel
theorem dX0_priceFor_70 : decode cX0_priceFor 70 = .ok (.aload_n 0, 1) := by decide +kernel
theorem dX0_priceFor_71 : decode cX0_priceFor 71 = .ok (.getfield 28, 3) := by decide +kernel
theorem dX0_priceFor_74 : decode cX0_priceFor 74 = .ok (.ireturn, 1) := by decide +kernel
theorem dX0_waitingAt_0 : decode cX0_waitingAt 0 = .ok (.iload_n 1, 1) := by decide +kernel
theorem dX0_waitingAt_1 : decode cX0_waitingAt 1 = .ok (.ifCond .lt 29, 3) := by decide +kernel
theorem dX0_waitingAt_4 : decode cX0_waitingAt 4 = .ok (.iload_n 1, 1) := by decide +kernel
theorem dX0_waitingAt_5 : decode cX0_waitingAt 5 = .ok (.aload_n 0, 1) := by decide +kernel
theorem dX0_waitingAt_6 : decode cX0_waitingAt 6 = .ok (.getfield 38, 3) := by decide +kernel
theorem dX0_waitingAt_9 : decode cX0_waitingAt 9 = .ok (.if_icmp .ge 21, 3) := by decide +kernel
theorem dX0_waitingAt_12 : decode cX0_waitingAt 12 = .ok (.iload_n 1, 1) := by decide +kernel
theorem dX0_waitingAt_13 : decode cX0_waitingAt 13 = .ok (.aload_n 0, 1) := by decide +kernel
theorem dX0_waitingAt_14 : decode cX0_waitingAt 14 = .ok (.getfield 9, 3) := by decide +kernel
theorem dX0_waitingAt_17 : decode cX0_waitingAt 17 = .ok (.arraylength, 1) := by decide +kernel
theorem dX0_waitingAt_18 : decode cX0_waitingAt 18 = .ok (.if_icmp .ge 12, 3) := by decide +kernel
theorem dX0_waitingAt_21 : decode cX0_waitingAt 21 = .ok (.aload_n 0, 1) := by decide +kernel
theorem dX0_waitingAt_22 : decode cX0_waitingAt 22 = .ok (.getfield 9, 3) := by decide +kernel
theorem dX0_waitingAt_25 : decode cX0_waitingAt 25 = .ok (.iload_n 1, 1) := by decide +kernel
theorem dX0_waitingAt_26 : decode cX0_waitingAt 26 = .ok (.iaload, 1) := by decide +kernel
theorem dX0_waitingAt_27 : decode cX0_waitingAt 27 = .ok (.goto 5, 3) := by decide +kernel
theorem dX0_waitingAt_30 : decode cX0_waitingAt 30 = .ok (.bipush (-5), 2) := by decide +kernel
theorem dX0_waitingAt_32 : decode cX0_waitingAt 32 = .ok (.ireturn, 1) := by decide +kernel
theorem dX0_placeOf_0 : decode cX0_placeOf 0 = .ok (.iconst 0, 1) := by decide +kernel
theorem dX0_placeOf_1 : decode cX0_placeOf 1 = .ok (.istore_n 2, 1) := by decide +kernel
theorem dX0_placeOf_2 : decode cX0_placeOf 2 = .ok (.iload_n 2, 1) := by decide +kernel
theorem dX0_placeOf_3 : decode cX0_placeOf 3 = .ok (.aload_n 0, 1) := by decide +kernel
theorem dX0_placeOf_4 : decode cX0_placeOf 4 = .ok (.getfield 38, 3) := by decide +kernel
theorem dX0_placeOf_7 : decode cX0_placeOf 7 = .ok (.if_icmp .ge 30, 3) := by decide +kernel
theorem dX0_placeOf_10 : decode cX0_placeOf 10 = .ok (.iload_n 2, 1) := by decide +kernel
theorem dX0_placeOf_11 : decode cX0_placeOf 11 = .ok (.aload_n 0, 1) := by decide +kernel
theorem dX0_placeOf_12 : decode cX0_placeOf 12 = .ok (.getfield 9, 3) := by decide +kernel
theorem dX0_placeOf_15 : decode cX0_placeOf 15 = .ok (.arraylength, 1) := by decide +kernel
theorem dX0_placeOf_16 : decode cX0_placeOf 16 = .ok (.if_icmp .ge 21, 3) := by decide +kernel
theorem dX0_placeOf_19 : decode cX0_placeOf 19 = .ok (.aload_n 0, 1) := by decide +kernel
theorem dX0_placeOf_20 : decode cX0_placeOf 20 = .ok (.getfield 9, 3) := by decide +kernel
theorem dX0_placeOf_23 : decode cX0_placeOf 23 = .ok (.iload_n 2, 1) := by decide +kernel
theorem dX0_placeOf_24 : decode cX0_placeOf 24 = .ok (.iaload, 1) := by decide +kernel
theorem dX0_placeOf_25 : decode cX0_placeOf 25 = .ok (.iload_n 1, 1) := by decide +kernel
theorem dX0_placeOf_26 : decode cX0_placeOf 26 = .ok (.if_icmp .ne 5, 3) := by decide +kernel
theorem dX0_placeOf_29 : decode cX0_placeOf 29 = .ok (.iload_n 2, 1) := by decide +kernel
theorem dX0_placeOf_30 : decode cX0_placeOf 30 = .ok (.ireturn, 1) := by decide +kernel
theorem dX0_placeOf_31 : decode cX0_placeOf 31 = .ok (.iinc 2 1, 3) := by decide +kernel
theorem dX0_placeOf_34 : decode cX0_placeOf 34 = .ok (.goto (-32), 3) := by decide +kernel
theorem dX0_placeOf_37 : decode cX0_placeOf 37 = .ok (.bipush (-5), 2) := by decide +kernel
theorem dX0_placeOf_39 : decode cX0_placeOf 39 = .ok (.ireturn, 1) := by decide +kernel
theorem dX0_appendToList_0 : decode cX0_appendToList 0 = .ok (.aload_n 0, 1) := by decide +kernel
theorem dX0_appendToList_1 : decode cX0_appendToList 1 = .ok (.getfield 38, 3) := by decide +kernel
theorem dX0_appendToList_4 : decode cX0_appendToList 4 = .ok (.aload_n 0, 1) := by decide +kernel
theorem dX0_appendToList_5 : decode cX0_appendToList 5 = .ok (.getfield 9, 3) := by decide +kernel
theorem dX0_appendToList_8 : decode cX0_appendToList 8 = .ok (.arraylength, 1) := by decide +kernel
theorem dX0_appendToList_9 : decode cX0_appendToList 9 = .ok (.if_icmp .lt 6, 3) := by decide +kernel
theorem dX0_appendToList_12 : decode cX0_appendToList 12 = .ok (.bipush (-3), 2) := by decide +kernel
theorem dX0_appendToList_14 : decode cX0_appendToList 14 = .ok (.ireturn, 1) := by decide +kernel
theorem dX0_appendToList_15 : decode cX0_appendToList 15 = .ok (.aload_n 0, 1) := by decide +kernel
theorem dX0_appendToList_16 : decode cX0_appendToList 16 = .ok (.getfield 9, 3) := by decide +kernel
theorem dX0_appendToList_19 : decode cX0_appendToList 19 = .ok (.aload_n 0, 1) := by decide +kernel
theorem dX0_appendToList_20 : decode cX0_appendToList 20 = .ok (.getfield 38, 3) := by decide +kernel
theorem dX0_appendToList_23 : decode cX0_appendToList 23 = .ok (.iload_n 1, 1) := by decide +kernel
theorem dX0_appendToList_24 : decode cX0_appendToList 24 = .ok (.iastore, 1) := by decide +kernel
theorem dX0_appendToList_25 : decode cX0_appendToList 25 = .ok (.aload_n 0, 1) := by decide +kernel
theorem dX0_appendToList_26 : decode cX0_appendToList 26 = .ok (.dup, 1) := by decide +kernel
theorem dX0_appendToList_27 : decode cX0_appendToList 27 = .ok (.getfield 38, 3) := by decide +kernel
theorem dX0_appendToList_30 : decode cX0_appendToList 30 = .ok (.iconst 1, 1) := by decide +kernel
theorem dX0_appendToList_31 : decode cX0_appendToList 31 = .ok (.iadd, 1) := by decide +kernel
theorem dX0_appendToList_32 : decode cX0_appendToList 32 = .ok (.putfield 38, 3) := by decide +kernel
theorem dX0_appendToList_35 : decode cX0_appendToList 35 = .ok (.aload_n 0, 1) := by decide +kernel
theorem dX0_appendToList_36 : decode cX0_appendToList 36 = .ok (.getfield 38, 3) := by decide +kernel
theorem dX0_appendToList_39 : decode cX0_appendToList 39 = .ok (.ireturn, 1) := by decide +kernel
theorem dX0_removeFromList_0 : decode cX0_removeFromList 0 = .ok (.iload_n 1, 1) := by decide +kernel
theorem dX0_removeFromList_1 : decode cX0_removeFromList 1 = .ok (.ifCond .lt 11, 3) := by decide +kernel
theorem dX0_removeFromList_4 : decode cX0_removeFromList 4 = .ok (.iload_n 1, 1) := by decide +kernel
theorem dX0_removeFromList_5 : decode cX0_removeFromList 5 = .ok (.aload_n 0, 1) := by decide +kernel
theorem dX0_removeFromList_6 : decode cX0_removeFromList 6 = .ok (.getfield 38, 3) := by decide +kernel
theorem dX0_removeFromList_9 : decode cX0_removeFromList 9 = .ok (.if_icmp .lt 4, 3) := by decide +kernel
theorem dX0_removeFromList_12 : decode cX0_removeFromList 12 = .ok (.return_, 1) := by decide +kernel
theorem dX0_removeFromList_13 : decode cX0_removeFromList 13 = .ok (.aload_n 0, 1) := by decide +kernel
theorem dX0_removeFromList_14 : decode cX0_removeFromList 14 = .ok (.dup, 1) := by decide +kernel
theorem dX0_removeFromList_15 : decode cX0_removeFromList 15 = .ok (.getfield 38, 3) := by decide +kernel
theorem dX0_removeFromList_18 : decode cX0_removeFromList 18 = .ok (.iconst 1, 1) := by decide +kernel
theorem dX0_removeFromList_19 : decode cX0_removeFromList 19 = .ok (.isub, 1) := by decide +kernel
theorem dX0_removeFromList_20 : decode cX0_removeFromList 20 = .ok (.putfield 38, 3) := by decide +kernel
theorem dX0_removeFromList_23 : decode cX0_removeFromList 23 = .ok (.iload_n 1, 1) := by decide +kernel
theorem dX0_removeFromList_24 : decode cX0_removeFromList 24 = .ok (.istore_n 2, 1) := by decide +kernel
theorem dX0_removeFromList_25 : decode cX0_removeFromList 25 = .ok (.iload_n 2, 1) := by decide +kernel
theorem dX0_removeFromList_26 : decode cX0_removeFromList 26 = .ok (.aload_n 0, 1) := by decide +kernel
theorem dX0_removeFromList_27 : decode cX0_removeFromList 27 = .ok (.getfield 38, 3) := by decide +kernel
theorem dX0_removeFromList_30 : decode cX0_removeFromList 30 = .ok (.if_icmp .ge 34, 3) := by decide +kernel
theorem dX0_removeFromList_33 : decode cX0_removeFromList 33 = .ok (.iload_n 2, 1) := by decide +kernel
theorem dX0_removeFromList_34 : decode cX0_removeFromList 34 = .ok (.iconst 1, 1) := by decide +kernel
theorem dX0_removeFromList_35 : decode cX0_removeFromList 35 = .ok (.iadd, 1) := by decide +kernel
theorem dX0_removeFromList_36 : decode cX0_removeFromList 36 = .ok (.aload_n 0, 1) := by decide +kernel
theorem dX0_removeFromList_37 : decode cX0_removeFromList 37 = .ok (.getfield 9, 3) := by decide +kernel
theorem dX0_removeFromList_40 : decode cX0_removeFromList 40 = .ok (.arraylength, 1) := by decide +kernel
theorem dX0_removeFromList_41 : decode cX0_removeFromList 41 = .ok (.if_icmp .ge 23, 3) := by decide +kernel
theorem dX0_removeFromList_44 : decode cX0_removeFromList 44 = .ok (.aload_n 0, 1) := by decide +kernel
theorem dX0_removeFromList_45 : decode cX0_removeFromList 45 = .ok (.getfield 9, 3) := by decide +kernel
theorem dX0_removeFromList_48 : decode cX0_removeFromList 48 = .ok (.iload_n 2, 1) := by decide +kernel
theorem dX0_removeFromList_49 : decode cX0_removeFromList 49 = .ok (.aload_n 0, 1) := by decide +kernel
theorem dX0_removeFromList_50 : decode cX0_removeFromList 50 = .ok (.getfield 9, 3) := by decide +kernel
theorem dX0_removeFromList_53 : decode cX0_removeFromList 53 = .ok (.iload_n 2, 1) := by decide +kernel
theorem dX0_removeFromList_54 : decode cX0_removeFromList 54 = .ok (.iconst 1, 1) := by decide +kernel
theorem dX0_removeFromList_55 : decode cX0_removeFromList 55 = .ok (.iadd, 1) := by decide +kernel
theorem dX0_removeFromList_56 : decode cX0_removeFromList 56 = .ok (.iaload, 1) := by decide +kernel
theorem dX0_removeFromList_57 : decode cX0_removeFromList 57 = .ok (.iastore, 1) := by decide +kernel
theorem dX0_removeFromList_58 : decode cX0_removeFromList 58 = .ok (.iinc 2 1, 3) := by decide +kernel
theorem dX0_removeFromList_61 : decode cX0_removeFromList 61 = .ok (.goto (-36), 3) := by decide +kernel
theorem dX0_removeFromList_64 : decode cX0_removeFromList 64 = .ok (.return_, 1) := by decide +kernel
theorem dX1_init_0 : decode cX1_init 0 = .ok (.aload_n 0, 1) := by decide +kernel
theorem dX1_init_1 : decode cX1_init 1 = .ok (.invokespecial 1, 3) := by decide +kernel
theorem dX1_init_4 : decode cX1_init 4 = .ok (.return_, 1) := by decide +kernel
theorem dX1_copyFrom_0 : decode cX1_copyFrom 0 = .ok (.aload_n 0, 1) := by decide +kernel
theorem dX1_copyFrom_1 : decode cX1_copyFrom 1 = .ok (.aload_n 1, 1) := by decide +kernel
theorem dX1_copyFrom_2 : decode cX1_copyFrom 2 = .ok (.getfield 7, 3) := by decide +kernel
theorem dX1_copyFrom_5 : decode cX1_copyFrom 5 = .ok (.putfield 7, 3) := by decide +kernel
theorem dX1_copyFrom_8 : decode cX1_copyFrom 8 = .ok (.aload_n 0, 1) := by decide +kernel
theorem dX1_copyFrom_9 : decode cX1_copyFrom 9 = .ok (.aload_n 1, 1) := by decide +kernel
theorem dX1_copyFrom_10 : decode cX1_copyFrom 10 = .ok (.getfield 13, 3) := by decide +kernel
theorem dX1_copyFrom_13 : decode cX1_copyFrom 13 = .ok (.putfield 13, 3) := by decide +kernel
theorem dX1_copyFrom_16 : decode cX1_copyFrom 16 = .ok (.aload_n 0, 1) := by decide +kernel
theorem dX1_copyFrom_17 : decode cX1_copyFrom 17 = .ok (.aload_n 1, 1) := by decide +kernel
theorem dX1_copyFrom_18 : decode cX1_copyFrom 18 = .ok (.getfield 16, 3) := by decide +kernel
theorem dX1_copyFrom_21 : decode cX1_copyFrom 21 = .ok (.putfield 16, 3) := by decide +kernel
theorem dX1_copyFrom_24 : decode cX1_copyFrom 24 = .ok (.aload_n 0, 1) := by decide +kernel
theorem dX1_copyFrom_25 : decode cX1_copyFrom 25 = .ok (.aload_n 1, 1) := by decide +kernel
theorem dX1_copyFrom_26 : decode cX1_copyFrom 26 = .ok (.getfield 19, 3) := by decide +kernel
theorem dX1_copyFrom_29 : decode cX1_copyFrom 29 = .ok (.putfield 19, 3) := by decide +kernel
theorem dX1_copyFrom_32 : decode cX1_copyFrom 32 = .ok (.return_, 1) := by decide +kernel
theorem dX1_tell_0 : decode cX1_tell 0 = .ok (.iload_n 1, 1) := by decide +kernel
theorem dX1_tell_1 : decode cX1_tell 1 = .ok (.tableswitch 42 0 2 #[27, 32, 37], 27) := by decide +kernel
theorem dX1_tell_28 : decode cX1_tell 28 = .ok (.aload_n 0, 1) := by decide +kernel
theorem dX1_tell_29 : decode cX1_tell 29 = .ok (.getfield 7, 3) := by decide +kernel
theorem dX1_tell_32 : decode cX1_tell 32 = .ok (.ireturn, 1) := by decide +kernel
theorem dX1_tell_33 : decode cX1_tell 33 = .ok (.aload_n 0, 1) := by decide +kernel
theorem dX1_tell_34 : decode cX1_tell 34 = .ok (.getfield 13, 3) := by decide +kernel
theorem dX1_tell_37 : decode cX1_tell 37 = .ok (.ireturn, 1) := by decide +kernel
theorem dX1_tell_38 : decode cX1_tell 38 = .ok (.aload_n 0, 1) := by decide +kernel
theorem dX1_tell_39 : decode cX1_tell 39 = .ok (.getfield 16, 3) := by decide +kernel
theorem dX1_tell_42 : decode cX1_tell 42 = .ok (.ireturn, 1) := by decide +kernel
theorem dX1_tell_43 : decode cX1_tell 43 = .ok (.aload_n 0, 1) := by decide +kernel
theorem dX1_tell_44 : decode cX1_tell 44 = .ok (.getfield 19, 3) := by decide +kernel
theorem dX1_tell_47 : decode cX1_tell 47 = .ok (.ireturn, 1) := by decide +kernel
theorem dX2_init_0 : decode cX2_init 0 = .ok (.aload_n 0, 1) := by decide +kernel
theorem dX2_init_1 : decode cX2_init 1 = .ok (.invokespecial 3, 3) := by decide +kernel
theorem dX2_init_4 : decode cX2_init 4 = .ok (.aload_n 0, 1) := by decide +kernel
theorem dX2_init_5 : decode cX2_init 5 = .ok (.iconst 4, 1) := by decide +kernel
theorem dX2_init_6 : decode cX2_init 6 = .ok (.anewarray 9, 3) := by decide +kernel
theorem dX2_init_9 : decode cX2_init 9 = .ok (.putfield 11, 3) := by decide +kernel
theorem dX2_init_12 : decode cX2_init 12 = .ok (.aload_n 0, 1) := by decide +kernel
theorem dX2_init_13 : decode cX2_init 13 = .ok (.new 9, 3) := by decide +kernel
theorem dX2_init_16 : decode cX2_init 16 = .ok (.dup, 1) := by decide +kernel
theorem dX2_init_17 : decode cX2_init 17 = .ok (.invokespecial 17, 3) := by decide +kernel
theorem dX2_init_20 : decode cX2_init 20 = .ok (.putfield 18, 3) := by decide +kernel
theorem dX2_init_23 : decode cX2_init 23 = .ok (.iconst 0, 1) := by decide +kernel
theorem dX2_init_24 : decode cX2_init 24 = .ok (.istore_n 1, 1) := by decide +kernel
theorem dX2_init_25 : decode cX2_init 25 = .ok (.iload_n 1, 1) := by decide +kernel
theorem dX2_init_26 : decode cX2_init 26 = .ok (.aload_n 0, 1) := by decide +kernel
theorem dX2_init_27 : decode cX2_init 27 = .ok (.getfield 11, 3) := by decide +kernel
theorem dX2_init_30 : decode cX2_init 30 = .ok (.arraylength, 1) := by decide +kernel
theorem dX2_init_31 : decode cX2_init 31 = .ok (.if_icmp .ge 22, 3) := by decide +kernel
theorem dX2_init_34 : decode cX2_init 34 = .ok (.aload_n 0, 1) := by decide +kernel
theorem dX2_init_35 : decode cX2_init 35 = .ok (.getfield 11, 3) := by decide +kernel
theorem dX2_init_38 : decode cX2_init 38 = .ok (.iload_n 1, 1) := by decide +kernel
theorem dX2_init_39 : decode cX2_init 39 = .ok (.new 9, 3) := by decide +kernel
theorem dX2_init_42 : decode cX2_init 42 = .ok (.dup, 1) := by decide +kernel
theorem dX2_init_43 : decode cX2_init 43 = .ok (.invokespecial 17, 3) := by decide +kernel
theorem dX2_init_46 : decode cX2_init 46 = .ok (.aastore, 1) := by decide +kernel
theorem dX2_init_47 : decode cX2_init 47 = .ok (.iinc 1 1, 3) := by decide +kernel
theorem dX2_init_50 : decode cX2_init 50 = .ok (.goto (-25), 3) := by decide +kernel
theorem dX2_init_53 : decode cX2_init 53 = .ok (.return_, 1) := by decide +kernel
theorem dX2_prepare_0 : decode cX2_prepare 0 = .ok (.aload_n 0, 1) := by decide +kernel
theorem dX2_prepare_1 : decode cX2_prepare 1 = .ok (.getfield 18, 3) := by decide +kernel
theorem dX2_prepare_4 : decode cX2_prepare 4 = .ok (.aload_n 1, 1) := by decide +kernel
theorem dX2_prepare_5 : decode cX2_prepare 5 = .ok (.invokevirtual 22, 3) := by decide +kernel
theorem dX2_prepare_8 : decode cX2_prepare 8 = .ok (.return_, 1) := by decide +kernel
theorem dX2_settle_0 : decode cX2_settle 0 = .ok (.iload_n 1, 1) := by decide +kernel
theorem dX2_settle_1 : decode cX2_settle 1 = .ok (.ifCond .ge 5, 3) := by decide +kernel
theorem dX2_settle_4 : decode cX2_settle 4 = .ok (.iload_n 1, 1) := by decide +kernel
theorem dX2_settle_5 : decode cX2_settle 5 = .ok (.ireturn, 1) := by decide +kernel
theorem dX2_settle_6 : decode cX2_settle 6 = .ok (.aload_n 0, 1) := by decide +kernel
theorem dX2_settle_7 : decode cX2_settle 7 = .ok (.getfield 11, 3) := by decide +kernel
theorem dX2_settle_10 : decode cX2_settle 10 = .ok (.iconst 3, 1) := by decide +kernel
theorem dX2_settle_11 : decode cX2_settle 11 = .ok (.aaload, 1) := by decide +kernel
theorem dX2_settle_12 : decode cX2_settle 12 = .ok (.astore_n 2, 1) := by decide +kernel
theorem dX2_settle_13 : decode cX2_settle 13 = .ok (.iconst 3, 1) := by decide +kernel
theorem dX2_settle_14 : decode cX2_settle 14 = .ok (.istore_n 3, 1) := by decide +kernel
theorem dX2_settle_15 : decode cX2_settle 15 = .ok (.iload_n 3, 1) := by decide +kernel
theorem dX2_settle_16 : decode cX2_settle 16 = .ok (.ifCond .le 23, 3) := by decide +kernel
theorem dX2_settle_19 : decode cX2_settle 19 = .ok (.aload_n 0, 1) := by decide +kernel
theorem dX2_settle_20 : decode cX2_settle 20 = .ok (.getfield 11, 3) := by decide +kernel
theorem dX2_settle_23 : decode cX2_settle 23 = .ok (.iload_n 3, 1) := by decide +kernel
theorem dX2_settle_24 : decode cX2_settle 24 = .ok (.aload_n 0, 1) := by decide +kernel
theorem dX2_settle_25 : decode cX2_settle 25 = .ok (.getfield 11, 3) := by decide +kernel
theorem dX2_settle_28 : decode cX2_settle 28 = .ok (.iload_n 3, 1) := by decide +kernel
theorem dX2_settle_29 : decode cX2_settle 29 = .ok (.iconst 1, 1) := by decide +kernel
theorem dX2_settle_30 : decode cX2_settle 30 = .ok (.isub, 1) := by decide +kernel
theorem dX2_settle_31 : decode cX2_settle 31 = .ok (.aaload, 1) := by decide +kernel
theorem dX2_settle_32 : decode cX2_settle 32 = .ok (.aastore, 1) := by decide +kernel
theorem dX2_settle_33 : decode cX2_settle 33 = .ok (.iinc 3 (-1), 3) := by decide +kernel
theorem dX2_settle_36 : decode cX2_settle 36 = .ok (.goto (-21), 3) := by decide +kernel
theorem dX2_settle_39 : decode cX2_settle 39 = .ok (.aload_n 0, 1) := by decide +kernel
theorem dX2_settle_40 : decode cX2_settle 40 = .ok (.getfield 11, 3) := by decide +kernel
theorem dX2_settle_43 : decode cX2_settle 43 = .ok (.iconst 0, 1) := by decide +kernel
theorem dX2_settle_44 : decode cX2_settle 44 = .ok (.aload_n 0, 1) := by decide +kernel
theorem dX2_settle_45 : decode cX2_settle 45 = .ok (.getfield 18, 3) := by decide +kernel
theorem dX2_settle_48 : decode cX2_settle 48 = .ok (.aastore, 1) := by decide +kernel
theorem dX2_settle_49 : decode cX2_settle 49 = .ok (.aload_n 0, 1) := by decide +kernel
theorem dX2_settle_50 : decode cX2_settle 50 = .ok (.aload_n 2, 1) := by decide +kernel
theorem dX2_settle_51 : decode cX2_settle 51 = .ok (.putfield 18, 3) := by decide +kernel
theorem dX2_settle_54 : decode cX2_settle 54 = .ok (.aload_n 0, 1) := by decide +kernel
theorem dX2_settle_55 : decode cX2_settle 55 = .ok (.aload_n 0, 1) := by decide +kernel
theorem dX2_settle_56 : decode cX2_settle 56 = .ok (.getfield 26, 3) := by decide +kernel
theorem dX2_settle_59 : decode cX2_settle 59 = .ok (.iconst 1, 1) := by decide +kernel
theorem dX2_settle_60 : decode cX2_settle 60 = .ok (.iadd, 1) := by decide +kernel
theorem dX2_settle_61 : decode cX2_settle 61 = .ok (.iconst 4, 1) := by decide +kernel
theorem dX2_settle_62 : decode cX2_settle 62 = .ok (.invokestatic 30, 3) := by decide +kernel
theorem dX2_settle_65 : decode cX2_settle 65 = .ok (.putfield 26, 3) := by decide +kernel
theorem dX2_settle_68 : decode cX2_settle 68 = .ok (.iload_n 1, 1) := by decide +kernel
theorem dX2_settle_69 : decode cX2_settle 69 = .ok (.ireturn, 1) := by decide +kernel
theorem dX2_takeLatest_0 : decode cX2_takeLatest 0 = .ok (.aload_n 0, 1) := by decide +kernel
theorem dX2_takeLatest_1 : decode cX2_takeLatest 1 = .ok (.getfield 26, 3) := by decide +kernel
theorem dX2_takeLatest_4 : decode cX2_takeLatest 4 = .ok (.ifCond .ne 5, 3) := by decide +kernel
theorem dX2_takeLatest_7 : decode cX2_takeLatest 7 = .ok (.aconst_null, 1) := by decide +kernel
theorem dX2_takeLatest_8 : decode cX2_takeLatest 8 = .ok (.areturn, 1) := by decide +kernel
theorem dX2_takeLatest_9 : decode cX2_takeLatest 9 = .ok (.aload_n 0, 1) := by decide +kernel
theorem dX2_takeLatest_10 : decode cX2_takeLatest 10 = .ok (.getfield 11, 3) := by decide +kernel
theorem dX2_takeLatest_13 : decode cX2_takeLatest 13 = .ok (.iconst 0, 1) := by decide +kernel
theorem dX2_takeLatest_14 : decode cX2_takeLatest 14 = .ok (.aaload, 1) := by decide +kernel
theorem dX2_takeLatest_15 : decode cX2_takeLatest 15 = .ok (.astore_n 1, 1) := by decide +kernel
theorem dX2_takeLatest_16 : decode cX2_takeLatest 16 = .ok (.iconst 0, 1) := by decide +kernel
theorem dX2_takeLatest_17 : decode cX2_takeLatest 17 = .ok (.istore_n 2, 1) := by decide +kernel
theorem dX2_takeLatest_18 : decode cX2_takeLatest 18 = .ok (.iload_n 2, 1) := by decide +kernel
theorem dX2_takeLatest_19 : decode cX2_takeLatest 19 = .ok (.iconst 1, 1) := by decide +kernel
theorem dX2_takeLatest_20 : decode cX2_takeLatest 20 = .ok (.iadd, 1) := by decide +kernel
theorem dX2_takeLatest_21 : decode cX2_takeLatest 21 = .ok (.iconst 4, 1) := by decide +kernel
theorem dX2_takeLatest_22 : decode cX2_takeLatest 22 = .ok (.if_icmp .ge 23, 3) := by decide +kernel
theorem dX2_takeLatest_25 : decode cX2_takeLatest 25 = .ok (.aload_n 0, 1) := by decide +kernel
theorem dX2_takeLatest_26 : decode cX2_takeLatest 26 = .ok (.getfield 11, 3) := by decide +kernel
theorem dX2_takeLatest_29 : decode cX2_takeLatest 29 = .ok (.iload_n 2, 1) := by decide +kernel
theorem dX2_takeLatest_30 : decode cX2_takeLatest 30 = .ok (.aload_n 0, 1) := by decide +kernel
theorem dX2_takeLatest_31 : decode cX2_takeLatest 31 = .ok (.getfield 11, 3) := by decide +kernel
theorem dX2_takeLatest_34 : decode cX2_takeLatest 34 = .ok (.iload_n 2, 1) := by decide +kernel
theorem dX2_takeLatest_35 : decode cX2_takeLatest 35 = .ok (.iconst 1, 1) := by decide +kernel
theorem dX2_takeLatest_36 : decode cX2_takeLatest 36 = .ok (.iadd, 1) := by decide +kernel
theorem dX2_takeLatest_37 : decode cX2_takeLatest 37 = .ok (.aaload, 1) := by decide +kernel
theorem dX2_takeLatest_38 : decode cX2_takeLatest 38 = .ok (.aastore, 1) := by decide +kernel
theorem dX2_takeLatest_39 : decode cX2_takeLatest 39 = .ok (.iinc 2 1, 3) := by decide +kernel
theorem dX2_takeLatest_42 : decode cX2_takeLatest 42 = .ok (.goto (-24), 3) := by decide +kernel
theorem dX2_takeLatest_45 : decode cX2_takeLatest 45 = .ok (.aload_n 0, 1) := by decide +kernel
theorem dX2_takeLatest_46 : decode cX2_takeLatest 46 = .ok (.getfield 11, 3) := by decide +kernel
theorem dX2_takeLatest_49 : decode cX2_takeLatest 49 = .ok (.iconst 3, 1) := by decide +kernel
theorem dX2_takeLatest_50 : decode cX2_takeLatest 50 = .ok (.aload_n 1, 1) := by decide +kernel
theorem dX2_takeLatest_51 : decode cX2_takeLatest 51 = .ok (.aastore, 1) := by decide +kernel
theorem dX2_takeLatest_52 : decode cX2_takeLatest 52 = .ok (.aload_n 0, 1) := by decide +kernel
theorem dX2_takeLatest_53 : decode cX2_takeLatest 53 = .ok (.dup, 1) := by decide +kernel
theorem dX2_takeLatest_54 : decode cX2_takeLatest 54 = .ok (.getfield 26, 3) := by decide +kernel
theorem dX2_takeLatest_57 : decode cX2_takeLatest 57 = .ok (.iconst 1, 1) := by decide +kernel
theorem dX2_takeLatest_58 : decode cX2_takeLatest 58 = .ok (.isub, 1) := by decide +kernel
theorem dX2_takeLatest_59 : decode cX2_takeLatest 59 = .ok (.putfield 26, 3) := by decide +kernel
theorem dX2_takeLatest_62 : decode cX2_takeLatest 62 = .ok (.aload_n 1, 1) := by decide +kernel
theorem dX2_takeLatest_63 : decode cX2_takeLatest 63 = .ok (.areturn, 1) := by decide +kernel
theorem dX3_init_0 : decode cX3_init 0 = .ok (.aload_n 0, 1) := by decide +kernel
theorem dX3_init_1 : decode cX3_init 1 = .ok (.invokespecial 3, 3) := by decide +kernel
theorem dX3_init_4 : decode cX3_init 4 = .ok (.aload_n 0, 1) := by decide +kernel
theorem dX3_init_5 : decode cX3_init 5 = .ok (.bipush 60, 2) := by decide +kernel
theorem dX3_init_7 : decode cX3_init 7 = .ok (.newarray .char, 2) := by decide +kernel
theorem dX3_init_9 : decode cX3_init 9 = .ok (.putfield 9, 3) := by decide +kernel
theorem dX3_init_12 : decode cX3_init 12 = .ok (.return_, 1) := by decide +kernel
theorem dX3_countOrders_0 : decode cX3_countOrders 0 = .ok (.aload_n 0, 1) := by decide +kernel
theorem dX3_countOrders_1 : decode cX3_countOrders 1 = .ok (.invokevirtual 19, 3) := by decide +kernel
theorem dX3_countOrders_4 : decode cX3_countOrders 4 = .ok (.iconst 0, 1) := by decide +kernel
theorem dX3_countOrders_5 : decode cX3_countOrders 5 = .ok (.istore_n 1, 1) := by decide +kernel
theorem dX3_countOrders_6 : decode cX3_countOrders 6 = .ok (.iconst 1, 1) := by decide +kernel
theorem dX3_countOrders_7 : decode cX3_countOrders 7 = .ok (.istore_n 2, 1) := by decide +kernel
theorem dX3_countOrders_8 : decode cX3_countOrders 8 = .ok (.iconst 0, 1) := by decide +kernel
theorem dX3_countOrders_9 : decode cX3_countOrders 9 = .ok (.istore_n 3, 1) := by decide +kernel
theorem dX3_countOrders_10 : decode cX3_countOrders 10 = .ok (.iload_n 3, 1) := by decide +kernel
theorem dX3_countOrders_11 : decode cX3_countOrders 11 = .ok (.bipush 60, 2) := by decide +kernel
theorem dX3_countOrders_13 : decode cX3_countOrders 13 = .ok (.if_icmp .ge 38, 3) := by decide +kernel
theorem dX3_countOrders_16 : decode cX3_countOrders 16 = .ok (.iload_n 2, 1) := by decide +kernel
theorem dX3_countOrders_17 : decode cX3_countOrders 17 = .ok (.ifCond .eq 34, 3) := by decide +kernel
theorem dX3_countOrders_20 : decode cX3_countOrders 20 = .ok (.aload_n 0, 1) := by decide +kernel
theorem dX3_countOrders_21 : decode cX3_countOrders 21 = .ok (.invokevirtual 22, 3) := by decide +kernel
theorem dX3_countOrders_24 : decode cX3_countOrders 24 = .ok (.ifCond .ne 11, 3) := by decide +kernel
theorem dX3_countOrders_27 : decode cX3_countOrders 27 = .ok (.bipush (-100), 2) := by decide +kernel
theorem dX3_countOrders_29 : decode cX3_countOrders 29 = .ok (.aload_n 0, 1) := by decide +kernel
theorem dX3_countOrders_30 : decode cX3_countOrders 30 = .ok (.getfield 26, 3) := by decide +kernel
theorem dX3_countOrders_33 : decode cX3_countOrders 33 = .ok (.isub, 1) := by decide +kernel
theorem dX3_countOrders_34 : decode cX3_countOrders 34 = .ok (.ireturn, 1) := by decide +kernel
theorem dX3_countOrders_35 : decode cX3_countOrders 35 = .ok (.iinc 1 1, 3) := by decide +kernel
theorem dX3_countOrders_38 : decode cX3_countOrders 38 = .ok (.aload_n 0, 1) := by decide +kernel
theorem dX3_countOrders_39 : decode cX3_countOrders 39 = .ok (.bipush 59, 2) := by decide +kernel
theorem dX3_countOrders_41 : decode cX3_countOrders 41 = .ok (.invokevirtual 29, 3) := by decide +kernel
theorem dX3_countOrders_44 : decode cX3_countOrders 44 = .ok (.istore_n 2, 1) := by decide +kernel
theorem dX3_countOrders_45 : decode cX3_countOrders 45 = .ok (.iinc 3 1, 3) := by decide +kernel
theorem dX3_countOrders_48 : decode cX3_countOrders 48 = .ok (.goto (-38), 3) := by decide +kernel
theorem dX3_countOrders_51 : decode cX3_countOrders 51 = .ok (.aload_n 0, 1) := by decide +kernel
theorem dX3_countOrders_52 : decode cX3_countOrders 52 = .ok (.getfield 26, 3) := by decide +kernel
theorem dX3_countOrders_55 : decode cX3_countOrders 55 = .ok (.aload_n 0, 1) := by decide +kernel
theorem dX3_countOrders_56 : decode cX3_countOrders 56 = .ok (.getfield 15, 3) := by decide +kernel
theorem dX3_countOrders_59 : decode cX3_countOrders 59 = .ok (.if_icmp .ne 7, 3) := by decide +kernel
theorem dX3_countOrders_62 : decode cX3_countOrders 62 = .ok (.iload_n 1, 1) := by decide +kernel
theorem dX3_countOrders_63 : decode cX3_countOrders 63 = .ok (.goto 10, 3) := by decide +kernel
theorem dX3_countOrders_66 : decode cX3_countOrders 66 = .ok (.bipush (-100), 2) := by decide +kernel
theorem dX3_countOrders_68 : decode cX3_countOrders 68 = .ok (.aload_n 0, 1) := by decide +kernel
theorem dX3_countOrders_69 : decode cX3_countOrders 69 = .ok (.getfield 26, 3) := by decide +kernel
theorem dX3_countOrders_72 : decode cX3_countOrders 72 = .ok (.isub, 1) := by decide +kernel
theorem dX3_countOrders_73 : decode cX3_countOrders 73 = .ok (.ireturn, 1) := by decide +kernel
theorem dX3_goToStart_0 : decode cX3_goToStart 0 = .ok (.aload_n 0, 1) := by decide +kernel
theorem dX3_goToStart_1 : decode cX3_goToStart 1 = .ok (.iconst 0, 1) := by decide +kernel
theorem dX3_goToStart_2 : decode cX3_goToStart 2 = .ok (.putfield 26, 3) := by decide +kernel
theorem dX3_goToStart_5 : decode cX3_goToStart 5 = .ok (.return_, 1) := by decide +kernel
theorem dX3_readOrder_0 : decode cX3_readOrder 0 = .ok (.aload_n 0, 1) := by decide +kernel
theorem dX3_readOrder_1 : decode cX3_readOrder 1 = .ok (.aload_n 0, 1) := by decide +kernel
theorem dX3_readOrder_2 : decode cX3_readOrder 2 = .ok (.invokevirtual 33, 3) := by decide +kernel
theorem dX3_readOrder_5 : decode cX3_readOrder 5 = .ok (.putfield 37, 3) := by decide +kernel
theorem dX3_readOrder_8 : decode cX3_readOrder 8 = .ok (.aload_n 0, 1) := by decide +kernel
theorem dX3_readOrder_9 : decode cX3_readOrder 9 = .ok (.bipush 98, 2) := by decide +kernel
theorem dX3_readOrder_11 : decode cX3_readOrder 11 = .ok (.invokevirtual 29, 3) := by decide +kernel
theorem dX3_readOrder_14 : decode cX3_readOrder 14 = .ok (.ifCond .ne 12, 3) := by decide +kernel
theorem dX3_readOrder_17 : decode cX3_readOrder 17 = .ok (.aload_n 0, 1) := by decide +kernel
theorem dX3_readOrder_18 : decode cX3_readOrder 18 = .ok (.bipush 109, 2) := by decide +kernel
theorem dX3_readOrder_20 : decode cX3_readOrder 20 = .ok (.invokevirtual 29, 3) := by decide +kernel
theorem dX3_readOrder_23 : decode cX3_readOrder 23 = .ok (.ifCond .eq 8, 3) := by decide +kernel
theorem dX3_readOrder_26 : decode cX3_readOrder 26 = .ok (.aload_n 0, 1) := by decide +kernel
theorem dX3_readOrder_27 : decode cX3_readOrder 27 = .ok (.invokevirtual 40, 3) := by decide +kernel
theorem dX3_readOrder_30 : decode cX3_readOrder 30 = .ok (.ireturn, 1) := by decide +kernel
theorem dX3_readOrder_31 : decode cX3_readOrder 31 = .ok (.aload_n 0, 1) := by decide +kernel
theorem dX3_readOrder_32 : decode cX3_readOrder 32 = .ok (.bipush 99, 2) := by decide +kernel
theorem dX3_readOrder_34 : decode cX3_readOrder 34 = .ok (.invokevirtual 29, 3) := by decide +kernel
theorem dX3_readOrder_37 : decode cX3_readOrder 37 = .ok (.ifCond .ne 12, 3) := by decide +kernel
theorem dX3_readOrder_40 : decode cX3_readOrder 40 = .ok (.aload_n 0, 1) := by decide +kernel
theorem dX3_readOrder_41 : decode cX3_readOrder 41 = .ok (.bipush 120, 2) := by decide +kernel
theorem dX3_readOrder_43 : decode cX3_readOrder 43 = .ok (.invokevirtual 29, 3) := by decide +kernel
theorem dX3_readOrder_46 : decode cX3_readOrder 46 = .ok (.ifCond .eq 8, 3) := by decide +kernel
theorem dX3_readOrder_49 : decode cX3_readOrder 49 = .ok (.aload_n 0, 1) := by decide +kernel
theorem dX3_readOrder_50 : decode cX3_readOrder 50 = .ok (.invokevirtual 43, 3) := by decide +kernel
theorem dX3_readOrder_53 : decode cX3_readOrder 53 = .ok (.ireturn, 1) := by decide +kernel
theorem dX3_readOrder_54 : decode cX3_readOrder 54 = .ok (.aload_n 0, 1) := by decide +kernel
theorem dX3_readOrder_55 : decode cX3_readOrder 55 = .ok (.bipush 111, 2) := by decide +kernel
theorem dX3_readOrder_57 : decode cX3_readOrder 57 = .ok (.invokevirtual 29, 3) := by decide +kernel
theorem dX3_readOrder_60 : decode cX3_readOrder 60 = .ok (.ifCond .eq 30, 3) := by decide +kernel
theorem dX3_readOrder_63 : decode cX3_readOrder 63 = .ok (.aload_n 0, 1) := by decide +kernel
theorem dX3_readOrder_64 : decode cX3_readOrder 64 = .ok (.invokevirtual 43, 3) := by decide +kernel
theorem dX3_readOrder_67 : decode cX3_readOrder 67 = .ok (.ifCond .eq 23, 3) := by decide +kernel
theorem dX3_readOrder_70 : decode cX3_readOrder 70 = .ok (.aload_n 0, 1) := by decide +kernel
theorem dX3_readOrder_71 : decode cX3_readOrder 71 = .ok (.bipush 61, 2) := by decide +kernel
theorem dX3_readOrder_73 : decode cX3_readOrder 73 = .ok (.invokevirtual 29, 3) := by decide +kernel
theorem dX3_readOrder_76 : decode cX3_readOrder 76 = .ok (.ifCond .eq 14, 3) := by decide +kernel
theorem dX3_readOrder_79 : decode cX3_readOrder 79 = .ok (.aload_n 0, 1) := by decide +kernel
theorem dX3_readOrder_80 : decode cX3_readOrder 80 = .ok (.invokevirtual 46, 3) := by decide +kernel
theorem dX3_readOrder_83 : decode cX3_readOrder 83 = .ok (.ifCond .eq 7, 3) := by decide +kernel
theorem dX3_readOrder_86 : decode cX3_readOrder 86 = .ok (.iconst 1, 1) := by decide +kernel
theorem dX3_readOrder_87 : decode cX3_readOrder 87 = .ok (.goto 4, 3) := by decide +kernel
theorem dX3_readOrder_90 : decode cX3_readOrder 90 = .ok (.iconst 0, 1) := by decide +kernel
theorem dX3_readOrder_91 : decode cX3_readOrder 91 = .ok (.ireturn, 1) := by decide +kernel
theorem dX3_skip_0 : decode cX3_skip 0 = .ok (.aload_n 0, 1) := by decide +kernel
theorem dX3_skip_1 : decode cX3_skip 1 = .ok (.invokevirtual 33, 3) := by decide +kernel
theorem dX3_skip_4 : decode cX3_skip 4 = .ok (.iload_n 1, 1) := by decide +kernel
theorem dX3_skip_5 : decode cX3_skip 5 = .ok (.if_icmp .eq 5, 3) := by decide +kernel
theorem dX3_skip_8 : decode cX3_skip 8 = .ok (.iconst 0, 1) := by decide +kernel
theorem dX3_skip_9 : decode cX3_skip 9 = .ok (.ireturn, 1) := by decide +kernel
theorem dX3_skip_10 : decode cX3_skip 10 = .ok (.aload_n 0, 1) := by decide +kernel
theorem dX3_skip_11 : decode cX3_skip 11 = .ok (.dup, 1) := by decide +kernel
theorem dX3_skip_12 : decode cX3_skip 12 = .ok (.getfield 26, 3) := by decide +kernel
theorem dX3_skip_15 : decode cX3_skip 15 = .ok (.iconst 1, 1) := by decide +kernel
theorem dX3_skip_16 : decode cX3_skip 16 = .ok (.iadd, 1) := by decide +kernel
theorem dX3_skip_17 : decode cX3_skip 17 = .ok (.putfield 26, 3) := by decide +kernel
theorem dX3_skip_20 : decode cX3_skip 20 = .ok (.iconst 1, 1) := by decide +kernel
theorem dX3_skip_21 : decode cX3_skip 21 = .ok (.ireturn, 1) := by decide +kernel
theorem dX3_readHolderAndDate_0 : decode cX3_readHolderAndDate 0 = .ok (.aload_n 0, 1) := by decide +kernel
theorem dX3_readHolderAndDate_1 : decode cX3_readHolderAndDate 1 = .ok (.invokevirtual 49, 3) := by decide +kernel
theorem dX3_readHolderAndDate_4 : decode cX3_readHolderAndDate 4 = .ok (.ifCond .ne 5, 3) := by decide +kernel
theorem dX3_readHolderAndDate_7 : decode cX3_readHolderAndDate 7 = .ok (.iconst 0, 1) := by decide +kernel
theorem dX3_readHolderAndDate_8 : decode cX3_readHolderAndDate 8 = .ok (.ireturn, 1) := by decide +kernel
theorem dX3_readHolderAndDate_9 : decode cX3_readHolderAndDate 9 = .ok (.aload_n 0, 1) := by decide +kernel
theorem dX3_readHolderAndDate_10 : decode cX3_readHolderAndDate 10 = .ok (.aload_n 0, 1) := by decide +kernel
theorem dX3_readHolderAndDate_11 : decode cX3_readHolderAndDate 11 = .ok (.invokevirtual 52, 3) := by decide +kernel
theorem dX3_readHolderAndDate_14 : decode cX3_readHolderAndDate 14 = .ok (.putfield 56, 3) := by decide +kernel
theorem dX3_readHolderAndDate_17 : decode cX3_readHolderAndDate 17 = .ok (.aload_n 0, 1) := by decide +kernel
theorem dX3_readHolderAndDate_18 : decode cX3_readHolderAndDate 18 = .ok (.bipush 64, 2) := by decide +kernel
theorem dX3_readHolderAndDate_20 : decode cX3_readHolderAndDate 20 = .ok (.invokevirtual 29, 3) := by decide +kernel
theorem dX3_readHolderAndDate_23 : decode cX3_readHolderAndDate 23 = .ok (.ifCond .eq 10, 3) := by decide +kernel
theorem dX3_readHolderAndDate_26 : decode cX3_readHolderAndDate 26 = .ok (.aload_n 0, 1) := by decide +kernel
theorem dX3_readHolderAndDate_27 : decode cX3_readHolderAndDate 27 = .ok (.invokevirtual 49, 3) := by decide +kernel
theorem dX3_readHolderAndDate_30 : decode cX3_readHolderAndDate 30 = .ok (.ifCond .ne 5, 3) := by decide +kernel
theorem dX3_readHolderAndDate_33 : decode cX3_readHolderAndDate 33 = .ok (.iconst 0, 1) := by decide +kernel
theorem dX3_readHolderAndDate_34 : decode cX3_readHolderAndDate 34 = .ok (.ireturn, 1) := by decide +kernel
theorem dX3_readHolderAndDate_35 : decode cX3_readHolderAndDate 35 = .ok (.aload_n 0, 1) := by decide +kernel
theorem dX3_readHolderAndDate_36 : decode cX3_readHolderAndDate 36 = .ok (.aload_n 0, 1) := by decide +kernel
theorem dX3_readHolderAndDate_37 : decode cX3_readHolderAndDate 37 = .ok (.invokevirtual 52, 3) := by decide +kernel
theorem dX3_readHolderAndDate_40 : decode cX3_readHolderAndDate 40 = .ok (.putfield 59, 3) := by decide +kernel
theorem dX3_readHolderAndDate_43 : decode cX3_readHolderAndDate 43 = .ok (.iconst 1, 1) := by decide +kernel
theorem dX3_readHolderAndDate_44 : decode cX3_readHolderAndDate 44 = .ok (.ireturn, 1) := by decide +kernel
theorem dX3_readRight_0 : decode cX3_readRight 0 = .ok (.aload_n 0, 1) := by decide +kernel
theorem dX3_readRight_1 : decode cX3_readRight 1 = .ok (.invokevirtual 49, 3) := by decide +kernel
theorem dX3_readRight_4 : decode cX3_readRight 4 = .ok (.ifCond .ne 5, 3) := by decide +kernel
theorem dX3_readRight_7 : decode cX3_readRight 7 = .ok (.iconst 0, 1) := by decide +kernel
theorem dX3_readRight_8 : decode cX3_readRight 8 = .ok (.ireturn, 1) := by decide +kernel
theorem dX3_readRight_9 : decode cX3_readRight 9 = .ok (.aload_n 0, 1) := by decide +kernel
theorem dX3_readRight_10 : decode cX3_readRight 10 = .ok (.aload_n 0, 1) := by decide +kernel
theorem dX3_readRight_11 : decode cX3_readRight 11 = .ok (.invokevirtual 52, 3) := by decide +kernel
theorem dX3_readRight_14 : decode cX3_readRight 14 = .ok (.putfield 56, 3) := by decide +kernel
theorem dX3_readRight_17 : decode cX3_readRight 17 = .ok (.aload_n 0, 1) := by decide +kernel
theorem dX3_readRight_18 : decode cX3_readRight 18 = .ok (.getfield 56, 3) := by decide +kernel
theorem dX3_readRight_21 : decode cX3_readRight 21 = .ok (.ifCond .le 26, 3) := by decide +kernel
theorem dX3_readRight_24 : decode cX3_readRight 24 = .ok (.aload_n 0, 1) := by decide +kernel
theorem dX3_readRight_25 : decode cX3_readRight 25 = .ok (.invokevirtual 49, 3) := by decide +kernel
theorem dX3_readRight_28 : decode cX3_readRight 28 = .ok (.ifCond .eq 19, 3) := by decide +kernel
theorem dX3_readRight_31 : decode cX3_readRight 31 = .ok (.aload_n 0, 1) := by decide +kernel
theorem dX3_readRight_32 : decode cX3_readRight 32 = .ok (.aload_n 0, 1) := by decide +kernel
theorem dX3_readRight_33 : decode cX3_readRight 33 = .ok (.getfield 56, 3) := by decide +kernel
theorem dX3_readRight_36 : decode cX3_readRight 36 = .ok (.bipush 10, 2) := by decide +kernel
theorem dX3_readRight_38 : decode cX3_readRight 38 = .ok (.imul, 1) := by decide +kernel
theorem dX3_readRight_39 : decode cX3_readRight 39 = .ok (.aload_n 0, 1) := by decide +kernel
theorem dX3_readRight_40 : decode cX3_readRight 40 = .ok (.invokevirtual 52, 3) := by decide +kernel
theorem dX3_readRight_43 : decode cX3_readRight 43 = .ok (.iadd, 1) := by decide +kernel
theorem dX3_readRight_44 : decode cX3_readRight 44 = .ok (.putfield 56, 3) := by decide +kernel
theorem dX3_readRight_47 : decode cX3_readRight 47 = .ok (.iconst 1, 1) := by decide +kernel
theorem dX3_readRight_48 : decode cX3_readRight 48 = .ok (.ireturn, 1) := by decide +kernel
theorem dX3_readPrice_0 : decode cX3_readPrice 0 = .ok (.aload_n 0, 1) := by decide +kernel
theorem dX3_readPrice_1 : decode cX3_readPrice 1 = .ok (.invokevirtual 33, 3) := by decide +kernel
theorem dX3_readPrice_4 : decode cX3_readPrice 4 = .ok (.bipush 48, 2) := by decide +kernel
theorem dX3_readPrice_6 : decode cX3_readPrice 6 = .ok (.if_icmp .eq 10, 3) := by decide +kernel
theorem dX3_readPrice_9 : decode cX3_readPrice 9 = .ok (.aload_n 0, 1) := by decide +kernel
theorem dX3_readPrice_10 : decode cX3_readPrice 10 = .ok (.invokevirtual 49, 3) := by decide +kernel
theorem dX3_readPrice_13 : decode cX3_readPrice 13 = .ok (.ifCond .ne 5, 3) := by decide +kernel
theorem dX3_readPrice_16 : decode cX3_readPrice 16 = .ok (.iconst 0, 1) := by decide +kernel
theorem dX3_readPrice_17 : decode cX3_readPrice 17 = .ok (.ireturn, 1) := by decide +kernel
theorem dX3_readPrice_18 : decode cX3_readPrice 18 = .ok (.aload_n 0, 1) := by decide +kernel
theorem dX3_readPrice_19 : decode cX3_readPrice 19 = .ok (.iconst 0, 1) := by decide +kernel
theorem dX3_readPrice_20 : decode cX3_readPrice 20 = .ok (.putfield 59, 3) := by decide +kernel
theorem dX3_readPrice_23 : decode cX3_readPrice 23 = .ok (.iconst 0, 1) := by decide +kernel
theorem dX3_readPrice_24 : decode cX3_readPrice 24 = .ok (.istore_n 1, 1) := by decide +kernel
theorem dX3_readPrice_25 : decode cX3_readPrice 25 = .ok (.iload_n 1, 1) := by decide +kernel
theorem dX3_readPrice_26 : decode cX3_readPrice 26 = .ok (.iconst 5, 1) := by decide +kernel
theorem dX3_readPrice_27 : decode cX3_readPrice 27 = .ok (.if_icmp .ge 32, 3) := by decide +kernel
theorem dX3_readPrice_30 : decode cX3_readPrice 30 = .ok (.aload_n 0, 1) := by decide +kernel
theorem dX3_readPrice_31 : decode cX3_readPrice 31 = .ok (.invokevirtual 49, 3) := by decide +kernel
theorem dX3_readPrice_34 : decode cX3_readPrice 34 = .ok (.ifCond .eq 25, 3) := by decide +kernel
theorem dX3_readPrice_37 : decode cX3_readPrice 37 = .ok (.aload_n 0, 1) := by decide +kernel
theorem dX3_readPrice_38 : decode cX3_readPrice 38 = .ok (.aload_n 0, 1) := by decide +kernel
theorem dX3_readPrice_39 : decode cX3_readPrice 39 = .ok (.getfield 59, 3) := by decide +kernel
theorem dX3_readPrice_42 : decode cX3_readPrice 42 = .ok (.bipush 10, 2) := by decide +kernel
theorem dX3_readPrice_44 : decode cX3_readPrice 44 = .ok (.imul, 1) := by decide +kernel
theorem dX3_readPrice_45 : decode cX3_readPrice 45 = .ok (.aload_n 0, 1) := by decide +kernel
theorem dX3_readPrice_46 : decode cX3_readPrice 46 = .ok (.invokevirtual 52, 3) := by decide +kernel
theorem dX3_readPrice_49 : decode cX3_readPrice 49 = .ok (.iadd, 1) := by decide +kernel
theorem dX3_readPrice_50 : decode cX3_readPrice 50 = .ok (.putfield 59, 3) := by decide +kernel
theorem dX3_readPrice_53 : decode cX3_readPrice 53 = .ok (.iinc 1 1, 3) := by decide +kernel
theorem dX3_readPrice_56 : decode cX3_readPrice 56 = .ok (.goto (-31), 3) := by decide +kernel
theorem dX3_readPrice_59 : decode cX3_readPrice 59 = .ok (.iconst 1, 1) := by decide +kernel
theorem dX3_readPrice_60 : decode cX3_readPrice 60 = .ok (.ireturn, 1) := by decide +kernel
theorem dX3_isDigitHere_0 : decode cX3_isDigitHere 0 = .ok (.aload_n 0, 1) := by decide +kernel
theorem dX3_isDigitHere_1 : decode cX3_isDigitHere 1 = .ok (.invokevirtual 33, 3) := by decide +kernel
theorem dX3_isDigitHere_4 : decode cX3_isDigitHere 4 = .ok (.bipush 48, 2) := by decide +kernel
theorem dX3_isDigitHere_6 : decode cX3_isDigitHere 6 = .ok (.if_icmp .lt 16, 3) := by decide +kernel
theorem dX3_isDigitHere_9 : decode cX3_isDigitHere 9 = .ok (.aload_n 0, 1) := by decide +kernel
theorem dX3_isDigitHere_10 : decode cX3_isDigitHere 10 = .ok (.invokevirtual 33, 3) := by decide +kernel
theorem dX3_isDigitHere_13 : decode cX3_isDigitHere 13 = .ok (.bipush 57, 2) := by decide +kernel
theorem dX3_isDigitHere_15 : decode cX3_isDigitHere 15 = .ok (.if_icmp .gt 7, 3) := by decide +kernel
theorem dX3_isDigitHere_18 : decode cX3_isDigitHere 18 = .ok (.iconst 1, 1) := by decide +kernel
theorem dX3_isDigitHere_19 : decode cX3_isDigitHere 19 = .ok (.goto 4, 3) := by decide +kernel
theorem dX3_isDigitHere_22 : decode cX3_isDigitHere 22 = .ok (.iconst 0, 1) := by decide +kernel
theorem dX3_isDigitHere_23 : decode cX3_isDigitHere 23 = .ok (.ireturn, 1) := by decide +kernel
theorem dX3_takeDigit_0 : decode cX3_takeDigit 0 = .ok (.aload_n 0, 1) := by decide +kernel
theorem dX3_takeDigit_1 : decode cX3_takeDigit 1 = .ok (.invokevirtual 33, 3) := by decide +kernel
theorem dX3_takeDigit_4 : decode cX3_takeDigit 4 = .ok (.bipush 48, 2) := by decide +kernel
theorem dX3_takeDigit_6 : decode cX3_takeDigit 6 = .ok (.isub, 1) := by decide +kernel
theorem dX3_takeDigit_7 : decode cX3_takeDigit 7 = .ok (.istore_n 1, 1) := by decide +kernel
theorem dX3_takeDigit_8 : decode cX3_takeDigit 8 = .ok (.aload_n 0, 1) := by decide +kernel
theorem dX3_takeDigit_9 : decode cX3_takeDigit 9 = .ok (.dup, 1) := by decide +kernel
theorem dX3_takeDigit_10 : decode cX3_takeDigit 10 = .ok (.getfield 26, 3) := by decide +kernel
theorem dX3_takeDigit_13 : decode cX3_takeDigit 13 = .ok (.iconst 1, 1) := by decide +kernel
theorem dX3_takeDigit_14 : decode cX3_takeDigit 14 = .ok (.iadd, 1) := by decide +kernel
theorem dX3_takeDigit_15 : decode cX3_takeDigit 15 = .ok (.putfield 26, 3) := by decide +kernel
theorem dX3_takeDigit_18 : decode cX3_takeDigit 18 = .ok (.iload_n 1, 1) := by decide +kernel
theorem dX3_takeDigit_19 : decode cX3_takeDigit 19 = .ok (.ireturn, 1) := by decide +kernel
theorem dX3_here_0 : decode cX3_here 0 = .ok (.aload_n 0, 1) := by decide +kernel
theorem dX3_here_1 : decode cX3_here 1 = .ok (.getfield 26, 3) := by decide +kernel
theorem dX3_here_4 : decode cX3_here 4 = .ok (.ifCond .lt 38, 3) := by decide +kernel
theorem dX3_here_7 : decode cX3_here 7 = .ok (.aload_n 0, 1) := by decide +kernel
theorem dX3_here_8 : decode cX3_here 8 = .ok (.getfield 26, 3) := by decide +kernel
theorem dX3_here_11 : decode cX3_here 11 = .ok (.aload_n 0, 1) := by decide +kernel
theorem dX3_here_12 : decode cX3_here 12 = .ok (.getfield 15, 3) := by decide +kernel
theorem dX3_here_15 : decode cX3_here 15 = .ok (.if_icmp .ge 27, 3) := by decide +kernel
theorem dX3_here_18 : decode cX3_here 18 = .ok (.aload_n 0, 1) := by decide +kernel
theorem dX3_here_19 : decode cX3_here 19 = .ok (.getfield 26, 3) := by decide +kernel
theorem dX3_here_22 : decode cX3_here 22 = .ok (.aload_n 0, 1) := by decide +kernel
theorem dX3_here_23 : decode cX3_here 23 = .ok (.getfield 9, 3) := by decide +kernel
theorem dX3_here_26 : decode cX3_here 26 = .ok (.arraylength, 1) := by decide +kernel
theorem dX3_here_27 : decode cX3_here 27 = .ok (.if_icmp .ge 15, 3) := by decide +kernel
theorem dX3_here_30 : decode cX3_here 30 = .ok (.aload_n 0, 1) := by decide +kernel
theorem dX3_here_31 : decode cX3_here 31 = .ok (.getfield 9, 3) := by decide +kernel
theorem dX3_here_34 : decode cX3_here 34 = .ok (.aload_n 0, 1) := by decide +kernel
theorem dX3_here_35 : decode cX3_here 35 = .ok (.getfield 26, 3) := by decide +kernel
theorem dX3_here_38 : decode cX3_here 38 = .ok (.caload, 1) := by decide +kernel
theorem dX3_here_39 : decode cX3_here 39 = .ok (.goto 4, 3) := by decide +kernel
theorem dX3_here_42 : decode cX3_here 42 = .ok (.iconst 0, 1) := by decide +kernel
theorem dX3_here_43 : decode cX3_here 43 = .ok (.ireturn, 1) := by decide +kernel
theorem dX4_init_0 : decode cX4_init 0 = .ok (.aload_n 0, 1) := by decide +kernel
theorem dX4_init_1 : decode cX4_init 1 = .ok (.invokespecial 3, 3) := by decide +kernel
theorem dX4_init_4 : decode cX4_init 4 = .ok (.aload_n 0, 1) := by decide +kernel
theorem dX4_init_5 : decode cX4_init 5 = .ok (.iload_n 1, 1) := by decide +kernel
theorem dX4_init_6 : decode cX4_init 6 = .ok (.putfield 9, 3) := by decide +kernel
theorem dX4_init_9 : decode cX4_init 9 = .ok (.return_, 1) := by decide +kernel
theorem dX4_copyFrom_0 : decode cX4_copyFrom 0 = .ok (.aload_n 0, 1) := by decide +kernel
theorem dX4_copyFrom_1 : decode cX4_copyFrom 1 = .ok (.aload_n 1, 1) := by decide +kernel
theorem dX4_copyFrom_2 : decode cX4_copyFrom 2 = .ok (.getfield 15, 3) := by decide +kernel
theorem dX4_copyFrom_5 : decode cX4_copyFrom 5 = .ok (.putfield 15, 3) := by decide +kernel
theorem dX4_copyFrom_8 : decode cX4_copyFrom 8 = .ok (.aload_n 0, 1) := by decide +kernel
theorem dX4_copyFrom_9 : decode cX4_copyFrom 9 = .ok (.aload_n 1, 1) := by decide +kernel
theorem dX4_copyFrom_10 : decode cX4_copyFrom 10 = .ok (.getfield 18, 3) := by decide +kernel
theorem dX4_copyFrom_13 : decode cX4_copyFrom 13 = .ok (.putfield 18, 3) := by decide +kernel
theorem dX4_copyFrom_16 : decode cX4_copyFrom 16 = .ok (.aload_n 0, 1) := by decide +kernel
theorem dX4_copyFrom_17 : decode cX4_copyFrom 17 = .ok (.aload_n 1, 1) := by decide +kernel
theorem dX4_copyFrom_18 : decode cX4_copyFrom 18 = .ok (.getfield 21, 3) := by decide +kernel
theorem dX4_copyFrom_21 : decode cX4_copyFrom 21 = .ok (.putfield 21, 3) := by decide +kernel
theorem dX4_copyFrom_24 : decode cX4_copyFrom 24 = .ok (.aload_n 0, 1) := by decide +kernel
theorem dX4_copyFrom_25 : decode cX4_copyFrom 25 = .ok (.aload_n 1, 1) := by decide +kernel
theorem dX4_copyFrom_26 : decode cX4_copyFrom 26 = .ok (.getfield 24, 3) := by decide +kernel
theorem dX4_copyFrom_29 : decode cX4_copyFrom 29 = .ok (.putfield 24, 3) := by decide +kernel
theorem dX4_copyFrom_32 : decode cX4_copyFrom 32 = .ok (.aload_n 0, 1) := by decide +kernel
theorem dX4_copyFrom_33 : decode cX4_copyFrom 33 = .ok (.aload_n 1, 1) := by decide +kernel
theorem dX4_copyFrom_34 : decode cX4_copyFrom 34 = .ok (.getfield 27, 3) := by decide +kernel
theorem dX4_copyFrom_37 : decode cX4_copyFrom 37 = .ok (.putfield 27, 3) := by decide +kernel
theorem dX4_copyFrom_40 : decode cX4_copyFrom 40 = .ok (.aload_n 0, 1) := by decide +kernel
theorem dX4_copyFrom_41 : decode cX4_copyFrom 41 = .ok (.aload_n 1, 1) := by decide +kernel
theorem dX4_copyFrom_42 : decode cX4_copyFrom 42 = .ok (.getfield 30, 3) := by decide +kernel
theorem dX4_copyFrom_45 : decode cX4_copyFrom 45 = .ok (.putfield 30, 3) := by decide +kernel
theorem dX4_copyFrom_48 : decode cX4_copyFrom 48 = .ok (.aload_n 0, 1) := by decide +kernel
theorem dX4_copyFrom_49 : decode cX4_copyFrom 49 = .ok (.aload_n 1, 1) := by decide +kernel
theorem dX4_copyFrom_50 : decode cX4_copyFrom 50 = .ok (.getfield 33, 3) := by decide +kernel
theorem dX4_copyFrom_53 : decode cX4_copyFrom 53 = .ok (.putfield 33, 3) := by decide +kernel
theorem dX4_copyFrom_56 : decode cX4_copyFrom 56 = .ok (.return_, 1) := by decide +kernel
theorem dX4_isHeldOrOffered_0 : decode cX4_isHeldOrOffered 0 = .ok (.aload_n 0, 1) := by decide +kernel
theorem dX4_isHeldOrOffered_1 : decode cX4_isHeldOrOffered 1 = .ok (.getfield 24, 3) := by decide +kernel
theorem dX4_isHeldOrOffered_4 : decode cX4_isHeldOrOffered 4 = .ok (.ifCond .eq 11, 3) := by decide +kernel
theorem dX4_isHeldOrOffered_7 : decode cX4_isHeldOrOffered 7 = .ok (.aload_n 0, 1) := by decide +kernel
theorem dX4_isHeldOrOffered_8 : decode cX4_isHeldOrOffered 8 = .ok (.getfield 24, 3) := by decide +kernel
theorem dX4_isHeldOrOffered_11 : decode cX4_isHeldOrOffered 11 = .ok (.iconst 1, 1) := by decide +kernel
theorem dX4_isHeldOrOffered_12 : decode cX4_isHeldOrOffered 12 = .ok (.if_icmp .ne 7, 3) := by decide +kernel
theorem dX4_isHeldOrOffered_15 : decode cX4_isHeldOrOffered 15 = .ok (.iconst 1, 1) := by decide +kernel
theorem dX4_isHeldOrOffered_16 : decode cX4_isHeldOrOffered 16 = .ok (.goto 4, 3) := by decide +kernel
theorem dX4_isHeldOrOffered_19 : decode cX4_isHeldOrOffered 19 = .ok (.iconst 0, 1) := by decide +kernel
theorem dX4_isHeldOrOffered_20 : decode cX4_isHeldOrOffered 20 = .ok (.ireturn, 1) := by decide +kernel
theorem dX4_turnTo_0 : decode cX4_turnTo 0 = .ok (.aload_n 0, 1) := by decide +kernel
theorem dX4_turnTo_1 : decode cX4_turnTo 1 = .ok (.iload_n 1, 1) := by decide +kernel
theorem dX4_turnTo_2 : decode cX4_turnTo 2 = .ok (.putfield 24, 3) := by decide +kernel
theorem dX4_turnTo_5 : decode cX4_turnTo 5 = .ok (.aload_n 0, 1) := by decide +kernel
theorem dX4_turnTo_6 : decode cX4_turnTo 6 = .ok (.iload_n 2, 1) := by decide +kernel
theorem dX4_turnTo_7 : decode cX4_turnTo 7 = .ok (.putfield 27, 3) := by decide +kernel
theorem dX4_turnTo_10 : decode cX4_turnTo 10 = .ok (.return_, 1) := by decide +kernel
theorem dX5_init_0 : decode cX5_init 0 = .ok (.aload_n 0, 1) := by decide +kernel
theorem dX5_init_1 : decode cX5_init 1 = .ok (.invokespecial 3, 3) := by decide +kernel
theorem dX5_init_4 : decode cX5_init 4 = .ok (.aload_n 0, 1) := by decide +kernel
theorem dX5_init_5 : decode cX5_init 5 = .ok (.getstatic 9, 3) := by decide +kernel
theorem dX5_init_8 : decode cX5_init 8 = .ok (.invokevirtual 13, 3) := by decide +kernel
theorem dX5_init_11 : decode cX5_init 11 = .ok (.checkcast 14, 3) := by decide +kernel
theorem dX5_init_14 : decode cX5_init 14 = .ok (.putfield 18, 3) := by decide +kernel
theorem dX5_init_17 : decode cX5_init 17 = .ok (.aload_n 0, 1) := by decide +kernel
theorem dX5_init_18 : decode cX5_init 18 = .ok (.getstatic 23, 3) := by decide +kernel
theorem dX5_init_21 : decode cX5_init 21 = .ok (.invokevirtual 13, 3) := by decide +kernel
theorem dX5_init_24 : decode cX5_init 24 = .ok (.checkcast 14, 3) := by decide +kernel
theorem dX5_init_27 : decode cX5_init 27 = .ok (.putfield 26, 3) := by decide +kernel
theorem dX5_init_30 : decode cX5_init 30 = .ok (.aload_n 0, 1) := by decide +kernel
theorem dX5_init_31 : decode cX5_init 31 = .ok (.getstatic 29, 3) := by decide +kernel
theorem dX5_init_34 : decode cX5_init 34 = .ok (.invokevirtual 13, 3) := by decide +kernel
theorem dX5_init_37 : decode cX5_init 37 = .ok (.checkcast 14, 3) := by decide +kernel
theorem dX5_init_40 : decode cX5_init 40 = .ok (.putfield 32, 3) := by decide +kernel
theorem dX5_init_43 : decode cX5_init 43 = .ok (.aload_n 0, 1) := by decide +kernel
theorem dX5_init_44 : decode cX5_init 44 = .ok (.bipush 10, 2) := by decide +kernel
theorem dX5_init_46 : decode cX5_init 46 = .ok (.anewarray 35, 3) := by decide +kernel
theorem dX5_init_49 : decode cX5_init 49 = .ok (.putfield 37, 3) := by decide +kernel
theorem dX5_init_52 : decode cX5_init 52 = .ok (.aload_n 0, 1) := by decide +kernel
theorem dX5_init_53 : decode cX5_init 53 = .ok (.bipush 60, 2) := by decide +kernel
theorem dX5_init_55 : decode cX5_init 55 = .ok (.anewarray 41, 3) := by decide +kernel
theorem dX5_init_58 : decode cX5_init 58 = .ok (.putfield 43, 3) := by decide +kernel
theorem dX5_init_61 : decode cX5_init 61 = .ok (.aload_n 0, 1) := by decide +kernel
theorem dX5_init_62 : decode cX5_init 62 = .ok (.bipush 10, 2) := by decide +kernel
theorem dX5_init_64 : decode cX5_init 64 = .ok (.newarray .int, 2) := by decide +kernel
theorem dX5_init_66 : decode cX5_init 66 = .ok (.putfield 47, 3) := by decide +kernel
theorem dX5_init_69 : decode cX5_init 69 = .ok (.aload_n 0, 1) := by decide +kernel
theorem dX5_init_70 : decode cX5_init 70 = .ok (.bipush 10, 2) := by decide +kernel
theorem dX5_init_72 : decode cX5_init 72 = .ok (.anewarray 50, 3) := by decide +kernel
theorem dX5_init_75 : decode cX5_init 75 = .ok (.putfield 52, 3) := by decide +kernel
theorem dX5_init_78 : decode cX5_init 78 = .ok (.iconst 0, 1) := by decide +kernel
theorem dX5_init_79 : decode cX5_init 79 = .ok (.istore_n 1, 1) := by decide +kernel
theorem dX5_init_80 : decode cX5_init 80 = .ok (.iload_n 1, 1) := by decide +kernel
theorem dX5_init_81 : decode cX5_init 81 = .ok (.aload_n 0, 1) := by decide +kernel
theorem dX5_init_82 : decode cX5_init 82 = .ok (.getfield 37, 3) := by decide +kernel
theorem dX5_init_85 : decode cX5_init 85 = .ok (.arraylength, 1) := by decide +kernel
theorem dX5_init_86 : decode cX5_init 86 = .ok (.if_icmp .ge 23, 3) := by decide +kernel
theorem dX5_init_89 : decode cX5_init 89 = .ok (.aload_n 0, 1) := by decide +kernel
theorem dX5_init_90 : decode cX5_init 90 = .ok (.getfield 37, 3) := by decide +kernel
theorem dX5_init_93 : decode cX5_init 93 = .ok (.iload_n 1, 1) := by decide +kernel
theorem dX5_init_94 : decode cX5_init 94 = .ok (.new 35, 3) := by decide +kernel
theorem dX5_init_97 : decode cX5_init 97 = .ok (.dup, 1) := by decide +kernel
theorem dX5_init_98 : decode cX5_init 98 = .ok (.iload_n 1, 1) := by decide +kernel
theorem dX5_init_99 : decode cX5_init 99 = .ok (.invokespecial 56, 3) := by decide +kernel
theorem dX5_init_102 : decode cX5_init 102 = .ok (.aastore, 1) := by decide +kernel
theorem dX5_init_103 : decode cX5_init 103 = .ok (.iinc 1 1, 3) := by decide +kernel
theorem dX5_init_106 : decode cX5_init 106 = .ok (.goto (-26), 3) := by decide +kernel
theorem dX5_init_109 : decode cX5_init 109 = .ok (.iconst 0, 1) := by decide +kernel
theorem dX5_init_110 : decode cX5_init 110 = .ok (.istore_n 1, 1) := by decide +kernel
theorem dX5_init_111 : decode cX5_init 111 = .ok (.iload_n 1, 1) := by decide +kernel
theorem dX5_init_112 : decode cX5_init 112 = .ok (.aload_n 0, 1) := by decide +kernel
theorem dX5_init_113 : decode cX5_init 113 = .ok (.getfield 43, 3) := by decide +kernel
theorem dX5_init_116 : decode cX5_init 116 = .ok (.arraylength, 1) := by decide +kernel
theorem dX5_init_117 : decode cX5_init 117 = .ok (.if_icmp .ge 23, 3) := by decide +kernel
theorem dX5_init_120 : decode cX5_init 120 = .ok (.aload_n 0, 1) := by decide +kernel
theorem dX5_init_121 : decode cX5_init 121 = .ok (.getfield 43, 3) := by decide +kernel
theorem dX5_init_124 : decode cX5_init 124 = .ok (.iload_n 1, 1) := by decide +kernel
theorem dX5_init_125 : decode cX5_init 125 = .ok (.new 41, 3) := by decide +kernel
theorem dX5_init_128 : decode cX5_init 128 = .ok (.dup, 1) := by decide +kernel
theorem dX5_init_129 : decode cX5_init 129 = .ok (.iload_n 1, 1) := by decide +kernel
theorem dX5_init_130 : decode cX5_init 130 = .ok (.invokespecial 59, 3) := by decide +kernel
theorem dX5_init_133 : decode cX5_init 133 = .ok (.aastore, 1) := by decide +kernel
theorem dX5_init_134 : decode cX5_init 134 = .ok (.iinc 1 1, 3) := by decide +kernel
theorem dX5_init_137 : decode cX5_init 137 = .ok (.goto (-26), 3) := by decide +kernel
theorem dX5_init_140 : decode cX5_init 140 = .ok (.iconst 0, 1) := by decide +kernel
theorem dX5_init_141 : decode cX5_init 141 = .ok (.istore_n 1, 1) := by decide +kernel
theorem dX5_init_142 : decode cX5_init 142 = .ok (.iload_n 1, 1) := by decide +kernel
theorem dX5_init_143 : decode cX5_init 143 = .ok (.aload_n 0, 1) := by decide +kernel
theorem dX5_init_144 : decode cX5_init 144 = .ok (.getfield 52, 3) := by decide +kernel
theorem dX5_init_147 : decode cX5_init 147 = .ok (.arraylength, 1) := by decide +kernel
theorem dX5_init_148 : decode cX5_init 148 = .ok (.if_icmp .ge 22, 3) := by decide +kernel
theorem dX5_init_151 : decode cX5_init 151 = .ok (.aload_n 0, 1) := by decide +kernel
theorem dX5_init_152 : decode cX5_init 152 = .ok (.getfield 52, 3) := by decide +kernel
theorem dX5_init_155 : decode cX5_init 155 = .ok (.iload_n 1, 1) := by decide +kernel
theorem dX5_init_156 : decode cX5_init 156 = .ok (.new 50, 3) := by decide +kernel
theorem dX5_init_159 : decode cX5_init 159 = .ok (.dup, 1) := by decide +kernel
theorem dX5_init_160 : decode cX5_init 160 = .ok (.invokespecial 60, 3) := by decide +kernel
theorem dX5_init_163 : decode cX5_init 163 = .ok (.aastore, 1) := by decide +kernel
theorem dX5_init_164 : decode cX5_init 164 = .ok (.iinc 1 1, 3) := by decide +kernel
theorem dX5_init_167 : decode cX5_init 167 = .ok (.goto (-25), 3) := by decide +kernel
theorem dX5_init_170 : decode cX5_init 170 = .ok (.return_, 1) := by decide +kernel
theorem dX5_copyFrom_0 : decode cX5_copyFrom 0 = .ok (.aload_n 0, 1) := by decide +kernel
theorem dX5_copyFrom_1 : decode cX5_copyFrom 1 = .ok (.aload_n 1, 1) := by decide +kernel
theorem dX5_copyFrom_2 : decode cX5_copyFrom 2 = .ok (.getfield 61, 3) := by decide +kernel
theorem dX5_copyFrom_5 : decode cX5_copyFrom 5 = .ok (.putfield 61, 3) := by decide +kernel
theorem dX5_copyFrom_8 : decode cX5_copyFrom 8 = .ok (.aload_n 1, 1) := by decide +kernel
theorem dX5_copyFrom_9 : decode cX5_copyFrom 9 = .ok (.getfield 18, 3) := by decide +kernel
theorem dX5_copyFrom_12 : decode cX5_copyFrom 12 = .ok (.aload_n 0, 1) := by decide +kernel
theorem dX5_copyFrom_13 : decode cX5_copyFrom 13 = .ok (.getfield 18, 3) := by decide +kernel
theorem dX5_copyFrom_16 : decode cX5_copyFrom 16 = .ok (.invokestatic 65, 3) := by decide +kernel
theorem dX5_copyFrom_19 : decode cX5_copyFrom 19 = .ok (.aload_n 1, 1) := by decide +kernel
theorem dX5_copyFrom_20 : decode cX5_copyFrom 20 = .ok (.getfield 26, 3) := by decide +kernel
theorem dX5_copyFrom_23 : decode cX5_copyFrom 23 = .ok (.aload_n 0, 1) := by decide +kernel
theorem dX5_copyFrom_24 : decode cX5_copyFrom 24 = .ok (.getfield 26, 3) := by decide +kernel
theorem dX5_copyFrom_27 : decode cX5_copyFrom 27 = .ok (.invokestatic 65, 3) := by decide +kernel
theorem dX5_copyFrom_30 : decode cX5_copyFrom 30 = .ok (.aload_n 1, 1) := by decide +kernel
theorem dX5_copyFrom_31 : decode cX5_copyFrom 31 = .ok (.getfield 32, 3) := by decide +kernel
theorem dX5_copyFrom_34 : decode cX5_copyFrom 34 = .ok (.aload_n 0, 1) := by decide +kernel
theorem dX5_copyFrom_35 : decode cX5_copyFrom 35 = .ok (.getfield 32, 3) := by decide +kernel
theorem dX5_copyFrom_38 : decode cX5_copyFrom 38 = .ok (.invokestatic 65, 3) := by decide +kernel
theorem dX5_copyFrom_41 : decode cX5_copyFrom 41 = .ok (.aload_n 0, 1) := by decide +kernel
theorem dX5_copyFrom_42 : decode cX5_copyFrom 42 = .ok (.aload_n 1, 1) := by decide +kernel
theorem dX5_copyFrom_43 : decode cX5_copyFrom 43 = .ok (.getfield 69, 3) := by decide +kernel
theorem dX5_copyFrom_46 : decode cX5_copyFrom 46 = .ok (.putfield 69, 3) := by decide +kernel
theorem dX5_copyFrom_49 : decode cX5_copyFrom 49 = .ok (.iconst 0, 1) := by decide +kernel
theorem dX5_copyFrom_50 : decode cX5_copyFrom 50 = .ok (.istore_n 2, 1) := by decide +kernel
theorem dX5_copyFrom_51 : decode cX5_copyFrom 51 = .ok (.iload_n 2, 1) := by decide +kernel
theorem dX5_copyFrom_52 : decode cX5_copyFrom 52 = .ok (.aload_n 0, 1) := by decide +kernel
theorem dX5_copyFrom_53 : decode cX5_copyFrom 53 = .ok (.getfield 37, 3) := by decide +kernel
theorem dX5_copyFrom_56 : decode cX5_copyFrom 56 = .ok (.arraylength, 1) := by decide +kernel
theorem dX5_copyFrom_57 : decode cX5_copyFrom 57 = .ok (.if_icmp .ge 24, 3) := by decide +kernel
theorem dX5_copyFrom_60 : decode cX5_copyFrom 60 = .ok (.aload_n 0, 1) := by decide +kernel
theorem dX5_copyFrom_61 : decode cX5_copyFrom 61 = .ok (.getfield 37, 3) := by decide +kernel
theorem dX5_copyFrom_64 : decode cX5_copyFrom 64 = .ok (.iload_n 2, 1) := by decide +kernel
theorem dX5_copyFrom_65 : decode cX5_copyFrom 65 = .ok (.aaload, 1) := by decide +kernel
theorem dX5_copyFrom_66 : decode cX5_copyFrom 66 = .ok (.aload_n 1, 1) := by decide +kernel
theorem dX5_copyFrom_67 : decode cX5_copyFrom 67 = .ok (.getfield 37, 3) := by decide +kernel
theorem dX5_copyFrom_70 : decode cX5_copyFrom 70 = .ok (.iload_n 2, 1) := by decide +kernel
theorem dX5_copyFrom_71 : decode cX5_copyFrom 71 = .ok (.aaload, 1) := by decide +kernel
theorem dX5_copyFrom_72 : decode cX5_copyFrom 72 = .ok (.invokevirtual 72, 3) := by decide +kernel
theorem dX5_copyFrom_75 : decode cX5_copyFrom 75 = .ok (.iinc 2 1, 3) := by decide +kernel
theorem dX5_copyFrom_78 : decode cX5_copyFrom 78 = .ok (.goto (-27), 3) := by decide +kernel
theorem dX5_copyFrom_81 : decode cX5_copyFrom 81 = .ok (.aload_n 0, 1) := by decide +kernel
theorem dX5_copyFrom_82 : decode cX5_copyFrom 82 = .ok (.aload_n 1, 1) := by decide +kernel
theorem dX5_copyFrom_83 : decode cX5_copyFrom 83 = .ok (.getfield 76, 3) := by decide +kernel
theorem dX5_copyFrom_86 : decode cX5_copyFrom 86 = .ok (.putfield 76, 3) := by decide +kernel
theorem dX5_copyFrom_89 : decode cX5_copyFrom 89 = .ok (.iconst 0, 1) := by decide +kernel
theorem dX5_copyFrom_90 : decode cX5_copyFrom 90 = .ok (.istore_n 2, 1) := by decide +kernel
theorem dX5_copyFrom_91 : decode cX5_copyFrom 91 = .ok (.iload_n 2, 1) := by decide +kernel
theorem dX5_copyFrom_92 : decode cX5_copyFrom 92 = .ok (.aload_n 0, 1) := by decide +kernel
theorem dX5_copyFrom_93 : decode cX5_copyFrom 93 = .ok (.getfield 43, 3) := by decide +kernel
theorem dX5_copyFrom_96 : decode cX5_copyFrom 96 = .ok (.arraylength, 1) := by decide +kernel
theorem dX5_copyFrom_97 : decode cX5_copyFrom 97 = .ok (.if_icmp .ge 24, 3) := by decide +kernel
theorem dX5_copyFrom_100 : decode cX5_copyFrom 100 = .ok (.aload_n 0, 1) := by decide +kernel
theorem dX5_copyFrom_101 : decode cX5_copyFrom 101 = .ok (.getfield 43, 3) := by decide +kernel
theorem dX5_copyFrom_104 : decode cX5_copyFrom 104 = .ok (.iload_n 2, 1) := by decide +kernel
theorem dX5_copyFrom_105 : decode cX5_copyFrom 105 = .ok (.aaload, 1) := by decide +kernel
theorem dX5_copyFrom_106 : decode cX5_copyFrom 106 = .ok (.aload_n 1, 1) := by decide +kernel
theorem dX5_copyFrom_107 : decode cX5_copyFrom 107 = .ok (.getfield 43, 3) := by decide +kernel
theorem dX5_copyFrom_110 : decode cX5_copyFrom 110 = .ok (.iload_n 2, 1) := by decide +kernel
theorem dX5_copyFrom_111 : decode cX5_copyFrom 111 = .ok (.aaload, 1) := by decide +kernel
theorem dX5_copyFrom_112 : decode cX5_copyFrom 112 = .ok (.invokevirtual 79, 3) := by decide +kernel
theorem dX5_copyFrom_115 : decode cX5_copyFrom 115 = .ok (.iinc 2 1, 3) := by decide +kernel
theorem dX5_copyFrom_118 : decode cX5_copyFrom 118 = .ok (.goto (-27), 3) := by decide +kernel
theorem dX5_copyFrom_121 : decode cX5_copyFrom 121 = .ok (.aload_n 1, 1) := by decide +kernel
theorem dX5_copyFrom_122 : decode cX5_copyFrom 122 = .ok (.getfield 47, 3) := by decide +kernel
theorem dX5_copyFrom_125 : decode cX5_copyFrom 125 = .ok (.aload_n 0, 1) := by decide +kernel
theorem dX5_copyFrom_126 : decode cX5_copyFrom 126 = .ok (.getfield 47, 3) := by decide +kernel
theorem dX5_copyFrom_129 : decode cX5_copyFrom 129 = .ok (.invokestatic 65, 3) := by decide +kernel
theorem dX5_copyFrom_132 : decode cX5_copyFrom 132 = .ok (.aload_n 0, 1) := by decide +kernel
theorem dX5_copyFrom_133 : decode cX5_copyFrom 133 = .ok (.aload_n 1, 1) := by decide +kernel
theorem dX5_copyFrom_134 : decode cX5_copyFrom 134 = .ok (.getfield 82, 3) := by decide +kernel
theorem dX5_copyFrom_137 : decode cX5_copyFrom 137 = .ok (.putfield 82, 3) := by decide +kernel
theorem dX5_copyFrom_140 : decode cX5_copyFrom 140 = .ok (.aload_n 0, 1) := by decide +kernel
theorem dX5_copyFrom_141 : decode cX5_copyFrom 141 = .ok (.aload_n 1, 1) := by decide +kernel
theorem dX5_copyFrom_142 : decode cX5_copyFrom 142 = .ok (.getfield 85, 3) := by decide +kernel
theorem dX5_copyFrom_145 : decode cX5_copyFrom 145 = .ok (.putfield 85, 3) := by decide +kernel
theorem dX5_copyFrom_148 : decode cX5_copyFrom 148 = .ok (.iconst 0, 1) := by decide +kernel
theorem dX5_copyFrom_149 : decode cX5_copyFrom 149 = .ok (.istore_n 2, 1) := by decide +kernel
theorem dX5_copyFrom_150 : decode cX5_copyFrom 150 = .ok (.iload_n 2, 1) := by decide +kernel
theorem dX5_copyFrom_151 : decode cX5_copyFrom 151 = .ok (.aload_n 0, 1) := by decide +kernel
theorem dX5_copyFrom_152 : decode cX5_copyFrom 152 = .ok (.getfield 52, 3) := by decide +kernel
theorem dX5_copyFrom_155 : decode cX5_copyFrom 155 = .ok (.arraylength, 1) := by decide +kernel
theorem dX5_copyFrom_156 : decode cX5_copyFrom 156 = .ok (.if_icmp .ge 24, 3) := by decide +kernel
theorem dX5_copyFrom_159 : decode cX5_copyFrom 159 = .ok (.aload_n 0, 1) := by decide +kernel
theorem dX5_copyFrom_160 : decode cX5_copyFrom 160 = .ok (.getfield 52, 3) := by decide +kernel
theorem dX5_copyFrom_163 : decode cX5_copyFrom 163 = .ok (.iload_n 2, 1) := by decide +kernel
theorem dX5_copyFrom_164 : decode cX5_copyFrom 164 = .ok (.aaload, 1) := by decide +kernel
theorem dX5_copyFrom_165 : decode cX5_copyFrom 165 = .ok (.aload_n 1, 1) := by decide +kernel
theorem dX5_copyFrom_166 : decode cX5_copyFrom 166 = .ok (.getfield 52, 3) := by decide +kernel
theorem dX5_copyFrom_169 : decode cX5_copyFrom 169 = .ok (.iload_n 2, 1) := by decide +kernel
theorem dX5_copyFrom_170 : decode cX5_copyFrom 170 = .ok (.aaload, 1) := by decide +kernel
theorem dX5_copyFrom_171 : decode cX5_copyFrom 171 = .ok (.invokevirtual 88, 3) := by decide +kernel
theorem dX5_copyFrom_174 : decode cX5_copyFrom 174 = .ok (.iinc 2 1, 3) := by decide +kernel
theorem dX5_copyFrom_177 : decode cX5_copyFrom 177 = .ok (.goto (-27), 3) := by decide +kernel
theorem dX5_copyFrom_180 : decode cX5_copyFrom 180 = .ok (.return_, 1) := by decide +kernel
theorem dX5_dateRow_0 : decode cX5_dateRow 0 = .ok (.iload_n 1, 1) := by decide +kernel
theorem dX5_dateRow_1 : decode cX5_dateRow 1 = .ok (.ifCond .lt 29, 3) := by decide +kernel
theorem dX5_dateRow_4 : decode cX5_dateRow 4 = .ok (.iload_n 1, 1) := by decide +kernel
theorem dX5_dateRow_5 : decode cX5_dateRow 5 = .ok (.aload_n 0, 1) := by decide +kernel
theorem dX5_dateRow_6 : decode cX5_dateRow 6 = .ok (.getfield 69, 3) := by decide +kernel
theorem dX5_dateRow_9 : decode cX5_dateRow 9 = .ok (.if_icmp .ge 21, 3) := by decide +kernel
theorem dX5_dateRow_12 : decode cX5_dateRow 12 = .ok (.iload_n 1, 1) := by decide +kernel
theorem dX5_dateRow_13 : decode cX5_dateRow 13 = .ok (.aload_n 0, 1) := by decide +kernel
theorem dX5_dateRow_14 : decode cX5_dateRow 14 = .ok (.getfield 37, 3) := by decide +kernel
theorem dX5_dateRow_17 : decode cX5_dateRow 17 = .ok (.arraylength, 1) := by decide +kernel
theorem dX5_dateRow_18 : decode cX5_dateRow 18 = .ok (.if_icmp .ge 12, 3) := by decide +kernel
theorem dX5_dateRow_21 : decode cX5_dateRow 21 = .ok (.aload_n 0, 1) := by decide +kernel
theorem dX5_dateRow_22 : decode cX5_dateRow 22 = .ok (.getfield 37, 3) := by decide +kernel
theorem dX5_dateRow_25 : decode cX5_dateRow 25 = .ok (.iload_n 1, 1) := by decide +kernel
theorem dX5_dateRow_26 : decode cX5_dateRow 26 = .ok (.aaload, 1) := by decide +kernel
theorem dX5_dateRow_27 : decode cX5_dateRow 27 = .ok (.goto 4, 3) := by decide +kernel
theorem dX5_dateRow_30 : decode cX5_dateRow 30 = .ok (.aconst_null, 1) := by decide +kernel
theorem dX5_dateRow_31 : decode cX5_dateRow 31 = .ok (.areturn, 1) := by decide +kernel
theorem dX5_rightRow_0 : decode cX5_rightRow 0 = .ok (.iload_n 1, 1) := by decide +kernel
theorem dX5_rightRow_1 : decode cX5_rightRow 1 = .ok (.ifCond .lt 29, 3) := by decide +kernel
theorem dX5_rightRow_4 : decode cX5_rightRow 4 = .ok (.iload_n 1, 1) := by decide +kernel
theorem dX5_rightRow_5 : decode cX5_rightRow 5 = .ok (.aload_n 0, 1) := by decide +kernel
theorem dX5_rightRow_6 : decode cX5_rightRow 6 = .ok (.getfield 76, 3) := by decide +kernel
theorem dX5_rightRow_9 : decode cX5_rightRow 9 = .ok (.if_icmp .ge 21, 3) := by decide +kernel
theorem dX5_rightRow_12 : decode cX5_rightRow 12 = .ok (.iload_n 1, 1) := by decide +kernel
theorem dX5_rightRow_13 : decode cX5_rightRow 13 = .ok (.aload_n 0, 1) := by decide +kernel
theorem dX5_rightRow_14 : decode cX5_rightRow 14 = .ok (.getfield 43, 3) := by decide +kernel
theorem dX5_rightRow_17 : decode cX5_rightRow 17 = .ok (.arraylength, 1) := by decide +kernel
theorem dX5_rightRow_18 : decode cX5_rightRow 18 = .ok (.if_icmp .ge 12, 3) := by decide +kernel
theorem dX5_rightRow_21 : decode cX5_rightRow 21 = .ok (.aload_n 0, 1) := by decide +kernel
theorem dX5_rightRow_22 : decode cX5_rightRow 22 = .ok (.getfield 43, 3) := by decide +kernel
theorem dX5_rightRow_25 : decode cX5_rightRow 25 = .ok (.iload_n 1, 1) := by decide +kernel
theorem dX5_rightRow_26 : decode cX5_rightRow 26 = .ok (.aaload, 1) := by decide +kernel
theorem dX5_rightRow_27 : decode cX5_rightRow 27 = .ok (.goto 4, 3) := by decide +kernel
theorem dX5_rightRow_30 : decode cX5_rightRow 30 = .ok (.aconst_null, 1) := by decide +kernel
theorem dX5_rightRow_31 : decode cX5_rightRow 31 = .ok (.areturn, 1) := by decide +kernel
theorem dX5_eventRow_0 : decode cX5_eventRow 0 = .ok (.iload_n 1, 1) := by decide +kernel
theorem dX5_eventRow_1 : decode cX5_eventRow 1 = .ok (.ifCond .lt 29, 3) := by decide +kernel
theorem dX5_eventRow_4 : decode cX5_eventRow 4 = .ok (.iload_n 1, 1) := by decide +kernel
theorem dX5_eventRow_5 : decode cX5_eventRow 5 = .ok (.aload_n 0, 1) := by decide +kernel
theorem dX5_eventRow_6 : decode cX5_eventRow 6 = .ok (.getfield 85, 3) := by decide +kernel
theorem dX5_eventRow_9 : decode cX5_eventRow 9 = .ok (.if_icmp .ge 21, 3) := by decide +kernel
theorem dX5_eventRow_12 : decode cX5_eventRow 12 = .ok (.iload_n 1, 1) := by decide +kernel
theorem dX5_eventRow_13 : decode cX5_eventRow 13 = .ok (.aload_n 0, 1) := by decide +kernel
theorem dX5_eventRow_14 : decode cX5_eventRow 14 = .ok (.getfield 52, 3) := by decide +kernel
theorem dX5_eventRow_17 : decode cX5_eventRow 17 = .ok (.arraylength, 1) := by decide +kernel
theorem dX5_eventRow_18 : decode cX5_eventRow 18 = .ok (.if_icmp .ge 12, 3) := by decide +kernel
theorem dX5_eventRow_21 : decode cX5_eventRow 21 = .ok (.aload_n 0, 1) := by decide +kernel
theorem dX5_eventRow_22 : decode cX5_eventRow 22 = .ok (.getfield 52, 3) := by decide +kernel
theorem dX5_eventRow_25 : decode cX5_eventRow 25 = .ok (.iload_n 1, 1) := by decide +kernel
theorem dX5_eventRow_26 : decode cX5_eventRow 26 = .ok (.aaload, 1) := by decide +kernel
theorem dX5_eventRow_27 : decode cX5_eventRow 27 = .ok (.goto 4, 3) := by decide +kernel
theorem dX5_eventRow_30 : decode cX5_eventRow 30 = .ok (.aconst_null, 1) := by decide +kernel
theorem dX5_eventRow_31 : decode cX5_eventRow 31 = .ok (.areturn, 1) := by decide +kernel
theorem dX5_openDate_0 : decode cX5_openDate 0 = .ok (.iload_n 1, 1) := by decide +kernel
theorem dX5_openDate_1 : decode cX5_openDate 1 = .ok (.aload_n 0, 1) := by decide +kernel
theorem dX5_openDate_2 : decode cX5_openDate 2 = .ok (.getfield 61, 3) := by decide +kernel
theorem dX5_openDate_5 : decode cX5_openDate 5 = .ok (.if_icmp .le 21, 3) := by decide +kernel
theorem dX5_openDate_8 : decode cX5_openDate 8 = .ok (.iload_n 1, 1) := by decide +kernel
theorem dX5_openDate_9 : decode cX5_openDate 9 = .ok (.sipush 999, 3) := by decide +kernel
theorem dX5_openDate_12 : decode cX5_openDate 12 = .ok (.if_icmp .gt 14, 3) := by decide +kernel
theorem dX5_openDate_15 : decode cX5_openDate 15 = .ok (.iload_n 2, 1) := by decide +kernel
theorem dX5_openDate_16 : decode cX5_openDate 16 = .ok (.iconst 1, 1) := by decide +kernel
theorem dX5_openDate_17 : decode cX5_openDate 17 = .ok (.if_icmp .lt 9, 3) := by decide +kernel
theorem dX5_openDate_20 : decode cX5_openDate 20 = .ok (.iload_n 2, 1) := by decide +kernel
theorem dX5_openDate_21 : decode cX5_openDate 21 = .ok (.bipush 20, 2) := by decide +kernel
theorem dX5_openDate_23 : decode cX5_openDate 23 = .ok (.if_icmp .le 6, 3) := by decide +kernel
theorem dX5_openDate_26 : decode cX5_openDate 26 = .ok (.bipush (-2), 2) := by decide +kernel
theorem dX5_openDate_28 : decode cX5_openDate 28 = .ok (.ireturn, 1) := by decide +kernel
theorem dX5_openDate_29 : decode cX5_openDate 29 = .ok (.iload_n 3, 1) := by decide +kernel
theorem dX5_openDate_30 : decode cX5_openDate 30 = .ok (.ifCond .lt 33, 3) := by decide +kernel
theorem dX5_openDate_33 : decode cX5_openDate 33 = .ok (.iload_n 3, 1) := by decide +kernel
theorem dX5_openDate_34 : decode cX5_openDate 34 = .ok (.iconst 5, 1) := by decide +kernel
theorem dX5_openDate_35 : decode cX5_openDate 35 = .ok (.if_icmp .gt 28, 3) := by decide +kernel
theorem dX5_openDate_38 : decode cX5_openDate 38 = .ok (.iload 4, 2) := by decide +kernel
theorem dX5_openDate_40 : decode cX5_openDate 40 = .ok (.iconst 1, 1) := by decide +kernel
theorem dX5_openDate_41 : decode cX5_openDate 41 = .ok (.if_icmp .lt 22, 3) := by decide +kernel
theorem dX5_openDate_44 : decode cX5_openDate 44 = .ok (.iload 4, 2) := by decide +kernel
theorem dX5_openDate_46 : decode cX5_openDate 46 = .ok (.sipush 9999, 3) := by decide +kernel
theorem dX5_openDate_49 : decode cX5_openDate 49 = .ok (.if_icmp .gt 14, 3) := by decide +kernel
theorem dX5_openDate_52 : decode cX5_openDate 52 = .ok (.iload 5, 2) := by decide +kernel
theorem dX5_openDate_54 : decode cX5_openDate 54 = .ok (.ifCond .lt 9, 3) := by decide +kernel
theorem dX5_openDate_57 : decode cX5_openDate 57 = .ok (.iload 5, 2) := by decide +kernel
theorem dX5_openDate_59 : decode cX5_openDate 59 = .ok (.iconst 2, 1) := by decide +kernel
theorem dX5_openDate_60 : decode cX5_openDate 60 = .ok (.if_icmp .le 6, 3) := by decide +kernel
theorem dX5_openDate_63 : decode cX5_openDate 63 = .ok (.bipush (-2), 2) := by decide +kernel
theorem dX5_openDate_65 : decode cX5_openDate 65 = .ok (.ireturn, 1) := by decide +kernel
theorem dX5_openDate_66 : decode cX5_openDate 66 = .ok (.aload_n 0, 1) := by decide +kernel
theorem dX5_openDate_67 : decode cX5_openDate 67 = .ok (.getfield 69, 3) := by decide +kernel
theorem dX5_openDate_70 : decode cX5_openDate 70 = .ok (.aload_n 0, 1) := by decide +kernel
theorem dX5_openDate_71 : decode cX5_openDate 71 = .ok (.getfield 37, 3) := by decide +kernel
theorem dX5_openDate_74 : decode cX5_openDate 74 = .ok (.arraylength, 1) := by decide +kernel
theorem dX5_openDate_75 : decode cX5_openDate 75 = .ok (.if_icmp .lt 6, 3) := by decide +kernel
theorem dX5_openDate_78 : decode cX5_openDate 78 = .ok (.bipush (-3), 2) := by decide +kernel
theorem dX5_openDate_80 : decode cX5_openDate 80 = .ok (.ireturn, 1) := by decide +kernel
theorem dX5_openDate_81 : decode cX5_openDate 81 = .ok (.aload_n 0, 1) := by decide +kernel
theorem dX5_openDate_82 : decode cX5_openDate 82 = .ok (.getfield 37, 3) := by decide +kernel
theorem dX5_openDate_85 : decode cX5_openDate 85 = .ok (.aload_n 0, 1) := by decide +kernel
theorem dX5_openDate_86 : decode cX5_openDate 86 = .ok (.getfield 69, 3) := by decide +kernel
theorem dX5_openDate_89 : decode cX5_openDate 89 = .ok (.aaload, 1) := by decide +kernel
theorem dX5_openDate_90 : decode cX5_openDate 90 = .ok (.astore 6, 2) := by decide +kernel
theorem dX5_openDate_92 : decode cX5_openDate 92 = .ok (.aload 6, 2) := by decide +kernel
theorem dX5_openDate_94 : decode cX5_openDate 94 = .ok (.iload_n 1, 1) := by decide +kernel
theorem dX5_openDate_95 : decode cX5_openDate 95 = .ok (.putfield 91, 3) := by decide +kernel
theorem dX5_openDate_98 : decode cX5_openDate 98 = .ok (.aload 6, 2) := by decide +kernel
theorem dX5_openDate_100 : decode cX5_openDate 100 = .ok (.iload_n 2, 1) := by decide +kernel
theorem dX5_openDate_101 : decode cX5_openDate 101 = .ok (.putfield 92, 3) := by decide +kernel
theorem dX5_openDate_104 : decode cX5_openDate 104 = .ok (.aload 6, 2) := by decide +kernel
theorem dX5_openDate_106 : decode cX5_openDate 106 = .ok (.iload_n 3, 1) := by decide +kernel
theorem dX5_openDate_107 : decode cX5_openDate 107 = .ok (.putfield 95, 3) := by decide +kernel
theorem dX5_openDate_110 : decode cX5_openDate 110 = .ok (.aload 6, 2) := by decide +kernel
theorem dX5_openDate_112 : decode cX5_openDate 112 = .ok (.iload 4, 2) := by decide +kernel
theorem dX5_openDate_114 : decode cX5_openDate 114 = .ok (.putfield 98, 3) := by decide +kernel
theorem dX5_openDate_117 : decode cX5_openDate 117 = .ok (.aload 6, 2) := by decide +kernel
theorem dX5_openDate_119 : decode cX5_openDate 119 = .ok (.iload 5, 2) := by decide +kernel
theorem dX5_openDate_121 : decode cX5_openDate 121 = .ok (.putfield 101, 3) := by decide +kernel
theorem dX5_openDate_124 : decode cX5_openDate 124 = .ok (.aload 6, 2) := by decide +kernel
theorem dX5_openDate_126 : decode cX5_openDate 126 = .ok (.iconst 0, 1) := by decide +kernel
theorem dX5_openDate_127 : decode cX5_openDate 127 = .ok (.putfield 104, 3) := by decide +kernel
theorem dX5_openDate_130 : decode cX5_openDate 130 = .ok (.aload_n 0, 1) := by decide +kernel
theorem dX5_openDate_131 : decode cX5_openDate 131 = .ok (.dup, 1) := by decide +kernel
theorem dX5_openDate_132 : decode cX5_openDate 132 = .ok (.getfield 69, 3) := by decide +kernel
theorem dX5_openDate_135 : decode cX5_openDate 135 = .ok (.iconst 1, 1) := by decide +kernel
theorem dX5_openDate_136 : decode cX5_openDate 136 = .ok (.iadd, 1) := by decide +kernel
theorem dX5_openDate_137 : decode cX5_openDate 137 = .ok (.putfield 69, 3) := by decide +kernel
theorem dX5_openDate_140 : decode cX5_openDate 140 = .ok (.aload 6, 2) := by decide +kernel
theorem dX5_openDate_142 : decode cX5_openDate 142 = .ok (.getfield 107, 3) := by decide +kernel
theorem dX5_openDate_145 : decode cX5_openDate 145 = .ok (.ireturn, 1) := by decide +kernel
theorem dX5_changeStage_0 : decode cX5_changeStage 0 = .ok (.aload_n 0, 1) := by decide +kernel
theorem dX5_changeStage_1 : decode cX5_changeStage 1 = .ok (.iload_n 1, 1) := by decide +kernel
theorem dX5_changeStage_2 : decode cX5_changeStage 2 = .ok (.invokevirtual 110, 3) := by decide +kernel
theorem dX5_changeStage_5 : decode cX5_changeStage 5 = .ok (.ifCond .ne 5, 3) := by decide +kernel
theorem dX5_changeStage_8 : decode cX5_changeStage 8 = .ok (.iconst (-1), 1) := by decide +kernel
theorem dX5_changeStage_9 : decode cX5_changeStage 9 = .ok (.ireturn, 1) := by decide +kernel
theorem dX5_changeStage_10 : decode cX5_changeStage 10 = .ok (.aload_n 0, 1) := by decide +kernel
theorem dX5_changeStage_11 : decode cX5_changeStage 11 = .ok (.iload_n 1, 1) := by decide +kernel
theorem dX5_changeStage_12 : decode cX5_changeStage 12 = .ok (.iload_n 2, 1) := by decide +kernel
theorem dX5_changeStage_13 : decode cX5_changeStage 13 = .ok (.invokevirtual 114, 3) := by decide +kernel
theorem dX5_changeStage_16 : decode cX5_changeStage 16 = .ok (.ifCond .eq 13, 3) := by decide +kernel
theorem dX5_changeStage_19 : decode cX5_changeStage 19 = .ok (.iload_n 3, 1) := by decide +kernel
theorem dX5_changeStage_20 : decode cX5_changeStage 20 = .ok (.ifCond .lt 9, 3) := by decide +kernel
theorem dX5_changeStage_23 : decode cX5_changeStage 23 = .ok (.iload_n 3, 1) := by decide +kernel
theorem dX5_changeStage_24 : decode cX5_changeStage 24 = .ok (.bipush 100, 2) := by decide +kernel
theorem dX5_changeStage_26 : decode cX5_changeStage 26 = .ok (.if_icmp .le 6, 3) := by decide +kernel
theorem dX5_changeStage_29 : decode cX5_changeStage 29 = .ok (.bipush (-2), 2) := by decide +kernel
theorem dX5_changeStage_31 : decode cX5_changeStage 31 = .ok (.ireturn, 1) := by decide +kernel
theorem dX5_changeStage_32 : decode cX5_changeStage 32 = .ok (.aload_n 0, 1) := by decide +kernel
theorem dX5_changeStage_33 : decode cX5_changeStage 33 = .ok (.getfield 32, 3) := by decide +kernel
theorem dX5_changeStage_36 : decode cX5_changeStage 36 = .ok (.iload_n 1, 1) := by decide +kernel
theorem dX5_changeStage_37 : decode cX5_changeStage 37 = .ok (.iaload, 1) := by decide +kernel
theorem dX5_changeStage_38 : decode cX5_changeStage 38 = .ok (.istore 4, 2) := by decide +kernel
theorem dX5_changeStage_40 : decode cX5_changeStage 40 = .ok (.aload_n 0, 1) := by decide +kernel
theorem dX5_changeStage_41 : decode cX5_changeStage 41 = .ok (.getfield 26, 3) := by decide +kernel
theorem dX5_changeStage_44 : decode cX5_changeStage 44 = .ok (.iload_n 1, 1) := by decide +kernel
theorem dX5_changeStage_45 : decode cX5_changeStage 45 = .ok (.iaload, 1) := by decide +kernel
theorem dX5_changeStage_46 : decode cX5_changeStage 46 = .ok (.iload_n 2, 1) := by decide +kernel
theorem dX5_changeStage_47 : decode cX5_changeStage 47 = .ok (.if_icmp .ne 12, 3) := by decide +kernel
theorem dX5_changeStage_50 : decode cX5_changeStage 50 = .ok (.iload 4, 2) := by decide +kernel
theorem dX5_changeStage_52 : decode cX5_changeStage 52 = .ok (.iload_n 3, 1) := by decide +kernel
theorem dX5_changeStage_53 : decode cX5_changeStage 53 = .ok (.if_icmp .ne 6, 3) := by decide +kernel
theorem dX5_changeStage_56 : decode cX5_changeStage 56 = .ok (.bipush (-5), 2) := by decide +kernel
theorem dX5_changeStage_58 : decode cX5_changeStage 58 = .ok (.ireturn, 1) := by decide +kernel
theorem dX5_changeStage_59 : decode cX5_changeStage 59 = .ok (.aload_n 0, 1) := by decide +kernel
theorem dX5_changeStage_60 : decode cX5_changeStage 60 = .ok (.getfield 26, 3) := by decide +kernel
theorem dX5_changeStage_63 : decode cX5_changeStage 63 = .ok (.iload_n 1, 1) := by decide +kernel
theorem dX5_changeStage_64 : decode cX5_changeStage 64 = .ok (.iload_n 2, 1) := by decide +kernel
theorem dX5_changeStage_65 : decode cX5_changeStage 65 = .ok (.iastore, 1) := by decide +kernel
theorem dX5_changeStage_66 : decode cX5_changeStage 66 = .ok (.aload_n 0, 1) := by decide +kernel
theorem dX5_changeStage_67 : decode cX5_changeStage 67 = .ok (.getfield 32, 3) := by decide +kernel
theorem dX5_changeStage_70 : decode cX5_changeStage 70 = .ok (.iload_n 1, 1) := by decide +kernel
theorem dX5_changeStage_71 : decode cX5_changeStage 71 = .ok (.iload_n 3, 1) := by decide +kernel
theorem dX5_changeStage_72 : decode cX5_changeStage 72 = .ok (.iastore, 1) := by decide +kernel
theorem dX5_changeStage_73 : decode cX5_changeStage 73 = .ok (.iload 4, 2) := by decide +kernel
theorem dX5_changeStage_75 : decode cX5_changeStage 75 = .ok (.ireturn, 1) := by decide +kernel
theorem dX5_isStage_0 : decode cX5_isStage 0 = .ok (.iload_n 1, 1) := by decide +kernel
theorem dX5_isStage_1 : decode cX5_isStage 1 = .ok (.ifCond .lt 16, 3) := by decide +kernel
theorem dX5_isStage_4 : decode cX5_isStage 4 = .ok (.iload_n 1, 1) := by decide +kernel
theorem dX5_isStage_5 : decode cX5_isStage 5 = .ok (.aload_n 0, 1) := by decide +kernel
theorem dX5_isStage_6 : decode cX5_isStage 6 = .ok (.getfield 26, 3) := by decide +kernel
theorem dX5_isStage_9 : decode cX5_isStage 9 = .ok (.arraylength, 1) := by decide +kernel
theorem dX5_isStage_10 : decode cX5_isStage 10 = .ok (.if_icmp .ge 7, 3) := by decide +kernel
theorem dX5_isStage_13 : decode cX5_isStage 13 = .ok (.iconst 1, 1) := by decide +kernel
theorem dX5_isStage_14 : decode cX5_isStage 14 = .ok (.goto 4, 3) := by decide +kernel
theorem dX5_isStage_17 : decode cX5_isStage 17 = .ok (.iconst 0, 1) := by decide +kernel
theorem dX5_isStage_18 : decode cX5_isStage 18 = .ok (.ireturn, 1) := by decide +kernel
theorem dX5_fitsStage_0 : decode cX5_fitsStage 0 = .ok (.aload_n 0, 1) := by decide +kernel
theorem dX5_fitsStage_1 : decode cX5_fitsStage 1 = .ok (.iload_n 1, 1) := by decide +kernel
theorem dX5_fitsStage_2 : decode cX5_fitsStage 2 = .ok (.iconst 1, 1) := by decide +kernel
theorem dX5_fitsStage_3 : decode cX5_fitsStage 3 = .ok (.isub, 1) := by decide +kernel
theorem dX5_fitsStage_4 : decode cX5_fitsStage 4 = .ok (.invokevirtual 110, 3) := by decide +kernel
theorem dX5_fitsStage_7 : decode cX5_fitsStage 7 = .ok (.ifCond .eq 16, 3) := by decide +kernel
theorem dX5_fitsStage_10 : decode cX5_fitsStage 10 = .ok (.aload_n 0, 1) := by decide +kernel
theorem dX5_fitsStage_11 : decode cX5_fitsStage 11 = .ok (.getfield 26, 3) := by decide +kernel
theorem dX5_fitsStage_14 : decode cX5_fitsStage 14 = .ok (.iload_n 1, 1) := by decide +kernel
theorem dX5_fitsStage_15 : decode cX5_fitsStage 15 = .ok (.iconst 1, 1) := by decide +kernel
theorem dX5_fitsStage_16 : decode cX5_fitsStage 16 = .ok (.isub, 1) := by decide +kernel
theorem dX5_fitsStage_17 : decode cX5_fitsStage 17 = .ok (.iaload, 1) := by decide +kernel
theorem dX5_fitsStage_18 : decode cX5_fitsStage 18 = .ok (.iconst 1, 1) := by decide +kernel
theorem dX5_fitsStage_19 : decode cX5_fitsStage 19 = .ok (.isub, 1) := by decide +kernel
theorem dX5_fitsStage_20 : decode cX5_fitsStage 20 = .ok (.goto 5, 3) := by decide +kernel
theorem dX5_fitsStage_23 : decode cX5_fitsStage 23 = .ok (.bipush 99, 2) := by decide +kernel
theorem dX5_fitsStage_25 : decode cX5_fitsStage 25 = .ok (.istore_n 3, 1) := by decide +kernel
theorem dX5_fitsStage_26 : decode cX5_fitsStage 26 = .ok (.aload_n 0, 1) := by decide +kernel
theorem dX5_fitsStage_27 : decode cX5_fitsStage 27 = .ok (.iload_n 1, 1) := by decide +kernel
theorem dX5_fitsStage_28 : decode cX5_fitsStage 28 = .ok (.iconst 1, 1) := by decide +kernel
theorem dX5_fitsStage_29 : decode cX5_fitsStage 29 = .ok (.iadd, 1) := by decide +kernel
theorem dX5_fitsStage_30 : decode cX5_fitsStage 30 = .ok (.invokevirtual 110, 3) := by decide +kernel
theorem dX5_fitsStage_33 : decode cX5_fitsStage 33 = .ok (.ifCond .ne 13, 3) := by decide +kernel
theorem dX5_fitsStage_36 : decode cX5_fitsStage 36 = .ok (.iload_n 2, 1) := by decide +kernel
theorem dX5_fitsStage_37 : decode cX5_fitsStage 37 = .ok (.ifCond .ne 7, 3) := by decide +kernel
theorem dX5_fitsStage_40 : decode cX5_fitsStage 40 = .ok (.iconst 1, 1) := by decide +kernel
theorem dX5_fitsStage_41 : decode cX5_fitsStage 41 = .ok (.goto 4, 3) := by decide +kernel
theorem dX5_fitsStage_44 : decode cX5_fitsStage 44 = .ok (.iconst 0, 1) := by decide +kernel
theorem dX5_fitsStage_45 : decode cX5_fitsStage 45 = .ok (.ireturn, 1) := by decide +kernel
theorem dX5_fitsStage_46 : decode cX5_fitsStage 46 = .ok (.iload_n 2, 1) := by decide +kernel
theorem dX5_fitsStage_47 : decode cX5_fitsStage 47 = .ok (.iload_n 3, 1) := by decide +kernel
theorem dX5_fitsStage_48 : decode cX5_fitsStage 48 = .ok (.if_icmp .gt 19, 3) := by decide +kernel
theorem dX5_fitsStage_51 : decode cX5_fitsStage 51 = .ok (.iload_n 2, 1) := by decide +kernel
theorem dX5_fitsStage_52 : decode cX5_fitsStage 52 = .ok (.aload_n 0, 1) := by decide +kernel
theorem dX5_fitsStage_53 : decode cX5_fitsStage 53 = .ok (.getfield 26, 3) := by decide +kernel
theorem dX5_fitsStage_56 : decode cX5_fitsStage 56 = .ok (.iload_n 1, 1) := by decide +kernel
theorem dX5_fitsStage_57 : decode cX5_fitsStage 57 = .ok (.iconst 1, 1) := by decide +kernel
theorem dX5_fitsStage_58 : decode cX5_fitsStage 58 = .ok (.iadd, 1) := by decide +kernel
theorem dX5_fitsStage_59 : decode cX5_fitsStage 59 = .ok (.iaload, 1) := by decide +kernel
theorem dX5_fitsStage_60 : decode cX5_fitsStage 60 = .ok (.if_icmp .le 7, 3) := by decide +kernel
theorem dX5_fitsStage_63 : decode cX5_fitsStage 63 = .ok (.iconst 1, 1) := by decide +kernel
theorem dX5_fitsStage_64 : decode cX5_fitsStage 64 = .ok (.goto 4, 3) := by decide +kernel
theorem dX5_fitsStage_67 : decode cX5_fitsStage 67 = .ok (.iconst 0, 1) := by decide +kernel
theorem dX5_fitsStage_68 : decode cX5_fitsStage 68 = .ok (.ireturn, 1) := by decide +kernel
theorem dX5_changeNumber_0 : decode cX5_changeNumber 0 = .ok (.iload_n 1, 1) := by decide +kernel
theorem dX5_changeNumber_1 : decode cX5_changeNumber 1 = .ok (.ifCond .lt 12, 3) := by decide +kernel
theorem dX5_changeNumber_4 : decode cX5_changeNumber 4 = .ok (.iload_n 1, 1) := by decide +kernel
theorem dX5_changeNumber_5 : decode cX5_changeNumber 5 = .ok (.aload_n 0, 1) := by decide +kernel
theorem dX5_changeNumber_6 : decode cX5_changeNumber 6 = .ok (.getfield 18, 3) := by decide +kernel
theorem dX5_changeNumber_9 : decode cX5_changeNumber 9 = .ok (.arraylength, 1) := by decide +kernel
theorem dX5_changeNumber_10 : decode cX5_changeNumber 10 = .ok (.if_icmp .lt 6, 3) := by decide +kernel
theorem dX5_changeNumber_13 : decode cX5_changeNumber 13 = .ok (.bipush (-2), 2) := by decide +kernel
theorem dX5_changeNumber_15 : decode cX5_changeNumber 15 = .ok (.ireturn, 1) := by decide +kernel
theorem dX5_changeNumber_16 : decode cX5_changeNumber 16 = .ok (.iload_n 2, 1) := by decide +kernel
theorem dX5_changeNumber_17 : decode cX5_changeNumber 17 = .ok (.getstatic 118, 3) := by decide +kernel
theorem dX5_changeNumber_20 : decode cX5_changeNumber 20 = .ok (.iload_n 1, 1) := by decide +kernel
theorem dX5_changeNumber_21 : decode cX5_changeNumber 21 = .ok (.iaload, 1) := by decide +kernel
theorem dX5_changeNumber_22 : decode cX5_changeNumber 22 = .ok (.if_icmp .lt 12, 3) := by decide +kernel
theorem dX5_changeNumber_25 : decode cX5_changeNumber 25 = .ok (.iload_n 2, 1) := by decide +kernel
theorem dX5_changeNumber_26 : decode cX5_changeNumber 26 = .ok (.getstatic 121, 3) := by decide +kernel
theorem dX5_changeNumber_29 : decode cX5_changeNumber 29 = .ok (.iload_n 1, 1) := by decide +kernel
theorem dX5_changeNumber_30 : decode cX5_changeNumber 30 = .ok (.iaload, 1) := by decide +kernel
theorem dX5_changeNumber_31 : decode cX5_changeNumber 31 = .ok (.if_icmp .le 6, 3) := by decide +kernel
theorem dX5_changeNumber_34 : decode cX5_changeNumber 34 = .ok (.bipush (-2), 2) := by decide +kernel
theorem dX5_changeNumber_36 : decode cX5_changeNumber 36 = .ok (.ireturn, 1) := by decide +kernel
theorem dX5_changeNumber_37 : decode cX5_changeNumber 37 = .ok (.aload_n 0, 1) := by decide +kernel
theorem dX5_changeNumber_38 : decode cX5_changeNumber 38 = .ok (.getfield 18, 3) := by decide +kernel
theorem dX5_changeNumber_41 : decode cX5_changeNumber 41 = .ok (.iload_n 1, 1) := by decide +kernel
theorem dX5_changeNumber_42 : decode cX5_changeNumber 42 = .ok (.iaload, 1) := by decide +kernel
theorem dX5_changeNumber_43 : decode cX5_changeNumber 43 = .ok (.istore_n 3, 1) := by decide +kernel
theorem dX5_changeNumber_44 : decode cX5_changeNumber 44 = .ok (.iload_n 3, 1) := by decide +kernel
theorem dX5_changeNumber_45 : decode cX5_changeNumber 45 = .ok (.iload_n 2, 1) := by decide +kernel
theorem dX5_changeNumber_46 : decode cX5_changeNumber 46 = .ok (.if_icmp .ne 6, 3) := by decide +kernel
theorem dX5_changeNumber_49 : decode cX5_changeNumber 49 = .ok (.bipush (-5), 2) := by decide +kernel
theorem dX5_changeNumber_51 : decode cX5_changeNumber 51 = .ok (.ireturn, 1) := by decide +kernel
theorem dX5_changeNumber_52 : decode cX5_changeNumber 52 = .ok (.aload_n 0, 1) := by decide +kernel
theorem dX5_changeNumber_53 : decode cX5_changeNumber 53 = .ok (.getfield 18, 3) := by decide +kernel
theorem dX5_changeNumber_56 : decode cX5_changeNumber 56 = .ok (.iload_n 1, 1) := by decide +kernel
theorem dX5_changeNumber_57 : decode cX5_changeNumber 57 = .ok (.iload_n 2, 1) := by decide +kernel
theorem dX5_changeNumber_58 : decode cX5_changeNumber 58 = .ok (.iastore, 1) := by decide +kernel
theorem dX5_changeNumber_59 : decode cX5_changeNumber 59 = .ok (.iload_n 3, 1) := by decide +kernel
theorem dX5_changeNumber_60 : decode cX5_changeNumber 60 = .ok (.ireturn, 1) := by decide +kernel
theorem dX5_sellTo_0 : decode cX5_sellTo 0 = .ok (.aload_n 0, 1) := by decide +kernel
theorem dX5_sellTo_1 : decode cX5_sellTo 1 = .ok (.iload_n 2, 1) := by decide +kernel
theorem dX5_sellTo_2 : decode cX5_sellTo 2 = .ok (.invokevirtual 124, 3) := by decide +kernel
theorem dX5_sellTo_5 : decode cX5_sellTo 5 = .ok (.astore_n 3, 1) := by decide +kernel
theorem dX5_sellTo_6 : decode cX5_sellTo 6 = .ok (.iload_n 1, 1) := by decide +kernel
theorem dX5_sellTo_7 : decode cX5_sellTo 7 = .ok (.invokestatic 128, 3) := by decide +kernel
theorem dX5_sellTo_10 : decode cX5_sellTo 10 = .ok (.ifCond .eq 7, 3) := by decide +kernel
theorem dX5_sellTo_13 : decode cX5_sellTo 13 = .ok (.aload_n 3, 1) := by decide +kernel
theorem dX5_sellTo_14 : decode cX5_sellTo 14 = .ok (.ifnonnull 5, 3) := by decide +kernel
theorem dX5_sellTo_17 : decode cX5_sellTo 17 = .ok (.iconst (-1), 1) := by decide +kernel
theorem dX5_sellTo_18 : decode cX5_sellTo 18 = .ok (.ireturn, 1) := by decide +kernel
theorem dX5_sellTo_19 : decode cX5_sellTo 19 = .ok (.aload_n 0, 1) := by decide +kernel
theorem dX5_sellTo_20 : decode cX5_sellTo 20 = .ok (.aload_n 3, 1) := by decide +kernel
theorem dX5_sellTo_21 : decode cX5_sellTo 21 = .ok (.invokevirtual 131, 3) := by decide +kernel
theorem dX5_sellTo_24 : decode cX5_sellTo 24 = .ok (.ifCond .ne 6, 3) := by decide +kernel
theorem dX5_sellTo_27 : decode cX5_sellTo 27 = .ok (.bipush (-4), 2) := by decide +kernel
theorem dX5_sellTo_29 : decode cX5_sellTo 29 = .ok (.ireturn, 1) := by decide +kernel
theorem dX5_sellTo_30 : decode cX5_sellTo 30 = .ok (.aload_n 0, 1) := by decide +kernel
theorem dX5_sellTo_31 : decode cX5_sellTo 31 = .ok (.iload_n 1, 1) := by decide +kernel
theorem dX5_sellTo_32 : decode cX5_sellTo 32 = .ok (.aload_n 3, 1) := by decide +kernel
theorem dX5_sellTo_33 : decode cX5_sellTo 33 = .ok (.invokevirtual 135, 3) := by decide +kernel
theorem dX5_sellTo_36 : decode cX5_sellTo 36 = .ok (.ireturn, 1) := by decide +kernel
theorem dX5_resellTo_0 : decode cX5_resellTo 0 = .ok (.aload_n 0, 1) := by decide +kernel
theorem dX5_resellTo_1 : decode cX5_resellTo 1 = .ok (.iload_n 2, 1) := by decide +kernel
theorem dX5_resellTo_2 : decode cX5_resellTo 2 = .ok (.invokevirtual 124, 3) := by decide +kernel
theorem dX5_resellTo_5 : decode cX5_resellTo 5 = .ok (.astore_n 3, 1) := by decide +kernel
theorem dX5_resellTo_6 : decode cX5_resellTo 6 = .ok (.iload_n 1, 1) := by decide +kernel
theorem dX5_resellTo_7 : decode cX5_resellTo 7 = .ok (.invokestatic 128, 3) := by decide +kernel
theorem dX5_resellTo_10 : decode cX5_resellTo 10 = .ok (.ifCond .eq 7, 3) := by decide +kernel
theorem dX5_resellTo_13 : decode cX5_resellTo 13 = .ok (.aload_n 3, 1) := by decide +kernel
theorem dX5_resellTo_14 : decode cX5_resellTo 14 = .ok (.ifnonnull 5, 3) := by decide +kernel
theorem dX5_resellTo_17 : decode cX5_resellTo 17 = .ok (.iconst (-1), 1) := by decide +kernel
theorem dX5_resellTo_18 : decode cX5_resellTo 18 = .ok (.ireturn, 1) := by decide +kernel
theorem dX5_resellTo_19 : decode cX5_resellTo 19 = .ok (.aload_n 0, 1) := by decide +kernel
theorem dX5_resellTo_20 : decode cX5_resellTo 20 = .ok (.aload_n 3, 1) := by decide +kernel
theorem dX5_resellTo_21 : decode cX5_resellTo 21 = .ok (.invokevirtual 139, 3) := by decide +kernel
theorem dX5_resellTo_24 : decode cX5_resellTo 24 = .ok (.astore 4, 2) := by decide +kernel
theorem dX5_resellTo_26 : decode cX5_resellTo 26 = .ok (.aload 4, 2) := by decide +kernel
theorem dX5_resellTo_28 : decode cX5_resellTo 28 = .ok (.ifnull 12, 3) := by decide +kernel
theorem dX5_resellTo_31 : decode cX5_resellTo 31 = .ok (.aload 4, 2) := by decide +kernel
theorem dX5_resellTo_33 : decode cX5_resellTo 33 = .ok (.getfield 143, 3) := by decide +kernel
theorem dX5_resellTo_36 : decode cX5_resellTo 36 = .ok (.iload_n 1, 1) := by decide +kernel
theorem dX5_resellTo_37 : decode cX5_resellTo 37 = .ok (.if_icmp .ne 6, 3) := by decide +kernel
theorem dX5_resellTo_40 : decode cX5_resellTo 40 = .ok (.bipush (-4), 2) := by decide +kernel
theorem dX5_resellTo_42 : decode cX5_resellTo 42 = .ok (.ireturn, 1) := by decide +kernel
theorem dX5_resellTo_43 : decode cX5_resellTo 43 = .ok (.aload 4, 2) := by decide +kernel
theorem dX5_resellTo_45 : decode cX5_resellTo 45 = .ok (.getfield 146, 3) := by decide +kernel
theorem dX5_resellTo_48 : decode cX5_resellTo 48 = .ok (.istore 5, 2) := by decide +kernel
theorem dX5_resellTo_50 : decode cX5_resellTo 50 = .ok (.aload_n 0, 1) := by decide +kernel
theorem dX5_resellTo_51 : decode cX5_resellTo 51 = .ok (.iload_n 1, 1) := by decide +kernel
theorem dX5_resellTo_52 : decode cX5_resellTo 52 = .ok (.iload 5, 2) := by decide +kernel
theorem dX5_resellTo_54 : decode cX5_resellTo 54 = .ok (.ineg, 1) := by decide +kernel
theorem dX5_resellTo_55 : decode cX5_resellTo 55 = .ok (.invokevirtual 149, 3) := by decide +kernel
theorem dX5_resellTo_58 : decode cX5_resellTo 58 = .ok (.aload_n 0, 1) := by decide +kernel
theorem dX5_resellTo_59 : decode cX5_resellTo 59 = .ok (.aload 4, 2) := by decide +kernel
theorem dX5_resellTo_61 : decode cX5_resellTo 61 = .ok (.getfield 143, 3) := by decide +kernel
theorem dX5_resellTo_64 : decode cX5_resellTo 64 = .ok (.iload 5, 2) := by decide +kernel
theorem dX5_resellTo_66 : decode cX5_resellTo 66 = .ok (.iload 5, 2) := by decide +kernel
theorem dX5_resellTo_68 : decode cX5_resellTo 68 = .ok (.aload_n 0, 1) := by decide +kernel
theorem dX5_resellTo_69 : decode cX5_resellTo 69 = .ok (.getfield 18, 3) := by decide +kernel
theorem dX5_resellTo_72 : decode cX5_resellTo 72 = .ok (.iconst 1, 1) := by decide +kernel
theorem dX5_resellTo_73 : decode cX5_resellTo 73 = .ok (.iaload, 1) := by decide +kernel
theorem dX5_resellTo_74 : decode cX5_resellTo 74 = .ok (.imul, 1) := by decide +kernel
theorem dX5_resellTo_75 : decode cX5_resellTo 75 = .ok (.bipush 100, 2) := by decide +kernel
theorem dX5_resellTo_77 : decode cX5_resellTo 77 = .ok (.idiv, 1) := by decide +kernel
theorem dX5_resellTo_78 : decode cX5_resellTo 78 = .ok (.isub, 1) := by decide +kernel
theorem dX5_resellTo_79 : decode cX5_resellTo 79 = .ok (.invokevirtual 149, 3) := by decide +kernel
theorem dX5_resellTo_82 : decode cX5_resellTo 82 = .ok (.aload 4, 2) := by decide +kernel
theorem dX5_resellTo_84 : decode cX5_resellTo 84 = .ok (.iload_n 1, 1) := by decide +kernel
theorem dX5_resellTo_85 : decode cX5_resellTo 85 = .ok (.putfield 143, 3) := by decide +kernel
theorem dX5_resellTo_88 : decode cX5_resellTo 88 = .ok (.aload 4, 2) := by decide +kernel
theorem dX5_resellTo_90 : decode cX5_resellTo 90 = .ok (.dup, 1) := by decide +kernel
theorem dX5_resellTo_91 : decode cX5_resellTo 91 = .ok (.getfield 153, 3) := by decide +kernel
theorem dX5_resellTo_94 : decode cX5_resellTo 94 = .ok (.iconst 1, 1) := by decide +kernel
theorem dX5_resellTo_95 : decode cX5_resellTo 95 = .ok (.iadd, 1) := by decide +kernel
theorem dX5_resellTo_96 : decode cX5_resellTo 96 = .ok (.putfield 153, 3) := by decide +kernel
theorem dX5_resellTo_99 : decode cX5_resellTo 99 = .ok (.aload 4, 2) := by decide +kernel
theorem dX5_resellTo_101 : decode cX5_resellTo 101 = .ok (.iconst 0, 1) := by decide +kernel
theorem dX5_resellTo_102 : decode cX5_resellTo 102 = .ok (.iconst 0, 1) := by decide +kernel
theorem dX5_resellTo_103 : decode cX5_resellTo 103 = .ok (.invokevirtual 156, 3) := by decide +kernel
theorem dX5_resellTo_106 : decode cX5_resellTo 106 = .ok (.aload_n 0, 1) := by decide +kernel
theorem dX5_resellTo_107 : decode cX5_resellTo 107 = .ok (.iconst 1, 1) := by decide +kernel
theorem dX5_resellTo_108 : decode cX5_resellTo 108 = .ok (.aload 4, 2) := by decide +kernel
theorem dX5_resellTo_110 : decode cX5_resellTo 110 = .ok (.iload 5, 2) := by decide +kernel
theorem dX5_resellTo_112 : decode cX5_resellTo 112 = .ok (.invokevirtual 159, 3) := by decide +kernel
theorem dX5_resellTo_115 : decode cX5_resellTo 115 = .ok (.aload 4, 2) := by decide +kernel
theorem dX5_resellTo_117 : decode cX5_resellTo 117 = .ok (.getfield 163, 3) := by decide +kernel
theorem dX5_resellTo_120 : decode cX5_resellTo 120 = .ok (.ireturn, 1) := by decide +kernel
theorem dX5_cancelRight_0 : decode cX5_cancelRight 0 = .ok (.aload_n 0, 1) := by decide +kernel
theorem dX5_cancelRight_1 : decode cX5_cancelRight 1 = .ok (.iload_n 1, 1) := by decide +kernel
theorem dX5_cancelRight_2 : decode cX5_cancelRight 2 = .ok (.invokevirtual 164, 3) := by decide +kernel
theorem dX5_cancelRight_5 : decode cX5_cancelRight 5 = .ok (.astore_n 2, 1) := by decide +kernel
theorem dX5_cancelRight_6 : decode cX5_cancelRight 6 = .ok (.aload_n 2, 1) := by decide +kernel
theorem dX5_cancelRight_7 : decode cX5_cancelRight 7 = .ok (.ifnonnull 5, 3) := by decide +kernel
theorem dX5_cancelRight_10 : decode cX5_cancelRight 10 = .ok (.iconst (-1), 1) := by decide +kernel
theorem dX5_cancelRight_11 : decode cX5_cancelRight 11 = .ok (.ireturn, 1) := by decide +kernel
theorem dX5_cancelRight_12 : decode cX5_cancelRight 12 = .ok (.aload_n 0, 1) := by decide +kernel
theorem dX5_cancelRight_13 : decode cX5_cancelRight 13 = .ok (.aload_n 2, 1) := by decide +kernel
theorem dX5_cancelRight_14 : decode cX5_cancelRight 14 = .ok (.invokevirtual 168, 3) := by decide +kernel
theorem dX5_cancelRight_17 : decode cX5_cancelRight 17 = .ok (.istore_n 3, 1) := by decide +kernel
theorem dX5_cancelRight_18 : decode cX5_cancelRight 18 = .ok (.aload_n 0, 1) := by decide +kernel
theorem dX5_cancelRight_19 : decode cX5_cancelRight 19 = .ok (.aload_n 2, 1) := by decide +kernel
theorem dX5_cancelRight_20 : decode cX5_cancelRight 20 = .ok (.getfield 172, 3) := by decide +kernel
theorem dX5_cancelRight_23 : decode cX5_cancelRight 23 = .ok (.invokevirtual 124, 3) := by decide +kernel
theorem dX5_cancelRight_26 : decode cX5_cancelRight 26 = .ok (.astore 4, 2) := by decide +kernel
theorem dX5_cancelRight_28 : decode cX5_cancelRight 28 = .ok (.iload_n 3, 1) := by decide +kernel
theorem dX5_cancelRight_29 : decode cX5_cancelRight 29 = .ok (.bipush (-5), 2) := by decide +kernel
theorem dX5_cancelRight_31 : decode cX5_cancelRight 31 = .ok (.if_icmp .eq 8, 3) := by decide +kernel
theorem dX5_cancelRight_34 : decode cX5_cancelRight 34 = .ok (.aload 4, 2) := by decide +kernel
theorem dX5_cancelRight_36 : decode cX5_cancelRight 36 = .ok (.ifnonnull 6, 3) := by decide +kernel
theorem dX5_cancelRight_39 : decode cX5_cancelRight 39 = .ok (.bipush (-4), 2) := by decide +kernel
theorem dX5_cancelRight_41 : decode cX5_cancelRight 41 = .ok (.ireturn, 1) := by decide +kernel
theorem dX5_cancelRight_42 : decode cX5_cancelRight 42 = .ok (.aload_n 2, 1) := by decide +kernel
theorem dX5_cancelRight_43 : decode cX5_cancelRight 43 = .ok (.iconst 3, 1) := by decide +kernel
theorem dX5_cancelRight_44 : decode cX5_cancelRight 44 = .ok (.iconst 0, 1) := by decide +kernel
theorem dX5_cancelRight_45 : decode cX5_cancelRight 45 = .ok (.invokevirtual 156, 3) := by decide +kernel
theorem dX5_cancelRight_48 : decode cX5_cancelRight 48 = .ok (.aload_n 0, 1) := by decide +kernel
theorem dX5_cancelRight_49 : decode cX5_cancelRight 49 = .ok (.aload_n 2, 1) := by decide +kernel
theorem dX5_cancelRight_50 : decode cX5_cancelRight 50 = .ok (.getfield 143, 3) := by decide +kernel
theorem dX5_cancelRight_53 : decode cX5_cancelRight 53 = .ok (.iload_n 3, 1) := by decide +kernel
theorem dX5_cancelRight_54 : decode cX5_cancelRight 54 = .ok (.invokevirtual 149, 3) := by decide +kernel
theorem dX5_cancelRight_57 : decode cX5_cancelRight 57 = .ok (.aload_n 0, 1) := by decide +kernel
theorem dX5_cancelRight_58 : decode cX5_cancelRight 58 = .ok (.iconst 4, 1) := by decide +kernel
theorem dX5_cancelRight_59 : decode cX5_cancelRight 59 = .ok (.aload_n 2, 1) := by decide +kernel
theorem dX5_cancelRight_60 : decode cX5_cancelRight 60 = .ok (.iload_n 3, 1) := by decide +kernel
theorem dX5_cancelRight_61 : decode cX5_cancelRight 61 = .ok (.invokevirtual 159, 3) := by decide +kernel
theorem dX5_cancelRight_64 : decode cX5_cancelRight 64 = .ok (.aload_n 0, 1) := by decide +kernel
theorem dX5_cancelRight_65 : decode cX5_cancelRight 65 = .ok (.aload 4, 2) := by decide +kernel
theorem dX5_cancelRight_67 : decode cX5_cancelRight 67 = .ok (.invokevirtual 175, 3) := by decide +kernel
theorem dX5_cancelRight_70 : decode cX5_cancelRight 70 = .ok (.iload_n 3, 1) := by decide +kernel
theorem dX5_cancelRight_71 : decode cX5_cancelRight 71 = .ok (.ireturn, 1) := by decide +kernel
theorem dX5_offerRight_0 : decode cX5_offerRight 0 = .ok (.aload_n 0, 1) := by decide +kernel
theorem dX5_offerRight_1 : decode cX5_offerRight 1 = .ok (.iload_n 1, 1) := by decide +kernel
theorem dX5_offerRight_2 : decode cX5_offerRight 2 = .ok (.invokevirtual 164, 3) := by decide +kernel
theorem dX5_offerRight_5 : decode cX5_offerRight 5 = .ok (.astore_n 3, 1) := by decide +kernel
theorem dX5_offerRight_6 : decode cX5_offerRight 6 = .ok (.aload_n 3, 1) := by decide +kernel
theorem dX5_offerRight_7 : decode cX5_offerRight 7 = .ok (.ifnonnull 5, 3) := by decide +kernel
theorem dX5_offerRight_10 : decode cX5_offerRight 10 = .ok (.iconst (-1), 1) := by decide +kernel
theorem dX5_offerRight_11 : decode cX5_offerRight 11 = .ok (.ireturn, 1) := by decide +kernel
theorem dX5_offerRight_12 : decode cX5_offerRight 12 = .ok (.aload_n 0, 1) := by decide +kernel
theorem dX5_offerRight_13 : decode cX5_offerRight 13 = .ok (.aload_n 3, 1) := by decide +kernel
theorem dX5_offerRight_14 : decode cX5_offerRight 14 = .ok (.getfield 172, 3) := by decide +kernel
theorem dX5_offerRight_17 : decode cX5_offerRight 17 = .ok (.invokevirtual 124, 3) := by decide +kernel
theorem dX5_offerRight_20 : decode cX5_offerRight 20 = .ok (.astore 4, 2) := by decide +kernel
theorem dX5_offerRight_22 : decode cX5_offerRight 22 = .ok (.aload_n 3, 1) := by decide +kernel
theorem dX5_offerRight_23 : decode cX5_offerRight 23 = .ok (.invokevirtual 178, 3) := by decide +kernel
theorem dX5_offerRight_26 : decode cX5_offerRight 26 = .ok (.ifCond .eq 8, 3) := by decide +kernel
theorem dX5_offerRight_29 : decode cX5_offerRight 29 = .ok (.aload 4, 2) := by decide +kernel
theorem dX5_offerRight_31 : decode cX5_offerRight 31 = .ok (.ifnonnull 6, 3) := by decide +kernel
theorem dX5_offerRight_34 : decode cX5_offerRight 34 = .ok (.bipush (-4), 2) := by decide +kernel
theorem dX5_offerRight_36 : decode cX5_offerRight 36 = .ok (.ireturn, 1) := by decide +kernel
theorem dX5_offerRight_37 : decode cX5_offerRight 37 = .ok (.iload_n 2, 1) := by decide +kernel
theorem dX5_offerRight_38 : decode cX5_offerRight 38 = .ok (.iconst 1, 1) := by decide +kernel
theorem dX5_offerRight_39 : decode cX5_offerRight 39 = .ok (.if_icmp .lt 14, 3) := by decide +kernel
theorem dX5_offerRight_42 : decode cX5_offerRight 42 = .ok (.iload_n 2, 1) := by decide +kernel
theorem dX5_offerRight_43 : decode cX5_offerRight 43 = .ok (.iconst 2, 1) := by decide +kernel
theorem dX5_offerRight_44 : decode cX5_offerRight 44 = .ok (.aload 4, 2) := by decide +kernel
theorem dX5_offerRight_46 : decode cX5_offerRight 46 = .ok (.getfield 98, 3) := by decide +kernel
theorem dX5_offerRight_49 : decode cX5_offerRight 49 = .ok (.imul, 1) := by decide +kernel
theorem dX5_offerRight_50 : decode cX5_offerRight 50 = .ok (.if_icmp .le 6, 3) := by decide +kernel
theorem dX5_offerRight_53 : decode cX5_offerRight 53 = .ok (.bipush (-2), 2) := by decide +kernel
theorem dX5_offerRight_55 : decode cX5_offerRight 55 = .ok (.ireturn, 1) := by decide +kernel
theorem dX5_offerRight_56 : decode cX5_offerRight 56 = .ok (.aload_n 3, 1) := by decide +kernel
theorem dX5_offerRight_57 : decode cX5_offerRight 57 = .ok (.getfield 146, 3) := by decide +kernel
theorem dX5_offerRight_60 : decode cX5_offerRight 60 = .ok (.istore 5, 2) := by decide +kernel
theorem dX5_offerRight_62 : decode cX5_offerRight 62 = .ok (.iload 5, 2) := by decide +kernel
theorem dX5_offerRight_64 : decode cX5_offerRight 64 = .ok (.iload_n 2, 1) := by decide +kernel
theorem dX5_offerRight_65 : decode cX5_offerRight 65 = .ok (.if_icmp .ne 6, 3) := by decide +kernel
theorem dX5_offerRight_68 : decode cX5_offerRight 68 = .ok (.bipush (-5), 2) := by decide +kernel
theorem dX5_offerRight_70 : decode cX5_offerRight 70 = .ok (.ireturn, 1) := by decide +kernel
theorem dX5_offerRight_71 : decode cX5_offerRight 71 = .ok (.aload_n 3, 1) := by decide +kernel
theorem dX5_offerRight_72 : decode cX5_offerRight 72 = .ok (.iconst 1, 1) := by decide +kernel
theorem dX5_offerRight_73 : decode cX5_offerRight 73 = .ok (.iload_n 2, 1) := by decide +kernel
theorem dX5_offerRight_74 : decode cX5_offerRight 74 = .ok (.invokevirtual 156, 3) := by decide +kernel
theorem dX5_offerRight_77 : decode cX5_offerRight 77 = .ok (.aload_n 0, 1) := by decide +kernel
theorem dX5_offerRight_78 : decode cX5_offerRight 78 = .ok (.iconst 2, 1) := by decide +kernel
theorem dX5_offerRight_79 : decode cX5_offerRight 79 = .ok (.aload_n 3, 1) := by decide +kernel
theorem dX5_offerRight_80 : decode cX5_offerRight 80 = .ok (.iload_n 2, 1) := by decide +kernel
theorem dX5_offerRight_81 : decode cX5_offerRight 81 = .ok (.invokevirtual 159, 3) := by decide +kernel
theorem dX5_offerRight_84 : decode cX5_offerRight 84 = .ok (.iload 5, 2) := by decide +kernel
theorem dX5_offerRight_86 : decode cX5_offerRight 86 = .ok (.ireturn, 1) := by decide +kernel
theorem dX5_withdrawOffer_0 : decode cX5_withdrawOffer 0 = .ok (.aload_n 0, 1) := by decide +kernel
theorem dX5_withdrawOffer_1 : decode cX5_withdrawOffer 1 = .ok (.iload_n 1, 1) := by decide +kernel
theorem dX5_withdrawOffer_2 : decode cX5_withdrawOffer 2 = .ok (.invokevirtual 164, 3) := by decide +kernel
theorem dX5_withdrawOffer_5 : decode cX5_withdrawOffer 5 = .ok (.astore_n 2, 1) := by decide +kernel
theorem dX5_withdrawOffer_6 : decode cX5_withdrawOffer 6 = .ok (.aload_n 2, 1) := by decide +kernel
theorem dX5_withdrawOffer_7 : decode cX5_withdrawOffer 7 = .ok (.ifnonnull 5, 3) := by decide +kernel
theorem dX5_withdrawOffer_10 : decode cX5_withdrawOffer 10 = .ok (.iconst (-1), 1) := by decide +kernel
theorem dX5_withdrawOffer_11 : decode cX5_withdrawOffer 11 = .ok (.ireturn, 1) := by decide +kernel
theorem dX5_withdrawOffer_12 : decode cX5_withdrawOffer 12 = .ok (.aload_n 2, 1) := by decide +kernel
theorem dX5_withdrawOffer_13 : decode cX5_withdrawOffer 13 = .ok (.getfield 182, 3) := by decide +kernel
theorem dX5_withdrawOffer_16 : decode cX5_withdrawOffer 16 = .ok (.iconst 1, 1) := by decide +kernel
theorem dX5_withdrawOffer_17 : decode cX5_withdrawOffer 17 = .ok (.if_icmp .eq 6, 3) := by decide +kernel
theorem dX5_withdrawOffer_20 : decode cX5_withdrawOffer 20 = .ok (.bipush (-4), 2) := by decide +kernel
theorem dX5_withdrawOffer_22 : decode cX5_withdrawOffer 22 = .ok (.ireturn, 1) := by decide +kernel
theorem dX5_withdrawOffer_23 : decode cX5_withdrawOffer 23 = .ok (.aload_n 2, 1) := by decide +kernel
theorem dX5_withdrawOffer_24 : decode cX5_withdrawOffer 24 = .ok (.getfield 146, 3) := by decide +kernel
theorem dX5_withdrawOffer_27 : decode cX5_withdrawOffer 27 = .ok (.istore_n 3, 1) := by decide +kernel
theorem dX5_withdrawOffer_28 : decode cX5_withdrawOffer 28 = .ok (.aload_n 2, 1) := by decide +kernel
theorem dX5_withdrawOffer_29 : decode cX5_withdrawOffer 29 = .ok (.iconst 0, 1) := by decide +kernel
theorem dX5_withdrawOffer_30 : decode cX5_withdrawOffer 30 = .ok (.iconst 0, 1) := by decide +kernel
theorem dX5_withdrawOffer_31 : decode cX5_withdrawOffer 31 = .ok (.invokevirtual 156, 3) := by decide +kernel
theorem dX5_withdrawOffer_34 : decode cX5_withdrawOffer 34 = .ok (.iload_n 3, 1) := by decide +kernel
theorem dX5_withdrawOffer_35 : decode cX5_withdrawOffer 35 = .ok (.ireturn, 1) := by decide +kernel
theorem dX5_exerciseRight_0 : decode cX5_exerciseRight 0 = .ok (.aload_n 0, 1) := by decide +kernel
theorem dX5_exerciseRight_1 : decode cX5_exerciseRight 1 = .ok (.iload_n 1, 1) := by decide +kernel
theorem dX5_exerciseRight_2 : decode cX5_exerciseRight 2 = .ok (.invokevirtual 164, 3) := by decide +kernel
theorem dX5_exerciseRight_5 : decode cX5_exerciseRight 5 = .ok (.astore_n 2, 1) := by decide +kernel
theorem dX5_exerciseRight_6 : decode cX5_exerciseRight 6 = .ok (.aload_n 2, 1) := by decide +kernel
theorem dX5_exerciseRight_7 : decode cX5_exerciseRight 7 = .ok (.ifnonnull 5, 3) := by decide +kernel
theorem dX5_exerciseRight_10 : decode cX5_exerciseRight 10 = .ok (.iconst (-1), 1) := by decide +kernel
theorem dX5_exerciseRight_11 : decode cX5_exerciseRight 11 = .ok (.ireturn, 1) := by decide +kernel
theorem dX5_exerciseRight_12 : decode cX5_exerciseRight 12 = .ok (.aload_n 0, 1) := by decide +kernel
theorem dX5_exerciseRight_13 : decode cX5_exerciseRight 13 = .ok (.aload_n 2, 1) := by decide +kernel
theorem dX5_exerciseRight_14 : decode cX5_exerciseRight 14 = .ok (.getfield 172, 3) := by decide +kernel
theorem dX5_exerciseRight_17 : decode cX5_exerciseRight 17 = .ok (.invokevirtual 124, 3) := by decide +kernel
theorem dX5_exerciseRight_20 : decode cX5_exerciseRight 20 = .ok (.astore_n 3, 1) := by decide +kernel
theorem dX5_exerciseRight_21 : decode cX5_exerciseRight 21 = .ok (.aload_n 3, 1) := by decide +kernel
theorem dX5_exerciseRight_22 : decode cX5_exerciseRight 22 = .ok (.ifnull 12, 3) := by decide +kernel
theorem dX5_exerciseRight_25 : decode cX5_exerciseRight 25 = .ok (.aload_n 0, 1) := by decide +kernel
theorem dX5_exerciseRight_26 : decode cX5_exerciseRight 26 = .ok (.aload_n 2, 1) := by decide +kernel
theorem dX5_exerciseRight_27 : decode cX5_exerciseRight 27 = .ok (.aload_n 3, 1) := by decide +kernel
theorem dX5_exerciseRight_28 : decode cX5_exerciseRight 28 = .ok (.invokevirtual 185, 3) := by decide +kernel
theorem dX5_exerciseRight_31 : decode cX5_exerciseRight 31 = .ok (.ifCond .ne 6, 3) := by decide +kernel
theorem dX5_exerciseRight_34 : decode cX5_exerciseRight 34 = .ok (.bipush (-4), 2) := by decide +kernel
theorem dX5_exerciseRight_36 : decode cX5_exerciseRight 36 = .ok (.ireturn, 1) := by decide +kernel
theorem dX5_exerciseRight_37 : decode cX5_exerciseRight 37 = .ok (.aload_n 0, 1) := by decide +kernel
theorem dX5_exerciseRight_38 : decode cX5_exerciseRight 38 = .ok (.getfield 18, 3) := by decide +kernel
theorem dX5_exerciseRight_41 : decode cX5_exerciseRight 41 = .ok (.iconst 3, 1) := by decide +kernel
theorem dX5_exerciseRight_42 : decode cX5_exerciseRight 42 = .ok (.iaload, 1) := by decide +kernel
theorem dX5_exerciseRight_43 : decode cX5_exerciseRight 43 = .ok (.istore 4, 2) := by decide +kernel
theorem dX5_exerciseRight_45 : decode cX5_exerciseRight 45 = .ok (.aload_n 2, 1) := by decide +kernel
theorem dX5_exerciseRight_46 : decode cX5_exerciseRight 46 = .ok (.iconst 2, 1) := by decide +kernel
theorem dX5_exerciseRight_47 : decode cX5_exerciseRight 47 = .ok (.iconst 0, 1) := by decide +kernel
theorem dX5_exerciseRight_48 : decode cX5_exerciseRight 48 = .ok (.invokevirtual 156, 3) := by decide +kernel
theorem dX5_exerciseRight_51 : decode cX5_exerciseRight 51 = .ok (.aload_n 0, 1) := by decide +kernel
theorem dX5_exerciseRight_52 : decode cX5_exerciseRight 52 = .ok (.aload_n 2, 1) := by decide +kernel
theorem dX5_exerciseRight_53 : decode cX5_exerciseRight 53 = .ok (.getfield 143, 3) := by decide +kernel
theorem dX5_exerciseRight_56 : decode cX5_exerciseRight 56 = .ok (.iload 4, 2) := by decide +kernel
theorem dX5_exerciseRight_58 : decode cX5_exerciseRight 58 = .ok (.ineg, 1) := by decide +kernel
theorem dX5_exerciseRight_59 : decode cX5_exerciseRight 59 = .ok (.invokevirtual 149, 3) := by decide +kernel
theorem dX5_exerciseRight_62 : decode cX5_exerciseRight 62 = .ok (.aload_n 0, 1) := by decide +kernel
theorem dX5_exerciseRight_63 : decode cX5_exerciseRight 63 = .ok (.iconst 3, 1) := by decide +kernel
theorem dX5_exerciseRight_64 : decode cX5_exerciseRight 64 = .ok (.aload_n 2, 1) := by decide +kernel
theorem dX5_exerciseRight_65 : decode cX5_exerciseRight 65 = .ok (.iload 4, 2) := by decide +kernel
theorem dX5_exerciseRight_67 : decode cX5_exerciseRight 67 = .ok (.invokevirtual 159, 3) := by decide +kernel
theorem dX5_exerciseRight_70 : decode cX5_exerciseRight 70 = .ok (.aload_n 0, 1) := by decide +kernel
theorem dX5_exerciseRight_71 : decode cX5_exerciseRight 71 = .ok (.aload_n 3, 1) := by decide +kernel
theorem dX5_exerciseRight_72 : decode cX5_exerciseRight 72 = .ok (.iconst 2, 1) := by decide +kernel
theorem dX5_exerciseRight_73 : decode cX5_exerciseRight 73 = .ok (.invokevirtual 189, 3) := by decide +kernel
theorem dX5_exerciseRight_76 : decode cX5_exerciseRight 76 = .ok (.ireturn, 1) := by decide +kernel
theorem dX5_joinList_0 : decode cX5_joinList 0 = .ok (.aload_n 0, 1) := by decide +kernel
theorem dX5_joinList_1 : decode cX5_joinList 1 = .ok (.iload_n 2, 1) := by decide +kernel
theorem dX5_joinList_2 : decode cX5_joinList 2 = .ok (.invokevirtual 124, 3) := by decide +kernel
theorem dX5_joinList_5 : decode cX5_joinList 5 = .ok (.astore_n 3, 1) := by decide +kernel
theorem dX5_joinList_6 : decode cX5_joinList 6 = .ok (.iload_n 1, 1) := by decide +kernel
theorem dX5_joinList_7 : decode cX5_joinList 7 = .ok (.invokestatic 128, 3) := by decide +kernel
theorem dX5_joinList_10 : decode cX5_joinList 10 = .ok (.ifCond .eq 7, 3) := by decide +kernel
theorem dX5_joinList_13 : decode cX5_joinList 13 = .ok (.aload_n 3, 1) := by decide +kernel
theorem dX5_joinList_14 : decode cX5_joinList 14 = .ok (.ifnonnull 5, 3) := by decide +kernel
theorem dX5_joinList_17 : decode cX5_joinList 17 = .ok (.iconst (-1), 1) := by decide +kernel
theorem dX5_joinList_18 : decode cX5_joinList 18 = .ok (.ireturn, 1) := by decide +kernel
theorem dX5_joinList_19 : decode cX5_joinList 19 = .ok (.aload_n 0, 1) := by decide +kernel
theorem dX5_joinList_20 : decode cX5_joinList 20 = .ok (.aload_n 3, 1) := by decide +kernel
theorem dX5_joinList_21 : decode cX5_joinList 21 = .ok (.invokevirtual 131, 3) := by decide +kernel
theorem dX5_joinList_24 : decode cX5_joinList 24 = .ok (.ifCond .eq 11, 3) := by decide +kernel
theorem dX5_joinList_27 : decode cX5_joinList 27 = .ok (.aload_n 3, 1) := by decide +kernel
theorem dX5_joinList_28 : decode cX5_joinList 28 = .ok (.iload_n 1, 1) := by decide +kernel
theorem dX5_joinList_29 : decode cX5_joinList 29 = .ok (.invokevirtual 193, 3) := by decide +kernel
theorem dX5_joinList_32 : decode cX5_joinList 32 = .ok (.ifCond .lt 6, 3) := by decide +kernel
theorem dX5_joinList_35 : decode cX5_joinList 35 = .ok (.bipush (-4), 2) := by decide +kernel
theorem dX5_joinList_37 : decode cX5_joinList 37 = .ok (.ireturn, 1) := by decide +kernel
theorem dX5_joinList_38 : decode cX5_joinList 38 = .ok (.aload_n 3, 1) := by decide +kernel
theorem dX5_joinList_39 : decode cX5_joinList 39 = .ok (.iload_n 1, 1) := by decide +kernel
theorem dX5_joinList_40 : decode cX5_joinList 40 = .ok (.invokevirtual 197, 3) := by decide +kernel
theorem dX5_joinList_43 : decode cX5_joinList 43 = .ok (.ireturn, 1) := by decide +kernel
theorem dX5_quitList_0 : decode cX5_quitList 0 = .ok (.aload_n 0, 1) := by decide +kernel
theorem dX5_quitList_1 : decode cX5_quitList 1 = .ok (.iload_n 2, 1) := by decide +kernel
theorem dX5_quitList_2 : decode cX5_quitList 2 = .ok (.invokevirtual 124, 3) := by decide +kernel
theorem dX5_quitList_5 : decode cX5_quitList 5 = .ok (.astore_n 3, 1) := by decide +kernel
theorem dX5_quitList_6 : decode cX5_quitList 6 = .ok (.iload_n 1, 1) := by decide +kernel
theorem dX5_quitList_7 : decode cX5_quitList 7 = .ok (.invokestatic 128, 3) := by decide +kernel
theorem dX5_quitList_10 : decode cX5_quitList 10 = .ok (.ifCond .eq 7, 3) := by decide +kernel
theorem dX5_quitList_13 : decode cX5_quitList 13 = .ok (.aload_n 3, 1) := by decide +kernel
theorem dX5_quitList_14 : decode cX5_quitList 14 = .ok (.ifnonnull 5, 3) := by decide +kernel
theorem dX5_quitList_17 : decode cX5_quitList 17 = .ok (.iconst (-1), 1) := by decide +kernel
theorem dX5_quitList_18 : decode cX5_quitList 18 = .ok (.ireturn, 1) := by decide +kernel
theorem dX5_quitList_19 : decode cX5_quitList 19 = .ok (.aload_n 3, 1) := by decide +kernel
theorem dX5_quitList_20 : decode cX5_quitList 20 = .ok (.iload_n 1, 1) := by decide +kernel
theorem dX5_quitList_21 : decode cX5_quitList 21 = .ok (.invokevirtual 193, 3) := by decide +kernel
theorem dX5_quitList_24 : decode cX5_quitList 24 = .ok (.istore 4, 2) := by decide +kernel
theorem dX5_quitList_26 : decode cX5_quitList 26 = .ok (.aload_n 3, 1) := by decide +kernel
theorem dX5_quitList_27 : decode cX5_quitList 27 = .ok (.iload 4, 2) := by decide +kernel
theorem dX5_quitList_29 : decode cX5_quitList 29 = .ok (.invokevirtual 200, 3) := by decide +kernel
theorem dX5_quitList_32 : decode cX5_quitList 32 = .ok (.iload 4, 2) := by decide +kernel
theorem dX5_quitList_34 : decode cX5_quitList 34 = .ok (.ireturn, 1) := by decide +kernel
theorem dX5_passDays_0 : decode cX5_passDays 0 = .ok (.iload_n 1, 1) := by decide +kernel
theorem dX5_passDays_1 : decode cX5_passDays 1 = .ok (.iconst 1, 1) := by decide +kernel
theorem dX5_passDays_2 : decode cX5_passDays 2 = .ok (.if_icmp .lt 9, 3) := by decide +kernel
theorem dX5_passDays_5 : decode cX5_passDays 5 = .ok (.iload_n 1, 1) := by decide +kernel
theorem dX5_passDays_6 : decode cX5_passDays 6 = .ok (.bipush 60, 2) := by decide +kernel
theorem dX5_passDays_8 : decode cX5_passDays 8 = .ok (.if_icmp .le 6, 3) := by decide +kernel
theorem dX5_passDays_11 : decode cX5_passDays 11 = .ok (.bipush (-2), 2) := by decide +kernel
theorem dX5_passDays_13 : decode cX5_passDays 13 = .ok (.ireturn, 1) := by decide +kernel
theorem dX5_passDays_14 : decode cX5_passDays 14 = .ok (.aload_n 0, 1) := by decide +kernel
theorem dX5_passDays_15 : decode cX5_passDays 15 = .ok (.getfield 61, 3) := by decide +kernel
theorem dX5_passDays_18 : decode cX5_passDays 18 = .ok (.iload_n 1, 1) := by decide +kernel
theorem dX5_passDays_19 : decode cX5_passDays 19 = .ok (.iadd, 1) := by decide +kernel
theorem dX5_passDays_20 : decode cX5_passDays 20 = .ok (.sipush 9999, 3) := by decide +kernel
theorem dX5_passDays_23 : decode cX5_passDays 23 = .ok (.if_icmp .le 6, 3) := by decide +kernel
theorem dX5_passDays_26 : decode cX5_passDays 26 = .ok (.bipush (-4), 2) := by decide +kernel
theorem dX5_passDays_28 : decode cX5_passDays 28 = .ok (.ireturn, 1) := by decide +kernel
theorem dX5_passDays_29 : decode cX5_passDays 29 = .ok (.iconst 0, 1) := by decide +kernel
theorem dX5_passDays_30 : decode cX5_passDays 30 = .ok (.istore_n 2, 1) := by decide +kernel
theorem dX5_passDays_31 : decode cX5_passDays 31 = .ok (.iconst 0, 1) := by decide +kernel
theorem dX5_passDays_32 : decode cX5_passDays 32 = .ok (.istore_n 3, 1) := by decide +kernel
theorem dX5_passDays_33 : decode cX5_passDays 33 = .ok (.iload_n 3, 1) := by decide +kernel
theorem dX5_passDays_34 : decode cX5_passDays 34 = .ok (.iload_n 1, 1) := by decide +kernel
theorem dX5_passDays_35 : decode cX5_passDays 35 = .ok (.if_icmp .ge 16, 3) := by decide +kernel
theorem dX5_passDays_38 : decode cX5_passDays 38 = .ok (.iload_n 2, 1) := by decide +kernel
theorem dX5_passDays_39 : decode cX5_passDays 39 = .ok (.aload_n 0, 1) := by decide +kernel
theorem dX5_passDays_40 : decode cX5_passDays 40 = .ok (.invokevirtual 203, 3) := by decide +kernel
theorem dX5_passDays_43 : decode cX5_passDays 43 = .ok (.iadd, 1) := by decide +kernel
theorem dX5_passDays_44 : decode cX5_passDays 44 = .ok (.istore_n 2, 1) := by decide +kernel
theorem dX5_passDays_45 : decode cX5_passDays 45 = .ok (.iinc 3 1, 3) := by decide +kernel
theorem dX5_passDays_48 : decode cX5_passDays 48 = .ok (.goto (-15), 3) := by decide +kernel
theorem dX5_passDays_51 : decode cX5_passDays 51 = .ok (.iload_n 2, 1) := by decide +kernel
theorem dX5_passDays_52 : decode cX5_passDays 52 = .ok (.ireturn, 1) := by decide +kernel
theorem dX5_passOneDay_0 : decode cX5_passOneDay 0 = .ok (.aload_n 0, 1) := by decide +kernel
theorem dX5_passOneDay_1 : decode cX5_passOneDay 1 = .ok (.dup, 1) := by decide +kernel
theorem dX5_passOneDay_2 : decode cX5_passOneDay 2 = .ok (.getfield 61, 3) := by decide +kernel
theorem dX5_passOneDay_5 : decode cX5_passOneDay 5 = .ok (.iconst 1, 1) := by decide +kernel
theorem dX5_passOneDay_6 : decode cX5_passOneDay 6 = .ok (.iadd, 1) := by decide +kernel
theorem dX5_passOneDay_7 : decode cX5_passOneDay 7 = .ok (.putfield 61, 3) := by decide +kernel
theorem dX5_passOneDay_10 : decode cX5_passOneDay 10 = .ok (.iconst 0, 1) := by decide +kernel
theorem dX5_passOneDay_11 : decode cX5_passOneDay 11 = .ok (.istore_n 1, 1) := by decide +kernel
theorem dX5_passOneDay_12 : decode cX5_passOneDay 12 = .ok (.iconst 0, 1) := by decide +kernel
theorem dX5_passOneDay_13 : decode cX5_passOneDay 13 = .ok (.istore_n 2, 1) := by decide +kernel
theorem dX5_passOneDay_14 : decode cX5_passOneDay 14 = .ok (.iload_n 2, 1) := by decide +kernel
theorem dX5_passOneDay_15 : decode cX5_passOneDay 15 = .ok (.aload_n 0, 1) := by decide +kernel
theorem dX5_passOneDay_16 : decode cX5_passOneDay 16 = .ok (.getfield 69, 3) := by decide +kernel
theorem dX5_passOneDay_19 : decode cX5_passOneDay 19 = .ok (.if_icmp .ge 44, 3) := by decide +kernel
theorem dX5_passOneDay_22 : decode cX5_passOneDay 22 = .ok (.iload_n 2, 1) := by decide +kernel
theorem dX5_passOneDay_23 : decode cX5_passOneDay 23 = .ok (.aload_n 0, 1) := by decide +kernel
theorem dX5_passOneDay_24 : decode cX5_passOneDay 24 = .ok (.getfield 37, 3) := by decide +kernel
theorem dX5_passOneDay_27 : decode cX5_passOneDay 27 = .ok (.arraylength, 1) := by decide +kernel
theorem dX5_passOneDay_28 : decode cX5_passOneDay 28 = .ok (.if_icmp .ge 35, 3) := by decide +kernel
theorem dX5_passOneDay_31 : decode cX5_passOneDay 31 = .ok (.aload_n 0, 1) := by decide +kernel
theorem dX5_passOneDay_32 : decode cX5_passOneDay 32 = .ok (.aload_n 0, 1) := by decide +kernel
theorem dX5_passOneDay_33 : decode cX5_passOneDay 33 = .ok (.getfield 37, 3) := by decide +kernel
theorem dX5_passOneDay_36 : decode cX5_passOneDay 36 = .ok (.iload_n 2, 1) := by decide +kernel
theorem dX5_passOneDay_37 : decode cX5_passOneDay 37 = .ok (.aaload, 1) := by decide +kernel
theorem dX5_passOneDay_38 : decode cX5_passOneDay 38 = .ok (.invokevirtual 207, 3) := by decide +kernel
theorem dX5_passOneDay_41 : decode cX5_passOneDay 41 = .ok (.ifCond .ne 16, 3) := by decide +kernel
theorem dX5_passOneDay_44 : decode cX5_passOneDay 44 = .ok (.iload_n 1, 1) := by decide +kernel
theorem dX5_passOneDay_45 : decode cX5_passOneDay 45 = .ok (.aload_n 0, 1) := by decide +kernel
theorem dX5_passOneDay_46 : decode cX5_passOneDay 46 = .ok (.aload_n 0, 1) := by decide +kernel
theorem dX5_passOneDay_47 : decode cX5_passOneDay 47 = .ok (.getfield 37, 3) := by decide +kernel
theorem dX5_passOneDay_50 : decode cX5_passOneDay 50 = .ok (.iload_n 2, 1) := by decide +kernel
theorem dX5_passOneDay_51 : decode cX5_passOneDay 51 = .ok (.aaload, 1) := by decide +kernel
theorem dX5_passOneDay_52 : decode cX5_passOneDay 52 = .ok (.invokevirtual 211, 3) := by decide +kernel
theorem dX5_passOneDay_55 : decode cX5_passOneDay 55 = .ok (.iadd, 1) := by decide +kernel
theorem dX5_passOneDay_56 : decode cX5_passOneDay 56 = .ok (.istore_n 1, 1) := by decide +kernel
theorem dX5_passOneDay_57 : decode cX5_passOneDay 57 = .ok (.iinc 2 1, 3) := by decide +kernel
theorem dX5_passOneDay_60 : decode cX5_passOneDay 60 = .ok (.goto (-46), 3) := by decide +kernel
theorem dX5_passOneDay_63 : decode cX5_passOneDay 63 = .ok (.iconst 0, 1) := by decide +kernel
theorem dX5_passOneDay_64 : decode cX5_passOneDay 64 = .ok (.istore_n 2, 1) := by decide +kernel
theorem dX5_passOneDay_65 : decode cX5_passOneDay 65 = .ok (.iload_n 2, 1) := by decide +kernel
theorem dX5_passOneDay_66 : decode cX5_passOneDay 66 = .ok (.aload_n 0, 1) := by decide +kernel
theorem dX5_passOneDay_67 : decode cX5_passOneDay 67 = .ok (.getfield 69, 3) := by decide +kernel
theorem dX5_passOneDay_70 : decode cX5_passOneDay 70 = .ok (.if_icmp .ge 48, 3) := by decide +kernel
theorem dX5_passOneDay_73 : decode cX5_passOneDay 73 = .ok (.iload_n 2, 1) := by decide +kernel
theorem dX5_passOneDay_74 : decode cX5_passOneDay 74 = .ok (.aload_n 0, 1) := by decide +kernel
theorem dX5_passOneDay_75 : decode cX5_passOneDay 75 = .ok (.getfield 37, 3) := by decide +kernel
theorem dX5_passOneDay_78 : decode cX5_passOneDay 78 = .ok (.arraylength, 1) := by decide +kernel
theorem dX5_passOneDay_79 : decode cX5_passOneDay 79 = .ok (.if_icmp .ge 39, 3) := by decide +kernel
theorem dX5_passOneDay_82 : decode cX5_passOneDay 82 = .ok (.aload_n 0, 1) := by decide +kernel
theorem dX5_passOneDay_83 : decode cX5_passOneDay 83 = .ok (.aload_n 0, 1) := by decide +kernel
theorem dX5_passOneDay_84 : decode cX5_passOneDay 84 = .ok (.getfield 37, 3) := by decide +kernel
theorem dX5_passOneDay_87 : decode cX5_passOneDay 87 = .ok (.iload_n 2, 1) := by decide +kernel
theorem dX5_passOneDay_88 : decode cX5_passOneDay 88 = .ok (.aaload, 1) := by decide +kernel
theorem dX5_passOneDay_89 : decode cX5_passOneDay 89 = .ok (.invokevirtual 207, 3) := by decide +kernel
theorem dX5_passOneDay_92 : decode cX5_passOneDay 92 = .ok (.aload_n 0, 1) := by decide +kernel
theorem dX5_passOneDay_93 : decode cX5_passOneDay 93 = .ok (.getfield 18, 3) := by decide +kernel
theorem dX5_passOneDay_96 : decode cX5_passOneDay 96 = .ok (.iconst 0, 1) := by decide +kernel
theorem dX5_passOneDay_97 : decode cX5_passOneDay 97 = .ok (.iaload, 1) := by decide +kernel
theorem dX5_passOneDay_98 : decode cX5_passOneDay 98 = .ok (.if_icmp .ne 14, 3) := by decide +kernel
theorem dX5_passOneDay_101 : decode cX5_passOneDay 101 = .ok (.aload_n 0, 1) := by decide +kernel
theorem dX5_passOneDay_102 : decode cX5_passOneDay 102 = .ok (.aload_n 0, 1) := by decide +kernel
theorem dX5_passOneDay_103 : decode cX5_passOneDay 103 = .ok (.getfield 37, 3) := by decide +kernel
theorem dX5_passOneDay_106 : decode cX5_passOneDay 106 = .ok (.iload_n 2, 1) := by decide +kernel
theorem dX5_passOneDay_107 : decode cX5_passOneDay 107 = .ok (.aaload, 1) := by decide +kernel
theorem dX5_passOneDay_108 : decode cX5_passOneDay 108 = .ok (.invokevirtual 214, 3) := by decide +kernel
theorem dX5_passOneDay_111 : decode cX5_passOneDay 111 = .ok (.pop, 1) := by decide +kernel
theorem dX5_passOneDay_112 : decode cX5_passOneDay 112 = .ok (.iinc 2 1, 3) := by decide +kernel
theorem dX5_passOneDay_115 : decode cX5_passOneDay 115 = .ok (.goto (-50), 3) := by decide +kernel
theorem dX5_passOneDay_118 : decode cX5_passOneDay 118 = .ok (.iconst 0, 1) := by decide +kernel
theorem dX5_passOneDay_119 : decode cX5_passOneDay 119 = .ok (.istore_n 2, 1) := by decide +kernel
theorem dX5_passOneDay_120 : decode cX5_passOneDay 120 = .ok (.iload_n 2, 1) := by decide +kernel
theorem dX5_passOneDay_121 : decode cX5_passOneDay 121 = .ok (.aload_n 0, 1) := by decide +kernel
theorem dX5_passOneDay_122 : decode cX5_passOneDay 122 = .ok (.getfield 69, 3) := by decide +kernel
theorem dX5_passOneDay_125 : decode cX5_passOneDay 125 = .ok (.if_icmp .ge 41, 3) := by decide +kernel
theorem dX5_passOneDay_128 : decode cX5_passOneDay 128 = .ok (.iload_n 2, 1) := by decide +kernel
theorem dX5_passOneDay_129 : decode cX5_passOneDay 129 = .ok (.aload_n 0, 1) := by decide +kernel
theorem dX5_passOneDay_130 : decode cX5_passOneDay 130 = .ok (.getfield 37, 3) := by decide +kernel
theorem dX5_passOneDay_133 : decode cX5_passOneDay 133 = .ok (.arraylength, 1) := by decide +kernel
theorem dX5_passOneDay_134 : decode cX5_passOneDay 134 = .ok (.if_icmp .ge 32, 3) := by decide +kernel
theorem dX5_passOneDay_137 : decode cX5_passOneDay 137 = .ok (.aload_n 0, 1) := by decide +kernel
theorem dX5_passOneDay_138 : decode cX5_passOneDay 138 = .ok (.aload_n 0, 1) := by decide +kernel
theorem dX5_passOneDay_139 : decode cX5_passOneDay 139 = .ok (.getfield 37, 3) := by decide +kernel
theorem dX5_passOneDay_142 : decode cX5_passOneDay 142 = .ok (.iload_n 2, 1) := by decide +kernel
theorem dX5_passOneDay_143 : decode cX5_passOneDay 143 = .ok (.aaload, 1) := by decide +kernel
theorem dX5_passOneDay_144 : decode cX5_passOneDay 144 = .ok (.invokevirtual 131, 3) := by decide +kernel
theorem dX5_passOneDay_147 : decode cX5_passOneDay 147 = .ok (.ifCond .eq 13, 3) := by decide +kernel
theorem dX5_passOneDay_150 : decode cX5_passOneDay 150 = .ok (.aload_n 0, 1) := by decide +kernel
theorem dX5_passOneDay_151 : decode cX5_passOneDay 151 = .ok (.aload_n 0, 1) := by decide +kernel
theorem dX5_passOneDay_152 : decode cX5_passOneDay 152 = .ok (.getfield 37, 3) := by decide +kernel
theorem dX5_passOneDay_155 : decode cX5_passOneDay 155 = .ok (.iload_n 2, 1) := by decide +kernel
theorem dX5_passOneDay_156 : decode cX5_passOneDay 156 = .ok (.aaload, 1) := by decide +kernel
theorem dX5_passOneDay_157 : decode cX5_passOneDay 157 = .ok (.invokevirtual 175, 3) := by decide +kernel
theorem dX5_passOneDay_160 : decode cX5_passOneDay 160 = .ok (.iinc 2 1, 3) := by decide +kernel
theorem dX5_passOneDay_163 : decode cX5_passOneDay 163 = .ok (.goto (-43), 3) := by decide +kernel
theorem dX5_passOneDay_166 : decode cX5_passOneDay 166 = .ok (.iload_n 1, 1) := by decide +kernel
theorem dX5_passOneDay_167 : decode cX5_passOneDay 167 = .ok (.ireturn, 1) := by decide +kernel
theorem dX5_endDate_0 : decode cX5_endDate 0 = .ok (.iconst 0, 1) := by decide +kernel
theorem dX5_endDate_1 : decode cX5_endDate 1 = .ok (.istore_n 2, 1) := by decide +kernel
theorem dX5_endDate_2 : decode cX5_endDate 2 = .ok (.iconst 0, 1) := by decide +kernel
theorem dX5_endDate_3 : decode cX5_endDate 3 = .ok (.istore_n 3, 1) := by decide +kernel
theorem dX5_endDate_4 : decode cX5_endDate 4 = .ok (.iload_n 3, 1) := by decide +kernel
theorem dX5_endDate_5 : decode cX5_endDate 5 = .ok (.aload_n 0, 1) := by decide +kernel
theorem dX5_endDate_6 : decode cX5_endDate 6 = .ok (.getfield 76, 3) := by decide +kernel
theorem dX5_endDate_9 : decode cX5_endDate 9 = .ok (.if_icmp .ge 81, 3) := by decide +kernel
theorem dX5_endDate_12 : decode cX5_endDate 12 = .ok (.iload_n 3, 1) := by decide +kernel
theorem dX5_endDate_13 : decode cX5_endDate 13 = .ok (.aload_n 0, 1) := by decide +kernel
theorem dX5_endDate_14 : decode cX5_endDate 14 = .ok (.getfield 43, 3) := by decide +kernel
theorem dX5_endDate_17 : decode cX5_endDate 17 = .ok (.arraylength, 1) := by decide +kernel
theorem dX5_endDate_18 : decode cX5_endDate 18 = .ok (.if_icmp .ge 72, 3) := by decide +kernel
theorem dX5_endDate_21 : decode cX5_endDate 21 = .ok (.aload_n 0, 1) := by decide +kernel
theorem dX5_endDate_22 : decode cX5_endDate 22 = .ok (.getfield 43, 3) := by decide +kernel
theorem dX5_endDate_25 : decode cX5_endDate 25 = .ok (.iload_n 3, 1) := by decide +kernel
theorem dX5_endDate_26 : decode cX5_endDate 26 = .ok (.aaload, 1) := by decide +kernel
theorem dX5_endDate_27 : decode cX5_endDate 27 = .ok (.getfield 172, 3) := by decide +kernel
theorem dX5_endDate_30 : decode cX5_endDate 30 = .ok (.aload_n 1, 1) := by decide +kernel
theorem dX5_endDate_31 : decode cX5_endDate 31 = .ok (.getfield 107, 3) := by decide +kernel
theorem dX5_endDate_34 : decode cX5_endDate 34 = .ok (.if_icmp .ne 50, 3) := by decide +kernel
theorem dX5_endDate_37 : decode cX5_endDate 37 = .ok (.aload_n 0, 1) := by decide +kernel
theorem dX5_endDate_38 : decode cX5_endDate 38 = .ok (.getfield 43, 3) := by decide +kernel
theorem dX5_endDate_41 : decode cX5_endDate 41 = .ok (.iload_n 3, 1) := by decide +kernel
theorem dX5_endDate_42 : decode cX5_endDate 42 = .ok (.aaload, 1) := by decide +kernel
theorem dX5_endDate_43 : decode cX5_endDate 43 = .ok (.invokevirtual 178, 3) := by decide +kernel
theorem dX5_endDate_46 : decode cX5_endDate 46 = .ok (.ifCond .eq 38, 3) := by decide +kernel
theorem dX5_endDate_49 : decode cX5_endDate 49 = .ok (.aload_n 0, 1) := by decide +kernel
theorem dX5_endDate_50 : decode cX5_endDate 50 = .ok (.getfield 43, 3) := by decide +kernel
theorem dX5_endDate_53 : decode cX5_endDate 53 = .ok (.iload_n 3, 1) := by decide +kernel
theorem dX5_endDate_54 : decode cX5_endDate 54 = .ok (.aaload, 1) := by decide +kernel
theorem dX5_endDate_55 : decode cX5_endDate 55 = .ok (.iconst 5, 1) := by decide +kernel
theorem dX5_endDate_56 : decode cX5_endDate 56 = .ok (.iconst 0, 1) := by decide +kernel
theorem dX5_endDate_57 : decode cX5_endDate 57 = .ok (.invokevirtual 156, 3) := by decide +kernel
theorem dX5_endDate_60 : decode cX5_endDate 60 = .ok (.aload_n 0, 1) := by decide +kernel
theorem dX5_endDate_61 : decode cX5_endDate 61 = .ok (.bipush 6, 2) := by decide +kernel
theorem dX5_endDate_63 : decode cX5_endDate 63 = .ok (.aload_n 0, 1) := by decide +kernel
theorem dX5_endDate_64 : decode cX5_endDate 64 = .ok (.getfield 43, 3) := by decide +kernel
theorem dX5_endDate_67 : decode cX5_endDate 67 = .ok (.iload_n 3, 1) := by decide +kernel
theorem dX5_endDate_68 : decode cX5_endDate 68 = .ok (.aaload, 1) := by decide +kernel
theorem dX5_endDate_69 : decode cX5_endDate 69 = .ok (.aload_n 0, 1) := by decide +kernel
theorem dX5_endDate_70 : decode cX5_endDate 70 = .ok (.getfield 43, 3) := by decide +kernel
theorem dX5_endDate_73 : decode cX5_endDate 73 = .ok (.iload_n 3, 1) := by decide +kernel
theorem dX5_endDate_74 : decode cX5_endDate 74 = .ok (.aaload, 1) := by decide +kernel
theorem dX5_endDate_75 : decode cX5_endDate 75 = .ok (.getfield 217, 3) := by decide +kernel
theorem dX5_endDate_78 : decode cX5_endDate 78 = .ok (.invokevirtual 159, 3) := by decide +kernel
theorem dX5_endDate_81 : decode cX5_endDate 81 = .ok (.iinc 2 1, 3) := by decide +kernel
theorem dX5_endDate_84 : decode cX5_endDate 84 = .ok (.iinc 3 1, 3) := by decide +kernel
theorem dX5_endDate_87 : decode cX5_endDate 87 = .ok (.goto (-83), 3) := by decide +kernel
theorem dX5_endDate_90 : decode cX5_endDate 90 = .ok (.aload_n 1, 1) := by decide +kernel
theorem dX5_endDate_91 : decode cX5_endDate 91 = .ok (.iconst 0, 1) := by decide +kernel
theorem dX5_endDate_92 : decode cX5_endDate 92 = .ok (.putfield 104, 3) := by decide +kernel
theorem dX5_endDate_95 : decode cX5_endDate 95 = .ok (.iload_n 2, 1) := by decide +kernel
theorem dX5_endDate_96 : decode cX5_endDate 96 = .ok (.ireturn, 1) := by decide +kernel
theorem dX5_coverRightsOf_0 : decode cX5_coverRightsOf 0 = .ok (.iconst 0, 1) := by decide +kernel
theorem dX5_coverRightsOf_1 : decode cX5_coverRightsOf 1 = .ok (.istore_n 2, 1) := by decide +kernel
theorem dX5_coverRightsOf_2 : decode cX5_coverRightsOf 2 = .ok (.aload_n 0, 1) := by decide +kernel
theorem dX5_coverRightsOf_3 : decode cX5_coverRightsOf 3 = .ok (.aload_n 1, 1) := by decide +kernel
theorem dX5_coverRightsOf_4 : decode cX5_coverRightsOf 4 = .ok (.invokevirtual 220, 3) := by decide +kernel
theorem dX5_coverRightsOf_7 : decode cX5_coverRightsOf 7 = .ok (.aload_n 1, 1) := by decide +kernel
theorem dX5_coverRightsOf_8 : decode cX5_coverRightsOf 8 = .ok (.getfield 92, 3) := by decide +kernel
theorem dX5_coverRightsOf_11 : decode cX5_coverRightsOf 11 = .ok (.isub, 1) := by decide +kernel
theorem dX5_coverRightsOf_12 : decode cX5_coverRightsOf 12 = .ok (.istore_n 3, 1) := by decide +kernel
theorem dX5_coverRightsOf_13 : decode cX5_coverRightsOf 13 = .ok (.iconst 0, 1) := by decide +kernel
theorem dX5_coverRightsOf_14 : decode cX5_coverRightsOf 14 = .ok (.istore 4, 2) := by decide +kernel
theorem dX5_coverRightsOf_16 : decode cX5_coverRightsOf 16 = .ok (.iload 4, 2) := by decide +kernel
theorem dX5_coverRightsOf_18 : decode cX5_coverRightsOf 18 = .ok (.iload_n 3, 1) := by decide +kernel
theorem dX5_coverRightsOf_19 : decode cX5_coverRightsOf 19 = .ok (.if_icmp .ge 32, 3) := by decide +kernel
theorem dX5_coverRightsOf_22 : decode cX5_coverRightsOf 22 = .ok (.aload_n 0, 1) := by decide +kernel
theorem dX5_coverRightsOf_23 : decode cX5_coverRightsOf 23 = .ok (.aload_n 1, 1) := by decide +kernel
theorem dX5_coverRightsOf_24 : decode cX5_coverRightsOf 24 = .ok (.invokevirtual 223, 3) := by decide +kernel
theorem dX5_coverRightsOf_27 : decode cX5_coverRightsOf 27 = .ok (.astore 5, 2) := by decide +kernel
theorem dX5_coverRightsOf_29 : decode cX5_coverRightsOf 29 = .ok (.aload 5, 2) := by decide +kernel
theorem dX5_coverRightsOf_31 : decode cX5_coverRightsOf 31 = .ok (.ifnonnull 5, 3) := by decide +kernel
theorem dX5_coverRightsOf_34 : decode cX5_coverRightsOf 34 = .ok (.iload_n 2, 1) := by decide +kernel
theorem dX5_coverRightsOf_35 : decode cX5_coverRightsOf 35 = .ok (.ireturn, 1) := by decide +kernel
theorem dX5_coverRightsOf_36 : decode cX5_coverRightsOf 36 = .ok (.iload_n 2, 1) := by decide +kernel
theorem dX5_coverRightsOf_37 : decode cX5_coverRightsOf 37 = .ok (.aload_n 0, 1) := by decide +kernel
theorem dX5_coverRightsOf_38 : decode cX5_coverRightsOf 38 = .ok (.aload 5, 2) := by decide +kernel
theorem dX5_coverRightsOf_40 : decode cX5_coverRightsOf 40 = .ok (.invokevirtual 226, 3) := by decide +kernel
theorem dX5_coverRightsOf_43 : decode cX5_coverRightsOf 43 = .ok (.iadd, 1) := by decide +kernel
theorem dX5_coverRightsOf_44 : decode cX5_coverRightsOf 44 = .ok (.istore_n 2, 1) := by decide +kernel
theorem dX5_coverRightsOf_45 : decode cX5_coverRightsOf 45 = .ok (.iinc 4 1, 3) := by decide +kernel
theorem dX5_coverRightsOf_48 : decode cX5_coverRightsOf 48 = .ok (.goto (-32), 3) := by decide +kernel
theorem dX5_coverRightsOf_51 : decode cX5_coverRightsOf 51 = .ok (.iload_n 2, 1) := by decide +kernel
theorem dX5_coverRightsOf_52 : decode cX5_coverRightsOf 52 = .ok (.ireturn, 1) := by decide +kernel
theorem dX5_coverOne_0 : decode cX5_coverOne 0 = .ok (.aload_n 1, 1) := by decide +kernel
theorem dX5_coverOne_1 : decode cX5_coverOne 1 = .ok (.getfield 182, 3) := by decide +kernel
theorem dX5_coverOne_4 : decode cX5_coverOne 4 = .ok (.iconst 1, 1) := by decide +kernel
theorem dX5_coverOne_5 : decode cX5_coverOne 5 = .ok (.if_icmp .ne 10, 3) := by decide +kernel
theorem dX5_coverOne_8 : decode cX5_coverOne 8 = .ok (.aload_n 1, 1) := by decide +kernel
theorem dX5_coverOne_9 : decode cX5_coverOne 9 = .ok (.getfield 146, 3) := by decide +kernel
theorem dX5_coverOne_12 : decode cX5_coverOne 12 = .ok (.goto 11, 3) := by decide +kernel
theorem dX5_coverOne_15 : decode cX5_coverOne 15 = .ok (.aload_n 1, 1) := by decide +kernel
theorem dX5_coverOne_16 : decode cX5_coverOne 16 = .ok (.getfield 217, 3) := by decide +kernel
theorem dX5_coverOne_19 : decode cX5_coverOne 19 = .ok (.iconst 3, 1) := by decide +kernel
theorem dX5_coverOne_20 : decode cX5_coverOne 20 = .ok (.imul, 1) := by decide +kernel
theorem dX5_coverOne_21 : decode cX5_coverOne 21 = .ok (.iconst 2, 1) := by decide +kernel
theorem dX5_coverOne_22 : decode cX5_coverOne 22 = .ok (.idiv, 1) := by decide +kernel
theorem dX5_coverOne_23 : decode cX5_coverOne 23 = .ok (.istore_n 2, 1) := by decide +kernel
theorem dX5_coverOne_24 : decode cX5_coverOne 24 = .ok (.aload_n 1, 1) := by decide +kernel
theorem dX5_coverOne_25 : decode cX5_coverOne 25 = .ok (.iconst 4, 1) := by decide +kernel
theorem dX5_coverOne_26 : decode cX5_coverOne 26 = .ok (.iconst 0, 1) := by decide +kernel
theorem dX5_coverOne_27 : decode cX5_coverOne 27 = .ok (.invokevirtual 156, 3) := by decide +kernel
theorem dX5_coverOne_30 : decode cX5_coverOne 30 = .ok (.aload_n 0, 1) := by decide +kernel
theorem dX5_coverOne_31 : decode cX5_coverOne 31 = .ok (.aload_n 1, 1) := by decide +kernel
theorem dX5_coverOne_32 : decode cX5_coverOne 32 = .ok (.getfield 143, 3) := by decide +kernel
theorem dX5_coverOne_35 : decode cX5_coverOne 35 = .ok (.iload_n 2, 1) := by decide +kernel
theorem dX5_coverOne_36 : decode cX5_coverOne 36 = .ok (.invokevirtual 149, 3) := by decide +kernel
theorem dX5_coverOne_39 : decode cX5_coverOne 39 = .ok (.aload_n 0, 1) := by decide +kernel
theorem dX5_coverOne_40 : decode cX5_coverOne 40 = .ok (.iconst 5, 1) := by decide +kernel
theorem dX5_coverOne_41 : decode cX5_coverOne 41 = .ok (.aload_n 1, 1) := by decide +kernel
theorem dX5_coverOne_42 : decode cX5_coverOne 42 = .ok (.iload_n 2, 1) := by decide +kernel
theorem dX5_coverOne_43 : decode cX5_coverOne 43 = .ok (.invokevirtual 159, 3) := by decide +kernel
theorem dX5_coverOne_46 : decode cX5_coverOne 46 = .ok (.iload_n 2, 1) := by decide +kernel
theorem dX5_coverOne_47 : decode cX5_coverOne 47 = .ok (.ireturn, 1) := by decide +kernel
theorem dX5_nextToCover_0 : decode cX5_nextToCover 0 = .ok (.aload_n 0, 1) := by decide +kernel
theorem dX5_nextToCover_1 : decode cX5_nextToCover 1 = .ok (.aload_n 1, 1) := by decide +kernel
theorem dX5_nextToCover_2 : decode cX5_nextToCover 2 = .ok (.invokevirtual 139, 3) := by decide +kernel
theorem dX5_nextToCover_5 : decode cX5_nextToCover 5 = .ok (.astore_n 2, 1) := by decide +kernel
theorem dX5_nextToCover_6 : decode cX5_nextToCover 6 = .ok (.aload_n 2, 1) := by decide +kernel
theorem dX5_nextToCover_7 : decode cX5_nextToCover 7 = .ok (.ifnonnull 11, 3) := by decide +kernel
theorem dX5_nextToCover_10 : decode cX5_nextToCover 10 = .ok (.aload_n 0, 1) := by decide +kernel
theorem dX5_nextToCover_11 : decode cX5_nextToCover 11 = .ok (.aload_n 1, 1) := by decide +kernel
theorem dX5_nextToCover_12 : decode cX5_nextToCover 12 = .ok (.invokevirtual 229, 3) := by decide +kernel
theorem dX5_nextToCover_15 : decode cX5_nextToCover 15 = .ok (.goto 4, 3) := by decide +kernel
theorem dX5_nextToCover_18 : decode cX5_nextToCover 18 = .ok (.aload_n 2, 1) := by decide +kernel
theorem dX5_nextToCover_19 : decode cX5_nextToCover 19 = .ok (.areturn, 1) := by decide +kernel
theorem dX5_letListBuy_0 : decode cX5_letListBuy 0 = .ok (.iconst 0, 1) := by decide +kernel
theorem dX5_letListBuy_1 : decode cX5_letListBuy 1 = .ok (.istore_n 2, 1) := by decide +kernel
theorem dX5_letListBuy_2 : decode cX5_letListBuy 2 = .ok (.iload_n 2, 1) := by decide +kernel
theorem dX5_letListBuy_3 : decode cX5_letListBuy 3 = .ok (.bipush 6, 2) := by decide +kernel
theorem dX5_letListBuy_5 : decode cX5_letListBuy 5 = .ok (.if_icmp .ge 35, 3) := by decide +kernel
theorem dX5_letListBuy_8 : decode cX5_letListBuy 8 = .ok (.aload_n 1, 1) := by decide +kernel
theorem dX5_letListBuy_9 : decode cX5_letListBuy 9 = .ok (.getfield 104, 3) := by decide +kernel
theorem dX5_letListBuy_12 : decode cX5_letListBuy 12 = .ok (.ifCond .le 28, 3) := by decide +kernel
theorem dX5_letListBuy_15 : decode cX5_letListBuy 15 = .ok (.aload_n 0, 1) := by decide +kernel
theorem dX5_letListBuy_16 : decode cX5_letListBuy 16 = .ok (.aload_n 1, 1) := by decide +kernel
theorem dX5_letListBuy_17 : decode cX5_letListBuy 17 = .ok (.iconst 0, 1) := by decide +kernel
theorem dX5_letListBuy_18 : decode cX5_letListBuy 18 = .ok (.invokevirtual 232, 3) := by decide +kernel
theorem dX5_letListBuy_21 : decode cX5_letListBuy 21 = .ok (.aload_n 1, 1) := by decide +kernel
theorem dX5_letListBuy_22 : decode cX5_letListBuy 22 = .ok (.invokevirtual 135, 3) := by decide +kernel
theorem dX5_letListBuy_25 : decode cX5_letListBuy 25 = .ok (.ifCond .ge 4, 3) := by decide +kernel
theorem dX5_letListBuy_28 : decode cX5_letListBuy 28 = .ok (.return_, 1) := by decide +kernel
theorem dX5_letListBuy_29 : decode cX5_letListBuy 29 = .ok (.aload_n 1, 1) := by decide +kernel
theorem dX5_letListBuy_30 : decode cX5_letListBuy 30 = .ok (.iconst 0, 1) := by decide +kernel
theorem dX5_letListBuy_31 : decode cX5_letListBuy 31 = .ok (.invokevirtual 200, 3) := by decide +kernel
theorem dX5_letListBuy_34 : decode cX5_letListBuy 34 = .ok (.iinc 2 1, 3) := by decide +kernel
theorem dX5_letListBuy_37 : decode cX5_letListBuy 37 = .ok (.goto (-35), 3) := by decide +kernel
theorem dX5_letListBuy_40 : decode cX5_letListBuy 40 = .ok (.return_, 1) := by decide +kernel
theorem dX5_sell_0 : decode cX5_sell 0 = .ok (.aload_n 0, 1) := by decide +kernel
theorem dX5_sell_1 : decode cX5_sell 1 = .ok (.aload_n 2, 1) := by decide +kernel
theorem dX5_sell_2 : decode cX5_sell 2 = .ok (.invokevirtual 235, 3) := by decide +kernel
theorem dX5_sell_5 : decode cX5_sell 5 = .ok (.iconst 1, 1) := by decide +kernel
theorem dX5_sell_6 : decode cX5_sell 6 = .ok (.if_icmp .lt 15, 3) := by decide +kernel
theorem dX5_sell_9 : decode cX5_sell 9 = .ok (.aload_n 0, 1) := by decide +kernel
theorem dX5_sell_10 : decode cX5_sell 10 = .ok (.getfield 76, 3) := by decide +kernel
theorem dX5_sell_13 : decode cX5_sell 13 = .ok (.aload_n 0, 1) := by decide +kernel
theorem dX5_sell_14 : decode cX5_sell 14 = .ok (.getfield 43, 3) := by decide +kernel
theorem dX5_sell_17 : decode cX5_sell 17 = .ok (.arraylength, 1) := by decide +kernel
theorem dX5_sell_18 : decode cX5_sell 18 = .ok (.if_icmp .lt 6, 3) := by decide +kernel
theorem dX5_sell_21 : decode cX5_sell 21 = .ok (.bipush (-3), 2) := by decide +kernel
theorem dX5_sell_23 : decode cX5_sell 23 = .ok (.ireturn, 1) := by decide +kernel
theorem dX5_sell_24 : decode cX5_sell 24 = .ok (.aload_n 0, 1) := by decide +kernel
theorem dX5_sell_25 : decode cX5_sell 25 = .ok (.aload_n 2, 1) := by decide +kernel
theorem dX5_sell_26 : decode cX5_sell 26 = .ok (.invokevirtual 238, 3) := by decide +kernel
theorem dX5_sell_29 : decode cX5_sell 29 = .ok (.istore_n 3, 1) := by decide +kernel
theorem dX5_sell_30 : decode cX5_sell 30 = .ok (.aload_n 0, 1) := by decide +kernel
theorem dX5_sell_31 : decode cX5_sell 31 = .ok (.getfield 43, 3) := by decide +kernel
theorem dX5_sell_34 : decode cX5_sell 34 = .ok (.aload_n 0, 1) := by decide +kernel
theorem dX5_sell_35 : decode cX5_sell 35 = .ok (.getfield 76, 3) := by decide +kernel
theorem dX5_sell_38 : decode cX5_sell 38 = .ok (.aaload, 1) := by decide +kernel
theorem dX5_sell_39 : decode cX5_sell 39 = .ok (.astore 4, 2) := by decide +kernel
theorem dX5_sell_41 : decode cX5_sell 41 = .ok (.aload_n 0, 1) := by decide +kernel
theorem dX5_sell_42 : decode cX5_sell 42 = .ok (.dup, 1) := by decide +kernel
theorem dX5_sell_43 : decode cX5_sell 43 = .ok (.getfield 76, 3) := by decide +kernel
theorem dX5_sell_46 : decode cX5_sell 46 = .ok (.iconst 1, 1) := by decide +kernel
theorem dX5_sell_47 : decode cX5_sell 47 = .ok (.iadd, 1) := by decide +kernel
theorem dX5_sell_48 : decode cX5_sell 48 = .ok (.putfield 76, 3) := by decide +kernel
theorem dX5_sell_51 : decode cX5_sell 51 = .ok (.aload 4, 2) := by decide +kernel
theorem dX5_sell_53 : decode cX5_sell 53 = .ok (.aload_n 2, 1) := by decide +kernel
theorem dX5_sell_54 : decode cX5_sell 54 = .ok (.getfield 107, 3) := by decide +kernel
theorem dX5_sell_57 : decode cX5_sell 57 = .ok (.putfield 172, 3) := by decide +kernel
theorem dX5_sell_60 : decode cX5_sell 60 = .ok (.aload 4, 2) := by decide +kernel
theorem dX5_sell_62 : decode cX5_sell 62 = .ok (.iload_n 1, 1) := by decide +kernel
theorem dX5_sell_63 : decode cX5_sell 63 = .ok (.putfield 143, 3) := by decide +kernel
theorem dX5_sell_66 : decode cX5_sell 66 = .ok (.aload 4, 2) := by decide +kernel
theorem dX5_sell_68 : decode cX5_sell 68 = .ok (.iload_n 3, 1) := by decide +kernel
theorem dX5_sell_69 : decode cX5_sell 69 = .ok (.putfield 217, 3) := by decide +kernel
theorem dX5_sell_72 : decode cX5_sell 72 = .ok (.aload 4, 2) := by decide +kernel
theorem dX5_sell_74 : decode cX5_sell 74 = .ok (.aload_n 0, 1) := by decide +kernel
theorem dX5_sell_75 : decode cX5_sell 75 = .ok (.getfield 61, 3) := by decide +kernel
theorem dX5_sell_78 : decode cX5_sell 78 = .ok (.putfield 241, 3) := by decide +kernel
theorem dX5_sell_81 : decode cX5_sell 81 = .ok (.aload 4, 2) := by decide +kernel
theorem dX5_sell_83 : decode cX5_sell 83 = .ok (.iconst 0, 1) := by decide +kernel
theorem dX5_sell_84 : decode cX5_sell 84 = .ok (.putfield 153, 3) := by decide +kernel
theorem dX5_sell_87 : decode cX5_sell 87 = .ok (.aload 4, 2) := by decide +kernel
theorem dX5_sell_89 : decode cX5_sell 89 = .ok (.iconst 0, 1) := by decide +kernel
theorem dX5_sell_90 : decode cX5_sell 90 = .ok (.iconst 0, 1) := by decide +kernel
theorem dX5_sell_91 : decode cX5_sell 91 = .ok (.invokevirtual 156, 3) := by decide +kernel
theorem dX5_sell_94 : decode cX5_sell 94 = .ok (.aload_n 0, 1) := by decide +kernel
theorem dX5_sell_95 : decode cX5_sell 95 = .ok (.iload_n 1, 1) := by decide +kernel
theorem dX5_sell_96 : decode cX5_sell 96 = .ok (.iload_n 3, 1) := by decide +kernel
theorem dX5_sell_97 : decode cX5_sell 97 = .ok (.ineg, 1) := by decide +kernel
theorem dX5_sell_98 : decode cX5_sell 98 = .ok (.invokevirtual 149, 3) := by decide +kernel
theorem dX5_sell_101 : decode cX5_sell 101 = .ok (.aload_n 0, 1) := by decide +kernel
theorem dX5_sell_102 : decode cX5_sell 102 = .ok (.iconst 0, 1) := by decide +kernel
theorem dX5_sell_103 : decode cX5_sell 103 = .ok (.aload 4, 2) := by decide +kernel
theorem dX5_sell_105 : decode cX5_sell 105 = .ok (.iload_n 3, 1) := by decide +kernel
theorem dX5_sell_106 : decode cX5_sell 106 = .ok (.invokevirtual 159, 3) := by decide +kernel
theorem dX5_sell_109 : decode cX5_sell 109 = .ok (.aload 4, 2) := by decide +kernel
theorem dX5_sell_111 : decode cX5_sell 111 = .ok (.getfield 163, 3) := by decide +kernel
theorem dX5_sell_114 : decode cX5_sell 114 = .ok (.ireturn, 1) := by decide +kernel
theorem dX5_sellable_0 : decode cX5_sellable 0 = .ok (.aload_n 0, 1) := by decide +kernel
theorem dX5_sellable_1 : decode cX5_sellable 1 = .ok (.aload_n 1, 1) := by decide +kernel
theorem dX5_sellable_2 : decode cX5_sellable 2 = .ok (.invokevirtual 131, 3) := by decide +kernel
theorem dX5_sellable_5 : decode cX5_sellable 5 = .ok (.ifCond .ne 5, 3) := by decide +kernel
theorem dX5_sellable_8 : decode cX5_sellable 8 = .ok (.iconst 0, 1) := by decide +kernel
theorem dX5_sellable_9 : decode cX5_sellable 9 = .ok (.ireturn, 1) := by decide +kernel
theorem dX5_sellable_10 : decode cX5_sellable 10 = .ok (.aload_n 1, 1) := by decide +kernel
theorem dX5_sellable_11 : decode cX5_sellable 11 = .ok (.getfield 92, 3) := by decide +kernel
theorem dX5_sellable_14 : decode cX5_sellable 14 = .ok (.istore_n 2, 1) := by decide +kernel
theorem dX5_sellable_15 : decode cX5_sellable 15 = .ok (.aload_n 0, 1) := by decide +kernel
theorem dX5_sellable_16 : decode cX5_sellable 16 = .ok (.aload_n 1, 1) := by decide +kernel
theorem dX5_sellable_17 : decode cX5_sellable 17 = .ok (.invokevirtual 207, 3) := by decide +kernel
theorem dX5_sellable_20 : decode cX5_sellable 20 = .ok (.aload_n 0, 1) := by decide +kernel
theorem dX5_sellable_21 : decode cX5_sellable 21 = .ok (.getfield 18, 3) := by decide +kernel
theorem dX5_sellable_24 : decode cX5_sellable 24 = .ok (.iconst 0, 1) := by decide +kernel
theorem dX5_sellable_25 : decode cX5_sellable 25 = .ok (.iaload, 1) := by decide +kernel
theorem dX5_sellable_26 : decode cX5_sellable 26 = .ok (.if_icmp .le 10, 3) := by decide +kernel
theorem dX5_sellable_29 : decode cX5_sellable 29 = .ok (.iload_n 2, 1) := by decide +kernel
theorem dX5_sellable_30 : decode cX5_sellable 30 = .ok (.aload_n 1, 1) := by decide +kernel
theorem dX5_sellable_31 : decode cX5_sellable 31 = .ok (.getfield 95, 3) := by decide +kernel
theorem dX5_sellable_34 : decode cX5_sellable 34 = .ok (.iadd, 1) := by decide +kernel
theorem dX5_sellable_35 : decode cX5_sellable 35 = .ok (.istore_n 2, 1) := by decide +kernel
theorem dX5_sellable_36 : decode cX5_sellable 36 = .ok (.iconst 0, 1) := by decide +kernel
theorem dX5_sellable_37 : decode cX5_sellable 37 = .ok (.iload_n 2, 1) := by decide +kernel
theorem dX5_sellable_38 : decode cX5_sellable 38 = .ok (.aload_n 0, 1) := by decide +kernel
theorem dX5_sellable_39 : decode cX5_sellable 39 = .ok (.aload_n 1, 1) := by decide +kernel
theorem dX5_sellable_40 : decode cX5_sellable 40 = .ok (.invokevirtual 220, 3) := by decide +kernel
theorem dX5_sellable_43 : decode cX5_sellable 43 = .ok (.isub, 1) := by decide +kernel
theorem dX5_sellable_44 : decode cX5_sellable 44 = .ok (.bipush 60, 2) := by decide +kernel
theorem dX5_sellable_46 : decode cX5_sellable 46 = .ok (.aload_n 0, 1) := by decide +kernel
theorem dX5_sellable_47 : decode cX5_sellable 47 = .ok (.getfield 76, 3) := by decide +kernel
theorem dX5_sellable_50 : decode cX5_sellable 50 = .ok (.isub, 1) := by decide +kernel
theorem dX5_sellable_51 : decode cX5_sellable 51 = .ok (.invokestatic 244, 3) := by decide +kernel
theorem dX5_sellable_54 : decode cX5_sellable 54 = .ok (.invokestatic 250, 3) := by decide +kernel
theorem dX5_sellable_57 : decode cX5_sellable 57 = .ok (.ireturn, 1) := by decide +kernel
theorem dX5_priceNow_0 : decode cX5_priceNow 0 = .ok (.aload_n 1, 1) := by decide +kernel
theorem dX5_priceNow_1 : decode cX5_priceNow 1 = .ok (.aload_n 0, 1) := by decide +kernel
theorem dX5_priceNow_2 : decode cX5_priceNow 2 = .ok (.aload_n 1, 1) := by decide +kernel
theorem dX5_priceNow_3 : decode cX5_priceNow 3 = .ok (.invokevirtual 220, 3) := by decide +kernel
theorem dX5_priceNow_6 : decode cX5_priceNow 6 = .ok (.aload_n 0, 1) := by decide +kernel
theorem dX5_priceNow_7 : decode cX5_priceNow 7 = .ok (.aload_n 1, 1) := by decide +kernel
theorem dX5_priceNow_8 : decode cX5_priceNow 8 = .ok (.invokevirtual 207, 3) := by decide +kernel
theorem dX5_priceNow_11 : decode cX5_priceNow 11 = .ok (.invokevirtual 253, 3) := by decide +kernel
theorem dX5_priceNow_14 : decode cX5_priceNow 14 = .ok (.ireturn, 1) := by decide +kernel
theorem dX5_give_0 : decode cX5_give 0 = .ok (.iload_n 1, 1) := by decide +kernel
theorem dX5_give_1 : decode cX5_give 1 = .ok (.invokestatic 128, 3) := by decide +kernel
theorem dX5_give_4 : decode cX5_give 4 = .ok (.ifCond .eq 23, 3) := by decide +kernel
theorem dX5_give_7 : decode cX5_give 7 = .ok (.aload_n 0, 1) := by decide +kernel
theorem dX5_give_8 : decode cX5_give 8 = .ok (.getfield 47, 3) := by decide +kernel
theorem dX5_give_11 : decode cX5_give 11 = .ok (.iload_n 1, 1) := by decide +kernel
theorem dX5_give_12 : decode cX5_give 12 = .ok (.dup2, 1) := by decide +kernel
theorem dX5_give_13 : decode cX5_give 13 = .ok (.iaload, 1) := by decide +kernel
theorem dX5_give_14 : decode cX5_give 14 = .ok (.iload_n 2, 1) := by decide +kernel
theorem dX5_give_15 : decode cX5_give 15 = .ok (.iadd, 1) := by decide +kernel
theorem dX5_give_16 : decode cX5_give 16 = .ok (.iastore, 1) := by decide +kernel
theorem dX5_give_17 : decode cX5_give 17 = .ok (.aload_n 0, 1) := by decide +kernel
theorem dX5_give_18 : decode cX5_give 18 = .ok (.dup, 1) := by decide +kernel
theorem dX5_give_19 : decode cX5_give 19 = .ok (.getfield 82, 3) := by decide +kernel
theorem dX5_give_22 : decode cX5_give 22 = .ok (.iload_n 2, 1) := by decide +kernel
theorem dX5_give_23 : decode cX5_give 23 = .ok (.isub, 1) := by decide +kernel
theorem dX5_give_24 : decode cX5_give 24 = .ok (.putfield 82, 3) := by decide +kernel
theorem dX5_give_27 : decode cX5_give 27 = .ok (.return_, 1) := by decide +kernel
theorem dX5_log_0 : decode cX5_log 0 = .ok (.aload_n 0, 1) := by decide +kernel
theorem dX5_log_1 : decode cX5_log 1 = .ok (.getfield 52, 3) := by decide +kernel
theorem dX5_log_4 : decode cX5_log 4 = .ok (.bipush 9, 2) := by decide +kernel
theorem dX5_log_6 : decode cX5_log 6 = .ok (.aaload, 1) := by decide +kernel
theorem dX5_log_7 : decode cX5_log 7 = .ok (.astore 4, 2) := by decide +kernel
theorem dX5_log_9 : decode cX5_log 9 = .ok (.bipush 9, 2) := by decide +kernel
theorem dX5_log_11 : decode cX5_log 11 = .ok (.istore 5, 2) := by decide +kernel
theorem dX5_log_13 : decode cX5_log 13 = .ok (.iload 5, 2) := by decide +kernel
theorem dX5_log_15 : decode cX5_log 15 = .ok (.ifCond .le 25, 3) := by decide +kernel
theorem dX5_log_18 : decode cX5_log 18 = .ok (.aload_n 0, 1) := by decide +kernel
theorem dX5_log_19 : decode cX5_log 19 = .ok (.getfield 52, 3) := by decide +kernel
theorem dX5_log_22 : decode cX5_log 22 = .ok (.iload 5, 2) := by decide +kernel
theorem dX5_log_24 : decode cX5_log 24 = .ok (.aload_n 0, 1) := by decide +kernel
theorem dX5_log_25 : decode cX5_log 25 = .ok (.getfield 52, 3) := by decide +kernel
theorem dX5_log_28 : decode cX5_log 28 = .ok (.iload 5, 2) := by decide +kernel
theorem dX5_log_30 : decode cX5_log 30 = .ok (.iconst 1, 1) := by decide +kernel
theorem dX5_log_31 : decode cX5_log 31 = .ok (.isub, 1) := by decide +kernel
theorem dX5_log_32 : decode cX5_log 32 = .ok (.aaload, 1) := by decide +kernel
theorem dX5_log_33 : decode cX5_log 33 = .ok (.aastore, 1) := by decide +kernel
theorem dX5_log_34 : decode cX5_log 34 = .ok (.iinc 5 (-1), 3) := by decide +kernel
theorem dX5_log_37 : decode cX5_log 37 = .ok (.goto (-24), 3) := by decide +kernel
theorem dX5_log_40 : decode cX5_log 40 = .ok (.aload_n 0, 1) := by decide +kernel
theorem dX5_log_41 : decode cX5_log 41 = .ok (.getfield 52, 3) := by decide +kernel
theorem dX5_log_44 : decode cX5_log 44 = .ok (.iconst 0, 1) := by decide +kernel
theorem dX5_log_45 : decode cX5_log 45 = .ok (.aload 4, 2) := by decide +kernel
theorem dX5_log_47 : decode cX5_log 47 = .ok (.aastore, 1) := by decide +kernel
theorem dX5_log_48 : decode cX5_log 48 = .ok (.aload 4, 2) := by decide +kernel
theorem dX5_log_50 : decode cX5_log 50 = .ok (.iload_n 1, 1) := by decide +kernel
theorem dX5_log_51 : decode cX5_log 51 = .ok (.putfield 256, 3) := by decide +kernel
theorem dX5_log_54 : decode cX5_log 54 = .ok (.aload 4, 2) := by decide +kernel
theorem dX5_log_56 : decode cX5_log 56 = .ok (.aload_n 2, 1) := by decide +kernel
theorem dX5_log_57 : decode cX5_log 57 = .ok (.getfield 163, 3) := by decide +kernel
theorem dX5_log_60 : decode cX5_log 60 = .ok (.putfield 259, 3) := by decide +kernel
theorem dX5_log_63 : decode cX5_log 63 = .ok (.aload 4, 2) := by decide +kernel
theorem dX5_log_65 : decode cX5_log 65 = .ok (.iload_n 3, 1) := by decide +kernel
theorem dX5_log_66 : decode cX5_log 66 = .ok (.putfield 262, 3) := by decide +kernel
theorem dX5_log_69 : decode cX5_log 69 = .ok (.aload 4, 2) := by decide +kernel
theorem dX5_log_71 : decode cX5_log 71 = .ok (.aload_n 0, 1) := by decide +kernel
theorem dX5_log_72 : decode cX5_log 72 = .ok (.getfield 61, 3) := by decide +kernel
theorem dX5_log_75 : decode cX5_log 75 = .ok (.putfield 265, 3) := by decide +kernel
theorem dX5_log_78 : decode cX5_log 78 = .ok (.aload_n 0, 1) := by decide +kernel
theorem dX5_log_79 : decode cX5_log 79 = .ok (.aload_n 0, 1) := by decide +kernel
theorem dX5_log_80 : decode cX5_log 80 = .ok (.getfield 85, 3) := by decide +kernel
theorem dX5_log_83 : decode cX5_log 83 = .ok (.iconst 1, 1) := by decide +kernel
theorem dX5_log_84 : decode cX5_log 84 = .ok (.iadd, 1) := by decide +kernel
theorem dX5_log_85 : decode cX5_log 85 = .ok (.bipush 10, 2) := by decide +kernel
theorem dX5_log_87 : decode cX5_log 87 = .ok (.invokestatic 244, 3) := by decide +kernel
theorem dX5_log_90 : decode cX5_log 90 = .ok (.putfield 85, 3) := by decide +kernel
theorem dX5_log_93 : decode cX5_log 93 = .ok (.return_, 1) := by decide +kernel
theorem dX5_daysLeft_0 : decode cX5_daysLeft 0 = .ok (.aload_n 1, 1) := by decide +kernel
theorem dX5_daysLeft_1 : decode cX5_daysLeft 1 = .ok (.getfield 91, 3) := by decide +kernel
theorem dX5_daysLeft_4 : decode cX5_daysLeft 4 = .ok (.aload_n 0, 1) := by decide +kernel
theorem dX5_daysLeft_5 : decode cX5_daysLeft 5 = .ok (.getfield 61, 3) := by decide +kernel
theorem dX5_daysLeft_8 : decode cX5_daysLeft 8 = .ok (.isub, 1) := by decide +kernel
theorem dX5_daysLeft_9 : decode cX5_daysLeft 9 = .ok (.ireturn, 1) := by decide +kernel
theorem dX5_isOpen_0 : decode cX5_isOpen 0 = .ok (.aload_n 1, 1) := by decide +kernel
theorem dX5_isOpen_1 : decode cX5_isOpen 1 = .ok (.getfield 91, 3) := by decide +kernel
theorem dX5_isOpen_4 : decode cX5_isOpen 4 = .ok (.aload_n 0, 1) := by decide +kernel
theorem dX5_isOpen_5 : decode cX5_isOpen 5 = .ok (.getfield 61, 3) := by decide +kernel
theorem dX5_isOpen_8 : decode cX5_isOpen 8 = .ok (.if_icmp .le 7, 3) := by decide +kernel
theorem dX5_isOpen_11 : decode cX5_isOpen 11 = .ok (.iconst 1, 1) := by decide +kernel
theorem dX5_isOpen_12 : decode cX5_isOpen 12 = .ok (.goto 4, 3) := by decide +kernel
theorem dX5_isOpen_15 : decode cX5_isOpen 15 = .ok (.iconst 0, 1) := by decide +kernel
theorem dX5_isOpen_16 : decode cX5_isOpen 16 = .ok (.ireturn, 1) := by decide +kernel
theorem dX5_rightsOut_0 : decode cX5_rightsOut 0 = .ok (.iconst 0, 1) := by decide +kernel
theorem dX5_rightsOut_1 : decode cX5_rightsOut 1 = .ok (.istore_n 2, 1) := by decide +kernel
theorem dX5_rightsOut_2 : decode cX5_rightsOut 2 = .ok (.iconst 0, 1) := by decide +kernel
theorem dX5_rightsOut_3 : decode cX5_rightsOut 3 = .ok (.istore_n 3, 1) := by decide +kernel
theorem dX5_rightsOut_4 : decode cX5_rightsOut 4 = .ok (.iload_n 3, 1) := by decide +kernel
theorem dX5_rightsOut_5 : decode cX5_rightsOut 5 = .ok (.aload_n 0, 1) := by decide +kernel
theorem dX5_rightsOut_6 : decode cX5_rightsOut 6 = .ok (.getfield 76, 3) := by decide +kernel
theorem dX5_rightsOut_9 : decode cX5_rightsOut 9 = .ok (.if_icmp .ge 50, 3) := by decide +kernel
theorem dX5_rightsOut_12 : decode cX5_rightsOut 12 = .ok (.iload_n 3, 1) := by decide +kernel
theorem dX5_rightsOut_13 : decode cX5_rightsOut 13 = .ok (.aload_n 0, 1) := by decide +kernel
theorem dX5_rightsOut_14 : decode cX5_rightsOut 14 = .ok (.getfield 43, 3) := by decide +kernel
theorem dX5_rightsOut_17 : decode cX5_rightsOut 17 = .ok (.arraylength, 1) := by decide +kernel
theorem dX5_rightsOut_18 : decode cX5_rightsOut 18 = .ok (.if_icmp .ge 41, 3) := by decide +kernel
theorem dX5_rightsOut_21 : decode cX5_rightsOut 21 = .ok (.aload_n 0, 1) := by decide +kernel
theorem dX5_rightsOut_22 : decode cX5_rightsOut 22 = .ok (.getfield 43, 3) := by decide +kernel
theorem dX5_rightsOut_25 : decode cX5_rightsOut 25 = .ok (.iload_n 3, 1) := by decide +kernel
theorem dX5_rightsOut_26 : decode cX5_rightsOut 26 = .ok (.aaload, 1) := by decide +kernel
theorem dX5_rightsOut_27 : decode cX5_rightsOut 27 = .ok (.getfield 172, 3) := by decide +kernel
theorem dX5_rightsOut_30 : decode cX5_rightsOut 30 = .ok (.aload_n 1, 1) := by decide +kernel
theorem dX5_rightsOut_31 : decode cX5_rightsOut 31 = .ok (.getfield 107, 3) := by decide +kernel
theorem dX5_rightsOut_34 : decode cX5_rightsOut 34 = .ok (.if_icmp .ne 19, 3) := by decide +kernel
theorem dX5_rightsOut_37 : decode cX5_rightsOut 37 = .ok (.aload_n 0, 1) := by decide +kernel
theorem dX5_rightsOut_38 : decode cX5_rightsOut 38 = .ok (.getfield 43, 3) := by decide +kernel
theorem dX5_rightsOut_41 : decode cX5_rightsOut 41 = .ok (.iload_n 3, 1) := by decide +kernel
theorem dX5_rightsOut_42 : decode cX5_rightsOut 42 = .ok (.aaload, 1) := by decide +kernel
theorem dX5_rightsOut_43 : decode cX5_rightsOut 43 = .ok (.getfield 182, 3) := by decide +kernel
theorem dX5_rightsOut_46 : decode cX5_rightsOut 46 = .ok (.iconst 2, 1) := by decide +kernel
theorem dX5_rightsOut_47 : decode cX5_rightsOut 47 = .ok (.if_icmp .gt 6, 3) := by decide +kernel
theorem dX5_rightsOut_50 : decode cX5_rightsOut 50 = .ok (.iinc 2 1, 3) := by decide +kernel
theorem dX5_rightsOut_53 : decode cX5_rightsOut 53 = .ok (.iinc 3 1, 3) := by decide +kernel
theorem dX5_rightsOut_56 : decode cX5_rightsOut 56 = .ok (.goto (-52), 3) := by decide +kernel
theorem dX5_rightsOut_59 : decode cX5_rightsOut 59 = .ok (.iload_n 2, 1) := by decide +kernel
theorem dX5_rightsOut_60 : decode cX5_rightsOut 60 = .ok (.ireturn, 1) := by decide +kernel
theorem dX5_rightsIn_0 : decode cX5_rightsIn 0 = .ok (.iconst 0, 1) := by decide +kernel
theorem dX5_rightsIn_1 : decode cX5_rightsIn 1 = .ok (.istore_n 3, 1) := by decide +kernel
theorem dX5_rightsIn_2 : decode cX5_rightsIn 2 = .ok (.iconst 0, 1) := by decide +kernel
theorem dX5_rightsIn_3 : decode cX5_rightsIn 3 = .ok (.istore 4, 2) := by decide +kernel
theorem dX5_rightsIn_5 : decode cX5_rightsIn 5 = .ok (.iload 4, 2) := by decide +kernel
theorem dX5_rightsIn_7 : decode cX5_rightsIn 7 = .ok (.aload_n 0, 1) := by decide +kernel
theorem dX5_rightsIn_8 : decode cX5_rightsIn 8 = .ok (.getfield 76, 3) := by decide +kernel
theorem dX5_rightsIn_11 : decode cX5_rightsIn 11 = .ok (.if_icmp .ge 53, 3) := by decide +kernel
theorem dX5_rightsIn_14 : decode cX5_rightsIn 14 = .ok (.iload 4, 2) := by decide +kernel
theorem dX5_rightsIn_16 : decode cX5_rightsIn 16 = .ok (.aload_n 0, 1) := by decide +kernel
theorem dX5_rightsIn_17 : decode cX5_rightsIn 17 = .ok (.getfield 43, 3) := by decide +kernel
theorem dX5_rightsIn_20 : decode cX5_rightsIn 20 = .ok (.arraylength, 1) := by decide +kernel
theorem dX5_rightsIn_21 : decode cX5_rightsIn 21 = .ok (.if_icmp .ge 43, 3) := by decide +kernel
theorem dX5_rightsIn_24 : decode cX5_rightsIn 24 = .ok (.aload_n 0, 1) := by decide +kernel
theorem dX5_rightsIn_25 : decode cX5_rightsIn 25 = .ok (.getfield 43, 3) := by decide +kernel
theorem dX5_rightsIn_28 : decode cX5_rightsIn 28 = .ok (.iload 4, 2) := by decide +kernel
theorem dX5_rightsIn_30 : decode cX5_rightsIn 30 = .ok (.aaload, 1) := by decide +kernel
theorem dX5_rightsIn_31 : decode cX5_rightsIn 31 = .ok (.getfield 172, 3) := by decide +kernel
theorem dX5_rightsIn_34 : decode cX5_rightsIn 34 = .ok (.aload_n 1, 1) := by decide +kernel
theorem dX5_rightsIn_35 : decode cX5_rightsIn 35 = .ok (.getfield 107, 3) := by decide +kernel
theorem dX5_rightsIn_38 : decode cX5_rightsIn 38 = .ok (.if_icmp .ne 20, 3) := by decide +kernel
theorem dX5_rightsIn_41 : decode cX5_rightsIn 41 = .ok (.aload_n 0, 1) := by decide +kernel
theorem dX5_rightsIn_42 : decode cX5_rightsIn 42 = .ok (.getfield 43, 3) := by decide +kernel
theorem dX5_rightsIn_45 : decode cX5_rightsIn 45 = .ok (.iload 4, 2) := by decide +kernel
theorem dX5_rightsIn_47 : decode cX5_rightsIn 47 = .ok (.aaload, 1) := by decide +kernel
theorem dX5_rightsIn_48 : decode cX5_rightsIn 48 = .ok (.getfield 182, 3) := by decide +kernel
theorem dX5_rightsIn_51 : decode cX5_rightsIn 51 = .ok (.iload_n 2, 1) := by decide +kernel
theorem dX5_rightsIn_52 : decode cX5_rightsIn 52 = .ok (.if_icmp .ne 6, 3) := by decide +kernel
theorem dX5_rightsIn_55 : decode cX5_rightsIn 55 = .ok (.iinc 3 1, 3) := by decide +kernel
theorem dX5_rightsIn_58 : decode cX5_rightsIn 58 = .ok (.iinc 4 1, 3) := by decide +kernel
theorem dX5_rightsIn_61 : decode cX5_rightsIn 61 = .ok (.goto (-56), 3) := by decide +kernel
theorem dX5_rightsIn_64 : decode cX5_rightsIn 64 = .ok (.iload_n 3, 1) := by decide +kernel
theorem dX5_rightsIn_65 : decode cX5_rightsIn 65 = .ok (.ireturn, 1) := by decide +kernel
theorem dX5_rightsInAll_0 : decode cX5_rightsInAll 0 = .ok (.iconst 0, 1) := by decide +kernel
theorem dX5_rightsInAll_1 : decode cX5_rightsInAll 1 = .ok (.istore_n 2, 1) := by decide +kernel
theorem dX5_rightsInAll_2 : decode cX5_rightsInAll 2 = .ok (.iconst 0, 1) := by decide +kernel
theorem dX5_rightsInAll_3 : decode cX5_rightsInAll 3 = .ok (.istore_n 3, 1) := by decide +kernel
theorem dX5_rightsInAll_4 : decode cX5_rightsInAll 4 = .ok (.iload_n 3, 1) := by decide +kernel
theorem dX5_rightsInAll_5 : decode cX5_rightsInAll 5 = .ok (.aload_n 0, 1) := by decide +kernel
theorem dX5_rightsInAll_6 : decode cX5_rightsInAll 6 = .ok (.getfield 76, 3) := by decide +kernel
theorem dX5_rightsInAll_9 : decode cX5_rightsInAll 9 = .ok (.if_icmp .ge 34, 3) := by decide +kernel
theorem dX5_rightsInAll_12 : decode cX5_rightsInAll 12 = .ok (.iload_n 3, 1) := by decide +kernel
theorem dX5_rightsInAll_13 : decode cX5_rightsInAll 13 = .ok (.aload_n 0, 1) := by decide +kernel
theorem dX5_rightsInAll_14 : decode cX5_rightsInAll 14 = .ok (.getfield 43, 3) := by decide +kernel
theorem dX5_rightsInAll_17 : decode cX5_rightsInAll 17 = .ok (.arraylength, 1) := by decide +kernel
theorem dX5_rightsInAll_18 : decode cX5_rightsInAll 18 = .ok (.if_icmp .ge 25, 3) := by decide +kernel
theorem dX5_rightsInAll_21 : decode cX5_rightsInAll 21 = .ok (.aload_n 0, 1) := by decide +kernel
theorem dX5_rightsInAll_22 : decode cX5_rightsInAll 22 = .ok (.getfield 43, 3) := by decide +kernel
theorem dX5_rightsInAll_25 : decode cX5_rightsInAll 25 = .ok (.iload_n 3, 1) := by decide +kernel
theorem dX5_rightsInAll_26 : decode cX5_rightsInAll 26 = .ok (.aaload, 1) := by decide +kernel
theorem dX5_rightsInAll_27 : decode cX5_rightsInAll 27 = .ok (.getfield 182, 3) := by decide +kernel
theorem dX5_rightsInAll_30 : decode cX5_rightsInAll 30 = .ok (.iload_n 1, 1) := by decide +kernel
theorem dX5_rightsInAll_31 : decode cX5_rightsInAll 31 = .ok (.if_icmp .ne 6, 3) := by decide +kernel
theorem dX5_rightsInAll_34 : decode cX5_rightsInAll 34 = .ok (.iinc 2 1, 3) := by decide +kernel
theorem dX5_rightsInAll_37 : decode cX5_rightsInAll 37 = .ok (.iinc 3 1, 3) := by decide +kernel
theorem dX5_rightsInAll_40 : decode cX5_rightsInAll 40 = .ok (.goto (-36), 3) := by decide +kernel
theorem dX5_rightsInAll_43 : decode cX5_rightsInAll 43 = .ok (.iload_n 2, 1) := by decide +kernel
theorem dX5_rightsInAll_44 : decode cX5_rightsInAll 44 = .ok (.ireturn, 1) := by decide +kernel
theorem dX5_cheapestOffered_0 : decode cX5_cheapestOffered 0 = .ok (.aconst_null, 1) := by decide +kernel
theorem dX5_cheapestOffered_1 : decode cX5_cheapestOffered 1 = .ok (.astore_n 2, 1) := by decide +kernel
theorem dX5_cheapestOffered_2 : decode cX5_cheapestOffered 2 = .ok (.iconst 0, 1) := by decide +kernel
theorem dX5_cheapestOffered_3 : decode cX5_cheapestOffered 3 = .ok (.istore_n 3, 1) := by decide +kernel
theorem dX5_cheapestOffered_4 : decode cX5_cheapestOffered 4 = .ok (.iload_n 3, 1) := by decide +kernel
theorem dX5_cheapestOffered_5 : decode cX5_cheapestOffered 5 = .ok (.aload_n 0, 1) := by decide +kernel
theorem dX5_cheapestOffered_6 : decode cX5_cheapestOffered 6 = .ok (.getfield 76, 3) := by decide +kernel
theorem dX5_cheapestOffered_9 : decode cX5_cheapestOffered 9 = .ok (.if_icmp .ge 66, 3) := by decide +kernel
theorem dX5_cheapestOffered_12 : decode cX5_cheapestOffered 12 = .ok (.iload_n 3, 1) := by decide +kernel
theorem dX5_cheapestOffered_13 : decode cX5_cheapestOffered 13 = .ok (.aload_n 0, 1) := by decide +kernel
theorem dX5_cheapestOffered_14 : decode cX5_cheapestOffered 14 = .ok (.getfield 43, 3) := by decide +kernel
theorem dX5_cheapestOffered_17 : decode cX5_cheapestOffered 17 = .ok (.arraylength, 1) := by decide +kernel
theorem dX5_cheapestOffered_18 : decode cX5_cheapestOffered 18 = .ok (.if_icmp .ge 57, 3) := by decide +kernel
theorem dX5_cheapestOffered_21 : decode cX5_cheapestOffered 21 = .ok (.aload_n 0, 1) := by decide +kernel
theorem dX5_cheapestOffered_22 : decode cX5_cheapestOffered 22 = .ok (.getfield 43, 3) := by decide +kernel
theorem dX5_cheapestOffered_25 : decode cX5_cheapestOffered 25 = .ok (.iload_n 3, 1) := by decide +kernel
theorem dX5_cheapestOffered_26 : decode cX5_cheapestOffered 26 = .ok (.aaload, 1) := by decide +kernel
theorem dX5_cheapestOffered_27 : decode cX5_cheapestOffered 27 = .ok (.astore 4, 2) := by decide +kernel
theorem dX5_cheapestOffered_29 : decode cX5_cheapestOffered 29 = .ok (.aload 4, 2) := by decide +kernel
theorem dX5_cheapestOffered_31 : decode cX5_cheapestOffered 31 = .ok (.getfield 172, 3) := by decide +kernel
theorem dX5_cheapestOffered_34 : decode cX5_cheapestOffered 34 = .ok (.aload_n 1, 1) := by decide +kernel
theorem dX5_cheapestOffered_35 : decode cX5_cheapestOffered 35 = .ok (.getfield 107, 3) := by decide +kernel
theorem dX5_cheapestOffered_38 : decode cX5_cheapestOffered 38 = .ok (.if_icmp .ne 31, 3) := by decide +kernel
theorem dX5_cheapestOffered_41 : decode cX5_cheapestOffered 41 = .ok (.aload 4, 2) := by decide +kernel
theorem dX5_cheapestOffered_43 : decode cX5_cheapestOffered 43 = .ok (.getfield 182, 3) := by decide +kernel
theorem dX5_cheapestOffered_46 : decode cX5_cheapestOffered 46 = .ok (.iconst 1, 1) := by decide +kernel
theorem dX5_cheapestOffered_47 : decode cX5_cheapestOffered 47 = .ok (.if_icmp .ne 22, 3) := by decide +kernel
theorem dX5_cheapestOffered_50 : decode cX5_cheapestOffered 50 = .ok (.aload_n 2, 1) := by decide +kernel
theorem dX5_cheapestOffered_51 : decode cX5_cheapestOffered 51 = .ok (.ifnull 15, 3) := by decide +kernel
theorem dX5_cheapestOffered_54 : decode cX5_cheapestOffered 54 = .ok (.aload 4, 2) := by decide +kernel
theorem dX5_cheapestOffered_56 : decode cX5_cheapestOffered 56 = .ok (.getfield 146, 3) := by decide +kernel
theorem dX5_cheapestOffered_59 : decode cX5_cheapestOffered 59 = .ok (.aload_n 2, 1) := by decide +kernel
theorem dX5_cheapestOffered_60 : decode cX5_cheapestOffered 60 = .ok (.getfield 146, 3) := by decide +kernel
theorem dX5_cheapestOffered_63 : decode cX5_cheapestOffered 63 = .ok (.if_icmp .ge 6, 3) := by decide +kernel
theorem dX5_cheapestOffered_66 : decode cX5_cheapestOffered 66 = .ok (.aload 4, 2) := by decide +kernel
theorem dX5_cheapestOffered_68 : decode cX5_cheapestOffered 68 = .ok (.astore_n 2, 1) := by decide +kernel
theorem dX5_cheapestOffered_69 : decode cX5_cheapestOffered 69 = .ok (.iinc 3 1, 3) := by decide +kernel
theorem dX5_cheapestOffered_72 : decode cX5_cheapestOffered 72 = .ok (.goto (-68), 3) := by decide +kernel
theorem dX5_cheapestOffered_75 : decode cX5_cheapestOffered 75 = .ok (.aload_n 2, 1) := by decide +kernel
theorem dX5_cheapestOffered_76 : decode cX5_cheapestOffered 76 = .ok (.areturn, 1) := by decide +kernel
theorem dX5_cheapestHeld_0 : decode cX5_cheapestHeld 0 = .ok (.aconst_null, 1) := by decide +kernel
theorem dX5_cheapestHeld_1 : decode cX5_cheapestHeld 1 = .ok (.astore_n 2, 1) := by decide +kernel
theorem dX5_cheapestHeld_2 : decode cX5_cheapestHeld 2 = .ok (.iconst 0, 1) := by decide +kernel
theorem dX5_cheapestHeld_3 : decode cX5_cheapestHeld 3 = .ok (.istore_n 3, 1) := by decide +kernel
theorem dX5_cheapestHeld_4 : decode cX5_cheapestHeld 4 = .ok (.iload_n 3, 1) := by decide +kernel
theorem dX5_cheapestHeld_5 : decode cX5_cheapestHeld 5 = .ok (.aload_n 0, 1) := by decide +kernel
theorem dX5_cheapestHeld_6 : decode cX5_cheapestHeld 6 = .ok (.getfield 76, 3) := by decide +kernel
theorem dX5_cheapestHeld_9 : decode cX5_cheapestHeld 9 = .ok (.if_icmp .ge 65, 3) := by decide +kernel
theorem dX5_cheapestHeld_12 : decode cX5_cheapestHeld 12 = .ok (.iload_n 3, 1) := by decide +kernel
theorem dX5_cheapestHeld_13 : decode cX5_cheapestHeld 13 = .ok (.aload_n 0, 1) := by decide +kernel
theorem dX5_cheapestHeld_14 : decode cX5_cheapestHeld 14 = .ok (.getfield 43, 3) := by decide +kernel
theorem dX5_cheapestHeld_17 : decode cX5_cheapestHeld 17 = .ok (.arraylength, 1) := by decide +kernel
theorem dX5_cheapestHeld_18 : decode cX5_cheapestHeld 18 = .ok (.if_icmp .ge 56, 3) := by decide +kernel
theorem dX5_cheapestHeld_21 : decode cX5_cheapestHeld 21 = .ok (.aload_n 0, 1) := by decide +kernel
theorem dX5_cheapestHeld_22 : decode cX5_cheapestHeld 22 = .ok (.getfield 43, 3) := by decide +kernel
theorem dX5_cheapestHeld_25 : decode cX5_cheapestHeld 25 = .ok (.iload_n 3, 1) := by decide +kernel
theorem dX5_cheapestHeld_26 : decode cX5_cheapestHeld 26 = .ok (.aaload, 1) := by decide +kernel
theorem dX5_cheapestHeld_27 : decode cX5_cheapestHeld 27 = .ok (.astore 4, 2) := by decide +kernel
theorem dX5_cheapestHeld_29 : decode cX5_cheapestHeld 29 = .ok (.aload 4, 2) := by decide +kernel
theorem dX5_cheapestHeld_31 : decode cX5_cheapestHeld 31 = .ok (.getfield 172, 3) := by decide +kernel
theorem dX5_cheapestHeld_34 : decode cX5_cheapestHeld 34 = .ok (.aload_n 1, 1) := by decide +kernel
theorem dX5_cheapestHeld_35 : decode cX5_cheapestHeld 35 = .ok (.getfield 107, 3) := by decide +kernel
theorem dX5_cheapestHeld_38 : decode cX5_cheapestHeld 38 = .ok (.if_icmp .ne 30, 3) := by decide +kernel
theorem dX5_cheapestHeld_41 : decode cX5_cheapestHeld 41 = .ok (.aload 4, 2) := by decide +kernel
theorem dX5_cheapestHeld_43 : decode cX5_cheapestHeld 43 = .ok (.getfield 182, 3) := by decide +kernel
theorem dX5_cheapestHeld_46 : decode cX5_cheapestHeld 46 = .ok (.ifCond .ne 22, 3) := by decide +kernel
theorem dX5_cheapestHeld_49 : decode cX5_cheapestHeld 49 = .ok (.aload_n 2, 1) := by decide +kernel
theorem dX5_cheapestHeld_50 : decode cX5_cheapestHeld 50 = .ok (.ifnull 15, 3) := by decide +kernel
theorem dX5_cheapestHeld_53 : decode cX5_cheapestHeld 53 = .ok (.aload 4, 2) := by decide +kernel
theorem dX5_cheapestHeld_55 : decode cX5_cheapestHeld 55 = .ok (.getfield 217, 3) := by decide +kernel
theorem dX5_cheapestHeld_58 : decode cX5_cheapestHeld 58 = .ok (.aload_n 2, 1) := by decide +kernel
theorem dX5_cheapestHeld_59 : decode cX5_cheapestHeld 59 = .ok (.getfield 217, 3) := by decide +kernel
theorem dX5_cheapestHeld_62 : decode cX5_cheapestHeld 62 = .ok (.if_icmp .ge 6, 3) := by decide +kernel
theorem dX5_cheapestHeld_65 : decode cX5_cheapestHeld 65 = .ok (.aload 4, 2) := by decide +kernel
theorem dX5_cheapestHeld_67 : decode cX5_cheapestHeld 67 = .ok (.astore_n 2, 1) := by decide +kernel
theorem dX5_cheapestHeld_68 : decode cX5_cheapestHeld 68 = .ok (.iinc 3 1, 3) := by decide +kernel
theorem dX5_cheapestHeld_71 : decode cX5_cheapestHeld 71 = .ok (.goto (-67), 3) := by decide +kernel
theorem dX5_cheapestHeld_74 : decode cX5_cheapestHeld 74 = .ok (.aload_n 2, 1) := by decide +kernel
theorem dX5_cheapestHeld_75 : decode cX5_cheapestHeld 75 = .ok (.areturn, 1) := by decide +kernel
theorem dX5_stageOf_0 : decode cX5_stageOf 0 = .ok (.iconst 0, 1) := by decide +kernel
theorem dX5_stageOf_1 : decode cX5_stageOf 1 = .ok (.istore_n 2, 1) := by decide +kernel
theorem dX5_stageOf_2 : decode cX5_stageOf 2 = .ok (.iload_n 2, 1) := by decide +kernel
theorem dX5_stageOf_3 : decode cX5_stageOf 3 = .ok (.aload_n 0, 1) := by decide +kernel
theorem dX5_stageOf_4 : decode cX5_stageOf 4 = .ok (.getfield 26, 3) := by decide +kernel
theorem dX5_stageOf_7 : decode cX5_stageOf 7 = .ok (.arraylength, 1) := by decide +kernel
theorem dX5_stageOf_8 : decode cX5_stageOf 8 = .ok (.if_icmp .ge 33, 3) := by decide +kernel
theorem dX5_stageOf_11 : decode cX5_stageOf 11 = .ok (.aload_n 0, 1) := by decide +kernel
theorem dX5_stageOf_12 : decode cX5_stageOf 12 = .ok (.aload_n 1, 1) := by decide +kernel
theorem dX5_stageOf_13 : decode cX5_stageOf 13 = .ok (.invokevirtual 131, 3) := by decide +kernel
theorem dX5_stageOf_16 : decode cX5_stageOf 16 = .ok (.ifCond .eq 25, 3) := by decide +kernel
theorem dX5_stageOf_19 : decode cX5_stageOf 19 = .ok (.aload_n 0, 1) := by decide +kernel
theorem dX5_stageOf_20 : decode cX5_stageOf 20 = .ok (.getfield 26, 3) := by decide +kernel
theorem dX5_stageOf_23 : decode cX5_stageOf 23 = .ok (.iload_n 2, 1) := by decide +kernel
theorem dX5_stageOf_24 : decode cX5_stageOf 24 = .ok (.iaload, 1) := by decide +kernel
theorem dX5_stageOf_25 : decode cX5_stageOf 25 = .ok (.aload_n 0, 1) := by decide +kernel
theorem dX5_stageOf_26 : decode cX5_stageOf 26 = .ok (.aload_n 1, 1) := by decide +kernel
theorem dX5_stageOf_27 : decode cX5_stageOf 27 = .ok (.invokevirtual 207, 3) := by decide +kernel
theorem dX5_stageOf_30 : decode cX5_stageOf 30 = .ok (.if_icmp .gt 5, 3) := by decide +kernel
theorem dX5_stageOf_33 : decode cX5_stageOf 33 = .ok (.iload_n 2, 1) := by decide +kernel
theorem dX5_stageOf_34 : decode cX5_stageOf 34 = .ok (.ireturn, 1) := by decide +kernel
theorem dX5_stageOf_35 : decode cX5_stageOf 35 = .ok (.iinc 2 1, 3) := by decide +kernel
theorem dX5_stageOf_38 : decode cX5_stageOf 38 = .ok (.goto (-36), 3) := by decide +kernel
theorem dX5_stageOf_41 : decode cX5_stageOf 41 = .ok (.bipush (-5), 2) := by decide +kernel
theorem dX5_stageOf_43 : decode cX5_stageOf 43 = .ok (.ireturn, 1) := by decide +kernel
theorem dX5_refund_0 : decode cX5_refund 0 = .ok (.aload_n 0, 1) := by decide +kernel
theorem dX5_refund_1 : decode cX5_refund 1 = .ok (.aload_n 1, 1) := by decide +kernel
theorem dX5_refund_2 : decode cX5_refund 2 = .ok (.getfield 172, 3) := by decide +kernel
theorem dX5_refund_5 : decode cX5_refund 5 = .ok (.invokevirtual 124, 3) := by decide +kernel
theorem dX5_refund_8 : decode cX5_refund 8 = .ok (.astore_n 2, 1) := by decide +kernel
theorem dX5_refund_9 : decode cX5_refund 9 = .ok (.aload_n 2, 1) := by decide +kernel
theorem dX5_refund_10 : decode cX5_refund 10 = .ok (.ifnull 10, 3) := by decide +kernel
theorem dX5_refund_13 : decode cX5_refund 13 = .ok (.aload_n 1, 1) := by decide +kernel
theorem dX5_refund_14 : decode cX5_refund 14 = .ok (.invokevirtual 178, 3) := by decide +kernel
theorem dX5_refund_17 : decode cX5_refund 17 = .ok (.ifCond .ne 6, 3) := by decide +kernel
theorem dX5_refund_20 : decode cX5_refund 20 = .ok (.bipush (-5), 2) := by decide +kernel
theorem dX5_refund_22 : decode cX5_refund 22 = .ok (.ireturn, 1) := by decide +kernel
theorem dX5_refund_23 : decode cX5_refund 23 = .ok (.aload_n 0, 1) := by decide +kernel
theorem dX5_refund_24 : decode cX5_refund 24 = .ok (.aload_n 2, 1) := by decide +kernel
theorem dX5_refund_25 : decode cX5_refund 25 = .ok (.invokevirtual 266, 3) := by decide +kernel
theorem dX5_refund_28 : decode cX5_refund 28 = .ok (.istore_n 3, 1) := by decide +kernel
theorem dX5_refund_29 : decode cX5_refund 29 = .ok (.aload_n 0, 1) := by decide +kernel
theorem dX5_refund_30 : decode cX5_refund 30 = .ok (.iload_n 3, 1) := by decide +kernel
theorem dX5_refund_31 : decode cX5_refund 31 = .ok (.invokevirtual 110, 3) := by decide +kernel
theorem dX5_refund_34 : decode cX5_refund 34 = .ok (.ifCond .eq 25, 3) := by decide +kernel
theorem dX5_refund_37 : decode cX5_refund 37 = .ok (.aload_n 1, 1) := by decide +kernel
theorem dX5_refund_38 : decode cX5_refund 38 = .ok (.getfield 217, 3) := by decide +kernel
theorem dX5_refund_41 : decode cX5_refund 41 = .ok (.aload_n 1, 1) := by decide +kernel
theorem dX5_refund_42 : decode cX5_refund 42 = .ok (.getfield 217, 3) := by decide +kernel
theorem dX5_refund_45 : decode cX5_refund 45 = .ok (.aload_n 0, 1) := by decide +kernel
theorem dX5_refund_46 : decode cX5_refund 46 = .ok (.getfield 32, 3) := by decide +kernel
theorem dX5_refund_49 : decode cX5_refund 49 = .ok (.iload_n 3, 1) := by decide +kernel
theorem dX5_refund_50 : decode cX5_refund 50 = .ok (.iaload, 1) := by decide +kernel
theorem dX5_refund_51 : decode cX5_refund 51 = .ok (.imul, 1) := by decide +kernel
theorem dX5_refund_52 : decode cX5_refund 52 = .ok (.bipush 100, 2) := by decide +kernel
theorem dX5_refund_54 : decode cX5_refund 54 = .ok (.idiv, 1) := by decide +kernel
theorem dX5_refund_55 : decode cX5_refund 55 = .ok (.isub, 1) := by decide +kernel
theorem dX5_refund_56 : decode cX5_refund 56 = .ok (.goto 5, 3) := by decide +kernel
theorem dX5_refund_59 : decode cX5_refund 59 = .ok (.bipush (-5), 2) := by decide +kernel
theorem dX5_refund_61 : decode cX5_refund 61 = .ok (.ireturn, 1) := by decide +kernel
theorem dX5_canBeExercised_0 : decode cX5_canBeExercised 0 = .ok (.aload_n 1, 1) := by decide +kernel
theorem dX5_canBeExercised_1 : decode cX5_canBeExercised 1 = .ok (.getfield 182, 3) := by decide +kernel
theorem dX5_canBeExercised_4 : decode cX5_canBeExercised 4 = .ok (.ifCond .ne 42, 3) := by decide +kernel
theorem dX5_canBeExercised_7 : decode cX5_canBeExercised 7 = .ok (.aload_n 0, 1) := by decide +kernel
theorem dX5_canBeExercised_8 : decode cX5_canBeExercised 8 = .ok (.aload_n 2, 1) := by decide +kernel
theorem dX5_canBeExercised_9 : decode cX5_canBeExercised 9 = .ok (.invokevirtual 131, 3) := by decide +kernel
theorem dX5_canBeExercised_12 : decode cX5_canBeExercised 12 = .ok (.ifCond .eq 34, 3) := by decide +kernel
theorem dX5_canBeExercised_15 : decode cX5_canBeExercised 15 = .ok (.aload_n 0, 1) := by decide +kernel
theorem dX5_canBeExercised_16 : decode cX5_canBeExercised 16 = .ok (.aload_n 2, 1) := by decide +kernel
theorem dX5_canBeExercised_17 : decode cX5_canBeExercised 17 = .ok (.invokevirtual 207, 3) := by decide +kernel
theorem dX5_canBeExercised_20 : decode cX5_canBeExercised 20 = .ok (.aload_n 0, 1) := by decide +kernel
theorem dX5_canBeExercised_21 : decode cX5_canBeExercised 21 = .ok (.getfield 18, 3) := by decide +kernel
theorem dX5_canBeExercised_24 : decode cX5_canBeExercised 24 = .ok (.iconst 2, 1) := by decide +kernel
theorem dX5_canBeExercised_25 : decode cX5_canBeExercised 25 = .ok (.iaload, 1) := by decide +kernel
theorem dX5_canBeExercised_26 : decode cX5_canBeExercised 26 = .ok (.if_icmp .gt 20, 3) := by decide +kernel
theorem dX5_canBeExercised_29 : decode cX5_canBeExercised 29 = .ok (.aload_n 0, 1) := by decide +kernel
theorem dX5_canBeExercised_30 : decode cX5_canBeExercised 30 = .ok (.aload_n 2, 1) := by decide +kernel
theorem dX5_canBeExercised_31 : decode cX5_canBeExercised 31 = .ok (.iconst 2, 1) := by decide +kernel
theorem dX5_canBeExercised_32 : decode cX5_canBeExercised 32 = .ok (.invokevirtual 189, 3) := by decide +kernel
theorem dX5_canBeExercised_35 : decode cX5_canBeExercised 35 = .ok (.aload_n 2, 1) := by decide +kernel
theorem dX5_canBeExercised_36 : decode cX5_canBeExercised 36 = .ok (.getfield 92, 3) := by decide +kernel
theorem dX5_canBeExercised_39 : decode cX5_canBeExercised 39 = .ok (.if_icmp .ge 7, 3) := by decide +kernel
theorem dX5_canBeExercised_42 : decode cX5_canBeExercised 42 = .ok (.iconst 1, 1) := by decide +kernel
theorem dX5_canBeExercised_43 : decode cX5_canBeExercised 43 = .ok (.goto 4, 3) := by decide +kernel
theorem dX5_canBeExercised_46 : decode cX5_canBeExercised 46 = .ok (.iconst 0, 1) := by decide +kernel
theorem dX5_canBeExercised_47 : decode cX5_canBeExercised 47 = .ok (.ireturn, 1) := by decide +kernel
theorem dX5_tellOfDate_0 : decode cX5_tellOfDate 0 = .ok (.iload_n 2, 1) := by decide +kernel
theorem dX5_tellOfDate_1 : decode cX5_tellOfDate 1 = .ok (.tableswitch 155 0 13 #[71, 76, 81, 86, 91, 96, 106, 112, 119, 126, 132, 138, 144, 149], 71) := by decide +kernel
theorem dX5_tellOfDate_72 : decode cX5_tellOfDate 72 = .ok (.aload_n 1, 1) := by decide +kernel
theorem dX5_tellOfDate_73 : decode cX5_tellOfDate 73 = .ok (.getfield 91, 3) := by decide +kernel
theorem dX5_tellOfDate_76 : decode cX5_tellOfDate 76 = .ok (.ireturn, 1) := by decide +kernel
theorem dX5_tellOfDate_77 : decode cX5_tellOfDate 77 = .ok (.aload_n 1, 1) := by decide +kernel
theorem dX5_tellOfDate_78 : decode cX5_tellOfDate 78 = .ok (.getfield 92, 3) := by decide +kernel
theorem dX5_tellOfDate_81 : decode cX5_tellOfDate 81 = .ok (.ireturn, 1) := by decide +kernel
theorem dX5_tellOfDate_82 : decode cX5_tellOfDate 82 = .ok (.aload_n 1, 1) := by decide +kernel
theorem dX5_tellOfDate_83 : decode cX5_tellOfDate 83 = .ok (.getfield 95, 3) := by decide +kernel
theorem dX5_tellOfDate_86 : decode cX5_tellOfDate 86 = .ok (.ireturn, 1) := by decide +kernel
theorem dX5_tellOfDate_87 : decode cX5_tellOfDate 87 = .ok (.aload_n 1, 1) := by decide +kernel
theorem dX5_tellOfDate_88 : decode cX5_tellOfDate 88 = .ok (.getfield 98, 3) := by decide +kernel
theorem dX5_tellOfDate_91 : decode cX5_tellOfDate 91 = .ok (.ireturn, 1) := by decide +kernel
theorem dX5_tellOfDate_92 : decode cX5_tellOfDate 92 = .ok (.aload_n 1, 1) := by decide +kernel
theorem dX5_tellOfDate_93 : decode cX5_tellOfDate 93 = .ok (.getfield 101, 3) := by decide +kernel
theorem dX5_tellOfDate_96 : decode cX5_tellOfDate 96 = .ok (.ireturn, 1) := by decide +kernel
theorem dX5_tellOfDate_97 : decode cX5_tellOfDate 97 = .ok (.iconst 0, 1) := by decide +kernel
theorem dX5_tellOfDate_98 : decode cX5_tellOfDate 98 = .ok (.aload_n 0, 1) := by decide +kernel
theorem dX5_tellOfDate_99 : decode cX5_tellOfDate 99 = .ok (.aload_n 1, 1) := by decide +kernel
theorem dX5_tellOfDate_100 : decode cX5_tellOfDate 100 = .ok (.invokevirtual 207, 3) := by decide +kernel
theorem dX5_tellOfDate_103 : decode cX5_tellOfDate 103 = .ok (.invokestatic 250, 3) := by decide +kernel
theorem dX5_tellOfDate_106 : decode cX5_tellOfDate 106 = .ok (.ireturn, 1) := by decide +kernel
theorem dX5_tellOfDate_107 : decode cX5_tellOfDate 107 = .ok (.aload_n 0, 1) := by decide +kernel
theorem dX5_tellOfDate_108 : decode cX5_tellOfDate 108 = .ok (.aload_n 1, 1) := by decide +kernel
theorem dX5_tellOfDate_109 : decode cX5_tellOfDate 109 = .ok (.invokevirtual 220, 3) := by decide +kernel
theorem dX5_tellOfDate_112 : decode cX5_tellOfDate 112 = .ok (.ireturn, 1) := by decide +kernel
theorem dX5_tellOfDate_113 : decode cX5_tellOfDate 113 = .ok (.aload_n 0, 1) := by decide +kernel
theorem dX5_tellOfDate_114 : decode cX5_tellOfDate 114 = .ok (.aload_n 1, 1) := by decide +kernel
theorem dX5_tellOfDate_115 : decode cX5_tellOfDate 115 = .ok (.iconst 2, 1) := by decide +kernel
theorem dX5_tellOfDate_116 : decode cX5_tellOfDate 116 = .ok (.invokevirtual 189, 3) := by decide +kernel
theorem dX5_tellOfDate_119 : decode cX5_tellOfDate 119 = .ok (.ireturn, 1) := by decide +kernel
theorem dX5_tellOfDate_120 : decode cX5_tellOfDate 120 = .ok (.aload_n 0, 1) := by decide +kernel
theorem dX5_tellOfDate_121 : decode cX5_tellOfDate 121 = .ok (.aload_n 1, 1) := by decide +kernel
theorem dX5_tellOfDate_122 : decode cX5_tellOfDate 122 = .ok (.iconst 1, 1) := by decide +kernel
theorem dX5_tellOfDate_123 : decode cX5_tellOfDate 123 = .ok (.invokevirtual 189, 3) := by decide +kernel
theorem dX5_tellOfDate_126 : decode cX5_tellOfDate 126 = .ok (.ireturn, 1) := by decide +kernel
theorem dX5_tellOfDate_127 : decode cX5_tellOfDate 127 = .ok (.aload_n 0, 1) := by decide +kernel
theorem dX5_tellOfDate_128 : decode cX5_tellOfDate 128 = .ok (.aload_n 1, 1) := by decide +kernel
theorem dX5_tellOfDate_129 : decode cX5_tellOfDate 129 = .ok (.invokevirtual 238, 3) := by decide +kernel
theorem dX5_tellOfDate_132 : decode cX5_tellOfDate 132 = .ok (.ireturn, 1) := by decide +kernel
theorem dX5_tellOfDate_133 : decode cX5_tellOfDate 133 = .ok (.aload_n 0, 1) := by decide +kernel
theorem dX5_tellOfDate_134 : decode cX5_tellOfDate 134 = .ok (.aload_n 1, 1) := by decide +kernel
theorem dX5_tellOfDate_135 : decode cX5_tellOfDate 135 = .ok (.invokevirtual 235, 3) := by decide +kernel
theorem dX5_tellOfDate_138 : decode cX5_tellOfDate 138 = .ok (.ireturn, 1) := by decide +kernel
theorem dX5_tellOfDate_139 : decode cX5_tellOfDate 139 = .ok (.aload_n 0, 1) := by decide +kernel
theorem dX5_tellOfDate_140 : decode cX5_tellOfDate 140 = .ok (.aload_n 1, 1) := by decide +kernel
theorem dX5_tellOfDate_141 : decode cX5_tellOfDate 141 = .ok (.invokevirtual 266, 3) := by decide +kernel
theorem dX5_tellOfDate_144 : decode cX5_tellOfDate 144 = .ok (.ireturn, 1) := by decide +kernel
theorem dX5_tellOfDate_145 : decode cX5_tellOfDate 145 = .ok (.aload_n 1, 1) := by decide +kernel
theorem dX5_tellOfDate_146 : decode cX5_tellOfDate 146 = .ok (.getfield 104, 3) := by decide +kernel
theorem dX5_tellOfDate_149 : decode cX5_tellOfDate 149 = .ok (.ireturn, 1) := by decide +kernel
theorem dX5_tellOfDate_150 : decode cX5_tellOfDate 150 = .ok (.aload_n 0, 1) := by decide +kernel
theorem dX5_tellOfDate_151 : decode cX5_tellOfDate 151 = .ok (.aload_n 1, 1) := by decide +kernel
theorem dX5_tellOfDate_152 : decode cX5_tellOfDate 152 = .ok (.invokevirtual 269, 3) := by decide +kernel
theorem dX5_tellOfDate_155 : decode cX5_tellOfDate 155 = .ok (.ireturn, 1) := by decide +kernel
theorem dX5_tellOfDate_156 : decode cX5_tellOfDate 156 = .ok (.bipush (-2), 2) := by decide +kernel
theorem dX5_tellOfDate_158 : decode cX5_tellOfDate 158 = .ok (.ireturn, 1) := by decide +kernel
theorem dX5_lowestAsking_0 : decode cX5_lowestAsking 0 = .ok (.aload_n 0, 1) := by decide +kernel
theorem dX5_lowestAsking_1 : decode cX5_lowestAsking 1 = .ok (.aload_n 1, 1) := by decide +kernel
theorem dX5_lowestAsking_2 : decode cX5_lowestAsking 2 = .ok (.invokevirtual 139, 3) := by decide +kernel
theorem dX5_lowestAsking_5 : decode cX5_lowestAsking 5 = .ok (.astore_n 2, 1) := by decide +kernel
theorem dX5_lowestAsking_6 : decode cX5_lowestAsking 6 = .ok (.aload_n 2, 1) := by decide +kernel
theorem dX5_lowestAsking_7 : decode cX5_lowestAsking 7 = .ok (.ifnonnull 8, 3) := by decide +kernel
theorem dX5_lowestAsking_10 : decode cX5_lowestAsking 10 = .ok (.bipush (-5), 2) := by decide +kernel
theorem dX5_lowestAsking_12 : decode cX5_lowestAsking 12 = .ok (.goto 7, 3) := by decide +kernel
theorem dX5_lowestAsking_15 : decode cX5_lowestAsking 15 = .ok (.aload_n 2, 1) := by decide +kernel
theorem dX5_lowestAsking_16 : decode cX5_lowestAsking 16 = .ok (.getfield 146, 3) := by decide +kernel
theorem dX5_lowestAsking_19 : decode cX5_lowestAsking 19 = .ok (.ireturn, 1) := by decide +kernel
theorem dX5_tellOfRight_0 : decode cX5_tellOfRight 0 = .ok (.iload_n 2, 1) := by decide +kernel
theorem dX5_tellOfRight_1 : decode cX5_tellOfRight 1 = .ok (.tableswitch 111 0 8 #[51, 56, 61, 66, 71, 89, 94, 99, 105], 51) := by decide +kernel
theorem dX5_tellOfRight_52 : decode cX5_tellOfRight 52 = .ok (.aload_n 1, 1) := by decide +kernel
theorem dX5_tellOfRight_53 : decode cX5_tellOfRight 53 = .ok (.getfield 172, 3) := by decide +kernel
theorem dX5_tellOfRight_56 : decode cX5_tellOfRight 56 = .ok (.ireturn, 1) := by decide +kernel
theorem dX5_tellOfRight_57 : decode cX5_tellOfRight 57 = .ok (.aload_n 1, 1) := by decide +kernel
theorem dX5_tellOfRight_58 : decode cX5_tellOfRight 58 = .ok (.getfield 143, 3) := by decide +kernel
theorem dX5_tellOfRight_61 : decode cX5_tellOfRight 61 = .ok (.ireturn, 1) := by decide +kernel
theorem dX5_tellOfRight_62 : decode cX5_tellOfRight 62 = .ok (.aload_n 1, 1) := by decide +kernel
theorem dX5_tellOfRight_63 : decode cX5_tellOfRight 63 = .ok (.getfield 217, 3) := by decide +kernel
theorem dX5_tellOfRight_66 : decode cX5_tellOfRight 66 = .ok (.ireturn, 1) := by decide +kernel
theorem dX5_tellOfRight_67 : decode cX5_tellOfRight 67 = .ok (.aload_n 1, 1) := by decide +kernel
theorem dX5_tellOfRight_68 : decode cX5_tellOfRight 68 = .ok (.getfield 182, 3) := by decide +kernel
theorem dX5_tellOfRight_71 : decode cX5_tellOfRight 71 = .ok (.ireturn, 1) := by decide +kernel
theorem dX5_tellOfRight_72 : decode cX5_tellOfRight 72 = .ok (.aload_n 1, 1) := by decide +kernel
theorem dX5_tellOfRight_73 : decode cX5_tellOfRight 73 = .ok (.getfield 182, 3) := by decide +kernel
theorem dX5_tellOfRight_76 : decode cX5_tellOfRight 76 = .ok (.iconst 1, 1) := by decide +kernel
theorem dX5_tellOfRight_77 : decode cX5_tellOfRight 77 = .ok (.if_icmp .ne 10, 3) := by decide +kernel
theorem dX5_tellOfRight_80 : decode cX5_tellOfRight 80 = .ok (.aload_n 1, 1) := by decide +kernel
theorem dX5_tellOfRight_81 : decode cX5_tellOfRight 81 = .ok (.getfield 146, 3) := by decide +kernel
theorem dX5_tellOfRight_84 : decode cX5_tellOfRight 84 = .ok (.goto 5, 3) := by decide +kernel
theorem dX5_tellOfRight_87 : decode cX5_tellOfRight 87 = .ok (.bipush (-5), 2) := by decide +kernel
theorem dX5_tellOfRight_89 : decode cX5_tellOfRight 89 = .ok (.ireturn, 1) := by decide +kernel
theorem dX5_tellOfRight_90 : decode cX5_tellOfRight 90 = .ok (.aload_n 1, 1) := by decide +kernel
theorem dX5_tellOfRight_91 : decode cX5_tellOfRight 91 = .ok (.getfield 241, 3) := by decide +kernel
theorem dX5_tellOfRight_94 : decode cX5_tellOfRight 94 = .ok (.ireturn, 1) := by decide +kernel
theorem dX5_tellOfRight_95 : decode cX5_tellOfRight 95 = .ok (.aload_n 1, 1) := by decide +kernel
theorem dX5_tellOfRight_96 : decode cX5_tellOfRight 96 = .ok (.getfield 153, 3) := by decide +kernel
theorem dX5_tellOfRight_99 : decode cX5_tellOfRight 99 = .ok (.ireturn, 1) := by decide +kernel
theorem dX5_tellOfRight_100 : decode cX5_tellOfRight 100 = .ok (.aload_n 0, 1) := by decide +kernel
theorem dX5_tellOfRight_101 : decode cX5_tellOfRight 101 = .ok (.aload_n 1, 1) := by decide +kernel
theorem dX5_tellOfRight_102 : decode cX5_tellOfRight 102 = .ok (.invokevirtual 168, 3) := by decide +kernel
theorem dX5_tellOfRight_105 : decode cX5_tellOfRight 105 = .ok (.ireturn, 1) := by decide +kernel
theorem dX5_tellOfRight_106 : decode cX5_tellOfRight 106 = .ok (.aload_n 0, 1) := by decide +kernel
theorem dX5_tellOfRight_107 : decode cX5_tellOfRight 107 = .ok (.aload_n 1, 1) := by decide +kernel
theorem dX5_tellOfRight_108 : decode cX5_tellOfRight 108 = .ok (.invokevirtual 272, 3) := by decide +kernel
theorem dX5_tellOfRight_111 : decode cX5_tellOfRight 111 = .ok (.ireturn, 1) := by decide +kernel
theorem dX5_tellOfRight_112 : decode cX5_tellOfRight 112 = .ok (.bipush (-2), 2) := by decide +kernel
theorem dX5_tellOfRight_114 : decode cX5_tellOfRight 114 = .ok (.ireturn, 1) := by decide +kernel
theorem dX5_tellExercisable_0 : decode cX5_tellExercisable 0 = .ok (.aload_n 0, 1) := by decide +kernel
theorem dX5_tellExercisable_1 : decode cX5_tellExercisable 1 = .ok (.aload_n 1, 1) := by decide +kernel
theorem dX5_tellExercisable_2 : decode cX5_tellExercisable 2 = .ok (.getfield 172, 3) := by decide +kernel
theorem dX5_tellExercisable_5 : decode cX5_tellExercisable 5 = .ok (.invokevirtual 124, 3) := by decide +kernel
theorem dX5_tellExercisable_8 : decode cX5_tellExercisable 8 = .ok (.astore_n 2, 1) := by decide +kernel
theorem dX5_tellExercisable_9 : decode cX5_tellExercisable 9 = .ok (.aload_n 2, 1) := by decide +kernel
theorem dX5_tellExercisable_10 : decode cX5_tellExercisable 10 = .ok (.ifnull 16, 3) := by decide +kernel
theorem dX5_tellExercisable_13 : decode cX5_tellExercisable 13 = .ok (.aload_n 0, 1) := by decide +kernel
theorem dX5_tellExercisable_14 : decode cX5_tellExercisable 14 = .ok (.aload_n 1, 1) := by decide +kernel
theorem dX5_tellExercisable_15 : decode cX5_tellExercisable 15 = .ok (.aload_n 2, 1) := by decide +kernel
theorem dX5_tellExercisable_16 : decode cX5_tellExercisable 16 = .ok (.invokevirtual 185, 3) := by decide +kernel
theorem dX5_tellExercisable_19 : decode cX5_tellExercisable 19 = .ok (.ifCond .eq 7, 3) := by decide +kernel
theorem dX5_tellExercisable_22 : decode cX5_tellExercisable 22 = .ok (.iconst 1, 1) := by decide +kernel
theorem dX5_tellExercisable_23 : decode cX5_tellExercisable 23 = .ok (.goto 4, 3) := by decide +kernel
theorem dX5_tellExercisable_26 : decode cX5_tellExercisable 26 = .ok (.iconst 0, 1) := by decide +kernel
theorem dX5_tellExercisable_27 : decode cX5_tellExercisable 27 = .ok (.ireturn, 1) := by decide +kernel
theorem dX5_tellOfHolder_0 : decode cX5_tellOfHolder 0 = .ok (.iload_n 2, 1) := by decide +kernel
theorem dX5_tellOfHolder_1 : decode cX5_tellOfHolder 1 = .ok (.tableswitch 80 0 3 #[31, 53, 67, 74], 31) := by decide +kernel
theorem dX5_tellOfHolder_32 : decode cX5_tellOfHolder 32 = .ok (.iload_n 1, 1) := by decide +kernel
theorem dX5_tellOfHolder_33 : decode cX5_tellOfHolder 33 = .ok (.invokestatic 128, 3) := by decide +kernel
theorem dX5_tellOfHolder_36 : decode cX5_tellOfHolder 36 = .ok (.ifCond .eq 16, 3) := by decide +kernel
theorem dX5_tellOfHolder_39 : decode cX5_tellOfHolder 39 = .ok (.ldc_w 275, 3) := by decide +kernel
theorem dX5_tellOfHolder_42 : decode cX5_tellOfHolder 42 = .ok (.aload_n 0, 1) := by decide +kernel
theorem dX5_tellOfHolder_43 : decode cX5_tellOfHolder 43 = .ok (.getfield 47, 3) := by decide +kernel
theorem dX5_tellOfHolder_46 : decode cX5_tellOfHolder 46 = .ok (.iload_n 1, 1) := by decide +kernel
theorem dX5_tellOfHolder_47 : decode cX5_tellOfHolder 47 = .ok (.iaload, 1) := by decide +kernel
theorem dX5_tellOfHolder_48 : decode cX5_tellOfHolder 48 = .ok (.iadd, 1) := by decide +kernel
theorem dX5_tellOfHolder_49 : decode cX5_tellOfHolder 49 = .ok (.goto 4, 3) := by decide +kernel
theorem dX5_tellOfHolder_52 : decode cX5_tellOfHolder 52 = .ok (.iconst (-1), 1) := by decide +kernel
theorem dX5_tellOfHolder_53 : decode cX5_tellOfHolder 53 = .ok (.ireturn, 1) := by decide +kernel
theorem dX5_tellOfHolder_54 : decode cX5_tellOfHolder 54 = .ok (.aload_n 0, 1) := by decide +kernel
theorem dX5_tellOfHolder_55 : decode cX5_tellOfHolder 55 = .ok (.iload_n 1, 1) := by decide +kernel
theorem dX5_tellOfHolder_56 : decode cX5_tellOfHolder 56 = .ok (.iconst 0, 1) := by decide +kernel
theorem dX5_tellOfHolder_57 : decode cX5_tellOfHolder 57 = .ok (.invokevirtual 276, 3) := by decide +kernel
theorem dX5_tellOfHolder_60 : decode cX5_tellOfHolder 60 = .ok (.aload_n 0, 1) := by decide +kernel
theorem dX5_tellOfHolder_61 : decode cX5_tellOfHolder 61 = .ok (.iload_n 1, 1) := by decide +kernel
theorem dX5_tellOfHolder_62 : decode cX5_tellOfHolder 62 = .ok (.iconst 1, 1) := by decide +kernel
theorem dX5_tellOfHolder_63 : decode cX5_tellOfHolder 63 = .ok (.invokevirtual 276, 3) := by decide +kernel
theorem dX5_tellOfHolder_66 : decode cX5_tellOfHolder 66 = .ok (.iadd, 1) := by decide +kernel
theorem dX5_tellOfHolder_67 : decode cX5_tellOfHolder 67 = .ok (.ireturn, 1) := by decide +kernel
theorem dX5_tellOfHolder_68 : decode cX5_tellOfHolder 68 = .ok (.aload_n 0, 1) := by decide +kernel
theorem dX5_tellOfHolder_69 : decode cX5_tellOfHolder 69 = .ok (.iload_n 1, 1) := by decide +kernel
theorem dX5_tellOfHolder_70 : decode cX5_tellOfHolder 70 = .ok (.iconst 2, 1) := by decide +kernel
theorem dX5_tellOfHolder_71 : decode cX5_tellOfHolder 71 = .ok (.invokevirtual 276, 3) := by decide +kernel
theorem dX5_tellOfHolder_74 : decode cX5_tellOfHolder 74 = .ok (.ireturn, 1) := by decide +kernel
theorem dX5_tellOfHolder_75 : decode cX5_tellOfHolder 75 = .ok (.aload_n 0, 1) := by decide +kernel
theorem dX5_tellOfHolder_76 : decode cX5_tellOfHolder 76 = .ok (.iload_n 1, 1) := by decide +kernel
theorem dX5_tellOfHolder_77 : decode cX5_tellOfHolder 77 = .ok (.invokevirtual 279, 3) := by decide +kernel
theorem dX5_tellOfHolder_80 : decode cX5_tellOfHolder 80 = .ok (.ireturn, 1) := by decide +kernel
theorem dX5_tellOfHolder_81 : decode cX5_tellOfHolder 81 = .ok (.bipush (-2), 2) := by decide +kernel
theorem dX5_tellOfHolder_83 : decode cX5_tellOfHolder 83 = .ok (.ireturn, 1) := by decide +kernel
theorem dX5_rightsOfHolder_0 : decode cX5_rightsOfHolder 0 = .ok (.iconst 0, 1) := by decide +kernel
theorem dX5_rightsOfHolder_1 : decode cX5_rightsOfHolder 1 = .ok (.istore_n 3, 1) := by decide +kernel
theorem dX5_rightsOfHolder_2 : decode cX5_rightsOfHolder 2 = .ok (.iconst 0, 1) := by decide +kernel
theorem dX5_rightsOfHolder_3 : decode cX5_rightsOfHolder 3 = .ok (.istore 4, 2) := by decide +kernel
theorem dX5_rightsOfHolder_5 : decode cX5_rightsOfHolder 5 = .ok (.iload 4, 2) := by decide +kernel
theorem dX5_rightsOfHolder_7 : decode cX5_rightsOfHolder 7 = .ok (.aload_n 0, 1) := by decide +kernel
theorem dX5_rightsOfHolder_8 : decode cX5_rightsOfHolder 8 = .ok (.getfield 76, 3) := by decide +kernel
theorem dX5_rightsOfHolder_11 : decode cX5_rightsOfHolder 11 = .ok (.if_icmp .ge 50, 3) := by decide +kernel
theorem dX5_rightsOfHolder_14 : decode cX5_rightsOfHolder 14 = .ok (.iload 4, 2) := by decide +kernel
theorem dX5_rightsOfHolder_16 : decode cX5_rightsOfHolder 16 = .ok (.aload_n 0, 1) := by decide +kernel
theorem dX5_rightsOfHolder_17 : decode cX5_rightsOfHolder 17 = .ok (.getfield 43, 3) := by decide +kernel
theorem dX5_rightsOfHolder_20 : decode cX5_rightsOfHolder 20 = .ok (.arraylength, 1) := by decide +kernel
theorem dX5_rightsOfHolder_21 : decode cX5_rightsOfHolder 21 = .ok (.if_icmp .ge 40, 3) := by decide +kernel
theorem dX5_rightsOfHolder_24 : decode cX5_rightsOfHolder 24 = .ok (.aload_n 0, 1) := by decide +kernel
theorem dX5_rightsOfHolder_25 : decode cX5_rightsOfHolder 25 = .ok (.getfield 43, 3) := by decide +kernel
theorem dX5_rightsOfHolder_28 : decode cX5_rightsOfHolder 28 = .ok (.iload 4, 2) := by decide +kernel
theorem dX5_rightsOfHolder_30 : decode cX5_rightsOfHolder 30 = .ok (.aaload, 1) := by decide +kernel
theorem dX5_rightsOfHolder_31 : decode cX5_rightsOfHolder 31 = .ok (.getfield 143, 3) := by decide +kernel
theorem dX5_rightsOfHolder_34 : decode cX5_rightsOfHolder 34 = .ok (.iload_n 1, 1) := by decide +kernel
theorem dX5_rightsOfHolder_35 : decode cX5_rightsOfHolder 35 = .ok (.if_icmp .ne 20, 3) := by decide +kernel
theorem dX5_rightsOfHolder_38 : decode cX5_rightsOfHolder 38 = .ok (.aload_n 0, 1) := by decide +kernel
theorem dX5_rightsOfHolder_39 : decode cX5_rightsOfHolder 39 = .ok (.getfield 43, 3) := by decide +kernel
theorem dX5_rightsOfHolder_42 : decode cX5_rightsOfHolder 42 = .ok (.iload 4, 2) := by decide +kernel
theorem dX5_rightsOfHolder_44 : decode cX5_rightsOfHolder 44 = .ok (.aaload, 1) := by decide +kernel
theorem dX5_rightsOfHolder_45 : decode cX5_rightsOfHolder 45 = .ok (.getfield 182, 3) := by decide +kernel
theorem dX5_rightsOfHolder_48 : decode cX5_rightsOfHolder 48 = .ok (.iload_n 2, 1) := by decide +kernel
theorem dX5_rightsOfHolder_49 : decode cX5_rightsOfHolder 49 = .ok (.if_icmp .ne 6, 3) := by decide +kernel
theorem dX5_rightsOfHolder_52 : decode cX5_rightsOfHolder 52 = .ok (.iinc 3 1, 3) := by decide +kernel
theorem dX5_rightsOfHolder_55 : decode cX5_rightsOfHolder 55 = .ok (.iinc 4 1, 3) := by decide +kernel
theorem dX5_rightsOfHolder_58 : decode cX5_rightsOfHolder 58 = .ok (.goto (-53), 3) := by decide +kernel
theorem dX5_rightsOfHolder_61 : decode cX5_rightsOfHolder 61 = .ok (.iload_n 3, 1) := by decide +kernel
theorem dX5_rightsOfHolder_62 : decode cX5_rightsOfHolder 62 = .ok (.ireturn, 1) := by decide +kernel
theorem dX5_listsWith_0 : decode cX5_listsWith 0 = .ok (.iconst 0, 1) := by decide +kernel
theorem dX5_listsWith_1 : decode cX5_listsWith 1 = .ok (.istore_n 2, 1) := by decide +kernel
theorem dX5_listsWith_2 : decode cX5_listsWith 2 = .ok (.iconst 0, 1) := by decide +kernel
theorem dX5_listsWith_3 : decode cX5_listsWith 3 = .ok (.istore_n 3, 1) := by decide +kernel
theorem dX5_listsWith_4 : decode cX5_listsWith 4 = .ok (.iload_n 3, 1) := by decide +kernel
theorem dX5_listsWith_5 : decode cX5_listsWith 5 = .ok (.aload_n 0, 1) := by decide +kernel
theorem dX5_listsWith_6 : decode cX5_listsWith 6 = .ok (.getfield 69, 3) := by decide +kernel
theorem dX5_listsWith_9 : decode cX5_listsWith 9 = .ok (.if_icmp .ge 34, 3) := by decide +kernel
theorem dX5_listsWith_12 : decode cX5_listsWith 12 = .ok (.iload_n 3, 1) := by decide +kernel
theorem dX5_listsWith_13 : decode cX5_listsWith 13 = .ok (.aload_n 0, 1) := by decide +kernel
theorem dX5_listsWith_14 : decode cX5_listsWith 14 = .ok (.getfield 37, 3) := by decide +kernel
theorem dX5_listsWith_17 : decode cX5_listsWith 17 = .ok (.arraylength, 1) := by decide +kernel
theorem dX5_listsWith_18 : decode cX5_listsWith 18 = .ok (.if_icmp .ge 25, 3) := by decide +kernel
theorem dX5_listsWith_21 : decode cX5_listsWith 21 = .ok (.aload_n 0, 1) := by decide +kernel
theorem dX5_listsWith_22 : decode cX5_listsWith 22 = .ok (.getfield 37, 3) := by decide +kernel
theorem dX5_listsWith_25 : decode cX5_listsWith 25 = .ok (.iload_n 3, 1) := by decide +kernel
theorem dX5_listsWith_26 : decode cX5_listsWith 26 = .ok (.aaload, 1) := by decide +kernel
theorem dX5_listsWith_27 : decode cX5_listsWith 27 = .ok (.iload_n 1, 1) := by decide +kernel
theorem dX5_listsWith_28 : decode cX5_listsWith 28 = .ok (.invokevirtual 193, 3) := by decide +kernel
theorem dX5_listsWith_31 : decode cX5_listsWith 31 = .ok (.ifCond .lt 6, 3) := by decide +kernel
theorem dX5_listsWith_34 : decode cX5_listsWith 34 = .ok (.iinc 2 1, 3) := by decide +kernel
theorem dX5_listsWith_37 : decode cX5_listsWith 37 = .ok (.iinc 3 1, 3) := by decide +kernel
theorem dX5_listsWith_40 : decode cX5_listsWith 40 = .ok (.goto (-36), 3) := by decide +kernel
theorem dX5_listsWith_43 : decode cX5_listsWith 43 = .ok (.iload_n 2, 1) := by decide +kernel
theorem dX5_listsWith_44 : decode cX5_listsWith 44 = .ok (.ireturn, 1) := by decide +kernel
theorem dX5_tellOfStage_0 : decode cX5_tellOfStage 0 = .ok (.aload_n 0, 1) := by decide +kernel
theorem dX5_tellOfStage_1 : decode cX5_tellOfStage 1 = .ok (.iload_n 1, 1) := by decide +kernel
theorem dX5_tellOfStage_2 : decode cX5_tellOfStage 2 = .ok (.invokevirtual 110, 3) := by decide +kernel
theorem dX5_tellOfStage_5 : decode cX5_tellOfStage 5 = .ok (.ifCond .ne 5, 3) := by decide +kernel
theorem dX5_tellOfStage_8 : decode cX5_tellOfStage 8 = .ok (.iconst (-1), 1) := by decide +kernel
theorem dX5_tellOfStage_9 : decode cX5_tellOfStage 9 = .ok (.ireturn, 1) := by decide +kernel
theorem dX5_tellOfStage_10 : decode cX5_tellOfStage 10 = .ok (.iload_n 2, 1) := by decide +kernel
theorem dX5_tellOfStage_11 : decode cX5_tellOfStage 11 = .ok (.ifCond .ne 10, 3) := by decide +kernel
theorem dX5_tellOfStage_14 : decode cX5_tellOfStage 14 = .ok (.aload_n 0, 1) := by decide +kernel
theorem dX5_tellOfStage_15 : decode cX5_tellOfStage 15 = .ok (.getfield 26, 3) := by decide +kernel
theorem dX5_tellOfStage_18 : decode cX5_tellOfStage 18 = .ok (.iload_n 1, 1) := by decide +kernel
theorem dX5_tellOfStage_19 : decode cX5_tellOfStage 19 = .ok (.iaload, 1) := by decide +kernel
theorem dX5_tellOfStage_20 : decode cX5_tellOfStage 20 = .ok (.ireturn, 1) := by decide +kernel
theorem dX5_tellOfStage_21 : decode cX5_tellOfStage 21 = .ok (.iload_n 2, 1) := by decide +kernel
theorem dX5_tellOfStage_22 : decode cX5_tellOfStage 22 = .ok (.iconst 1, 1) := by decide +kernel
theorem dX5_tellOfStage_23 : decode cX5_tellOfStage 23 = .ok (.if_icmp .ne 12, 3) := by decide +kernel
theorem dX5_tellOfStage_26 : decode cX5_tellOfStage 26 = .ok (.aload_n 0, 1) := by decide +kernel
theorem dX5_tellOfStage_27 : decode cX5_tellOfStage 27 = .ok (.getfield 32, 3) := by decide +kernel
theorem dX5_tellOfStage_30 : decode cX5_tellOfStage 30 = .ok (.iload_n 1, 1) := by decide +kernel
theorem dX5_tellOfStage_31 : decode cX5_tellOfStage 31 = .ok (.iaload, 1) := by decide +kernel
theorem dX5_tellOfStage_32 : decode cX5_tellOfStage 32 = .ok (.goto 5, 3) := by decide +kernel
theorem dX5_tellOfStage_35 : decode cX5_tellOfStage 35 = .ok (.bipush (-2), 2) := by decide +kernel
theorem dX5_tellOfStage_37 : decode cX5_tellOfStage 37 = .ok (.ireturn, 1) := by decide +kernel
theorem dX5_tellCount_0 : decode cX5_tellCount 0 = .ok (.iload_n 1, 1) := by decide +kernel
theorem dX5_tellCount_1 : decode cX5_tellCount 1 = .ok (.iconst 3, 1) := by decide +kernel
theorem dX5_tellCount_2 : decode cX5_tellCount 2 = .ok (.if_icmp .lt 17, 3) := by decide +kernel
theorem dX5_tellCount_5 : decode cX5_tellCount 5 = .ok (.iload_n 1, 1) := by decide +kernel
theorem dX5_tellCount_6 : decode cX5_tellCount 6 = .ok (.bipush 8, 2) := by decide +kernel
theorem dX5_tellCount_8 : decode cX5_tellCount 8 = .ok (.if_icmp .gt 11, 3) := by decide +kernel
theorem dX5_tellCount_11 : decode cX5_tellCount 11 = .ok (.aload_n 0, 1) := by decide +kernel
theorem dX5_tellCount_12 : decode cX5_tellCount 12 = .ok (.iload_n 1, 1) := by decide +kernel
theorem dX5_tellCount_13 : decode cX5_tellCount 13 = .ok (.iconst 3, 1) := by decide +kernel
theorem dX5_tellCount_14 : decode cX5_tellCount 14 = .ok (.isub, 1) := by decide +kernel
theorem dX5_tellCount_15 : decode cX5_tellCount 15 = .ok (.invokevirtual 282, 3) := by decide +kernel
theorem dX5_tellCount_18 : decode cX5_tellCount 18 = .ok (.ireturn, 1) := by decide +kernel
theorem dX5_tellCount_19 : decode cX5_tellCount 19 = .ok (.iload_n 1, 1) := by decide +kernel
theorem dX5_tellCount_20 : decode cX5_tellCount 20 = .ok (.bipush 10, 2) := by decide +kernel
theorem dX5_tellCount_22 : decode cX5_tellCount 22 = .ok (.if_icmp .lt 19, 3) := by decide +kernel
theorem dX5_tellCount_25 : decode cX5_tellCount 25 = .ok (.iload_n 1, 1) := by decide +kernel
theorem dX5_tellCount_26 : decode cX5_tellCount 26 = .ok (.bipush 13, 2) := by decide +kernel
theorem dX5_tellCount_28 : decode cX5_tellCount 28 = .ok (.if_icmp .gt 13, 3) := by decide +kernel
theorem dX5_tellCount_31 : decode cX5_tellCount 31 = .ok (.aload_n 0, 1) := by decide +kernel
theorem dX5_tellCount_32 : decode cX5_tellCount 32 = .ok (.getfield 18, 3) := by decide +kernel
theorem dX5_tellCount_35 : decode cX5_tellCount 35 = .ok (.iload_n 1, 1) := by decide +kernel
theorem dX5_tellCount_36 : decode cX5_tellCount 36 = .ok (.bipush 10, 2) := by decide +kernel
theorem dX5_tellCount_38 : decode cX5_tellCount 38 = .ok (.isub, 1) := by decide +kernel
theorem dX5_tellCount_39 : decode cX5_tellCount 39 = .ok (.iaload, 1) := by decide +kernel
theorem dX5_tellCount_40 : decode cX5_tellCount 40 = .ok (.ireturn, 1) := by decide +kernel
theorem dX5_tellCount_41 : decode cX5_tellCount 41 = .ok (.iload_n 1, 1) := by decide +kernel
theorem dX5_tellCount_42 : decode cX5_tellCount 42 = .ok (.tableswitch 78 0 9 #[54, 59, 64, 78, 78, 78, 78, 78, 78, 69], 54) := by decide +kernel
theorem dX5_tellCount_96 : decode cX5_tellCount 96 = .ok (.aload_n 0, 1) := by decide +kernel
theorem dX5_tellCount_97 : decode cX5_tellCount 97 = .ok (.getfield 61, 3) := by decide +kernel
theorem dX5_tellCount_100 : decode cX5_tellCount 100 = .ok (.ireturn, 1) := by decide +kernel
theorem dX5_tellCount_101 : decode cX5_tellCount 101 = .ok (.aload_n 0, 1) := by decide +kernel
theorem dX5_tellCount_102 : decode cX5_tellCount 102 = .ok (.getfield 69, 3) := by decide +kernel
theorem dX5_tellCount_105 : decode cX5_tellCount 105 = .ok (.ireturn, 1) := by decide +kernel
theorem dX5_tellCount_106 : decode cX5_tellCount 106 = .ok (.aload_n 0, 1) := by decide +kernel
theorem dX5_tellCount_107 : decode cX5_tellCount 107 = .ok (.getfield 76, 3) := by decide +kernel
theorem dX5_tellCount_110 : decode cX5_tellCount 110 = .ok (.ireturn, 1) := by decide +kernel
theorem dX5_tellCount_111 : decode cX5_tellCount 111 = .ok (.ldc_w 275, 3) := by decide +kernel
theorem dX5_tellCount_114 : decode cX5_tellCount 114 = .ok (.aload_n 0, 1) := by decide +kernel
theorem dX5_tellCount_115 : decode cX5_tellCount 115 = .ok (.getfield 82, 3) := by decide +kernel
theorem dX5_tellCount_118 : decode cX5_tellCount 118 = .ok (.iadd, 1) := by decide +kernel
theorem dX5_tellCount_119 : decode cX5_tellCount 119 = .ok (.ireturn, 1) := by decide +kernel
theorem dX5_tellCount_120 : decode cX5_tellCount 120 = .ok (.bipush (-2), 2) := by decide +kernel
theorem dX5_tellCount_122 : decode cX5_tellCount 122 = .ok (.ireturn, 1) := by decide +kernel
theorem dX6_init_0 : decode cX6_init 0 = .ok (.aload_n 0, 1) := by decide +kernel
theorem dX6_init_1 : decode cX6_init 1 = .ok (.invokespecial 1, 3) := by decide +kernel
theorem dX6_init_4 : decode cX6_init 4 = .ok (.aload_n 0, 1) := by decide +kernel
theorem dX6_init_5 : decode cX6_init 5 = .ok (.new 7, 3) := by decide +kernel
theorem dX6_init_8 : decode cX6_init 8 = .ok (.dup, 1) := by decide +kernel
theorem dX6_init_9 : decode cX6_init 9 = .ok (.invokespecial 9, 3) := by decide +kernel
theorem dX6_init_12 : decode cX6_init 12 = .ok (.putfield 10, 3) := by decide +kernel
theorem dX6_init_15 : decode cX6_init 15 = .ok (.aload_n 0, 1) := by decide +kernel
theorem dX6_init_16 : decode cX6_init 16 = .ok (.new 7, 3) := by decide +kernel
theorem dX6_init_19 : decode cX6_init 19 = .ok (.dup, 1) := by decide +kernel
theorem dX6_init_20 : decode cX6_init 20 = .ok (.invokespecial 9, 3) := by decide +kernel
theorem dX6_init_23 : decode cX6_init 23 = .ok (.putfield 16, 3) := by decide +kernel
theorem dX6_init_26 : decode cX6_init 26 = .ok (.aload_n 0, 1) := by decide +kernel
theorem dX6_init_27 : decode cX6_init 27 = .ok (.new 19, 3) := by decide +kernel
theorem dX6_init_30 : decode cX6_init 30 = .ok (.dup, 1) := by decide +kernel
theorem dX6_init_31 : decode cX6_init 31 = .ok (.invokespecial 21, 3) := by decide +kernel
theorem dX6_init_34 : decode cX6_init 34 = .ok (.putfield 22, 3) := by decide +kernel
theorem dX6_init_37 : decode cX6_init 37 = .ok (.aload_n 0, 1) := by decide +kernel
theorem dX6_init_38 : decode cX6_init 38 = .ok (.new 26, 3) := by decide +kernel
theorem dX6_init_41 : decode cX6_init 41 = .ok (.dup, 1) := by decide +kernel
theorem dX6_init_42 : decode cX6_init 42 = .ok (.invokespecial 28, 3) := by decide +kernel
theorem dX6_init_45 : decode cX6_init 45 = .ok (.putfield 29, 3) := by decide +kernel
theorem dX6_init_48 : decode cX6_init 48 = .ok (.return_, 1) := by decide +kernel
theorem dX6_addDate_0 : decode cX6_addDate 0 = .ok (.aload_n 0, 1) := by decide +kernel
theorem dX6_addDate_1 : decode cX6_addDate 1 = .ok (.getfield 22, 3) := by decide +kernel
theorem dX6_addDate_4 : decode cX6_addDate 4 = .ok (.aload_n 0, 1) := by decide +kernel
theorem dX6_addDate_5 : decode cX6_addDate 5 = .ok (.getfield 10, 3) := by decide +kernel
theorem dX6_addDate_8 : decode cX6_addDate 8 = .ok (.invokevirtual 33, 3) := by decide +kernel
theorem dX6_addDate_11 : decode cX6_addDate 11 = .ok (.aload_n 0, 1) := by decide +kernel
theorem dX6_addDate_12 : decode cX6_addDate 12 = .ok (.getfield 22, 3) := by decide +kernel
theorem dX6_addDate_15 : decode cX6_addDate 15 = .ok (.aload_n 0, 1) := by decide +kernel
theorem dX6_addDate_16 : decode cX6_addDate 16 = .ok (.getfield 10, 3) := by decide +kernel
theorem dX6_addDate_19 : decode cX6_addDate 19 = .ok (.iload_n 1, 1) := by decide +kernel
theorem dX6_addDate_20 : decode cX6_addDate 20 = .ok (.iload_n 2, 1) := by decide +kernel
theorem dX6_addDate_21 : decode cX6_addDate 21 = .ok (.iload_n 3, 1) := by decide +kernel
theorem dX6_addDate_22 : decode cX6_addDate 22 = .ok (.iload 4, 2) := by decide +kernel
theorem dX6_addDate_24 : decode cX6_addDate 24 = .ok (.iload 5, 2) := by decide +kernel
theorem dX6_addDate_26 : decode cX6_addDate 26 = .ok (.invokevirtual 37, 3) := by decide +kernel
theorem dX6_addDate_29 : decode cX6_addDate 29 = .ok (.invokevirtual 41, 3) := by decide +kernel
theorem dX6_addDate_32 : decode cX6_addDate 32 = .ok (.ireturn, 1) := by decide +kernel
theorem dX6_setStage_0 : decode cX6_setStage 0 = .ok (.aload_n 0, 1) := by decide +kernel
theorem dX6_setStage_1 : decode cX6_setStage 1 = .ok (.getfield 22, 3) := by decide +kernel
theorem dX6_setStage_4 : decode cX6_setStage 4 = .ok (.aload_n 0, 1) := by decide +kernel
theorem dX6_setStage_5 : decode cX6_setStage 5 = .ok (.getfield 10, 3) := by decide +kernel
theorem dX6_setStage_8 : decode cX6_setStage 8 = .ok (.invokevirtual 33, 3) := by decide +kernel
theorem dX6_setStage_11 : decode cX6_setStage 11 = .ok (.aload_n 0, 1) := by decide +kernel
theorem dX6_setStage_12 : decode cX6_setStage 12 = .ok (.getfield 22, 3) := by decide +kernel
theorem dX6_setStage_15 : decode cX6_setStage 15 = .ok (.aload_n 0, 1) := by decide +kernel
theorem dX6_setStage_16 : decode cX6_setStage 16 = .ok (.getfield 10, 3) := by decide +kernel
theorem dX6_setStage_19 : decode cX6_setStage 19 = .ok (.iload_n 1, 1) := by decide +kernel
theorem dX6_setStage_20 : decode cX6_setStage 20 = .ok (.iload_n 2, 1) := by decide +kernel
theorem dX6_setStage_21 : decode cX6_setStage 21 = .ok (.iload_n 3, 1) := by decide +kernel
theorem dX6_setStage_22 : decode cX6_setStage 22 = .ok (.invokevirtual 45, 3) := by decide +kernel
theorem dX6_setStage_25 : decode cX6_setStage 25 = .ok (.invokevirtual 41, 3) := by decide +kernel
theorem dX6_setStage_28 : decode cX6_setStage 28 = .ok (.ireturn, 1) := by decide +kernel
theorem dX6_set_0 : decode cX6_set 0 = .ok (.aload_n 0, 1) := by decide +kernel
theorem dX6_set_1 : decode cX6_set 1 = .ok (.getfield 22, 3) := by decide +kernel
theorem dX6_set_4 : decode cX6_set 4 = .ok (.aload_n 0, 1) := by decide +kernel
theorem dX6_set_5 : decode cX6_set 5 = .ok (.getfield 10, 3) := by decide +kernel
theorem dX6_set_8 : decode cX6_set 8 = .ok (.invokevirtual 33, 3) := by decide +kernel
theorem dX6_set_11 : decode cX6_set 11 = .ok (.aload_n 0, 1) := by decide +kernel
theorem dX6_set_12 : decode cX6_set 12 = .ok (.getfield 22, 3) := by decide +kernel
theorem dX6_set_15 : decode cX6_set 15 = .ok (.aload_n 0, 1) := by decide +kernel
theorem dX6_set_16 : decode cX6_set 16 = .ok (.getfield 10, 3) := by decide +kernel
theorem dX6_set_19 : decode cX6_set 19 = .ok (.iload_n 1, 1) := by decide +kernel
theorem dX6_set_20 : decode cX6_set 20 = .ok (.iload_n 2, 1) := by decide +kernel
theorem dX6_set_21 : decode cX6_set 21 = .ok (.invokevirtual 49, 3) := by decide +kernel
theorem dX6_set_24 : decode cX6_set 24 = .ok (.invokevirtual 41, 3) := by decide +kernel
theorem dX6_set_27 : decode cX6_set 27 = .ok (.ireturn, 1) := by decide +kernel
theorem dX6_buy_0 : decode cX6_buy 0 = .ok (.aload_n 0, 1) := by decide +kernel
theorem dX6_buy_1 : decode cX6_buy 1 = .ok (.getfield 22, 3) := by decide +kernel
theorem dX6_buy_4 : decode cX6_buy 4 = .ok (.aload_n 0, 1) := by decide +kernel
theorem dX6_buy_5 : decode cX6_buy 5 = .ok (.getfield 10, 3) := by decide +kernel
theorem dX6_buy_8 : decode cX6_buy 8 = .ok (.invokevirtual 33, 3) := by decide +kernel
theorem dX6_buy_11 : decode cX6_buy 11 = .ok (.aload_n 0, 1) := by decide +kernel
theorem dX6_buy_12 : decode cX6_buy 12 = .ok (.getfield 22, 3) := by decide +kernel
theorem dX6_buy_15 : decode cX6_buy 15 = .ok (.aload_n 0, 1) := by decide +kernel
theorem dX6_buy_16 : decode cX6_buy 16 = .ok (.getfield 10, 3) := by decide +kernel
theorem dX6_buy_19 : decode cX6_buy 19 = .ok (.iload_n 1, 1) := by decide +kernel
theorem dX6_buy_20 : decode cX6_buy 20 = .ok (.iload_n 2, 1) := by decide +kernel
theorem dX6_buy_21 : decode cX6_buy 21 = .ok (.invokevirtual 53, 3) := by decide +kernel
theorem dX6_buy_24 : decode cX6_buy 24 = .ok (.invokevirtual 41, 3) := by decide +kernel
theorem dX6_buy_27 : decode cX6_buy 27 = .ok (.ireturn, 1) := by decide +kernel
theorem dX6_buyOffered_0 : decode cX6_buyOffered 0 = .ok (.aload_n 0, 1) := by decide +kernel
theorem dX6_buyOffered_1 : decode cX6_buyOffered 1 = .ok (.getfield 22, 3) := by decide +kernel
theorem dX6_buyOffered_4 : decode cX6_buyOffered 4 = .ok (.aload_n 0, 1) := by decide +kernel
theorem dX6_buyOffered_5 : decode cX6_buyOffered 5 = .ok (.getfield 10, 3) := by decide +kernel
theorem dX6_buyOffered_8 : decode cX6_buyOffered 8 = .ok (.invokevirtual 33, 3) := by decide +kernel
theorem dX6_buyOffered_11 : decode cX6_buyOffered 11 = .ok (.aload_n 0, 1) := by decide +kernel
theorem dX6_buyOffered_12 : decode cX6_buyOffered 12 = .ok (.getfield 22, 3) := by decide +kernel
theorem dX6_buyOffered_15 : decode cX6_buyOffered 15 = .ok (.aload_n 0, 1) := by decide +kernel
theorem dX6_buyOffered_16 : decode cX6_buyOffered 16 = .ok (.getfield 10, 3) := by decide +kernel
theorem dX6_buyOffered_19 : decode cX6_buyOffered 19 = .ok (.iload_n 1, 1) := by decide +kernel
theorem dX6_buyOffered_20 : decode cX6_buyOffered 20 = .ok (.iload_n 2, 1) := by decide +kernel
theorem dX6_buyOffered_21 : decode cX6_buyOffered 21 = .ok (.invokevirtual 56, 3) := by decide +kernel
theorem dX6_buyOffered_24 : decode cX6_buyOffered 24 = .ok (.invokevirtual 41, 3) := by decide +kernel
theorem dX6_buyOffered_27 : decode cX6_buyOffered 27 = .ok (.ireturn, 1) := by decide +kernel
theorem dX6_cancel_0 : decode cX6_cancel 0 = .ok (.aload_n 0, 1) := by decide +kernel
theorem dX6_cancel_1 : decode cX6_cancel 1 = .ok (.getfield 22, 3) := by decide +kernel
theorem dX6_cancel_4 : decode cX6_cancel 4 = .ok (.aload_n 0, 1) := by decide +kernel
theorem dX6_cancel_5 : decode cX6_cancel 5 = .ok (.getfield 10, 3) := by decide +kernel
theorem dX6_cancel_8 : decode cX6_cancel 8 = .ok (.invokevirtual 33, 3) := by decide +kernel
theorem dX6_cancel_11 : decode cX6_cancel 11 = .ok (.aload_n 0, 1) := by decide +kernel
theorem dX6_cancel_12 : decode cX6_cancel 12 = .ok (.getfield 22, 3) := by decide +kernel
theorem dX6_cancel_15 : decode cX6_cancel 15 = .ok (.aload_n 0, 1) := by decide +kernel
theorem dX6_cancel_16 : decode cX6_cancel 16 = .ok (.getfield 10, 3) := by decide +kernel
theorem dX6_cancel_19 : decode cX6_cancel 19 = .ok (.iload_n 1, 1) := by decide +kernel
theorem dX6_cancel_20 : decode cX6_cancel 20 = .ok (.invokevirtual 59, 3) := by decide +kernel
theorem dX6_cancel_23 : decode cX6_cancel 23 = .ok (.invokevirtual 41, 3) := by decide +kernel
theorem dX6_cancel_26 : decode cX6_cancel 26 = .ok (.ireturn, 1) := by decide +kernel
theorem dX6_offer_0 : decode cX6_offer 0 = .ok (.aload_n 0, 1) := by decide +kernel
theorem dX6_offer_1 : decode cX6_offer 1 = .ok (.getfield 22, 3) := by decide +kernel
theorem dX6_offer_4 : decode cX6_offer 4 = .ok (.aload_n 0, 1) := by decide +kernel
theorem dX6_offer_5 : decode cX6_offer 5 = .ok (.getfield 10, 3) := by decide +kernel
theorem dX6_offer_8 : decode cX6_offer 8 = .ok (.invokevirtual 33, 3) := by decide +kernel
theorem dX6_offer_11 : decode cX6_offer 11 = .ok (.aload_n 0, 1) := by decide +kernel
theorem dX6_offer_12 : decode cX6_offer 12 = .ok (.getfield 22, 3) := by decide +kernel
theorem dX6_offer_15 : decode cX6_offer 15 = .ok (.aload_n 0, 1) := by decide +kernel
theorem dX6_offer_16 : decode cX6_offer 16 = .ok (.getfield 10, 3) := by decide +kernel
theorem dX6_offer_19 : decode cX6_offer 19 = .ok (.iload_n 1, 1) := by decide +kernel
theorem dX6_offer_20 : decode cX6_offer 20 = .ok (.iload_n 2, 1) := by decide +kernel
theorem dX6_offer_21 : decode cX6_offer 21 = .ok (.invokevirtual 62, 3) := by decide +kernel
theorem dX6_offer_24 : decode cX6_offer 24 = .ok (.invokevirtual 41, 3) := by decide +kernel
theorem dX6_offer_27 : decode cX6_offer 27 = .ok (.ireturn, 1) := by decide +kernel
theorem dX6_takeBack_0 : decode cX6_takeBack 0 = .ok (.aload_n 0, 1) := by decide +kernel
theorem dX6_takeBack_1 : decode cX6_takeBack 1 = .ok (.getfield 22, 3) := by decide +kernel
theorem dX6_takeBack_4 : decode cX6_takeBack 4 = .ok (.aload_n 0, 1) := by decide +kernel
theorem dX6_takeBack_5 : decode cX6_takeBack 5 = .ok (.getfield 10, 3) := by decide +kernel
theorem dX6_takeBack_8 : decode cX6_takeBack 8 = .ok (.invokevirtual 33, 3) := by decide +kernel
theorem dX6_takeBack_11 : decode cX6_takeBack 11 = .ok (.aload_n 0, 1) := by decide +kernel
theorem dX6_takeBack_12 : decode cX6_takeBack 12 = .ok (.getfield 22, 3) := by decide +kernel
theorem dX6_takeBack_15 : decode cX6_takeBack 15 = .ok (.aload_n 0, 1) := by decide +kernel
theorem dX6_takeBack_16 : decode cX6_takeBack 16 = .ok (.getfield 10, 3) := by decide +kernel
theorem dX6_takeBack_19 : decode cX6_takeBack 19 = .ok (.iload_n 1, 1) := by decide +kernel
theorem dX6_takeBack_20 : decode cX6_takeBack 20 = .ok (.invokevirtual 65, 3) := by decide +kernel
theorem dX6_takeBack_23 : decode cX6_takeBack 23 = .ok (.invokevirtual 41, 3) := by decide +kernel
theorem dX6_takeBack_26 : decode cX6_takeBack 26 = .ok (.ireturn, 1) := by decide +kernel
theorem dX6_exercise_0 : decode cX6_exercise 0 = .ok (.aload_n 0, 1) := by decide +kernel
theorem dX6_exercise_1 : decode cX6_exercise 1 = .ok (.getfield 22, 3) := by decide +kernel
theorem dX6_exercise_4 : decode cX6_exercise 4 = .ok (.aload_n 0, 1) := by decide +kernel
theorem dX6_exercise_5 : decode cX6_exercise 5 = .ok (.getfield 10, 3) := by decide +kernel
theorem dX6_exercise_8 : decode cX6_exercise 8 = .ok (.invokevirtual 33, 3) := by decide +kernel
theorem dX6_exercise_11 : decode cX6_exercise 11 = .ok (.aload_n 0, 1) := by decide +kernel
theorem dX6_exercise_12 : decode cX6_exercise 12 = .ok (.getfield 22, 3) := by decide +kernel
theorem dX6_exercise_15 : decode cX6_exercise 15 = .ok (.aload_n 0, 1) := by decide +kernel
theorem dX6_exercise_16 : decode cX6_exercise 16 = .ok (.getfield 10, 3) := by decide +kernel
theorem dX6_exercise_19 : decode cX6_exercise 19 = .ok (.iload_n 1, 1) := by decide +kernel
theorem dX6_exercise_20 : decode cX6_exercise 20 = .ok (.invokevirtual 68, 3) := by decide +kernel
theorem dX6_exercise_23 : decode cX6_exercise 23 = .ok (.invokevirtual 41, 3) := by decide +kernel
theorem dX6_exercise_26 : decode cX6_exercise 26 = .ok (.ireturn, 1) := by decide +kernel
theorem dX6_await_0 : decode cX6_await 0 = .ok (.aload_n 0, 1) := by decide +kernel
theorem dX6_await_1 : decode cX6_await 1 = .ok (.getfield 22, 3) := by decide +kernel
theorem dX6_await_4 : decode cX6_await 4 = .ok (.aload_n 0, 1) := by decide +kernel
theorem dX6_await_5 : decode cX6_await 5 = .ok (.getfield 10, 3) := by decide +kernel
theorem dX6_await_8 : decode cX6_await 8 = .ok (.invokevirtual 33, 3) := by decide +kernel
theorem dX6_await_11 : decode cX6_await 11 = .ok (.aload_n 0, 1) := by decide +kernel
theorem dX6_await_12 : decode cX6_await 12 = .ok (.getfield 22, 3) := by decide +kernel
theorem dX6_await_15 : decode cX6_await 15 = .ok (.aload_n 0, 1) := by decide +kernel
theorem dX6_await_16 : decode cX6_await 16 = .ok (.getfield 10, 3) := by decide +kernel
theorem dX6_await_19 : decode cX6_await 19 = .ok (.iload_n 1, 1) := by decide +kernel
theorem dX6_await_20 : decode cX6_await 20 = .ok (.iload_n 2, 1) := by decide +kernel
theorem dX6_await_21 : decode cX6_await 21 = .ok (.invokevirtual 71, 3) := by decide +kernel
theorem dX6_await_24 : decode cX6_await 24 = .ok (.invokevirtual 41, 3) := by decide +kernel
theorem dX6_await_27 : decode cX6_await 27 = .ok (.ireturn, 1) := by decide +kernel
theorem dX6_leave_0 : decode cX6_leave 0 = .ok (.aload_n 0, 1) := by decide +kernel
theorem dX6_leave_1 : decode cX6_leave 1 = .ok (.getfield 22, 3) := by decide +kernel
theorem dX6_leave_4 : decode cX6_leave 4 = .ok (.aload_n 0, 1) := by decide +kernel
theorem dX6_leave_5 : decode cX6_leave 5 = .ok (.getfield 10, 3) := by decide +kernel
theorem dX6_leave_8 : decode cX6_leave 8 = .ok (.invokevirtual 33, 3) := by decide +kernel
theorem dX6_leave_11 : decode cX6_leave 11 = .ok (.aload_n 0, 1) := by decide +kernel
theorem dX6_leave_12 : decode cX6_leave 12 = .ok (.getfield 22, 3) := by decide +kernel
theorem dX6_leave_15 : decode cX6_leave 15 = .ok (.aload_n 0, 1) := by decide +kernel
theorem dX6_leave_16 : decode cX6_leave 16 = .ok (.getfield 10, 3) := by decide +kernel
theorem dX6_leave_19 : decode cX6_leave 19 = .ok (.iload_n 1, 1) := by decide +kernel
theorem dX6_leave_20 : decode cX6_leave 20 = .ok (.iload_n 2, 1) := by decide +kernel
theorem dX6_leave_21 : decode cX6_leave 21 = .ok (.invokevirtual 74, 3) := by decide +kernel
theorem dX6_leave_24 : decode cX6_leave 24 = .ok (.invokevirtual 41, 3) := by decide +kernel
theorem dX6_leave_27 : decode cX6_leave 27 = .ok (.ireturn, 1) := by decide +kernel
theorem dX6_pass_0 : decode cX6_pass 0 = .ok (.aload_n 0, 1) := by decide +kernel
theorem dX6_pass_1 : decode cX6_pass 1 = .ok (.getfield 22, 3) := by decide +kernel
theorem dX6_pass_4 : decode cX6_pass 4 = .ok (.aload_n 0, 1) := by decide +kernel
theorem dX6_pass_5 : decode cX6_pass 5 = .ok (.getfield 10, 3) := by decide +kernel
theorem dX6_pass_8 : decode cX6_pass 8 = .ok (.invokevirtual 33, 3) := by decide +kernel
theorem dX6_pass_11 : decode cX6_pass 11 = .ok (.aload_n 0, 1) := by decide +kernel
theorem dX6_pass_12 : decode cX6_pass 12 = .ok (.getfield 22, 3) := by decide +kernel
theorem dX6_pass_15 : decode cX6_pass 15 = .ok (.aload_n 0, 1) := by decide +kernel
theorem dX6_pass_16 : decode cX6_pass 16 = .ok (.getfield 10, 3) := by decide +kernel
theorem dX6_pass_19 : decode cX6_pass 19 = .ok (.iload_n 1, 1) := by decide +kernel
theorem dX6_pass_20 : decode cX6_pass 20 = .ok (.invokevirtual 77, 3) := by decide +kernel
theorem dX6_pass_23 : decode cX6_pass 23 = .ok (.invokevirtual 41, 3) := by decide +kernel
theorem dX6_pass_26 : decode cX6_pass 26 = .ok (.ireturn, 1) := by decide +kernel
theorem dX6_perform_0 : decode cX6_perform 0 = .ok (.aload_n 0, 1) := by decide +kernel
theorem dX6_perform_1 : decode cX6_perform 1 = .ok (.getfield 29, 3) := by decide +kernel
theorem dX6_perform_4 : decode cX6_perform 4 = .ok (.invokevirtual 88, 3) := by decide +kernel
theorem dX6_perform_7 : decode cX6_perform 7 = .ok (.istore_n 1, 1) := by decide +kernel
theorem dX6_perform_8 : decode cX6_perform 8 = .ok (.iload_n 1, 1) := by decide +kernel
theorem dX6_perform_9 : decode cX6_perform 9 = .ok (.ifCond .ge 5, 3) := by decide +kernel
theorem dX6_perform_12 : decode cX6_perform 12 = .ok (.iload_n 1, 1) := by decide +kernel
theorem dX6_perform_13 : decode cX6_perform 13 = .ok (.ireturn, 1) := by decide +kernel
theorem dX6_perform_14 : decode cX6_perform 14 = .ok (.aload_n 0, 1) := by decide +kernel
theorem dX6_perform_15 : decode cX6_perform 15 = .ok (.getfield 22, 3) := by decide +kernel
theorem dX6_perform_18 : decode cX6_perform 18 = .ok (.aload_n 0, 1) := by decide +kernel
theorem dX6_perform_19 : decode cX6_perform 19 = .ok (.getfield 10, 3) := by decide +kernel
theorem dX6_perform_22 : decode cX6_perform 22 = .ok (.invokevirtual 33, 3) := by decide +kernel
theorem dX6_perform_25 : decode cX6_perform 25 = .ok (.aload_n 0, 1) := by decide +kernel
theorem dX6_perform_26 : decode cX6_perform 26 = .ok (.getfield 29, 3) := by decide +kernel
theorem dX6_perform_29 : decode cX6_perform 29 = .ok (.invokevirtual 91, 3) := by decide +kernel
theorem dX6_perform_32 : decode cX6_perform 32 = .ok (.iconst 0, 1) := by decide +kernel
theorem dX6_perform_33 : decode cX6_perform 33 = .ok (.istore_n 2, 1) := by decide +kernel
theorem dX6_perform_34 : decode cX6_perform 34 = .ok (.iload_n 2, 1) := by decide +kernel
theorem dX6_perform_35 : decode cX6_perform 35 = .ok (.iload_n 1, 1) := by decide +kernel
theorem dX6_perform_36 : decode cX6_perform 36 = .ok (.if_icmp .ge 34, 3) := by decide +kernel
theorem dX6_perform_39 : decode cX6_perform 39 = .ok (.aload_n 0, 1) := by decide +kernel
theorem dX6_perform_40 : decode cX6_perform 40 = .ok (.invokevirtual 94, 3) := by decide +kernel
theorem dX6_perform_43 : decode cX6_perform 43 = .ok (.istore_n 3, 1) := by decide +kernel
theorem dX6_perform_44 : decode cX6_perform 44 = .ok (.iload_n 3, 1) := by decide +kernel
theorem dX6_perform_45 : decode cX6_perform 45 = .ok (.ifCond .ge 19, 3) := by decide +kernel
theorem dX6_perform_48 : decode cX6_perform 48 = .ok (.aload_n 0, 1) := by decide +kernel
theorem dX6_perform_49 : decode cX6_perform 49 = .ok (.getfield 10, 3) := by decide +kernel
theorem dX6_perform_52 : decode cX6_perform 52 = .ok (.aload_n 0, 1) := by decide +kernel
theorem dX6_perform_53 : decode cX6_perform 53 = .ok (.getfield 22, 3) := by decide +kernel
theorem dX6_perform_56 : decode cX6_perform 56 = .ok (.getfield 97, 3) := by decide +kernel
theorem dX6_perform_59 : decode cX6_perform 59 = .ok (.invokevirtual 100, 3) := by decide +kernel
theorem dX6_perform_62 : decode cX6_perform 62 = .ok (.iload_n 3, 1) := by decide +kernel
theorem dX6_perform_63 : decode cX6_perform 63 = .ok (.ireturn, 1) := by decide +kernel
theorem dX6_perform_64 : decode cX6_perform 64 = .ok (.iinc 2 1, 3) := by decide +kernel
theorem dX6_perform_67 : decode cX6_perform 67 = .ok (.goto (-33), 3) := by decide +kernel
theorem dX6_perform_70 : decode cX6_perform 70 = .ok (.aload_n 0, 1) := by decide +kernel
theorem dX6_perform_71 : decode cX6_perform 71 = .ok (.getfield 22, 3) := by decide +kernel
theorem dX6_perform_74 : decode cX6_perform 74 = .ok (.iload_n 1, 1) := by decide +kernel
theorem dX6_perform_75 : decode cX6_perform 75 = .ok (.invokevirtual 41, 3) := by decide +kernel
theorem dX6_perform_78 : decode cX6_perform 78 = .ok (.ireturn, 1) := by decide +kernel
theorem dX6_undo_0 : decode cX6_undo 0 = .ok (.aload_n 0, 1) := by decide +kernel
theorem dX6_undo_1 : decode cX6_undo 1 = .ok (.getfield 22, 3) := by decide +kernel
theorem dX6_undo_4 : decode cX6_undo 4 = .ok (.invokevirtual 103, 3) := by decide +kernel
theorem dX6_undo_7 : decode cX6_undo 7 = .ok (.astore_n 1, 1) := by decide +kernel
theorem dX6_undo_8 : decode cX6_undo 8 = .ok (.aload_n 1, 1) := by decide +kernel
theorem dX6_undo_9 : decode cX6_undo 9 = .ok (.ifnonnull 6, 3) := by decide +kernel
theorem dX6_undo_12 : decode cX6_undo 12 = .ok (.bipush (-5), 2) := by decide +kernel
theorem dX6_undo_14 : decode cX6_undo 14 = .ok (.ireturn, 1) := by decide +kernel
theorem dX6_undo_15 : decode cX6_undo 15 = .ok (.aload_n 0, 1) := by decide +kernel
theorem dX6_undo_16 : decode cX6_undo 16 = .ok (.getfield 10, 3) := by decide +kernel
theorem dX6_undo_19 : decode cX6_undo 19 = .ok (.aload_n 1, 1) := by decide +kernel
theorem dX6_undo_20 : decode cX6_undo 20 = .ok (.invokevirtual 100, 3) := by decide +kernel
theorem dX6_undo_23 : decode cX6_undo 23 = .ok (.aload_n 0, 1) := by decide +kernel
theorem dX6_undo_24 : decode cX6_undo 24 = .ok (.getfield 22, 3) := by decide +kernel
theorem dX6_undo_27 : decode cX6_undo 27 = .ok (.getfield 107, 3) := by decide +kernel
theorem dX6_undo_30 : decode cX6_undo 30 = .ok (.ireturn, 1) := by decide +kernel
theorem dX6_keep_0 : decode cX6_keep 0 = .ok (.aload_n 0, 1) := by decide +kernel
theorem dX6_keep_1 : decode cX6_keep 1 = .ok (.getfield 16, 3) := by decide +kernel
theorem dX6_keep_4 : decode cX6_keep 4 = .ok (.aload_n 0, 1) := by decide +kernel
theorem dX6_keep_5 : decode cX6_keep 5 = .ok (.getfield 10, 3) := by decide +kernel
theorem dX6_keep_8 : decode cX6_keep 8 = .ok (.invokevirtual 100, 3) := by decide +kernel
theorem dX6_keep_11 : decode cX6_keep 11 = .ok (.aload_n 0, 1) := by decide +kernel
theorem dX6_keep_12 : decode cX6_keep 12 = .ok (.iconst 1, 1) := by decide +kernel
theorem dX6_keep_13 : decode cX6_keep 13 = .ok (.putfield 111, 3) := by decide +kernel
theorem dX6_keep_16 : decode cX6_keep 16 = .ok (.aload_n 0, 1) := by decide +kernel
theorem dX6_keep_17 : decode cX6_keep 17 = .ok (.getfield 10, 3) := by decide +kernel
theorem dX6_keep_20 : decode cX6_keep 20 = .ok (.getfield 115, 3) := by decide +kernel
theorem dX6_keep_23 : decode cX6_keep 23 = .ok (.ireturn, 1) := by decide +kernel
theorem dX6_restore_0 : decode cX6_restore 0 = .ok (.aload_n 0, 1) := by decide +kernel
theorem dX6_restore_1 : decode cX6_restore 1 = .ok (.getfield 111, 3) := by decide +kernel
theorem dX6_restore_4 : decode cX6_restore 4 = .ok (.ifCond .ne 6, 3) := by decide +kernel
theorem dX6_restore_7 : decode cX6_restore 7 = .ok (.bipush (-5), 2) := by decide +kernel
theorem dX6_restore_9 : decode cX6_restore 9 = .ok (.ireturn, 1) := by decide +kernel
theorem dX6_restore_10 : decode cX6_restore 10 = .ok (.aload_n 0, 1) := by decide +kernel
theorem dX6_restore_11 : decode cX6_restore 11 = .ok (.getfield 22, 3) := by decide +kernel
theorem dX6_restore_14 : decode cX6_restore 14 = .ok (.aload_n 0, 1) := by decide +kernel
theorem dX6_restore_15 : decode cX6_restore 15 = .ok (.getfield 10, 3) := by decide +kernel
theorem dX6_restore_18 : decode cX6_restore 18 = .ok (.invokevirtual 33, 3) := by decide +kernel
theorem dX6_restore_21 : decode cX6_restore 21 = .ok (.aload_n 0, 1) := by decide +kernel
theorem dX6_restore_22 : decode cX6_restore 22 = .ok (.getfield 10, 3) := by decide +kernel
theorem dX6_restore_25 : decode cX6_restore 25 = .ok (.aload_n 0, 1) := by decide +kernel
theorem dX6_restore_26 : decode cX6_restore 26 = .ok (.getfield 16, 3) := by decide +kernel
theorem dX6_restore_29 : decode cX6_restore 29 = .ok (.invokevirtual 100, 3) := by decide +kernel
theorem dX6_restore_32 : decode cX6_restore 32 = .ok (.aload_n 0, 1) := by decide +kernel
theorem dX6_restore_33 : decode cX6_restore 33 = .ok (.getfield 22, 3) := by decide +kernel
theorem dX6_restore_36 : decode cX6_restore 36 = .ok (.aload_n 0, 1) := by decide +kernel
theorem dX6_restore_37 : decode cX6_restore 37 = .ok (.getfield 10, 3) := by decide +kernel
theorem dX6_restore_40 : decode cX6_restore 40 = .ok (.getfield 115, 3) := by decide +kernel
theorem dX6_restore_43 : decode cX6_restore 43 = .ok (.invokevirtual 41, 3) := by decide +kernel
theorem dX6_restore_46 : decode cX6_restore 46 = .ok (.ireturn, 1) := by decide +kernel
theorem dX6_date_0 : decode cX6_date 0 = .ok (.aload_n 0, 1) := by decide +kernel
theorem dX6_date_1 : decode cX6_date 1 = .ok (.getfield 10, 3) := by decide +kernel
theorem dX6_date_4 : decode cX6_date 4 = .ok (.iload_n 1, 1) := by decide +kernel
theorem dX6_date_5 : decode cX6_date 5 = .ok (.invokevirtual 118, 3) := by decide +kernel
theorem dX6_date_8 : decode cX6_date 8 = .ok (.astore_n 3, 1) := by decide +kernel
theorem dX6_date_9 : decode cX6_date 9 = .ok (.aload_n 3, 1) := by decide +kernel
theorem dX6_date_10 : decode cX6_date 10 = .ok (.ifnonnull 7, 3) := by decide +kernel
theorem dX6_date_13 : decode cX6_date 13 = .ok (.iconst (-1), 1) := by decide +kernel
theorem dX6_date_14 : decode cX6_date 14 = .ok (.goto 12, 3) := by decide +kernel
theorem dX6_date_17 : decode cX6_date 17 = .ok (.aload_n 0, 1) := by decide +kernel
theorem dX6_date_18 : decode cX6_date 18 = .ok (.getfield 10, 3) := by decide +kernel
theorem dX6_date_21 : decode cX6_date 21 = .ok (.aload_n 3, 1) := by decide +kernel
theorem dX6_date_22 : decode cX6_date 22 = .ok (.iload_n 2, 1) := by decide +kernel
theorem dX6_date_23 : decode cX6_date 23 = .ok (.invokevirtual 122, 3) := by decide +kernel
theorem dX6_date_26 : decode cX6_date 26 = .ok (.ireturn, 1) := by decide +kernel
theorem dX6_waiting_0 : decode cX6_waiting 0 = .ok (.aload_n 0, 1) := by decide +kernel
theorem dX6_waiting_1 : decode cX6_waiting 1 = .ok (.getfield 10, 3) := by decide +kernel
theorem dX6_waiting_4 : decode cX6_waiting 4 = .ok (.iload_n 1, 1) := by decide +kernel
theorem dX6_waiting_5 : decode cX6_waiting 5 = .ok (.invokevirtual 118, 3) := by decide +kernel
theorem dX6_waiting_8 : decode cX6_waiting 8 = .ok (.astore_n 3, 1) := by decide +kernel
theorem dX6_waiting_9 : decode cX6_waiting 9 = .ok (.aload_n 3, 1) := by decide +kernel
theorem dX6_waiting_10 : decode cX6_waiting 10 = .ok (.ifnonnull 5, 3) := by decide +kernel
theorem dX6_waiting_13 : decode cX6_waiting 13 = .ok (.iconst (-1), 1) := by decide +kernel
theorem dX6_waiting_14 : decode cX6_waiting 14 = .ok (.ireturn, 1) := by decide +kernel
theorem dX6_waiting_15 : decode cX6_waiting 15 = .ok (.iload_n 2, 1) := by decide +kernel
theorem dX6_waiting_16 : decode cX6_waiting 16 = .ok (.ifCond .ge 6, 3) := by decide +kernel
theorem dX6_waiting_19 : decode cX6_waiting 19 = .ok (.bipush (-2), 2) := by decide +kernel
theorem dX6_waiting_21 : decode cX6_waiting 21 = .ok (.ireturn, 1) := by decide +kernel
theorem dX6_waiting_22 : decode cX6_waiting 22 = .ok (.aload_n 3, 1) := by decide +kernel
theorem dX6_waiting_23 : decode cX6_waiting 23 = .ok (.iload_n 2, 1) := by decide +kernel
theorem dX6_waiting_24 : decode cX6_waiting 24 = .ok (.invokevirtual 126, 3) := by decide +kernel
theorem dX6_waiting_27 : decode cX6_waiting 27 = .ok (.ireturn, 1) := by decide +kernel
theorem dX6_right_0 : decode cX6_right 0 = .ok (.aload_n 0, 1) := by decide +kernel
theorem dX6_right_1 : decode cX6_right 1 = .ok (.getfield 10, 3) := by decide +kernel
theorem dX6_right_4 : decode cX6_right 4 = .ok (.iload_n 1, 1) := by decide +kernel
theorem dX6_right_5 : decode cX6_right 5 = .ok (.invokevirtual 131, 3) := by decide +kernel
theorem dX6_right_8 : decode cX6_right 8 = .ok (.astore_n 3, 1) := by decide +kernel
theorem dX6_right_9 : decode cX6_right 9 = .ok (.aload_n 3, 1) := by decide +kernel
theorem dX6_right_10 : decode cX6_right 10 = .ok (.ifnonnull 7, 3) := by decide +kernel
theorem dX6_right_13 : decode cX6_right 13 = .ok (.iconst (-1), 1) := by decide +kernel
theorem dX6_right_14 : decode cX6_right 14 = .ok (.goto 12, 3) := by decide +kernel
theorem dX6_right_17 : decode cX6_right 17 = .ok (.aload_n 0, 1) := by decide +kernel
theorem dX6_right_18 : decode cX6_right 18 = .ok (.getfield 10, 3) := by decide +kernel
theorem dX6_right_21 : decode cX6_right 21 = .ok (.aload_n 3, 1) := by decide +kernel
theorem dX6_right_22 : decode cX6_right 22 = .ok (.iload_n 2, 1) := by decide +kernel
theorem dX6_right_23 : decode cX6_right 23 = .ok (.invokevirtual 135, 3) := by decide +kernel
theorem dX6_right_26 : decode cX6_right 26 = .ok (.ireturn, 1) := by decide +kernel
theorem dX6_holder_0 : decode cX6_holder 0 = .ok (.iload_n 1, 1) := by decide +kernel
theorem dX6_holder_1 : decode cX6_holder 1 = .ok (.invokestatic 139, 3) := by decide +kernel
theorem dX6_holder_4 : decode cX6_holder 4 = .ok (.ifCond .eq 15, 3) := by decide +kernel
theorem dX6_holder_7 : decode cX6_holder 7 = .ok (.aload_n 0, 1) := by decide +kernel
theorem dX6_holder_8 : decode cX6_holder 8 = .ok (.getfield 10, 3) := by decide +kernel
theorem dX6_holder_11 : decode cX6_holder 11 = .ok (.iload_n 1, 1) := by decide +kernel
theorem dX6_holder_12 : decode cX6_holder 12 = .ok (.iload_n 2, 1) := by decide +kernel
theorem dX6_holder_13 : decode cX6_holder 13 = .ok (.invokevirtual 143, 3) := by decide +kernel
theorem dX6_holder_16 : decode cX6_holder 16 = .ok (.goto 4, 3) := by decide +kernel
theorem dX6_holder_19 : decode cX6_holder 19 = .ok (.iconst (-1), 1) := by decide +kernel
theorem dX6_holder_20 : decode cX6_holder 20 = .ok (.ireturn, 1) := by decide +kernel
theorem dX6_stage_0 : decode cX6_stage 0 = .ok (.aload_n 0, 1) := by decide +kernel
theorem dX6_stage_1 : decode cX6_stage 1 = .ok (.getfield 10, 3) := by decide +kernel
theorem dX6_stage_4 : decode cX6_stage 4 = .ok (.iload_n 1, 1) := by decide +kernel
theorem dX6_stage_5 : decode cX6_stage 5 = .ok (.iload_n 2, 1) := by decide +kernel
theorem dX6_stage_6 : decode cX6_stage 6 = .ok (.invokevirtual 146, 3) := by decide +kernel
theorem dX6_stage_9 : decode cX6_stage 9 = .ok (.ireturn, 1) := by decide +kernel
theorem dX6_priceIn_0 : decode cX6_priceIn 0 = .ok (.aload_n 0, 1) := by decide +kernel
theorem dX6_priceIn_1 : decode cX6_priceIn 1 = .ok (.getfield 10, 3) := by decide +kernel
theorem dX6_priceIn_4 : decode cX6_priceIn 4 = .ok (.iload_n 1, 1) := by decide +kernel
theorem dX6_priceIn_5 : decode cX6_priceIn 5 = .ok (.invokevirtual 118, 3) := by decide +kernel
theorem dX6_priceIn_8 : decode cX6_priceIn 8 = .ok (.astore_n 3, 1) := by decide +kernel
theorem dX6_priceIn_9 : decode cX6_priceIn 9 = .ok (.aload_n 3, 1) := by decide +kernel
theorem dX6_priceIn_10 : decode cX6_priceIn 10 = .ok (.ifnonnull 5, 3) := by decide +kernel
theorem dX6_priceIn_13 : decode cX6_priceIn 13 = .ok (.iconst (-1), 1) := by decide +kernel
theorem dX6_priceIn_14 : decode cX6_priceIn 14 = .ok (.ireturn, 1) := by decide +kernel
theorem dX6_priceIn_15 : decode cX6_priceIn 15 = .ok (.iload_n 2, 1) := by decide +kernel
theorem dX6_priceIn_16 : decode cX6_priceIn 16 = .ok (.ifCond .lt 9, 3) := by decide +kernel
theorem dX6_priceIn_19 : decode cX6_priceIn 19 = .ok (.iload_n 2, 1) := by decide +kernel
theorem dX6_priceIn_20 : decode cX6_priceIn 20 = .ok (.bipush 60, 2) := by decide +kernel
theorem dX6_priceIn_22 : decode cX6_priceIn 22 = .ok (.if_icmp .le 6, 3) := by decide +kernel
theorem dX6_priceIn_25 : decode cX6_priceIn 25 = .ok (.bipush (-2), 2) := by decide +kernel
theorem dX6_priceIn_27 : decode cX6_priceIn 27 = .ok (.ireturn, 1) := by decide +kernel
theorem dX6_priceIn_28 : decode cX6_priceIn 28 = .ok (.aload_n 0, 1) := by decide +kernel
theorem dX6_priceIn_29 : decode cX6_priceIn 29 = .ok (.getfield 10, 3) := by decide +kernel
theorem dX6_priceIn_32 : decode cX6_priceIn 32 = .ok (.aload_n 3, 1) := by decide +kernel
theorem dX6_priceIn_33 : decode cX6_priceIn 33 = .ok (.invokevirtual 149, 3) := by decide +kernel
theorem dX6_priceIn_36 : decode cX6_priceIn 36 = .ok (.iload_n 2, 1) := by decide +kernel
theorem dX6_priceIn_37 : decode cX6_priceIn 37 = .ok (.isub, 1) := by decide +kernel
theorem dX6_priceIn_38 : decode cX6_priceIn 38 = .ok (.istore 4, 2) := by decide +kernel
theorem dX6_priceIn_40 : decode cX6_priceIn 40 = .ok (.iload 4, 2) := by decide +kernel
theorem dX6_priceIn_42 : decode cX6_priceIn 42 = .ok (.iconst 1, 1) := by decide +kernel
theorem dX6_priceIn_43 : decode cX6_priceIn 43 = .ok (.if_icmp .ge 8, 3) := by decide +kernel
theorem dX6_priceIn_46 : decode cX6_priceIn 46 = .ok (.bipush (-5), 2) := by decide +kernel
theorem dX6_priceIn_48 : decode cX6_priceIn 48 = .ok (.goto 17, 3) := by decide +kernel
theorem dX6_priceIn_51 : decode cX6_priceIn 51 = .ok (.aload_n 3, 1) := by decide +kernel
theorem dX6_priceIn_52 : decode cX6_priceIn 52 = .ok (.aload_n 0, 1) := by decide +kernel
theorem dX6_priceIn_53 : decode cX6_priceIn 53 = .ok (.getfield 10, 3) := by decide +kernel
theorem dX6_priceIn_56 : decode cX6_priceIn 56 = .ok (.aload_n 3, 1) := by decide +kernel
theorem dX6_priceIn_57 : decode cX6_priceIn 57 = .ok (.invokevirtual 153, 3) := by decide +kernel
theorem dX6_priceIn_60 : decode cX6_priceIn 60 = .ok (.iload 4, 2) := by decide +kernel
theorem dX6_priceIn_62 : decode cX6_priceIn 62 = .ok (.invokevirtual 156, 3) := by decide +kernel
theorem dX6_priceIn_65 : decode cX6_priceIn 65 = .ok (.ireturn, 1) := by decide +kernel
theorem dX6_wouldCover_0 : decode cX6_wouldCover 0 = .ok (.aload_n 0, 1) := by decide +kernel
theorem dX6_wouldCover_1 : decode cX6_wouldCover 1 = .ok (.getfield 10, 3) := by decide +kernel
theorem dX6_wouldCover_4 : decode cX6_wouldCover 4 = .ok (.iload_n 1, 1) := by decide +kernel
theorem dX6_wouldCover_5 : decode cX6_wouldCover 5 = .ok (.invokevirtual 118, 3) := by decide +kernel
theorem dX6_wouldCover_8 : decode cX6_wouldCover 8 = .ok (.astore_n 2, 1) := by decide +kernel
theorem dX6_wouldCover_9 : decode cX6_wouldCover 9 = .ok (.aload_n 2, 1) := by decide +kernel
theorem dX6_wouldCover_10 : decode cX6_wouldCover 10 = .ok (.ifnonnull 5, 3) := by decide +kernel
theorem dX6_wouldCover_13 : decode cX6_wouldCover 13 = .ok (.iconst (-1), 1) := by decide +kernel
theorem dX6_wouldCover_14 : decode cX6_wouldCover 14 = .ok (.ireturn, 1) := by decide +kernel
theorem dX6_wouldCover_15 : decode cX6_wouldCover 15 = .ok (.aload_n 0, 1) := by decide +kernel
theorem dX6_wouldCover_16 : decode cX6_wouldCover 16 = .ok (.getfield 10, 3) := by decide +kernel
theorem dX6_wouldCover_19 : decode cX6_wouldCover 19 = .ok (.aload_n 2, 1) := by decide +kernel
theorem dX6_wouldCover_20 : decode cX6_wouldCover 20 = .ok (.invokevirtual 149, 3) := by decide +kernel
theorem dX6_wouldCover_23 : decode cX6_wouldCover 23 = .ok (.aload_n 0, 1) := by decide +kernel
theorem dX6_wouldCover_24 : decode cX6_wouldCover 24 = .ok (.getfield 10, 3) := by decide +kernel
theorem dX6_wouldCover_27 : decode cX6_wouldCover 27 = .ok (.getfield 159, 3) := by decide +kernel
theorem dX6_wouldCover_30 : decode cX6_wouldCover 30 = .ok (.iconst 0, 1) := by decide +kernel
theorem dX6_wouldCover_31 : decode cX6_wouldCover 31 = .ok (.iaload, 1) := by decide +kernel
theorem dX6_wouldCover_32 : decode cX6_wouldCover 32 = .ok (.if_icmp .gt 6, 3) := by decide +kernel
theorem dX6_wouldCover_35 : decode cX6_wouldCover 35 = .ok (.bipush (-5), 2) := by decide +kernel
theorem dX6_wouldCover_37 : decode cX6_wouldCover 37 = .ok (.ireturn, 1) := by decide +kernel
theorem dX6_wouldCover_38 : decode cX6_wouldCover 38 = .ok (.aload_n 0, 1) := by decide +kernel
theorem dX6_wouldCover_39 : decode cX6_wouldCover 39 = .ok (.getfield 22, 3) := by decide +kernel
theorem dX6_wouldCover_42 : decode cX6_wouldCover 42 = .ok (.aload_n 0, 1) := by decide +kernel
theorem dX6_wouldCover_43 : decode cX6_wouldCover 43 = .ok (.getfield 10, 3) := by decide +kernel
theorem dX6_wouldCover_46 : decode cX6_wouldCover 46 = .ok (.invokevirtual 33, 3) := by decide +kernel
theorem dX6_wouldCover_49 : decode cX6_wouldCover 49 = .ok (.aload_n 0, 1) := by decide +kernel
theorem dX6_wouldCover_50 : decode cX6_wouldCover 50 = .ok (.getfield 22, 3) := by decide +kernel
theorem dX6_wouldCover_53 : decode cX6_wouldCover 53 = .ok (.getfield 97, 3) := by decide +kernel
theorem dX6_wouldCover_56 : decode cX6_wouldCover 56 = .ok (.aload_n 2, 1) := by decide +kernel
theorem dX6_wouldCover_57 : decode cX6_wouldCover 57 = .ok (.invokevirtual 163, 3) := by decide +kernel
theorem dX6_wouldCover_60 : decode cX6_wouldCover 60 = .ok (.ireturn, 1) := by decide +kernel
theorem dX6_event_0 : decode cX6_event 0 = .ok (.iload_n 1, 1) := by decide +kernel
theorem dX6_event_1 : decode cX6_event 1 = .ok (.ifCond .lt 12, 3) := by decide +kernel
theorem dX6_event_4 : decode cX6_event 4 = .ok (.iload_n 2, 1) := by decide +kernel
theorem dX6_event_5 : decode cX6_event 5 = .ok (.ifCond .lt 8, 3) := by decide +kernel
theorem dX6_event_8 : decode cX6_event 8 = .ok (.iload_n 2, 1) := by decide +kernel
theorem dX6_event_9 : decode cX6_event 9 = .ok (.iconst 3, 1) := by decide +kernel
theorem dX6_event_10 : decode cX6_event 10 = .ok (.if_icmp .le 6, 3) := by decide +kernel
theorem dX6_event_13 : decode cX6_event 13 = .ok (.bipush (-2), 2) := by decide +kernel
theorem dX6_event_15 : decode cX6_event 15 = .ok (.ireturn, 1) := by decide +kernel
theorem dX6_event_16 : decode cX6_event 16 = .ok (.aload_n 0, 1) := by decide +kernel
theorem dX6_event_17 : decode cX6_event 17 = .ok (.getfield 10, 3) := by decide +kernel
theorem dX6_event_20 : decode cX6_event 20 = .ok (.iload_n 1, 1) := by decide +kernel
theorem dX6_event_21 : decode cX6_event 21 = .ok (.invokevirtual 166, 3) := by decide +kernel
theorem dX6_event_24 : decode cX6_event 24 = .ok (.astore_n 3, 1) := by decide +kernel
theorem dX6_event_25 : decode cX6_event 25 = .ok (.aload_n 3, 1) := by decide +kernel
theorem dX6_event_26 : decode cX6_event 26 = .ok (.ifnonnull 8, 3) := by decide +kernel
theorem dX6_event_29 : decode cX6_event 29 = .ok (.bipush (-5), 2) := by decide +kernel
theorem dX6_event_31 : decode cX6_event 31 = .ok (.goto 8, 3) := by decide +kernel
theorem dX6_event_34 : decode cX6_event 34 = .ok (.aload_n 3, 1) := by decide +kernel
theorem dX6_event_35 : decode cX6_event 35 = .ok (.iload_n 2, 1) := by decide +kernel
theorem dX6_event_36 : decode cX6_event 36 = .ok (.invokevirtual 170, 3) := by decide +kernel
theorem dX6_event_39 : decode cX6_event 39 = .ok (.ireturn, 1) := by decide +kernel
theorem dX6_count_0 : decode cX6_count 0 = .ok (.iload_n 1, 1) := by decide +kernel
theorem dX6_count_1 : decode cX6_count 1 = .ok (.bipush 14, 2) := by decide +kernel
theorem dX6_count_3 : decode cX6_count 3 = .ok (.if_icmp .ne 11, 3) := by decide +kernel
theorem dX6_count_6 : decode cX6_count 6 = .ok (.aload_n 0, 1) := by decide +kernel
theorem dX6_count_7 : decode cX6_count 7 = .ok (.getfield 22, 3) := by decide +kernel
theorem dX6_count_10 : decode cX6_count 10 = .ok (.getfield 107, 3) := by decide +kernel
theorem dX6_count_13 : decode cX6_count 13 = .ok (.ireturn, 1) := by decide +kernel
theorem dX6_count_14 : decode cX6_count 14 = .ok (.iload_n 1, 1) := by decide +kernel
theorem dX6_count_15 : decode cX6_count 15 = .ok (.bipush 15, 2) := by decide +kernel
theorem dX6_count_17 : decode cX6_count 17 = .ok (.if_icmp .ne 11, 3) := by decide +kernel
theorem dX6_count_20 : decode cX6_count 20 = .ok (.aload_n 0, 1) := by decide +kernel
theorem dX6_count_21 : decode cX6_count 21 = .ok (.getfield 29, 3) := by decide +kernel
theorem dX6_count_24 : decode cX6_count 24 = .ok (.getfield 175, 3) := by decide +kernel
theorem dX6_count_27 : decode cX6_count 27 = .ok (.ireturn, 1) := by decide +kernel
theorem dX6_count_28 : decode cX6_count 28 = .ok (.aload_n 0, 1) := by decide +kernel
theorem dX6_count_29 : decode cX6_count 29 = .ok (.getfield 10, 3) := by decide +kernel
theorem dX6_count_32 : decode cX6_count 32 = .ok (.iload_n 1, 1) := by decide +kernel
theorem dX6_count_33 : decode cX6_count 33 = .ok (.invokevirtual 178, 3) := by decide +kernel
theorem dX6_count_36 : decode cX6_count 36 = .ok (.ireturn, 1) := by decide +kernel
theorem dX6_performNext_0 : decode cX6_performNext 0 = .ok (.aload_n 0, 1) := by decide +kernel
theorem dX6_performNext_1 : decode cX6_performNext 1 = .ok (.getfield 29, 3) := by decide +kernel
theorem dX6_performNext_4 : decode cX6_performNext 4 = .ok (.invokevirtual 181, 3) := by decide +kernel
theorem dX6_performNext_7 : decode cX6_performNext 7 = .ok (.pop, 1) := by decide +kernel
theorem dX6_performNext_8 : decode cX6_performNext 8 = .ok (.aload_n 0, 1) := by decide +kernel
theorem dX6_performNext_9 : decode cX6_performNext 9 = .ok (.getfield 29, 3) := by decide +kernel
theorem dX6_performNext_12 : decode cX6_performNext 12 = .ok (.bipush 59, 2) := by decide +kernel
theorem dX6_performNext_14 : decode cX6_performNext 14 = .ok (.invokevirtual 185, 3) := by decide +kernel
theorem dX6_performNext_17 : decode cX6_performNext 17 = .ok (.pop, 1) := by decide +kernel
theorem dX6_performNext_18 : decode cX6_performNext 18 = .ok (.aload_n 0, 1) := by decide +kernel
theorem dX6_performNext_19 : decode cX6_performNext 19 = .ok (.getfield 29, 3) := by decide +kernel
theorem dX6_performNext_22 : decode cX6_performNext 22 = .ok (.getfield 189, 3) := by decide +kernel
theorem dX6_performNext_25 : decode cX6_performNext 25 = .ok (.lookupswitch 117 #[(98, 43), (99, 87), (109, 65), (120, 102)], 43) := by decide +kernel
theorem dX6_performNext_68 : decode cX6_performNext 68 = .ok (.aload_n 0, 1) := by decide +kernel
theorem dX6_performNext_69 : decode cX6_performNext 69 = .ok (.getfield 10, 3) := by decide +kernel
theorem dX6_performNext_72 : decode cX6_performNext 72 = .ok (.aload_n 0, 1) := by decide +kernel
theorem dX6_performNext_73 : decode cX6_performNext 73 = .ok (.getfield 29, 3) := by decide +kernel
theorem dX6_performNext_76 : decode cX6_performNext 76 = .ok (.getfield 192, 3) := by decide +kernel
theorem dX6_performNext_79 : decode cX6_performNext 79 = .ok (.aload_n 0, 1) := by decide +kernel
theorem dX6_performNext_80 : decode cX6_performNext 80 = .ok (.getfield 29, 3) := by decide +kernel
theorem dX6_performNext_83 : decode cX6_performNext 83 = .ok (.getfield 195, 3) := by decide +kernel
theorem dX6_performNext_86 : decode cX6_performNext 86 = .ok (.invokevirtual 53, 3) := by decide +kernel
theorem dX6_performNext_89 : decode cX6_performNext 89 = .ok (.ireturn, 1) := by decide +kernel
theorem dX6_performNext_90 : decode cX6_performNext 90 = .ok (.aload_n 0, 1) := by decide +kernel
theorem dX6_performNext_91 : decode cX6_performNext 91 = .ok (.getfield 10, 3) := by decide +kernel
theorem dX6_performNext_94 : decode cX6_performNext 94 = .ok (.aload_n 0, 1) := by decide +kernel
theorem dX6_performNext_95 : decode cX6_performNext 95 = .ok (.getfield 29, 3) := by decide +kernel
theorem dX6_performNext_98 : decode cX6_performNext 98 = .ok (.getfield 192, 3) := by decide +kernel
theorem dX6_performNext_101 : decode cX6_performNext 101 = .ok (.aload_n 0, 1) := by decide +kernel
theorem dX6_performNext_102 : decode cX6_performNext 102 = .ok (.getfield 29, 3) := by decide +kernel
theorem dX6_performNext_105 : decode cX6_performNext 105 = .ok (.getfield 195, 3) := by decide +kernel
theorem dX6_performNext_108 : decode cX6_performNext 108 = .ok (.invokevirtual 56, 3) := by decide +kernel
theorem dX6_performNext_111 : decode cX6_performNext 111 = .ok (.ireturn, 1) := by decide +kernel
theorem dX6_performNext_112 : decode cX6_performNext 112 = .ok (.aload_n 0, 1) := by decide +kernel
theorem dX6_performNext_113 : decode cX6_performNext 113 = .ok (.getfield 10, 3) := by decide +kernel
theorem dX6_performNext_116 : decode cX6_performNext 116 = .ok (.aload_n 0, 1) := by decide +kernel
theorem dX6_performNext_117 : decode cX6_performNext 117 = .ok (.getfield 29, 3) := by decide +kernel
theorem dX6_performNext_120 : decode cX6_performNext 120 = .ok (.getfield 192, 3) := by decide +kernel
theorem dX6_performNext_123 : decode cX6_performNext 123 = .ok (.invokevirtual 59, 3) := by decide +kernel
theorem dX6_performNext_126 : decode cX6_performNext 126 = .ok (.ireturn, 1) := by decide +kernel
theorem dX6_performNext_127 : decode cX6_performNext 127 = .ok (.aload_n 0, 1) := by decide +kernel
theorem dX6_performNext_128 : decode cX6_performNext 128 = .ok (.getfield 10, 3) := by decide +kernel
theorem dX6_performNext_131 : decode cX6_performNext 131 = .ok (.aload_n 0, 1) := by decide +kernel
theorem dX6_performNext_132 : decode cX6_performNext 132 = .ok (.getfield 29, 3) := by decide +kernel
theorem dX6_performNext_135 : decode cX6_performNext 135 = .ok (.getfield 192, 3) := by decide +kernel
theorem dX6_performNext_138 : decode cX6_performNext 138 = .ok (.invokevirtual 68, 3) := by decide +kernel
theorem dX6_performNext_141 : decode cX6_performNext 141 = .ok (.ireturn, 1) := by decide +kernel
theorem dX6_performNext_142 : decode cX6_performNext 142 = .ok (.aload_n 0, 1) := by decide +kernel
theorem dX6_performNext_143 : decode cX6_performNext 143 = .ok (.getfield 10, 3) := by decide +kernel
theorem dX6_performNext_146 : decode cX6_performNext 146 = .ok (.aload_n 0, 1) := by decide +kernel
theorem dX6_performNext_147 : decode cX6_performNext 147 = .ok (.getfield 29, 3) := by decide +kernel
theorem dX6_performNext_150 : decode cX6_performNext 150 = .ok (.getfield 192, 3) := by decide +kernel
theorem dX6_performNext_153 : decode cX6_performNext 153 = .ok (.aload_n 0, 1) := by decide +kernel
theorem dX6_performNext_154 : decode cX6_performNext 154 = .ok (.getfield 29, 3) := by decide +kernel
theorem dX6_performNext_157 : decode cX6_performNext 157 = .ok (.getfield 195, 3) := by decide +kernel
theorem dX6_performNext_160 : decode cX6_performNext 160 = .ok (.invokevirtual 62, 3) := by decide +kernel
theorem dX6_performNext_163 : decode cX6_performNext 163 = .ok (.ireturn, 1) := by decide +kernel
theorem dX6_isHolder_0 : decode cX6_isHolder 0 = .ok (.iload_n 0, 1) := by decide +kernel
theorem dX6_isHolder_1 : decode cX6_isHolder 1 = .ok (.ifCond .lt 13, 3) := by decide +kernel
theorem dX6_isHolder_4 : decode cX6_isHolder 4 = .ok (.iload_n 0, 1) := by decide +kernel
theorem dX6_isHolder_5 : decode cX6_isHolder 5 = .ok (.bipush 10, 2) := by decide +kernel
theorem dX6_isHolder_7 : decode cX6_isHolder 7 = .ok (.if_icmp .ge 7, 3) := by decide +kernel
theorem dX6_isHolder_10 : decode cX6_isHolder 10 = .ok (.iconst 1, 1) := by decide +kernel
theorem dX6_isHolder_11 : decode cX6_isHolder 11 = .ok (.goto 4, 3) := by decide +kernel
theorem dX6_isHolder_14 : decode cX6_isHolder 14 = .ok (.iconst 0, 1) := by decide +kernel
theorem dX6_isHolder_15 : decode cX6_isHolder 15 = .ok (.ireturn, 1) := by decide +kernel
theorem dX6_copyAll_0 : decode cX6_copyAll 0 = .ok (.iconst 0, 1) := by decide +kernel
theorem dX6_copyAll_1 : decode cX6_copyAll 1 = .ok (.istore_n 2, 1) := by decide +kernel
theorem dX6_copyAll_2 : decode cX6_copyAll 2 = .ok (.iload_n 2, 1) := by decide +kernel
theorem dX6_copyAll_3 : decode cX6_copyAll 3 = .ok (.aload_n 0, 1) := by decide +kernel
theorem dX6_copyAll_4 : decode cX6_copyAll 4 = .ok (.arraylength, 1) := by decide +kernel
theorem dX6_copyAll_5 : decode cX6_copyAll 5 = .ok (.if_icmp .ge 21, 3) := by decide +kernel
theorem dX6_copyAll_8 : decode cX6_copyAll 8 = .ok (.iload_n 2, 1) := by decide +kernel
theorem dX6_copyAll_9 : decode cX6_copyAll 9 = .ok (.aload_n 1, 1) := by decide +kernel
theorem dX6_copyAll_10 : decode cX6_copyAll 10 = .ok (.arraylength, 1) := by decide +kernel
theorem dX6_copyAll_11 : decode cX6_copyAll 11 = .ok (.if_icmp .ge 15, 3) := by decide +kernel
theorem dX6_copyAll_14 : decode cX6_copyAll 14 = .ok (.aload_n 1, 1) := by decide +kernel
theorem dX6_copyAll_15 : decode cX6_copyAll 15 = .ok (.iload_n 2, 1) := by decide +kernel
theorem dX6_copyAll_16 : decode cX6_copyAll 16 = .ok (.aload_n 0, 1) := by decide +kernel
theorem dX6_copyAll_17 : decode cX6_copyAll 17 = .ok (.iload_n 2, 1) := by decide +kernel
theorem dX6_copyAll_18 : decode cX6_copyAll 18 = .ok (.iaload, 1) := by decide +kernel
theorem dX6_copyAll_19 : decode cX6_copyAll 19 = .ok (.iastore, 1) := by decide +kernel
theorem dX6_copyAll_20 : decode cX6_copyAll 20 = .ok (.iinc 2 1, 3) := by decide +kernel
theorem dX6_copyAll_23 : decode cX6_copyAll 23 = .ok (.goto (-21), 3) := by decide +kernel
theorem dX6_copyAll_26 : decode cX6_copyAll 26 = .ok (.return_, 1) := by decide +kernel
