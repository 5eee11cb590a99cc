theorem dX2_init_0 : decode cX2_init 0 = .ok (.aload_n 0, 1) := by decide +kernel
theorem dX2_init_1 : decode cX2_init 1 = .ok (.invokespecial 3, 3) := by decide +kernel
theorem dX2_init_4 : decode cX2_init 4 = .ok (.aload_n 0, 1) := by decide +kernel
theorem dX2_init_5 : decode cX2_init 5 = .ok (.iload_n 1, 1) := by decide +kernel
theorem dX2_init_6 : decode cX2_init 6 = .ok (.newarray .int, 2) := by decide +kernel
theorem dX2_init_8 : decode cX2_init 8 = .ok (.putfield 9, 3) := by decide +kernel
theorem dX2_init_11 : decode cX2_init 11 = .ok (.aload_n 0, 1) := by decide +kernel
theorem dX2_init_12 : decode cX2_init 12 = .ok (.iload_n 1, 1) := by decide +kernel
theorem dX2_init_13 : decode cX2_init 13 = .ok (.newarray .int, 2) := by decide +kernel
theorem dX2_init_15 : decode cX2_init 15 = .ok (.putfield 15, 3) := by decide +kernel
theorem dX2_init_18 : decode cX2_init 18 = .ok (.aload_n 0, 1) := by decide +kernel
theorem dX2_init_19 : decode cX2_init 19 = .ok (.iload_n 1, 1) := by decide +kernel
theorem dX2_init_20 : decode cX2_init 20 = .ok (.newarray .int, 2) := by decide +kernel
theorem dX2_init_22 : decode cX2_init 22 = .ok (.putfield 18, 3) := by decide +kernel
theorem dX2_init_25 : decode cX2_init 25 = .ok (.aload_n 0, 1) := by decide +kernel
theorem dX2_init_26 : decode cX2_init 26 = .ok (.iload_n 1, 1) := by decide +kernel
theorem dX2_init_27 : decode cX2_init 27 = .ok (.newarray .int, 2) := by decide +kernel
theorem dX2_init_29 : decode cX2_init 29 = .ok (.putfield 21, 3) := by decide +kernel
theorem dX2_init_32 : decode cX2_init 32 = .ok (.aload_n 0, 1) := by decide +kernel
theorem dX2_init_33 : decode cX2_init 33 = .ok (.iload_n 1, 1) := by decide +kernel
theorem dX2_init_34 : decode cX2_init 34 = .ok (.newarray .int, 2) := by decide +kernel
theorem dX2_init_36 : decode cX2_init 36 = .ok (.putfield 24, 3) := by decide +kernel
theorem dX2_init_39 : decode cX2_init 39 = .ok (.aload_n 0, 1) := by decide +kernel
theorem dX2_init_40 : decode cX2_init 40 = .ok (.iload_n 1, 1) := by decide +kernel
theorem dX2_init_41 : decode cX2_init 41 = .ok (.newarray .int, 2) := by decide +kernel
theorem dX2_init_43 : decode cX2_init 43 = .ok (.putfield 27, 3) := by decide +kernel
theorem dX2_init_46 : decode cX2_init 46 = .ok (.aload_n 0, 1) := by decide +kernel
theorem dX2_init_47 : decode cX2_init 47 = .ok (.iload_n 1, 1) := by decide +kernel
theorem dX2_init_48 : decode cX2_init 48 = .ok (.newarray .int, 2) := by decide +kernel
theorem dX2_init_50 : decode cX2_init 50 = .ok (.putfield 30, 3) := by decide +kernel
theorem dX2_init_53 : decode cX2_init 53 = .ok (.return_, 1) := by decide +kernel
theorem dX2_placeCount_0 : decode cX2_placeCount 0 = .ok (.aload_n 0, 1) := by decide +kernel
theorem dX2_placeCount_1 : decode cX2_placeCount 1 = .ok (.getfield 30, 3) := by decide +kernel
theorem dX2_placeCount_4 : decode cX2_placeCount 4 = .ok (.arraylength, 1) := by decide +kernel
theorem dX2_placeCount_5 : decode cX2_placeCount 5 = .ok (.ireturn, 1) := by decide +kernel
theorem dX2_rowCount_0 : decode cX2_rowCount 0 = .ok (.aload_n 0, 1) := by decide +kernel
theorem dX2_rowCount_1 : decode cX2_rowCount 1 = .ok (.getfield 33, 3) := by decide +kernel
theorem dX2_rowCount_4 : decode cX2_rowCount 4 = .ok (.ireturn, 1) := by decide +kernel
theorem dX2_doneCount_0 : decode cX2_doneCount 0 = .ok (.aload_n 0, 1) := by decide +kernel
theorem dX2_doneCount_1 : decode cX2_doneCount 1 = .ok (.getfield 37, 3) := by decide +kernel
theorem dX2_doneCount_4 : decode cX2_doneCount 4 = .ok (.ireturn, 1) := by decide +kernel
theorem dX2_rowsSinceBeginning_0 : decode cX2_rowsSinceBeginning 0 = .ok (.aload_n 0, 1) := by decide +kernel
theorem dX2_rowsSinceBeginning_1 : decode cX2_rowsSinceBeginning 1 = .ok (.getfield 37, 3) := by decide +kernel
theorem dX2_rowsSinceBeginning_4 : decode cX2_rowsSinceBeginning 4 = .ok (.aload_n 0, 1) := by decide +kernel
theorem dX2_rowsSinceBeginning_5 : decode cX2_rowsSinceBeginning 5 = .ok (.getfield 33, 3) := by decide +kernel
theorem dX2_rowsSinceBeginning_8 : decode cX2_rowsSinceBeginning 8 = .ok (.iadd, 1) := by decide +kernel
theorem dX2_rowsSinceBeginning_9 : decode cX2_rowsSinceBeginning 9 = .ok (.ireturn, 1) := by decide +kernel
theorem dX2_isFull_0 : decode cX2_isFull 0 = .ok (.aload_n 0, 1) := by decide +kernel
theorem dX2_isFull_1 : decode cX2_isFull 1 = .ok (.getfield 33, 3) := by decide +kernel
theorem dX2_isFull_4 : decode cX2_isFull 4 = .ok (.aload_n 0, 1) := by decide +kernel
theorem dX2_isFull_5 : decode cX2_isFull 5 = .ok (.getfield 30, 3) := by decide +kernel
theorem dX2_isFull_8 : decode cX2_isFull 8 = .ok (.arraylength, 1) := by decide +kernel
theorem dX2_isFull_9 : decode cX2_isFull 9 = .ok (.if_icmp .lt 7, 3) := by decide +kernel
theorem dX2_isFull_12 : decode cX2_isFull 12 = .ok (.iconst 1, 1) := by decide +kernel
theorem dX2_isFull_13 : decode cX2_isFull 13 = .ok (.goto 4, 3) := by decide +kernel
theorem dX2_isFull_16 : decode cX2_isFull 16 = .ok (.iconst 0, 1) := by decide +kernel
theorem dX2_isFull_17 : decode cX2_isFull 17 = .ok (.ireturn, 1) := by decide +kernel
theorem dX2_isPlace_0 : decode cX2_isPlace 0 = .ok (.iload_n 1, 1) := by decide +kernel
theorem dX2_isPlace_1 : decode cX2_isPlace 1 = .ok (.ifCond .lt 16, 3) := by decide +kernel
theorem dX2_isPlace_4 : decode cX2_isPlace 4 = .ok (.iload_n 1, 1) := by decide +kernel
theorem dX2_isPlace_5 : decode cX2_isPlace 5 = .ok (.aload_n 0, 1) := by decide +kernel
theorem dX2_isPlace_6 : decode cX2_isPlace 6 = .ok (.getfield 30, 3) := by decide +kernel
theorem dX2_isPlace_9 : decode cX2_isPlace 9 = .ok (.arraylength, 1) := by decide +kernel
theorem dX2_isPlace_10 : decode cX2_isPlace 10 = .ok (.if_icmp .ge 7, 3) := by decide +kernel
theorem dX2_isPlace_13 : decode cX2_isPlace 13 = .ok (.iconst 1, 1) := by decide +kernel
theorem dX2_isPlace_14 : decode cX2_isPlace 14 = .ok (.goto 4, 3) := by decide +kernel
theorem dX2_isPlace_17 : decode cX2_isPlace 17 = .ok (.iconst 0, 1) := by decide +kernel
theorem dX2_isPlace_18 : decode cX2_isPlace 18 = .ok (.ireturn, 1) := by decide +kernel
set_option maxRecDepth 20000 in
theorem ggX2_holdsRow_X2_isPlace : GoodIn wsX2_holdsRow wsX2_isPlace := goodIn_r _ [6, 7, 13, 14, 15, 16, 17, 18, 19, 20, 21, 22] (by decide +kernel) (by decide +kernel)
set_option maxRecDepth 20000 in
theorem gX2_holdsRow_X2_isPlace : GoodIn wsX2_holdsRow (wsV RX2 40 RX2 yX2_isPlace wsX2_isPlace) := goodIn_app (goodIn_of _ (by decide +kernel)) ggX2_holdsRow_X2_isPlace
set_option maxRecDepth 20000 in
theorem ggX2_holdsRow_X2_ageOf : GoodIn wsX2_holdsRow wsX2_ageOf := goodIn_r _ [11, 12, 7, 13, 14, 15, 16, 17, 18, 19, 20, 21, 22] (by decide +kernel) (by decide +kernel)
set_option maxRecDepth 20000 in
theorem gX2_holdsRow_X2_ageOf : GoodIn wsX2_holdsRow (wsV RX2 44 RX2 yX2_ageOf wsX2_ageOf) := goodIn_app (goodIn_of _ (by decide +kernel)) ggX2_holdsRow_X2_ageOf
theorem dX2_holdsRow_0 : decode cX2_holdsRow 0 = .ok (.aload_n 0, 1) := by decide +kernel
theorem dX2_holdsRow_1 : decode cX2_holdsRow 1 = .ok (.iload_n 1, 1) := by decide +kernel
theorem dX2_holdsRow_2 : decode cX2_holdsRow 2 = .ok (.invokevirtual 40, 3) := by decide +kernel
theorem dX2_holdsRow_5 : decode cX2_holdsRow 5 = .ok (.ifCond .eq 19, 3) := by decide +kernel
theorem dX2_holdsRow_8 : decode cX2_holdsRow 8 = .ok (.aload_n 0, 1) := by decide +kernel
theorem dX2_holdsRow_9 : decode cX2_holdsRow 9 = .ok (.iload_n 1, 1) := by decide +kernel
theorem dX2_holdsRow_10 : decode cX2_holdsRow 10 = .ok (.invokevirtual 44, 3) := by decide +kernel
theorem dX2_holdsRow_13 : decode cX2_holdsRow 13 = .ok (.aload_n 0, 1) := by decide +kernel
theorem dX2_holdsRow_14 : decode cX2_holdsRow 14 = .ok (.getfield 33, 3) := by decide +kernel
theorem dX2_holdsRow_17 : decode cX2_holdsRow 17 = .ok (.if_icmp .ge 7, 3) := by decide +kernel
theorem dX2_holdsRow_20 : decode cX2_holdsRow 20 = .ok (.iconst 1, 1) := by decide +kernel
theorem dX2_holdsRow_21 : decode cX2_holdsRow 21 = .ok (.goto 4, 3) := by decide +kernel
theorem dX2_holdsRow_24 : decode cX2_holdsRow 24 = .ok (.iconst 0, 1) := by decide +kernel
theorem dX2_holdsRow_25 : decode cX2_holdsRow 25 = .ok (.ireturn, 1) := by decide +kernel
set_option maxRecDepth 20000 in
theorem ggX2_isInState_X2_holdsRow : GoodIn wsX2_isInState wsX2_holdsRow := goodIn_r _ [6, 7, 8, 9, 10, 5, 11, 1, 12, 13, 14, 15, 16, 17, 18, 19, 20, 21, 22, 23, 24, 25, 26] (by decide +kernel) (by decide +kernel)
set_option maxRecDepth 20000 in
theorem gX2_isInState_X2_holdsRow : GoodIn wsX2_isInState (wsV RX2 48 RX2 yX2_holdsRow wsX2_holdsRow) := goodIn_app (goodIn_of _ (by decide +kernel)) ggX2_isInState_X2_holdsRow
theorem dX2_isInState_0 : decode cX2_isInState 0 = .ok (.aload_n 0, 1) := by decide +kernel
theorem dX2_isInState_1 : decode cX2_isInState 1 = .ok (.iload_n 1, 1) := by decide +kernel
theorem dX2_isInState_2 : decode cX2_isInState 2 = .ok (.invokevirtual 48, 3) := by decide +kernel
theorem dX2_isInState_5 : decode cX2_isInState 5 = .ok (.ifCond .eq 17, 3) := by decide +kernel
theorem dX2_isInState_8 : decode cX2_isInState 8 = .ok (.aload_n 0, 1) := by decide +kernel
theorem dX2_isInState_9 : decode cX2_isInState 9 = .ok (.getfield 30, 3) := by decide +kernel
theorem dX2_isInState_12 : decode cX2_isInState 12 = .ok (.iload_n 1, 1) := by decide +kernel
theorem dX2_isInState_13 : decode cX2_isInState 13 = .ok (.iaload, 1) := by decide +kernel
theorem dX2_isInState_14 : decode cX2_isInState 14 = .ok (.iload_n 2, 1) := by decide +kernel
theorem dX2_isInState_15 : decode cX2_isInState 15 = .ok (.if_icmp .ne 7, 3) := by decide +kernel
theorem dX2_isInState_18 : decode cX2_isInState 18 = .ok (.iconst 1, 1) := by decide +kernel
theorem dX2_isInState_19 : decode cX2_isInState 19 = .ok (.goto 4, 3) := by decide +kernel
theorem dX2_isInState_22 : decode cX2_isInState 22 = .ok (.iconst 0, 1) := by decide +kernel
theorem dX2_isInState_23 : decode cX2_isInState 23 = .ok (.ireturn, 1) := by decide +kernel
theorem dX2_oldestPlace_0 : decode cX2_oldestPlace 0 = .ok (.aload_n 0, 1) := by decide +kernel
theorem dX2_oldestPlace_1 : decode cX2_oldestPlace 1 = .ok (.getfield 33, 3) := by decide +kernel
theorem dX2_oldestPlace_4 : decode cX2_oldestPlace 4 = .ok (.ifCond .ne 7, 3) := by decide +kernel
theorem dX2_oldestPlace_7 : decode cX2_oldestPlace 7 = .ok (.iconst (-1), 1) := by decide +kernel
theorem dX2_oldestPlace_8 : decode cX2_oldestPlace 8 = .ok (.goto 7, 3) := by decide +kernel
theorem dX2_oldestPlace_11 : decode cX2_oldestPlace 11 = .ok (.aload_n 0, 1) := by decide +kernel
theorem dX2_oldestPlace_12 : decode cX2_oldestPlace 12 = .ok (.getfield 51, 3) := by decide +kernel
theorem dX2_oldestPlace_15 : decode cX2_oldestPlace 15 = .ok (.ireturn, 1) := by decide +kernel
set_option maxRecDepth 20000 in
theorem ggX2_lastPlace_X2_placeOfAge : GoodIn wsX2_lastPlace wsX2_placeOfAge := goodIn_r _ [6, 7, 8, 9, 10, 11, 12, 13, 14, 15, 16, 17, 18] (by decide +kernel) (by decide +kernel)
set_option maxRecDepth 20000 in
theorem gX2_lastPlace_X2_placeOfAge : GoodIn wsX2_lastPlace (wsV RX2 54 RX2 yX2_placeOfAge wsX2_placeOfAge) := goodIn_app (goodIn_of _ (by decide +kernel)) ggX2_lastPlace_X2_placeOfAge
theorem dX2_lastPlace_0 : decode cX2_lastPlace 0 = .ok (.aload_n 0, 1) := by decide +kernel
theorem dX2_lastPlace_1 : decode cX2_lastPlace 1 = .ok (.getfield 33, 3) := by decide +kernel
theorem dX2_lastPlace_4 : decode cX2_lastPlace 4 = .ok (.ifCond .ne 7, 3) := by decide +kernel
theorem dX2_lastPlace_7 : decode cX2_lastPlace 7 = .ok (.iconst (-1), 1) := by decide +kernel
theorem dX2_lastPlace_8 : decode cX2_lastPlace 8 = .ok (.goto 13, 3) := by decide +kernel
theorem dX2_lastPlace_11 : decode cX2_lastPlace 11 = .ok (.aload_n 0, 1) := by decide +kernel
theorem dX2_lastPlace_12 : decode cX2_lastPlace 12 = .ok (.aload_n 0, 1) := by decide +kernel
theorem dX2_lastPlace_13 : decode cX2_lastPlace 13 = .ok (.getfield 33, 3) := by decide +kernel
theorem dX2_lastPlace_16 : decode cX2_lastPlace 16 = .ok (.iconst 1, 1) := by decide +kernel
theorem dX2_lastPlace_17 : decode cX2_lastPlace 17 = .ok (.isub, 1) := by decide +kernel
theorem dX2_lastPlace_18 : decode cX2_lastPlace 18 = .ok (.invokevirtual 54, 3) := by decide +kernel
theorem dX2_lastPlace_21 : decode cX2_lastPlace 21 = .ok (.ireturn, 1) := by decide +kernel
theorem dX2_placeOfAge_0 : decode cX2_placeOfAge 0 = .ok (.aload_n 0, 1) := by decide +kernel
theorem dX2_placeOfAge_1 : decode cX2_placeOfAge 1 = .ok (.getfield 51, 3) := by decide +kernel
theorem dX2_placeOfAge_4 : decode cX2_placeOfAge 4 = .ok (.iload_n 1, 1) := by decide +kernel
theorem dX2_placeOfAge_5 : decode cX2_placeOfAge 5 = .ok (.iadd, 1) := by decide +kernel
theorem dX2_placeOfAge_6 : decode cX2_placeOfAge 6 = .ok (.istore_n 2, 1) := by decide +kernel
theorem dX2_placeOfAge_7 : decode cX2_placeOfAge 7 = .ok (.iload_n 2, 1) := by decide +kernel
theorem dX2_placeOfAge_8 : decode cX2_placeOfAge 8 = .ok (.aload_n 0, 1) := by decide +kernel
theorem dX2_placeOfAge_9 : decode cX2_placeOfAge 9 = .ok (.getfield 30, 3) := by decide +kernel
theorem dX2_placeOfAge_12 : decode cX2_placeOfAge 12 = .ok (.arraylength, 1) := by decide +kernel
theorem dX2_placeOfAge_13 : decode cX2_placeOfAge 13 = .ok (.if_icmp .ge 7, 3) := by decide +kernel
theorem dX2_placeOfAge_16 : decode cX2_placeOfAge 16 = .ok (.iload_n 2, 1) := by decide +kernel
theorem dX2_placeOfAge_17 : decode cX2_placeOfAge 17 = .ok (.goto 10, 3) := by decide +kernel
theorem dX2_placeOfAge_20 : decode cX2_placeOfAge 20 = .ok (.iload_n 2, 1) := by decide +kernel
theorem dX2_placeOfAge_21 : decode cX2_placeOfAge 21 = .ok (.aload_n 0, 1) := by decide +kernel
theorem dX2_placeOfAge_22 : decode cX2_placeOfAge 22 = .ok (.getfield 30, 3) := by decide +kernel
theorem dX2_placeOfAge_25 : decode cX2_placeOfAge 25 = .ok (.arraylength, 1) := by decide +kernel
theorem dX2_placeOfAge_26 : decode cX2_placeOfAge 26 = .ok (.isub, 1) := by decide +kernel
theorem dX2_placeOfAge_27 : decode cX2_placeOfAge 27 = .ok (.ireturn, 1) := by decide +kernel
theorem dX2_ageOf_0 : decode cX2_ageOf 0 = .ok (.iload_n 1, 1) := by decide +kernel
theorem dX2_ageOf_1 : decode cX2_ageOf 1 = .ok (.aload_n 0, 1) := by decide +kernel
theorem dX2_ageOf_2 : decode cX2_ageOf 2 = .ok (.getfield 51, 3) := by decide +kernel
theorem dX2_ageOf_5 : decode cX2_ageOf 5 = .ok (.if_icmp .lt 12, 3) := by decide +kernel
theorem dX2_ageOf_8 : decode cX2_ageOf 8 = .ok (.iload_n 1, 1) := by decide +kernel
theorem dX2_ageOf_9 : decode cX2_ageOf 9 = .ok (.aload_n 0, 1) := by decide +kernel
theorem dX2_ageOf_10 : decode cX2_ageOf 10 = .ok (.getfield 51, 3) := by decide +kernel
theorem dX2_ageOf_13 : decode cX2_ageOf 13 = .ok (.isub, 1) := by decide +kernel
theorem dX2_ageOf_14 : decode cX2_ageOf 14 = .ok (.goto 15, 3) := by decide +kernel
theorem dX2_ageOf_17 : decode cX2_ageOf 17 = .ok (.iload_n 1, 1) := by decide +kernel
theorem dX2_ageOf_18 : decode cX2_ageOf 18 = .ok (.aload_n 0, 1) := by decide +kernel
theorem dX2_ageOf_19 : decode cX2_ageOf 19 = .ok (.getfield 51, 3) := by decide +kernel
theorem dX2_ageOf_22 : decode cX2_ageOf 22 = .ok (.isub, 1) := by decide +kernel
theorem dX2_ageOf_23 : decode cX2_ageOf 23 = .ok (.aload_n 0, 1) := by decide +kernel
theorem dX2_ageOf_24 : decode cX2_ageOf 24 = .ok (.getfield 30, 3) := by decide +kernel
theorem dX2_ageOf_27 : decode cX2_ageOf 27 = .ok (.arraylength, 1) := by decide +kernel
theorem dX2_ageOf_28 : decode cX2_ageOf 28 = .ok (.iadd, 1) := by decide +kernel
theorem dX2_ageOf_29 : decode cX2_ageOf 29 = .ok (.ireturn, 1) := by decide +kernel
set_option maxRecDepth 20000 in
theorem ggX2_append_X2_isFull : GoodIn wsX2_append wsX2_isFull := goodIn_r _ [13, 1, 8, 19, 20, 21, 22, 23, 24, 25, 26, 27, 28] (by decide +kernel) (by decide +kernel)
set_option maxRecDepth 20000 in
theorem gX2_append_X2_isFull : GoodIn wsX2_append (wsV RX2 57 RX2 yX2_isFull wsX2_isFull) := goodIn_app (goodIn_of _ (by decide +kernel)) ggX2_append_X2_isFull
set_option maxRecDepth 20000 in
theorem ggX2_append_X2_placeOfAge : GoodIn wsX2_append wsX2_placeOfAge := goodIn_r _ [17, 18, 8, 19, 20, 21, 22, 23, 24, 25, 26, 27, 28] (by decide +kernel) (by decide +kernel)
set_option maxRecDepth 20000 in
theorem gX2_append_X2_placeOfAge : GoodIn wsX2_append (wsV RX2 54 RX2 yX2_placeOfAge wsX2_placeOfAge) := goodIn_app (goodIn_of _ (by decide +kernel)) ggX2_append_X2_placeOfAge
theorem dX2_append_0 : decode cX2_append 0 = .ok (.aload_n 0, 1) := by decide +kernel
theorem dX2_append_1 : decode cX2_append 1 = .ok (.invokevirtual 57, 3) := by decide +kernel
theorem dX2_append_4 : decode cX2_append 4 = .ok (.ifCond .eq 5, 3) := by decide +kernel
theorem dX2_append_7 : decode cX2_append 7 = .ok (.iconst (-1), 1) := by decide +kernel
theorem dX2_append_8 : decode cX2_append 8 = .ok (.ireturn, 1) := by decide +kernel
theorem dX2_append_9 : decode cX2_append 9 = .ok (.aload_n 0, 1) := by decide +kernel
theorem dX2_append_10 : decode cX2_append 10 = .ok (.aload_n 0, 1) := by decide +kernel
theorem dX2_append_11 : decode cX2_append 11 = .ok (.getfield 33, 3) := by decide +kernel
theorem dX2_append_14 : decode cX2_append 14 = .ok (.invokevirtual 54, 3) := by decide +kernel
theorem dX2_append_17 : decode cX2_append 17 = .ok (.istore 7, 2) := by decide +kernel
theorem dX2_append_19 : decode cX2_append 19 = .ok (.aload_n 0, 1) := by decide +kernel
theorem dX2_append_20 : decode cX2_append 20 = .ok (.getfield 9, 3) := by decide +kernel
theorem dX2_append_23 : decode cX2_append 23 = .ok (.iload 7, 2) := by decide +kernel
theorem dX2_append_25 : decode cX2_append 25 = .ok (.iload_n 1, 1) := by decide +kernel
theorem dX2_append_26 : decode cX2_append 26 = .ok (.iastore, 1) := by decide +kernel
theorem dX2_append_27 : decode cX2_append 27 = .ok (.aload_n 0, 1) := by decide +kernel
theorem dX2_append_28 : decode cX2_append 28 = .ok (.getfield 15, 3) := by decide +kernel
theorem dX2_append_31 : decode cX2_append 31 = .ok (.iload 7, 2) := by decide +kernel
theorem dX2_append_33 : decode cX2_append 33 = .ok (.iload_n 2, 1) := by decide +kernel
theorem dX2_append_34 : decode cX2_append 34 = .ok (.iastore, 1) := by decide +kernel
theorem dX2_append_35 : decode cX2_append 35 = .ok (.aload_n 0, 1) := by decide +kernel
theorem dX2_append_36 : decode cX2_append 36 = .ok (.getfield 18, 3) := by decide +kernel
theorem dX2_append_39 : decode cX2_append 39 = .ok (.iload 7, 2) := by decide +kernel
theorem dX2_append_41 : decode cX2_append 41 = .ok (.iload_n 3, 1) := by decide +kernel
theorem dX2_append_42 : decode cX2_append 42 = .ok (.iastore, 1) := by decide +kernel
theorem dX2_append_43 : decode cX2_append 43 = .ok (.aload_n 0, 1) := by decide +kernel
theorem dX2_append_44 : decode cX2_append 44 = .ok (.getfield 21, 3) := by decide +kernel
theorem dX2_append_47 : decode cX2_append 47 = .ok (.iload 7, 2) := by decide +kernel
theorem dX2_append_49 : decode cX2_append 49 = .ok (.iload 4, 2) := by decide +kernel
theorem dX2_append_51 : decode cX2_append 51 = .ok (.iastore, 1) := by decide +kernel
theorem dX2_append_52 : decode cX2_append 52 = .ok (.aload_n 0, 1) := by decide +kernel
theorem dX2_append_53 : decode cX2_append 53 = .ok (.getfield 24, 3) := by decide +kernel
theorem dX2_append_56 : decode cX2_append 56 = .ok (.iload 7, 2) := by decide +kernel
theorem dX2_append_58 : decode cX2_append 58 = .ok (.iload 5, 2) := by decide +kernel
theorem dX2_append_60 : decode cX2_append 60 = .ok (.iastore, 1) := by decide +kernel
theorem dX2_append_61 : decode cX2_append 61 = .ok (.aload_n 0, 1) := by decide +kernel
theorem dX2_append_62 : decode cX2_append 62 = .ok (.getfield 27, 3) := by decide +kernel
theorem dX2_append_65 : decode cX2_append 65 = .ok (.iload 7, 2) := by decide +kernel
theorem dX2_append_67 : decode cX2_append 67 = .ok (.iconst 0, 1) := by decide +kernel
theorem dX2_append_68 : decode cX2_append 68 = .ok (.iastore, 1) := by decide +kernel
theorem dX2_append_69 : decode cX2_append 69 = .ok (.aload_n 0, 1) := by decide +kernel
theorem dX2_append_70 : decode cX2_append 70 = .ok (.getfield 30, 3) := by decide +kernel
theorem dX2_append_73 : decode cX2_append 73 = .ok (.iload 7, 2) := by decide +kernel
theorem dX2_append_75 : decode cX2_append 75 = .ok (.iload 6, 2) := by decide +kernel
theorem dX2_append_77 : decode cX2_append 77 = .ok (.iastore, 1) := by decide +kernel
theorem dX2_append_78 : decode cX2_append 78 = .ok (.aload_n 0, 1) := by decide +kernel
theorem dX2_append_79 : decode cX2_append 79 = .ok (.dup, 1) := by decide +kernel
theorem dX2_append_80 : decode cX2_append 80 = .ok (.getfield 33, 3) := by decide +kernel
theorem dX2_append_83 : decode cX2_append 83 = .ok (.iconst 1, 1) := by decide +kernel
theorem dX2_append_84 : decode cX2_append 84 = .ok (.iadd, 1) := by decide +kernel
theorem dX2_append_85 : decode cX2_append 85 = .ok (.putfield 33, 3) := by decide +kernel
theorem dX2_append_88 : decode cX2_append 88 = .ok (.iload 7, 2) := by decide +kernel
theorem dX2_append_90 : decode cX2_append 90 = .ok (.ireturn, 1) := by decide +kernel
set_option maxRecDepth 20000 in
theorem ggX2_dropOldest_X2_placeOfAge : GoodIn wsX2_dropOldest wsX2_placeOfAge := goodIn_r _ [8, 2, 9, 10, 11, 12, 13, 14, 15, 16, 17, 18, 19] (by decide +kernel) (by decide +kernel)
set_option maxRecDepth 20000 in
theorem gX2_dropOldest_X2_placeOfAge : GoodIn wsX2_dropOldest (wsV RX2 54 RX2 yX2_placeOfAge wsX2_placeOfAge) := goodIn_app (goodIn_of _ (by decide +kernel)) ggX2_dropOldest_X2_placeOfAge
theorem dX2_dropOldest_0 : decode cX2_dropOldest 0 = .ok (.aload_n 0, 1) := by decide +kernel
theorem dX2_dropOldest_1 : decode cX2_dropOldest 1 = .ok (.getfield 33, 3) := by decide +kernel
theorem dX2_dropOldest_4 : decode cX2_dropOldest 4 = .ok (.ifCond .le 32, 3) := by decide +kernel
theorem dX2_dropOldest_7 : decode cX2_dropOldest 7 = .ok (.aload_n 0, 1) := by decide +kernel
theorem dX2_dropOldest_8 : decode cX2_dropOldest 8 = .ok (.aload_n 0, 1) := by decide +kernel
theorem dX2_dropOldest_9 : decode cX2_dropOldest 9 = .ok (.iconst 1, 1) := by decide +kernel
theorem dX2_dropOldest_10 : decode cX2_dropOldest 10 = .ok (.invokevirtual 54, 3) := by decide +kernel
theorem dX2_dropOldest_13 : decode cX2_dropOldest 13 = .ok (.putfield 51, 3) := by decide +kernel
theorem dX2_dropOldest_16 : decode cX2_dropOldest 16 = .ok (.aload_n 0, 1) := by decide +kernel
theorem dX2_dropOldest_17 : decode cX2_dropOldest 17 = .ok (.dup, 1) := by decide +kernel
theorem dX2_dropOldest_18 : decode cX2_dropOldest 18 = .ok (.getfield 33, 3) := by decide +kernel
theorem dX2_dropOldest_21 : decode cX2_dropOldest 21 = .ok (.iconst 1, 1) := by decide +kernel
theorem dX2_dropOldest_22 : decode cX2_dropOldest 22 = .ok (.isub, 1) := by decide +kernel
theorem dX2_dropOldest_23 : decode cX2_dropOldest 23 = .ok (.putfield 33, 3) := by decide +kernel
theorem dX2_dropOldest_26 : decode cX2_dropOldest 26 = .ok (.aload_n 0, 1) := by decide +kernel
theorem dX2_dropOldest_27 : decode cX2_dropOldest 27 = .ok (.dup, 1) := by decide +kernel
theorem dX2_dropOldest_28 : decode cX2_dropOldest 28 = .ok (.getfield 37, 3) := by decide +kernel
theorem dX2_dropOldest_31 : decode cX2_dropOldest 31 = .ok (.iconst 1, 1) := by decide +kernel
theorem dX2_dropOldest_32 : decode cX2_dropOldest 32 = .ok (.iadd, 1) := by decide +kernel
theorem dX2_dropOldest_33 : decode cX2_dropOldest 33 = .ok (.putfield 37, 3) := by decide +kernel
theorem dX2_dropOldest_36 : decode cX2_dropOldest 36 = .ok (.return_, 1) := by decide +kernel
theorem dX2_dropLast_0 : decode cX2_dropLast 0 = .ok (.aload_n 0, 1) := by decide +kernel
theorem dX2_dropLast_1 : decode cX2_dropLast 1 = .ok (.getfield 33, 3) := by decide +kernel
theorem dX2_dropLast_4 : decode cX2_dropLast 4 = .ok (.ifCond .le 13, 3) := by decide +kernel
theorem dX2_dropLast_7 : decode cX2_dropLast 7 = .ok (.aload_n 0, 1) := by decide +kernel
theorem dX2_dropLast_8 : decode cX2_dropLast 8 = .ok (.dup, 1) := by decide +kernel
theorem dX2_dropLast_9 : decode cX2_dropLast 9 = .ok (.getfield 33, 3) := by decide +kernel
theorem dX2_dropLast_12 : decode cX2_dropLast 12 = .ok (.iconst 1, 1) := by decide +kernel
theorem dX2_dropLast_13 : decode cX2_dropLast 13 = .ok (.isub, 1) := by decide +kernel
theorem dX2_dropLast_14 : decode cX2_dropLast 14 = .ok (.putfield 33, 3) := by decide +kernel
theorem dX2_dropLast_17 : decode cX2_dropLast 17 = .ok (.return_, 1) := by decide +kernel
set_option maxRecDepth 20000 in
theorem ggX2_readAAt_X2_isPlace : GoodIn wsX2_readAAt wsX2_isPlace := goodIn_r _ [6, 7, 8, 9, 10, 11, 12, 13, 14, 15, 16, 17] (by decide +kernel) (by decide +kernel)
set_option maxRecDepth 20000 in
theorem gX2_readAAt_X2_isPlace : GoodIn wsX2_readAAt (wsV RX2 40 RX2 yX2_isPlace wsX2_isPlace) := goodIn_app (goodIn_of _ (by decide +kernel)) ggX2_readAAt_X2_isPlace
theorem dX2_readAAt_0 : decode cX2_readAAt 0 = .ok (.aload_n 0, 1) := by decide +kernel
theorem dX2_readAAt_1 : decode cX2_readAAt 1 = .ok (.iload_n 1, 1) := by decide +kernel
theorem dX2_readAAt_2 : decode cX2_readAAt 2 = .ok (.invokevirtual 40, 3) := by decide +kernel
theorem dX2_readAAt_5 : decode cX2_readAAt 5 = .ok (.ifCond .eq 12, 3) := by decide +kernel
theorem dX2_readAAt_8 : decode cX2_readAAt 8 = .ok (.aload_n 0, 1) := by decide +kernel
theorem dX2_readAAt_9 : decode cX2_readAAt 9 = .ok (.getfield 9, 3) := by decide +kernel
theorem dX2_readAAt_12 : decode cX2_readAAt 12 = .ok (.iload_n 1, 1) := by decide +kernel
theorem dX2_readAAt_13 : decode cX2_readAAt 13 = .ok (.iaload, 1) := by decide +kernel
theorem dX2_readAAt_14 : decode cX2_readAAt 14 = .ok (.goto 4, 3) := by decide +kernel
theorem dX2_readAAt_17 : decode cX2_readAAt 17 = .ok (.iconst (-1), 1) := by decide +kernel
theorem dX2_readAAt_18 : decode cX2_readAAt 18 = .ok (.ireturn, 1) := by decide +kernel
set_option maxRecDepth 20000 in
theorem ggX2_readBAt_X2_isPlace : GoodIn wsX2_readBAt wsX2_isPlace := goodIn_r _ [6, 7, 8, 9, 10, 11, 12, 13, 14, 15, 16, 17] (by decide +kernel) (by decide +kernel)
set_option maxRecDepth 20000 in
theorem gX2_readBAt_X2_isPlace : GoodIn wsX2_readBAt (wsV RX2 40 RX2 yX2_isPlace wsX2_isPlace) := goodIn_app (goodIn_of _ (by decide +kernel)) ggX2_readBAt_X2_isPlace
theorem dX2_readBAt_0 : decode cX2_readBAt 0 = .ok (.aload_n 0, 1) := by decide +kernel
theorem dX2_readBAt_1 : decode cX2_readBAt 1 = .ok (.iload_n 1, 1) := by decide +kernel
theorem dX2_readBAt_2 : decode cX2_readBAt 2 = .ok (.invokevirtual 40, 3) := by decide +kernel
theorem dX2_readBAt_5 : decode cX2_readBAt 5 = .ok (.ifCond .eq 12, 3) := by decide +kernel
theorem dX2_readBAt_8 : decode cX2_readBAt 8 = .ok (.aload_n 0, 1) := by decide +kernel
theorem dX2_readBAt_9 : decode cX2_readBAt 9 = .ok (.getfield 15, 3) := by decide +kernel
theorem dX2_readBAt_12 : decode cX2_readBAt 12 = .ok (.iload_n 1, 1) := by decide +kernel
theorem dX2_readBAt_13 : decode cX2_readBAt 13 = .ok (.iaload, 1) := by decide +kernel
theorem dX2_readBAt_14 : decode cX2_readBAt 14 = .ok (.goto 4, 3) := by decide +kernel
theorem dX2_readBAt_17 : decode cX2_readBAt 17 = .ok (.iconst (-1), 1) := by decide +kernel
theorem dX2_readBAt_18 : decode cX2_readBAt 18 = .ok (.ireturn, 1) := by decide +kernel
set_option maxRecDepth 20000 in
theorem ggX2_givenAt_X2_isPlace : GoodIn wsX2_givenAt wsX2_isPlace := goodIn_r _ [6, 7, 8, 9, 10, 11, 12, 13, 14, 15, 16, 17] (by decide +kernel) (by decide +kernel)
set_option maxRecDepth 20000 in
theorem gX2_givenAt_X2_isPlace : GoodIn wsX2_givenAt (wsV RX2 40 RX2 yX2_isPlace wsX2_isPlace) := goodIn_app (goodIn_of _ (by decide +kernel)) ggX2_givenAt_X2_isPlace
theorem dX2_givenAt_0 : decode cX2_givenAt 0 = .ok (.aload_n 0, 1) := by decide +kernel
theorem dX2_givenAt_1 : decode cX2_givenAt 1 = .ok (.iload_n 1, 1) := by decide +kernel
theorem dX2_givenAt_2 : decode cX2_givenAt 2 = .ok (.invokevirtual 40, 3) := by decide +kernel
theorem dX2_givenAt_5 : decode cX2_givenAt 5 = .ok (.ifCond .eq 12, 3) := by decide +kernel
theorem dX2_givenAt_8 : decode cX2_givenAt 8 = .ok (.aload_n 0, 1) := by decide +kernel
theorem dX2_givenAt_9 : decode cX2_givenAt 9 = .ok (.getfield 18, 3) := by decide +kernel
theorem dX2_givenAt_12 : decode cX2_givenAt 12 = .ok (.iload_n 1, 1) := by decide +kernel
theorem dX2_givenAt_13 : decode cX2_givenAt 13 = .ok (.iaload, 1) := by decide +kernel
theorem dX2_givenAt_14 : decode cX2_givenAt 14 = .ok (.goto 4, 3) := by decide +kernel
theorem dX2_givenAt_17 : decode cX2_givenAt 17 = .ok (.iconst (-1), 1) := by decide +kernel
theorem dX2_givenAt_18 : decode cX2_givenAt 18 = .ok (.ireturn, 1) := by decide +kernel
set_option maxRecDepth 20000 in
theorem ggX2_knownAt_X2_isPlace : GoodIn wsX2_knownAt wsX2_isPlace := goodIn_r _ [6, 7, 8, 9, 10, 11, 12, 13, 14, 15, 16, 17] (by decide +kernel) (by decide +kernel)
set_option maxRecDepth 20000 in
theorem gX2_knownAt_X2_isPlace : GoodIn wsX2_knownAt (wsV RX2 40 RX2 yX2_isPlace wsX2_isPlace) := goodIn_app (goodIn_of _ (by decide +kernel)) ggX2_knownAt_X2_isPlace
theorem dX2_knownAt_0 : decode cX2_knownAt 0 = .ok (.aload_n 0, 1) := by decide +kernel
theorem dX2_knownAt_1 : decode cX2_knownAt 1 = .ok (.iload_n 1, 1) := by decide +kernel
theorem dX2_knownAt_2 : decode cX2_knownAt 2 = .ok (.invokevirtual 40, 3) := by decide +kernel
theorem dX2_knownAt_5 : decode cX2_knownAt 5 = .ok (.ifCond .eq 12, 3) := by decide +kernel
theorem dX2_knownAt_8 : decode cX2_knownAt 8 = .ok (.aload_n 0, 1) := by decide +kernel
theorem dX2_knownAt_9 : decode cX2_knownAt 9 = .ok (.getfield 21, 3) := by decide +kernel
theorem dX2_knownAt_12 : decode cX2_knownAt 12 = .ok (.iload_n 1, 1) := by decide +kernel
theorem dX2_knownAt_13 : decode cX2_knownAt 13 = .ok (.iaload, 1) := by decide +kernel
theorem dX2_knownAt_14 : decode cX2_knownAt 14 = .ok (.goto 4, 3) := by decide +kernel
theorem dX2_knownAt_17 : decode cX2_knownAt 17 = .ok (.iconst (-1), 1) := by decide +kernel
theorem dX2_knownAt_18 : decode cX2_knownAt 18 = .ok (.ireturn, 1) := by decide +kernel
set_option maxRecDepth 20000 in
theorem ggX2_registerAt_X2_isPlace : GoodIn wsX2_registerAt wsX2_isPlace := goodIn_r _ [6, 7, 8, 9, 10, 11, 12, 13, 14, 15, 16, 17] (by decide +kernel) (by decide +kernel)
set_option maxRecDepth 20000 in
theorem gX2_registerAt_X2_isPlace : GoodIn wsX2_registerAt (wsV RX2 40 RX2 yX2_isPlace wsX2_isPlace) := goodIn_app (goodIn_of _ (by decide +kernel)) ggX2_registerAt_X2_isPlace
theorem dX2_registerAt_0 : decode cX2_registerAt 0 = .ok (.aload_n 0, 1) := by decide +kernel
theorem dX2_registerAt_1 : decode cX2_registerAt 1 = .ok (.iload_n 1, 1) := by decide +kernel
theorem dX2_registerAt_2 : decode cX2_registerAt 2 = .ok (.invokevirtual 40, 3) := by decide +kernel
theorem dX2_registerAt_5 : decode cX2_registerAt 5 = .ok (.ifCond .eq 12, 3) := by decide +kernel
theorem dX2_registerAt_8 : decode cX2_registerAt 8 = .ok (.aload_n 0, 1) := by decide +kernel
theorem dX2_registerAt_9 : decode cX2_registerAt 9 = .ok (.getfield 24, 3) := by decide +kernel
theorem dX2_registerAt_12 : decode cX2_registerAt 12 = .ok (.iload_n 1, 1) := by decide +kernel
theorem dX2_registerAt_13 : decode cX2_registerAt 13 = .ok (.iaload, 1) := by decide +kernel
theorem dX2_registerAt_14 : decode cX2_registerAt 14 = .ok (.goto 4, 3) := by decide +kernel
theorem dX2_registerAt_17 : decode cX2_registerAt 17 = .ok (.iconst (-1), 1) := by decide +kernel
theorem dX2_registerAt_18 : decode cX2_registerAt 18 = .ok (.ireturn, 1) := by decide +kernel
set_option maxRecDepth 20000 in
theorem ggX2_portAt_X2_isPlace : GoodIn wsX2_portAt wsX2_isPlace := goodIn_r _ [6, 7, 8, 9, 10, 11, 12, 13, 14, 15, 16, 17] (by decide +kernel) (by decide +kernel)
set_option maxRecDepth 20000 in
theorem gX2_portAt_X2_isPlace : GoodIn wsX2_portAt (wsV RX2 40 RX2 yX2_isPlace wsX2_isPlace) := goodIn_app (goodIn_of _ (by decide +kernel)) ggX2_portAt_X2_isPlace
theorem dX2_portAt_0 : decode cX2_portAt 0 = .ok (.aload_n 0, 1) := by decide +kernel
theorem dX2_portAt_1 : decode cX2_portAt 1 = .ok (.iload_n 1, 1) := by decide +kernel
theorem dX2_portAt_2 : decode cX2_portAt 2 = .ok (.invokevirtual 40, 3) := by decide +kernel
theorem dX2_portAt_5 : decode cX2_portAt 5 = .ok (.ifCond .eq 12, 3) := by decide +kernel
theorem dX2_portAt_8 : decode cX2_portAt 8 = .ok (.aload_n 0, 1) := by decide +kernel
theorem dX2_portAt_9 : decode cX2_portAt 9 = .ok (.getfield 27, 3) := by decide +kernel
theorem dX2_portAt_12 : decode cX2_portAt 12 = .ok (.iload_n 1, 1) := by decide +kernel
theorem dX2_portAt_13 : decode cX2_portAt 13 = .ok (.iaload, 1) := by decide +kernel
theorem dX2_portAt_14 : decode cX2_portAt 14 = .ok (.goto 4, 3) := by decide +kernel
theorem dX2_portAt_17 : decode cX2_portAt 17 = .ok (.iconst (-1), 1) := by decide +kernel
theorem dX2_portAt_18 : decode cX2_portAt 18 = .ok (.ireturn, 1) := by decide +kernel
set_option maxRecDepth 20000 in
theorem ggX2_stateAt_X2_isPlace : GoodIn wsX2_stateAt wsX2_isPlace := goodIn_r _ [6, 1, 7, 8, 9, 10, 11, 12, 13, 14, 15, 16] (by decide +kernel) (by decide +kernel)
set_option maxRecDepth 20000 in
theorem gX2_stateAt_X2_isPlace : GoodIn wsX2_stateAt (wsV RX2 40 RX2 yX2_isPlace wsX2_isPlace) := goodIn_app (goodIn_of _ (by decide +kernel)) ggX2_stateAt_X2_isPlace
theorem dX2_stateAt_0 : decode cX2_stateAt 0 = .ok (.aload_n 0, 1) := by decide +kernel
theorem dX2_stateAt_1 : decode cX2_stateAt 1 = .ok (.iload_n 1, 1) := by decide +kernel
theorem dX2_stateAt_2 : decode cX2_stateAt 2 = .ok (.invokevirtual 40, 3) := by decide +kernel
theorem dX2_stateAt_5 : decode cX2_stateAt 5 = .ok (.ifCond .eq 12, 3) := by decide +kernel
theorem dX2_stateAt_8 : decode cX2_stateAt 8 = .ok (.aload_n 0, 1) := by decide +kernel
theorem dX2_stateAt_9 : decode cX2_stateAt 9 = .ok (.getfield 30, 3) := by decide +kernel
theorem dX2_stateAt_12 : decode cX2_stateAt 12 = .ok (.iload_n 1, 1) := by decide +kernel
theorem dX2_stateAt_13 : decode cX2_stateAt 13 = .ok (.iaload, 1) := by decide +kernel
theorem dX2_stateAt_14 : decode cX2_stateAt 14 = .ok (.goto 4, 3) := by decide +kernel
theorem dX2_stateAt_17 : decode cX2_stateAt 17 = .ok (.iconst (-1), 1) := by decide +kernel
theorem dX2_stateAt_18 : decode cX2_stateAt 18 = .ok (.ireturn, 1) := by decide +kernel
set_option maxRecDepth 20000 in
theorem ggX2_setPort_X2_isPlace : GoodIn wsX2_setPort wsX2_isPlace := goodIn_r _ [6, 7, 8, 9, 10, 11, 12, 13, 14, 15, 16, 17] (by decide +kernel) (by decide +kernel)
set_option maxRecDepth 20000 in
theorem gX2_setPort_X2_isPlace : GoodIn wsX2_setPort (wsV RX2 40 RX2 yX2_isPlace wsX2_isPlace) := goodIn_app (goodIn_of _ (by decide +kernel)) ggX2_setPort_X2_isPlace
theorem dX2_setPort_0 : decode cX2_setPort 0 = .ok (.aload_n 0, 1) := by decide +kernel
theorem dX2_setPort_1 : decode cX2_setPort 1 = .ok (.iload_n 1, 1) := by decide +kernel
theorem dX2_setPort_2 : decode cX2_setPort 2 = .ok (.invokevirtual 40, 3) := by decide +kernel
theorem dX2_setPort_5 : decode cX2_setPort 5 = .ok (.ifCond .eq 10, 3) := by decide +kernel
theorem dX2_setPort_8 : decode cX2_setPort 8 = .ok (.aload_n 0, 1) := by decide +kernel
theorem dX2_setPort_9 : decode cX2_setPort 9 = .ok (.getfield 27, 3) := by decide +kernel
theorem dX2_setPort_12 : decode cX2_setPort 12 = .ok (.iload_n 1, 1) := by decide +kernel
theorem dX2_setPort_13 : decode cX2_setPort 13 = .ok (.iload_n 2, 1) := by decide +kernel
theorem dX2_setPort_14 : decode cX2_setPort 14 = .ok (.iastore, 1) := by decide +kernel
theorem dX2_setPort_15 : decode cX2_setPort 15 = .ok (.return_, 1) := by decide +kernel
set_option maxRecDepth 20000 in
theorem ggX2_setState_X2_isPlace : GoodIn wsX2_setState wsX2_isPlace := goodIn_r _ [6, 1, 7, 8, 9, 10, 11, 12, 13, 14, 15, 16] (by decide +kernel) (by decide +kernel)
set_option maxRecDepth 20000 in
theorem gX2_setState_X2_isPlace : GoodIn wsX2_setState (wsV RX2 40 RX2 yX2_isPlace wsX2_isPlace) := goodIn_app (goodIn_of _ (by decide +kernel)) ggX2_setState_X2_isPlace
theorem dX2_setState_0 : decode cX2_setState 0 = .ok (.aload_n 0, 1) := by decide +kernel
theorem dX2_setState_1 : decode cX2_setState 1 = .ok (.iload_n 1, 1) := by decide +kernel
theorem dX2_setState_2 : decode cX2_setState 2 = .ok (.invokevirtual 40, 3) := by decide +kernel
theorem dX2_setState_5 : decode cX2_setState 5 = .ok (.ifCond .eq 10, 3) := by decide +kernel
theorem dX2_setState_8 : decode cX2_setState 8 = .ok (.aload_n 0, 1) := by decide +kernel
theorem dX2_setState_9 : decode cX2_setState 9 = .ok (.getfield 30, 3) := by decide +kernel
theorem dX2_setState_12 : decode cX2_setState 12 = .ok (.iload_n 1, 1) := by decide +kernel
theorem dX2_setState_13 : decode cX2_setState 13 = .ok (.iload_n 2, 1) := by decide +kernel
theorem dX2_setState_14 : decode cX2_setState 14 = .ok (.iastore, 1) := by decide +kernel
theorem dX2_setState_15 : decode cX2_setState 15 = .ok (.return_, 1) := by decide +kernel
