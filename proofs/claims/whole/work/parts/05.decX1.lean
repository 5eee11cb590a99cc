theorem dX1_init_0 : decode cX1_init 0 = .ok (.aload_n 0, 1) := by decide +kernel
theorem dX1_init_1 : decode cX1_init 1 = .ok (.invokespecial 3, 3) := by decide +kernel
theorem dX1_init_4 : decode cX1_init 4 = .ok (.iload_n 1, 1) := by decide +kernel
theorem dX1_init_5 : decode cX1_init 5 = .ok (.iload_n 2, 1) := by decide +kernel
theorem dX1_init_6 : decode cX1_init 6 = .ok (.iadd, 1) := by decide +kernel
theorem dX1_init_7 : decode cX1_init 7 = .ok (.istore_n 3, 1) := by decide +kernel
theorem dX1_init_8 : decode cX1_init 8 = .ok (.aload_n 0, 1) := by decide +kernel
theorem dX1_init_9 : decode cX1_init 9 = .ok (.iload_n 3, 1) := by decide +kernel
theorem dX1_init_10 : decode cX1_init 10 = .ok (.newarray .int, 2) := by decide +kernel
theorem dX1_init_12 : decode cX1_init 12 = .ok (.putfield 9, 3) := by decide +kernel
theorem dX1_init_15 : decode cX1_init 15 = .ok (.aload_n 0, 1) := by decide +kernel
theorem dX1_init_16 : decode cX1_init 16 = .ok (.iload_n 3, 1) := by decide +kernel
theorem dX1_init_17 : decode cX1_init 17 = .ok (.newarray .boolean, 2) := by decide +kernel
theorem dX1_init_19 : decode cX1_init 19 = .ok (.putfield 15, 3) := by decide +kernel
theorem dX1_init_22 : decode cX1_init 22 = .ok (.aload_n 0, 1) := by decide +kernel
theorem dX1_init_23 : decode cX1_init 23 = .ok (.iload_n 3, 1) := by decide +kernel
theorem dX1_init_24 : decode cX1_init 24 = .ok (.newarray .int, 2) := by decide +kernel
theorem dX1_init_26 : decode cX1_init 26 = .ok (.putfield 19, 3) := by decide +kernel
theorem dX1_init_29 : decode cX1_init 29 = .ok (.iconst 0, 1) := by decide +kernel
theorem dX1_init_30 : decode cX1_init 30 = .ok (.istore 4, 2) := by decide +kernel
theorem dX1_init_32 : decode cX1_init 32 = .ok (.iload 4, 2) := by decide +kernel
theorem dX1_init_34 : decode cX1_init 34 = .ok (.iload_n 3, 1) := by decide +kernel
theorem dX1_init_35 : decode cX1_init 35 = .ok (.if_icmp .ge 55, 3) := by decide +kernel
theorem dX1_init_38 : decode cX1_init 38 = .ok (.iload 4, 2) := by decide +kernel
theorem dX1_init_40 : decode cX1_init 40 = .ok (.iload_n 1, 1) := by decide +kernel
theorem dX1_init_41 : decode cX1_init 41 = .ok (.if_icmp .ge 22, 3) := by decide +kernel
theorem dX1_init_44 : decode cX1_init 44 = .ok (.aload_n 0, 1) := by decide +kernel
theorem dX1_init_45 : decode cX1_init 45 = .ok (.getfield 9, 3) := by decide +kernel
theorem dX1_init_48 : decode cX1_init 48 = .ok (.iload 4, 2) := by decide +kernel
theorem dX1_init_50 : decode cX1_init 50 = .ok (.iconst 1, 1) := by decide +kernel
theorem dX1_init_51 : decode cX1_init 51 = .ok (.iastore, 1) := by decide +kernel
theorem dX1_init_52 : decode cX1_init 52 = .ok (.aload_n 0, 1) := by decide +kernel
theorem dX1_init_53 : decode cX1_init 53 = .ok (.getfield 15, 3) := by decide +kernel
theorem dX1_init_56 : decode cX1_init 56 = .ok (.iload 4, 2) := by decide +kernel
theorem dX1_init_58 : decode cX1_init 58 = .ok (.iconst 1, 1) := by decide +kernel
theorem dX1_init_59 : decode cX1_init 59 = .ok (.bastore, 1) := by decide +kernel
theorem dX1_init_60 : decode cX1_init 60 = .ok (.goto 24, 3) := by decide +kernel
theorem dX1_init_63 : decode cX1_init 63 = .ok (.aload_n 0, 1) := by decide +kernel
theorem dX1_init_64 : decode cX1_init 64 = .ok (.getfield 19, 3) := by decide +kernel
theorem dX1_init_67 : decode cX1_init 67 = .ok (.aload_n 0, 1) := by decide +kernel
theorem dX1_init_68 : decode cX1_init 68 = .ok (.getfield 22, 3) := by decide +kernel
theorem dX1_init_71 : decode cX1_init 71 = .ok (.iload 4, 2) := by decide +kernel
theorem dX1_init_73 : decode cX1_init 73 = .ok (.iastore, 1) := by decide +kernel
theorem dX1_init_74 : decode cX1_init 74 = .ok (.aload_n 0, 1) := by decide +kernel
theorem dX1_init_75 : decode cX1_init 75 = .ok (.dup, 1) := by decide +kernel
theorem dX1_init_76 : decode cX1_init 76 = .ok (.getfield 22, 3) := by decide +kernel
theorem dX1_init_79 : decode cX1_init 79 = .ok (.iconst 1, 1) := by decide +kernel
theorem dX1_init_80 : decode cX1_init 80 = .ok (.iadd, 1) := by decide +kernel
theorem dX1_init_81 : decode cX1_init 81 = .ok (.putfield 22, 3) := by decide +kernel
theorem dX1_init_84 : decode cX1_init 84 = .ok (.iinc 4 1, 3) := by decide +kernel
theorem dX1_init_87 : decode cX1_init 87 = .ok (.goto (-55), 3) := by decide +kernel
theorem dX1_init_90 : decode cX1_init 90 = .ok (.return_, 1) := by decide +kernel
theorem dX1_total_0 : decode cX1_total 0 = .ok (.aload_n 0, 1) := by decide +kernel
theorem dX1_total_1 : decode cX1_total 1 = .ok (.getfield 9, 3) := by decide +kernel
theorem dX1_total_4 : decode cX1_total 4 = .ok (.arraylength, 1) := by decide +kernel
theorem dX1_total_5 : decode cX1_total 5 = .ok (.ireturn, 1) := by decide +kernel
theorem dX1_isName_0 : decode cX1_isName 0 = .ok (.iload_n 1, 1) := by decide +kernel
theorem dX1_isName_1 : decode cX1_isName 1 = .ok (.ifCond .lt 16, 3) := by decide +kernel
theorem dX1_isName_4 : decode cX1_isName 4 = .ok (.iload_n 1, 1) := by decide +kernel
theorem dX1_isName_5 : decode cX1_isName 5 = .ok (.aload_n 0, 1) := by decide +kernel
theorem dX1_isName_6 : decode cX1_isName 6 = .ok (.getfield 9, 3) := by decide +kernel
theorem dX1_isName_9 : decode cX1_isName 9 = .ok (.arraylength, 1) := by decide +kernel
theorem dX1_isName_10 : decode cX1_isName 10 = .ok (.if_icmp .ge 7, 3) := by decide +kernel
theorem dX1_isName_13 : decode cX1_isName 13 = .ok (.iconst 1, 1) := by decide +kernel
theorem dX1_isName_14 : decode cX1_isName 14 = .ok (.goto 4, 3) := by decide +kernel
theorem dX1_isName_17 : decode cX1_isName 17 = .ok (.iconst 0, 1) := by decide +kernel
theorem dX1_isName_18 : decode cX1_isName 18 = .ok (.ireturn, 1) := by decide +kernel
set_option maxRecDepth 20000 in
theorem ggX1_sharesOf_X1_isName : GoodIn wsX1_sharesOf wsX1_isName := goodIn_r _ [6, 1, 7, 8, 9, 10, 11] (by decide +kernel) (by decide +kernel)
set_option maxRecDepth 20000 in
theorem gX1_sharesOf_X1_isName : GoodIn wsX1_sharesOf (wsV RX1 26 RX1 yX1_isName wsX1_isName) := goodIn_app (goodIn_of _ (by decide +kernel)) ggX1_sharesOf_X1_isName
theorem dX1_sharesOf_0 : decode cX1_sharesOf 0 = .ok (.aload_n 0, 1) := by decide +kernel
theorem dX1_sharesOf_1 : decode cX1_sharesOf 1 = .ok (.iload_n 1, 1) := by decide +kernel
theorem dX1_sharesOf_2 : decode cX1_sharesOf 2 = .ok (.invokevirtual 26, 3) := by decide +kernel
theorem dX1_sharesOf_5 : decode cX1_sharesOf 5 = .ok (.ifCond .eq 12, 3) := by decide +kernel
theorem dX1_sharesOf_8 : decode cX1_sharesOf 8 = .ok (.aload_n 0, 1) := by decide +kernel
theorem dX1_sharesOf_9 : decode cX1_sharesOf 9 = .ok (.getfield 9, 3) := by decide +kernel
theorem dX1_sharesOf_12 : decode cX1_sharesOf 12 = .ok (.iload_n 1, 1) := by decide +kernel
theorem dX1_sharesOf_13 : decode cX1_sharesOf 13 = .ok (.iaload, 1) := by decide +kernel
theorem dX1_sharesOf_14 : decode cX1_sharesOf 14 = .ok (.goto 4, 3) := by decide +kernel
theorem dX1_sharesOf_17 : decode cX1_sharesOf 17 = .ok (.iconst 0, 1) := by decide +kernel
theorem dX1_sharesOf_18 : decode cX1_sharesOf 18 = .ok (.ireturn, 1) := by decide +kernel
theorem dX1_freeCount_0 : decode cX1_freeCount 0 = .ok (.aload_n 0, 1) := by decide +kernel
theorem dX1_freeCount_1 : decode cX1_freeCount 1 = .ok (.getfield 22, 3) := by decide +kernel
theorem dX1_freeCount_4 : decode cX1_freeCount 4 = .ok (.ireturn, 1) := by decide +kernel
set_option maxRecDepth 20000 in
theorem ggX1_freeAt_X1_slotOf : GoodIn wsX1_freeAt wsX1_slotOf := goodIn_r _ [7, 8, 2, 9, 10, 11, 12, 13] (by decide +kernel) (by decide +kernel)
set_option maxRecDepth 20000 in
theorem gX1_freeAt_X1_slotOf : GoodIn wsX1_freeAt (wsV RX1 30 RX1 yX1_slotOf wsX1_slotOf) := goodIn_app (goodIn_of _ (by decide +kernel)) ggX1_freeAt_X1_slotOf
theorem dX1_freeAt_0 : decode cX1_freeAt 0 = .ok (.iload_n 1, 1) := by decide +kernel
theorem dX1_freeAt_1 : decode cX1_freeAt 1 = .ok (.ifCond .lt 24, 3) := by decide +kernel
theorem dX1_freeAt_4 : decode cX1_freeAt 4 = .ok (.iload_n 1, 1) := by decide +kernel
theorem dX1_freeAt_5 : decode cX1_freeAt 5 = .ok (.aload_n 0, 1) := by decide +kernel
theorem dX1_freeAt_6 : decode cX1_freeAt 6 = .ok (.getfield 22, 3) := by decide +kernel
theorem dX1_freeAt_9 : decode cX1_freeAt 9 = .ok (.if_icmp .ge 16, 3) := by decide +kernel
theorem dX1_freeAt_12 : decode cX1_freeAt 12 = .ok (.aload_n 0, 1) := by decide +kernel
theorem dX1_freeAt_13 : decode cX1_freeAt 13 = .ok (.getfield 19, 3) := by decide +kernel
theorem dX1_freeAt_16 : decode cX1_freeAt 16 = .ok (.aload_n 0, 1) := by decide +kernel
theorem dX1_freeAt_17 : decode cX1_freeAt 17 = .ok (.iload_n 1, 1) := by decide +kernel
theorem dX1_freeAt_18 : decode cX1_freeAt 18 = .ok (.invokevirtual 30, 3) := by decide +kernel
theorem dX1_freeAt_21 : decode cX1_freeAt 21 = .ok (.iaload, 1) := by decide +kernel
theorem dX1_freeAt_22 : decode cX1_freeAt 22 = .ok (.goto 4, 3) := by decide +kernel
theorem dX1_freeAt_25 : decode cX1_freeAt 25 = .ok (.iconst (-1), 1) := by decide +kernel
theorem dX1_freeAt_26 : decode cX1_freeAt 26 = .ok (.ireturn, 1) := by decide +kernel
set_option maxRecDepth 20000 in
theorem ggX1_takeFirstFree_X1_slotOf : GoodIn wsX1_takeFirstFree wsX1_slotOf := goodIn_r _ [10, 3, 2, 11, 12, 13, 14, 15] (by decide +kernel) (by decide +kernel)
set_option maxRecDepth 20000 in
theorem gX1_takeFirstFree_X1_slotOf : GoodIn wsX1_takeFirstFree (wsV RX1 30 RX1 yX1_slotOf wsX1_slotOf) := goodIn_app (goodIn_of _ (by decide +kernel)) ggX1_takeFirstFree_X1_slotOf
theorem dX1_takeFirstFree_0 : decode cX1_takeFirstFree 0 = .ok (.aload_n 0, 1) := by decide +kernel
theorem dX1_takeFirstFree_1 : decode cX1_takeFirstFree 1 = .ok (.getfield 22, 3) := by decide +kernel
theorem dX1_takeFirstFree_4 : decode cX1_takeFirstFree 4 = .ok (.ifCond .ne 5, 3) := by decide +kernel
theorem dX1_takeFirstFree_7 : decode cX1_takeFirstFree 7 = .ok (.iconst (-1), 1) := by decide +kernel
theorem dX1_takeFirstFree_8 : decode cX1_takeFirstFree 8 = .ok (.ireturn, 1) := by decide +kernel
theorem dX1_takeFirstFree_9 : decode cX1_takeFirstFree 9 = .ok (.aload_n 0, 1) := by decide +kernel
theorem dX1_takeFirstFree_10 : decode cX1_takeFirstFree 10 = .ok (.getfield 19, 3) := by decide +kernel
theorem dX1_takeFirstFree_13 : decode cX1_takeFirstFree 13 = .ok (.aload_n 0, 1) := by decide +kernel
theorem dX1_takeFirstFree_14 : decode cX1_takeFirstFree 14 = .ok (.getfield 34, 3) := by decide +kernel
theorem dX1_takeFirstFree_17 : decode cX1_takeFirstFree 17 = .ok (.iaload, 1) := by decide +kernel
theorem dX1_takeFirstFree_18 : decode cX1_takeFirstFree 18 = .ok (.istore_n 1, 1) := by decide +kernel
theorem dX1_takeFirstFree_19 : decode cX1_takeFirstFree 19 = .ok (.aload_n 0, 1) := by decide +kernel
theorem dX1_takeFirstFree_20 : decode cX1_takeFirstFree 20 = .ok (.aload_n 0, 1) := by decide +kernel
theorem dX1_takeFirstFree_21 : decode cX1_takeFirstFree 21 = .ok (.iconst 1, 1) := by decide +kernel
theorem dX1_takeFirstFree_22 : decode cX1_takeFirstFree 22 = .ok (.invokevirtual 30, 3) := by decide +kernel
theorem dX1_takeFirstFree_25 : decode cX1_takeFirstFree 25 = .ok (.putfield 34, 3) := by decide +kernel
theorem dX1_takeFirstFree_28 : decode cX1_takeFirstFree 28 = .ok (.aload_n 0, 1) := by decide +kernel
theorem dX1_takeFirstFree_29 : decode cX1_takeFirstFree 29 = .ok (.dup, 1) := by decide +kernel
theorem dX1_takeFirstFree_30 : decode cX1_takeFirstFree 30 = .ok (.getfield 22, 3) := by decide +kernel
theorem dX1_takeFirstFree_33 : decode cX1_takeFirstFree 33 = .ok (.iconst 1, 1) := by decide +kernel
theorem dX1_takeFirstFree_34 : decode cX1_takeFirstFree 34 = .ok (.isub, 1) := by decide +kernel
theorem dX1_takeFirstFree_35 : decode cX1_takeFirstFree 35 = .ok (.putfield 22, 3) := by decide +kernel
theorem dX1_takeFirstFree_38 : decode cX1_takeFirstFree 38 = .ok (.aload_n 0, 1) := by decide +kernel
theorem dX1_takeFirstFree_39 : decode cX1_takeFirstFree 39 = .ok (.getfield 9, 3) := by decide +kernel
theorem dX1_takeFirstFree_42 : decode cX1_takeFirstFree 42 = .ok (.iload_n 1, 1) := by decide +kernel
theorem dX1_takeFirstFree_43 : decode cX1_takeFirstFree 43 = .ok (.iconst 1, 1) := by decide +kernel
theorem dX1_takeFirstFree_44 : decode cX1_takeFirstFree 44 = .ok (.iastore, 1) := by decide +kernel
theorem dX1_takeFirstFree_45 : decode cX1_takeFirstFree 45 = .ok (.aload_n 0, 1) := by decide +kernel
theorem dX1_takeFirstFree_46 : decode cX1_takeFirstFree 46 = .ok (.getfield 15, 3) := by decide +kernel
theorem dX1_takeFirstFree_49 : decode cX1_takeFirstFree 49 = .ok (.iload_n 1, 1) := by decide +kernel
theorem dX1_takeFirstFree_50 : decode cX1_takeFirstFree 50 = .ok (.iconst 0, 1) := by decide +kernel
theorem dX1_takeFirstFree_51 : decode cX1_takeFirstFree 51 = .ok (.bastore, 1) := by decide +kernel
theorem dX1_takeFirstFree_52 : decode cX1_takeFirstFree 52 = .ok (.iload_n 1, 1) := by decide +kernel
theorem dX1_takeFirstFree_53 : decode cX1_takeFirstFree 53 = .ok (.ireturn, 1) := by decide +kernel
set_option maxRecDepth 20000 in
theorem ggX1_addShare_X1_isName : GoodIn wsX1_addShare wsX1_isName := goodIn_r _ [6, 1, 7, 8, 9, 10, 11] (by decide +kernel) (by decide +kernel)
set_option maxRecDepth 20000 in
theorem gX1_addShare_X1_isName : GoodIn wsX1_addShare (wsV RX1 26 RX1 yX1_isName wsX1_isName) := goodIn_app (goodIn_of _ (by decide +kernel)) ggX1_addShare_X1_isName
theorem dX1_addShare_0 : decode cX1_addShare 0 = .ok (.aload_n 0, 1) := by decide +kernel
theorem dX1_addShare_1 : decode cX1_addShare 1 = .ok (.iload_n 1, 1) := by decide +kernel
theorem dX1_addShare_2 : decode cX1_addShare 2 = .ok (.invokevirtual 26, 3) := by decide +kernel
theorem dX1_addShare_5 : decode cX1_addShare 5 = .ok (.ifCond .eq 13, 3) := by decide +kernel
theorem dX1_addShare_8 : decode cX1_addShare 8 = .ok (.aload_n 0, 1) := by decide +kernel
theorem dX1_addShare_9 : decode cX1_addShare 9 = .ok (.getfield 9, 3) := by decide +kernel
theorem dX1_addShare_12 : decode cX1_addShare 12 = .ok (.iload_n 1, 1) := by decide +kernel
theorem dX1_addShare_13 : decode cX1_addShare 13 = .ok (.dup2, 1) := by decide +kernel
theorem dX1_addShare_14 : decode cX1_addShare 14 = .ok (.iaload, 1) := by decide +kernel
theorem dX1_addShare_15 : decode cX1_addShare 15 = .ok (.iconst 1, 1) := by decide +kernel
theorem dX1_addShare_16 : decode cX1_addShare 16 = .ok (.iadd, 1) := by decide +kernel
theorem dX1_addShare_17 : decode cX1_addShare 17 = .ok (.iastore, 1) := by decide +kernel
theorem dX1_addShare_18 : decode cX1_addShare 18 = .ok (.return_, 1) := by decide +kernel
set_option maxRecDepth 20000 in
theorem ggX1_giveBack_X1_isName : GoodIn wsX1_giveBack wsX1_isName := goodIn_r _ [8, 1, 14, 15, 16, 17, 18] (by decide +kernel) (by decide +kernel)
set_option maxRecDepth 20000 in
theorem gX1_giveBack_X1_isName : GoodIn wsX1_giveBack (wsV RX1 26 RX1 yX1_isName wsX1_isName) := goodIn_app (goodIn_of _ (by decide +kernel)) ggX1_giveBack_X1_isName
set_option maxRecDepth 20000 in
theorem ggX1_giveBack_X1_slotOf : GoodIn wsX1_giveBack wsX1_slotOf := goodIn_r _ [12, 13, 2, 14, 15, 16, 17, 18] (by decide +kernel) (by decide +kernel)
set_option maxRecDepth 20000 in
theorem gX1_giveBack_X1_slotOf : GoodIn wsX1_giveBack (wsV RX1 30 RX1 yX1_slotOf wsX1_slotOf) := goodIn_app (goodIn_of _ (by decide +kernel)) ggX1_giveBack_X1_slotOf
theorem dX1_giveBack_0 : decode cX1_giveBack 0 = .ok (.aload_n 0, 1) := by decide +kernel
theorem dX1_giveBack_1 : decode cX1_giveBack 1 = .ok (.iload_n 1, 1) := by decide +kernel
theorem dX1_giveBack_2 : decode cX1_giveBack 2 = .ok (.invokevirtual 26, 3) := by decide +kernel
theorem dX1_giveBack_5 : decode cX1_giveBack 5 = .ok (.ifCond .eq 12, 3) := by decide +kernel
theorem dX1_giveBack_8 : decode cX1_giveBack 8 = .ok (.aload_n 0, 1) := by decide +kernel
theorem dX1_giveBack_9 : decode cX1_giveBack 9 = .ok (.getfield 9, 3) := by decide +kernel
theorem dX1_giveBack_12 : decode cX1_giveBack 12 = .ok (.iload_n 1, 1) := by decide +kernel
theorem dX1_giveBack_13 : decode cX1_giveBack 13 = .ok (.iaload, 1) := by decide +kernel
theorem dX1_giveBack_14 : decode cX1_giveBack 14 = .ok (.ifCond .ne 4, 3) := by decide +kernel
theorem dX1_giveBack_17 : decode cX1_giveBack 17 = .ok (.return_, 1) := by decide +kernel
theorem dX1_giveBack_18 : decode cX1_giveBack 18 = .ok (.aload_n 0, 1) := by decide +kernel
theorem dX1_giveBack_19 : decode cX1_giveBack 19 = .ok (.getfield 9, 3) := by decide +kernel
theorem dX1_giveBack_22 : decode cX1_giveBack 22 = .ok (.iload_n 1, 1) := by decide +kernel
theorem dX1_giveBack_23 : decode cX1_giveBack 23 = .ok (.dup2, 1) := by decide +kernel
theorem dX1_giveBack_24 : decode cX1_giveBack 24 = .ok (.iaload, 1) := by decide +kernel
theorem dX1_giveBack_25 : decode cX1_giveBack 25 = .ok (.iconst 1, 1) := by decide +kernel
theorem dX1_giveBack_26 : decode cX1_giveBack 26 = .ok (.isub, 1) := by decide +kernel
theorem dX1_giveBack_27 : decode cX1_giveBack 27 = .ok (.iastore, 1) := by decide +kernel
theorem dX1_giveBack_28 : decode cX1_giveBack 28 = .ok (.aload_n 0, 1) := by decide +kernel
theorem dX1_giveBack_29 : decode cX1_giveBack 29 = .ok (.getfield 9, 3) := by decide +kernel
theorem dX1_giveBack_32 : decode cX1_giveBack 32 = .ok (.iload_n 1, 1) := by decide +kernel
theorem dX1_giveBack_33 : decode cX1_giveBack 33 = .ok (.iaload, 1) := by decide +kernel
theorem dX1_giveBack_34 : decode cX1_giveBack 34 = .ok (.ifCond .ne 27, 3) := by decide +kernel
theorem dX1_giveBack_37 : decode cX1_giveBack 37 = .ok (.aload_n 0, 1) := by decide +kernel
theorem dX1_giveBack_38 : decode cX1_giveBack 38 = .ok (.getfield 19, 3) := by decide +kernel
theorem dX1_giveBack_41 : decode cX1_giveBack 41 = .ok (.aload_n 0, 1) := by decide +kernel
theorem dX1_giveBack_42 : decode cX1_giveBack 42 = .ok (.aload_n 0, 1) := by decide +kernel
theorem dX1_giveBack_43 : decode cX1_giveBack 43 = .ok (.getfield 22, 3) := by decide +kernel
theorem dX1_giveBack_46 : decode cX1_giveBack 46 = .ok (.invokevirtual 30, 3) := by decide +kernel
theorem dX1_giveBack_49 : decode cX1_giveBack 49 = .ok (.iload_n 1, 1) := by decide +kernel
theorem dX1_giveBack_50 : decode cX1_giveBack 50 = .ok (.iastore, 1) := by decide +kernel
theorem dX1_giveBack_51 : decode cX1_giveBack 51 = .ok (.aload_n 0, 1) := by decide +kernel
theorem dX1_giveBack_52 : decode cX1_giveBack 52 = .ok (.dup, 1) := by decide +kernel
theorem dX1_giveBack_53 : decode cX1_giveBack 53 = .ok (.getfield 22, 3) := by decide +kernel
theorem dX1_giveBack_56 : decode cX1_giveBack 56 = .ok (.iconst 1, 1) := by decide +kernel
theorem dX1_giveBack_57 : decode cX1_giveBack 57 = .ok (.iadd, 1) := by decide +kernel
theorem dX1_giveBack_58 : decode cX1_giveBack 58 = .ok (.putfield 22, 3) := by decide +kernel
theorem dX1_giveBack_61 : decode cX1_giveBack 61 = .ok (.return_, 1) := by decide +kernel
set_option maxRecDepth 20000 in
theorem ggX1_makeReady_X1_isName : GoodIn wsX1_makeReady wsX1_isName := goodIn_r _ [6, 7, 8, 9, 10, 11, 12] (by decide +kernel) (by decide +kernel)
set_option maxRecDepth 20000 in
theorem gX1_makeReady_X1_isName : GoodIn wsX1_makeReady (wsV RX1 26 RX1 yX1_isName wsX1_isName) := goodIn_app (goodIn_of _ (by decide +kernel)) ggX1_makeReady_X1_isName
theorem dX1_makeReady_0 : decode cX1_makeReady 0 = .ok (.aload_n 0, 1) := by decide +kernel
theorem dX1_makeReady_1 : decode cX1_makeReady 1 = .ok (.iload_n 1, 1) := by decide +kernel
theorem dX1_makeReady_2 : decode cX1_makeReady 2 = .ok (.invokevirtual 26, 3) := by decide +kernel
theorem dX1_makeReady_5 : decode cX1_makeReady 5 = .ok (.ifCond .eq 10, 3) := by decide +kernel
theorem dX1_makeReady_8 : decode cX1_makeReady 8 = .ok (.aload_n 0, 1) := by decide +kernel
theorem dX1_makeReady_9 : decode cX1_makeReady 9 = .ok (.getfield 15, 3) := by decide +kernel
theorem dX1_makeReady_12 : decode cX1_makeReady 12 = .ok (.iload_n 1, 1) := by decide +kernel
theorem dX1_makeReady_13 : decode cX1_makeReady 13 = .ok (.iconst 1, 1) := by decide +kernel
theorem dX1_makeReady_14 : decode cX1_makeReady 14 = .ok (.bastore, 1) := by decide +kernel
theorem dX1_makeReady_15 : decode cX1_makeReady 15 = .ok (.return_, 1) := by decide +kernel
set_option maxRecDepth 20000 in
theorem ggX1_isReadyOrNone_X1_isName : GoodIn wsX1_isReadyOrNone wsX1_isName := goodIn_r _ [6, 7, 8, 9, 10, 11, 12] (by decide +kernel) (by decide +kernel)
set_option maxRecDepth 20000 in
theorem gX1_isReadyOrNone_X1_isName : GoodIn wsX1_isReadyOrNone (wsV RX1 26 RX1 yX1_isName wsX1_isName) := goodIn_app (goodIn_of _ (by decide +kernel)) ggX1_isReadyOrNone_X1_isName
theorem dX1_isReadyOrNone_0 : decode cX1_isReadyOrNone 0 = .ok (.aload_n 0, 1) := by decide +kernel
theorem dX1_isReadyOrNone_1 : decode cX1_isReadyOrNone 1 = .ok (.iload_n 1, 1) := by decide +kernel
theorem dX1_isReadyOrNone_2 : decode cX1_isReadyOrNone 2 = .ok (.invokevirtual 26, 3) := by decide +kernel
theorem dX1_isReadyOrNone_5 : decode cX1_isReadyOrNone 5 = .ok (.ifCond .eq 12, 3) := by decide +kernel
theorem dX1_isReadyOrNone_8 : decode cX1_isReadyOrNone 8 = .ok (.aload_n 0, 1) := by decide +kernel
theorem dX1_isReadyOrNone_9 : decode cX1_isReadyOrNone 9 = .ok (.getfield 15, 3) := by decide +kernel
theorem dX1_isReadyOrNone_12 : decode cX1_isReadyOrNone 12 = .ok (.iload_n 1, 1) := by decide +kernel
theorem dX1_isReadyOrNone_13 : decode cX1_isReadyOrNone 13 = .ok (.baload, 1) := by decide +kernel
theorem dX1_isReadyOrNone_14 : decode cX1_isReadyOrNone 14 = .ok (.ifCond .eq 7, 3) := by decide +kernel
theorem dX1_isReadyOrNone_17 : decode cX1_isReadyOrNone 17 = .ok (.iconst 1, 1) := by decide +kernel
theorem dX1_isReadyOrNone_18 : decode cX1_isReadyOrNone 18 = .ok (.goto 4, 3) := by decide +kernel
theorem dX1_isReadyOrNone_21 : decode cX1_isReadyOrNone 21 = .ok (.iconst 0, 1) := by decide +kernel
theorem dX1_isReadyOrNone_22 : decode cX1_isReadyOrNone 22 = .ok (.ireturn, 1) := by decide +kernel
theorem dX1_slotOf_0 : decode cX1_slotOf 0 = .ok (.aload_n 0, 1) := by decide +kernel
theorem dX1_slotOf_1 : decode cX1_slotOf 1 = .ok (.getfield 34, 3) := by decide +kernel
theorem dX1_slotOf_4 : decode cX1_slotOf 4 = .ok (.iload_n 1, 1) := by decide +kernel
theorem dX1_slotOf_5 : decode cX1_slotOf 5 = .ok (.iadd, 1) := by decide +kernel
theorem dX1_slotOf_6 : decode cX1_slotOf 6 = .ok (.istore_n 2, 1) := by decide +kernel
theorem dX1_slotOf_7 : decode cX1_slotOf 7 = .ok (.iload_n 2, 1) := by decide +kernel
theorem dX1_slotOf_8 : decode cX1_slotOf 8 = .ok (.aload_n 0, 1) := by decide +kernel
theorem dX1_slotOf_9 : decode cX1_slotOf 9 = .ok (.getfield 19, 3) := by decide +kernel
theorem dX1_slotOf_12 : decode cX1_slotOf 12 = .ok (.arraylength, 1) := by decide +kernel
theorem dX1_slotOf_13 : decode cX1_slotOf 13 = .ok (.if_icmp .ge 7, 3) := by decide +kernel
theorem dX1_slotOf_16 : decode cX1_slotOf 16 = .ok (.iload_n 2, 1) := by decide +kernel
theorem dX1_slotOf_17 : decode cX1_slotOf 17 = .ok (.goto 10, 3) := by decide +kernel
theorem dX1_slotOf_20 : decode cX1_slotOf 20 = .ok (.iload_n 2, 1) := by decide +kernel
theorem dX1_slotOf_21 : decode cX1_slotOf 21 = .ok (.aload_n 0, 1) := by decide +kernel
theorem dX1_slotOf_22 : decode cX1_slotOf 22 = .ok (.getfield 19, 3) := by decide +kernel
theorem dX1_slotOf_25 : decode cX1_slotOf 25 = .ok (.arraylength, 1) := by decide +kernel
theorem dX1_slotOf_26 : decode cX1_slotOf 26 = .ok (.isub, 1) := by decide +kernel
theorem dX1_slotOf_27 : decode cX1_slotOf 27 = .ok (.ireturn, 1) := by decide +kernel
