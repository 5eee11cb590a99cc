theorem dX0_init_0 : decode cX0_init 0 = .ok (.aload_n 0, 1) := by decide +kernel
theorem dX0_init_1 : decode cX0_init 1 = .ok (.invokespecial 3, 3) := by decide +kernel
theorem dX0_init_4 : decode cX0_init 4 = .ok (.aload_n 0, 1) := by decide +kernel
theorem dX0_init_5 : decode cX0_init 5 = .ok (.bipush 8, 2) := by decide +kernel
theorem dX0_init_7 : decode cX0_init 7 = .ok (.newarray .int, 2) := by decide +kernel
theorem dX0_init_9 : decode cX0_init 9 = .ok (.putfield 9, 3) := by decide +kernel
theorem dX0_init_12 : decode cX0_init 12 = .ok (.aload_n 0, 1) := by decide +kernel
theorem dX0_init_13 : decode cX0_init 13 = .ok (.bipush 8, 2) := by decide +kernel
theorem dX0_init_15 : decode cX0_init 15 = .ok (.newarray .int, 2) := by decide +kernel
theorem dX0_init_17 : decode cX0_init 17 = .ok (.putfield 15, 3) := by decide +kernel
theorem dX0_init_20 : decode cX0_init 20 = .ok (.return_, 1) := by decide +kernel
theorem dX0_isMark_0 : decode cX0_isMark 0 = .ok (.iload_n 1, 1) := by decide +kernel
theorem dX0_isMark_1 : decode cX0_isMark 1 = .ok (.ifCond .lt 13, 3) := by decide +kernel
theorem dX0_isMark_4 : decode cX0_isMark 4 = .ok (.iload_n 1, 1) := by decide +kernel
theorem dX0_isMark_5 : decode cX0_isMark 5 = .ok (.bipush 8, 2) := by decide +kernel
theorem dX0_isMark_7 : decode cX0_isMark 7 = .ok (.if_icmp .ge 7, 3) := by decide +kernel
theorem dX0_isMark_10 : decode cX0_isMark 10 = .ok (.iconst 1, 1) := by decide +kernel
theorem dX0_isMark_11 : decode cX0_isMark 11 = .ok (.goto 4, 3) := by decide +kernel
theorem dX0_isMark_14 : decode cX0_isMark 14 = .ok (.iconst 0, 1) := by decide +kernel
theorem dX0_isMark_15 : decode cX0_isMark 15 = .ok (.ireturn, 1) := by decide +kernel
set_option maxRecDepth 20000 in
theorem ggX0_isFree_X0_turnOf : GoodIn wsX0_isFree wsX0_turnOf := goodIn_r _ [5, 6, 7, 8, 9, 10] (by decide +kernel) (by decide +kernel)
set_option maxRecDepth 20000 in
theorem gX0_isFree_X0_turnOf : GoodIn wsX0_isFree (wsV RX0 18 RX0 yX0_turnOf wsX0_turnOf) := goodIn_app (goodIn_of _ (by decide +kernel)) ggX0_isFree_X0_turnOf
theorem dX0_isFree_0 : decode cX0_isFree 0 = .ok (.aload_n 0, 1) := by decide +kernel
theorem dX0_isFree_1 : decode cX0_isFree 1 = .ok (.iload_n 1, 1) := by decide +kernel
theorem dX0_isFree_2 : decode cX0_isFree 2 = .ok (.invokevirtual 18, 3) := by decide +kernel
theorem dX0_isFree_5 : decode cX0_isFree 5 = .ok (.iconst (-1), 1) := by decide +kernel
theorem dX0_isFree_6 : decode cX0_isFree 6 = .ok (.if_icmp .ne 7, 3) := by decide +kernel
theorem dX0_isFree_9 : decode cX0_isFree 9 = .ok (.iconst 1, 1) := by decide +kernel
theorem dX0_isFree_10 : decode cX0_isFree 10 = .ok (.goto 4, 3) := by decide +kernel
theorem dX0_isFree_13 : decode cX0_isFree 13 = .ok (.iconst 0, 1) := by decide +kernel
theorem dX0_isFree_14 : decode cX0_isFree 14 = .ok (.ireturn, 1) := by decide +kernel
theorem dX0_takenCount_0 : decode cX0_takenCount 0 = .ok (.aload_n 0, 1) := by decide +kernel
theorem dX0_takenCount_1 : decode cX0_takenCount 1 = .ok (.getfield 22, 3) := by decide +kernel
theorem dX0_takenCount_4 : decode cX0_takenCount 4 = .ok (.ireturn, 1) := by decide +kernel
set_option maxRecDepth 20000 in
theorem ggX0_rowsBefore_X0_isMark : GoodIn wsX0_rowsBefore wsX0_isMark := goodIn_r _ [6] (by decide +kernel) (by decide +kernel)
set_option maxRecDepth 20000 in
theorem gX0_rowsBefore_X0_isMark : GoodIn wsX0_rowsBefore (wsV RX0 26 RX0 yX0_isMark wsX0_isMark) := goodIn_app (goodIn_of _ (by decide +kernel)) ggX0_rowsBefore_X0_isMark
theorem dX0_rowsBefore_0 : decode cX0_rowsBefore 0 = .ok (.aload_n 0, 1) := by decide +kernel
theorem dX0_rowsBefore_1 : decode cX0_rowsBefore 1 = .ok (.iload_n 1, 1) := by decide +kernel
theorem dX0_rowsBefore_2 : decode cX0_rowsBefore 2 = .ok (.invokevirtual 26, 3) := by decide +kernel
theorem dX0_rowsBefore_5 : decode cX0_rowsBefore 5 = .ok (.ifCond .eq 12, 3) := by decide +kernel
theorem dX0_rowsBefore_8 : decode cX0_rowsBefore 8 = .ok (.aload_n 0, 1) := by decide +kernel
theorem dX0_rowsBefore_9 : decode cX0_rowsBefore 9 = .ok (.getfield 9, 3) := by decide +kernel
theorem dX0_rowsBefore_12 : decode cX0_rowsBefore 12 = .ok (.iload_n 1, 1) := by decide +kernel
theorem dX0_rowsBefore_13 : decode cX0_rowsBefore 13 = .ok (.iaload, 1) := by decide +kernel
theorem dX0_rowsBefore_14 : decode cX0_rowsBefore 14 = .ok (.goto 4, 3) := by decide +kernel
theorem dX0_rowsBefore_17 : decode cX0_rowsBefore 17 = .ok (.iconst 0, 1) := by decide +kernel
theorem dX0_rowsBefore_18 : decode cX0_rowsBefore 18 = .ok (.ireturn, 1) := by decide +kernel
theorem dX0_oldest_0 : decode cX0_oldest 0 = .ok (.aload_n 0, 1) := by decide +kernel
theorem dX0_oldest_1 : decode cX0_oldest 1 = .ok (.getfield 22, 3) := by decide +kernel
theorem dX0_oldest_4 : decode cX0_oldest 4 = .ok (.ifCond .ne 7, 3) := by decide +kernel
theorem dX0_oldest_7 : decode cX0_oldest 7 = .ok (.iconst (-1), 1) := by decide +kernel
theorem dX0_oldest_8 : decode cX0_oldest 8 = .ok (.goto 9, 3) := by decide +kernel
theorem dX0_oldest_11 : decode cX0_oldest 11 = .ok (.aload_n 0, 1) := by decide +kernel
theorem dX0_oldest_12 : decode cX0_oldest 12 = .ok (.getfield 15, 3) := by decide +kernel
theorem dX0_oldest_15 : decode cX0_oldest 15 = .ok (.iconst 0, 1) := by decide +kernel
theorem dX0_oldest_16 : decode cX0_oldest 16 = .ok (.iaload, 1) := by decide +kernel
theorem dX0_oldest_17 : decode cX0_oldest 17 = .ok (.ireturn, 1) := by decide +kernel
set_option maxRecDepth 20000 in
theorem ggX0_takeLowest_X0_isFree : GoodIn wsX0_takeLowest wsX0_isFree := goodIn_r _ [8, 9, 10, 11, 7, 12, 1, 3, 13, 14, 15] (by decide +kernel) (by decide +kernel)
set_option maxRecDepth 20000 in
theorem gX0_takeLowest_X0_isFree : GoodIn wsX0_takeLowest (wsV RX0 30 RX0 yX0_isFree wsX0_isFree) := goodIn_app (goodIn_of _ (by decide +kernel)) ggX0_takeLowest_X0_isFree
theorem dX0_takeLowest_0 : decode cX0_takeLowest 0 = .ok (.iconst 0, 1) := by decide +kernel
theorem dX0_takeLowest_1 : decode cX0_takeLowest 1 = .ok (.istore_n 2, 1) := by decide +kernel
theorem dX0_takeLowest_2 : decode cX0_takeLowest 2 = .ok (.iload_n 2, 1) := by decide +kernel
theorem dX0_takeLowest_3 : decode cX0_takeLowest 3 = .ok (.bipush 8, 2) := by decide +kernel
theorem dX0_takeLowest_5 : decode cX0_takeLowest 5 = .ok (.if_icmp .ge 55, 3) := by decide +kernel
theorem dX0_takeLowest_8 : decode cX0_takeLowest 8 = .ok (.aload_n 0, 1) := by decide +kernel
theorem dX0_takeLowest_9 : decode cX0_takeLowest 9 = .ok (.getfield 22, 3) := by decide +kernel
theorem dX0_takeLowest_12 : decode cX0_takeLowest 12 = .ok (.bipush 8, 2) := by decide +kernel
theorem dX0_takeLowest_14 : decode cX0_takeLowest 14 = .ok (.if_icmp .ge 46, 3) := by decide +kernel
theorem dX0_takeLowest_17 : decode cX0_takeLowest 17 = .ok (.aload_n 0, 1) := by decide +kernel
theorem dX0_takeLowest_18 : decode cX0_takeLowest 18 = .ok (.iload_n 2, 1) := by decide +kernel
theorem dX0_takeLowest_19 : decode cX0_takeLowest 19 = .ok (.invokevirtual 30, 3) := by decide +kernel
theorem dX0_takeLowest_22 : decode cX0_takeLowest 22 = .ok (.ifCond .eq 32, 3) := by decide +kernel
theorem dX0_takeLowest_25 : decode cX0_takeLowest 25 = .ok (.aload_n 0, 1) := by decide +kernel
theorem dX0_takeLowest_26 : decode cX0_takeLowest 26 = .ok (.getfield 9, 3) := by decide +kernel
theorem dX0_takeLowest_29 : decode cX0_takeLowest 29 = .ok (.iload_n 2, 1) := by decide +kernel
theorem dX0_takeLowest_30 : decode cX0_takeLowest 30 = .ok (.iload_n 1, 1) := by decide +kernel
theorem dX0_takeLowest_31 : decode cX0_takeLowest 31 = .ok (.iastore, 1) := by decide +kernel
theorem dX0_takeLowest_32 : decode cX0_takeLowest 32 = .ok (.aload_n 0, 1) := by decide +kernel
theorem dX0_takeLowest_33 : decode cX0_takeLowest 33 = .ok (.getfield 15, 3) := by decide +kernel
theorem dX0_takeLowest_36 : decode cX0_takeLowest 36 = .ok (.aload_n 0, 1) := by decide +kernel
theorem dX0_takeLowest_37 : decode cX0_takeLowest 37 = .ok (.getfield 22, 3) := by decide +kernel
theorem dX0_takeLowest_40 : decode cX0_takeLowest 40 = .ok (.iload_n 2, 1) := by decide +kernel
theorem dX0_takeLowest_41 : decode cX0_takeLowest 41 = .ok (.iastore, 1) := by decide +kernel
theorem dX0_takeLowest_42 : decode cX0_takeLowest 42 = .ok (.aload_n 0, 1) := by decide +kernel
theorem dX0_takeLowest_43 : decode cX0_takeLowest 43 = .ok (.dup, 1) := by decide +kernel
theorem dX0_takeLowest_44 : decode cX0_takeLowest 44 = .ok (.getfield 22, 3) := by decide +kernel
theorem dX0_takeLowest_47 : decode cX0_takeLowest 47 = .ok (.iconst 1, 1) := by decide +kernel
theorem dX0_takeLowest_48 : decode cX0_takeLowest 48 = .ok (.iadd, 1) := by decide +kernel
theorem dX0_takeLowest_49 : decode cX0_takeLowest 49 = .ok (.putfield 22, 3) := by decide +kernel
theorem dX0_takeLowest_52 : decode cX0_takeLowest 52 = .ok (.iload_n 2, 1) := by decide +kernel
theorem dX0_takeLowest_53 : decode cX0_takeLowest 53 = .ok (.ireturn, 1) := by decide +kernel
theorem dX0_takeLowest_54 : decode cX0_takeLowest 54 = .ok (.iinc 2 1, 3) := by decide +kernel
theorem dX0_takeLowest_57 : decode cX0_takeLowest 57 = .ok (.goto (-55), 3) := by decide +kernel
theorem dX0_takeLowest_60 : decode cX0_takeLowest 60 = .ok (.iconst (-1), 1) := by decide +kernel
theorem dX0_takeLowest_61 : decode cX0_takeLowest 61 = .ok (.ireturn, 1) := by decide +kernel
set_option maxRecDepth 20000 in
theorem ggX0_release_X0_turnOf : GoodIn wsX0_release wsX0_turnOf := goodIn_r _ [7, 1, 2, 8, 9, 10] (by decide +kernel) (by decide +kernel)
set_option maxRecDepth 20000 in
theorem gX0_release_X0_turnOf : GoodIn wsX0_release (wsV RX0 18 RX0 yX0_turnOf wsX0_turnOf) := goodIn_app (goodIn_of _ (by decide +kernel)) ggX0_release_X0_turnOf
theorem dX0_release_0 : decode cX0_release 0 = .ok (.aload_n 0, 1) := by decide +kernel
theorem dX0_release_1 : decode cX0_release 1 = .ok (.iload_n 1, 1) := by decide +kernel
theorem dX0_release_2 : decode cX0_release 2 = .ok (.invokevirtual 18, 3) := by decide +kernel
theorem dX0_release_5 : decode cX0_release 5 = .ok (.istore_n 2, 1) := by decide +kernel
theorem dX0_release_6 : decode cX0_release 6 = .ok (.iload_n 2, 1) := by decide +kernel
theorem dX0_release_7 : decode cX0_release 7 = .ok (.iconst (-1), 1) := by decide +kernel
theorem dX0_release_8 : decode cX0_release 8 = .ok (.if_icmp .ne 4, 3) := by decide +kernel
theorem dX0_release_11 : decode cX0_release 11 = .ok (.return_, 1) := by decide +kernel
theorem dX0_release_12 : decode cX0_release 12 = .ok (.iload_n 2, 1) := by decide +kernel
theorem dX0_release_13 : decode cX0_release 13 = .ok (.istore_n 3, 1) := by decide +kernel
theorem dX0_release_14 : decode cX0_release 14 = .ok (.iload_n 3, 1) := by decide +kernel
theorem dX0_release_15 : decode cX0_release 15 = .ok (.iconst 1, 1) := by decide +kernel
theorem dX0_release_16 : decode cX0_release 16 = .ok (.iadd, 1) := by decide +kernel
theorem dX0_release_17 : decode cX0_release 17 = .ok (.aload_n 0, 1) := by decide +kernel
theorem dX0_release_18 : decode cX0_release 18 = .ok (.getfield 22, 3) := by decide +kernel
theorem dX0_release_21 : decode cX0_release 21 = .ok (.if_icmp .ge 23, 3) := by decide +kernel
theorem dX0_release_24 : decode cX0_release 24 = .ok (.aload_n 0, 1) := by decide +kernel
theorem dX0_release_25 : decode cX0_release 25 = .ok (.getfield 15, 3) := by decide +kernel
theorem dX0_release_28 : decode cX0_release 28 = .ok (.iload_n 3, 1) := by decide +kernel
theorem dX0_release_29 : decode cX0_release 29 = .ok (.aload_n 0, 1) := by decide +kernel
theorem dX0_release_30 : decode cX0_release 30 = .ok (.getfield 15, 3) := by decide +kernel
theorem dX0_release_33 : decode cX0_release 33 = .ok (.iload_n 3, 1) := by decide +kernel
theorem dX0_release_34 : decode cX0_release 34 = .ok (.iconst 1, 1) := by decide +kernel
theorem dX0_release_35 : decode cX0_release 35 = .ok (.iadd, 1) := by decide +kernel
theorem dX0_release_36 : decode cX0_release 36 = .ok (.iaload, 1) := by decide +kernel
theorem dX0_release_37 : decode cX0_release 37 = .ok (.iastore, 1) := by decide +kernel
theorem dX0_release_38 : decode cX0_release 38 = .ok (.iinc 3 1, 3) := by decide +kernel
theorem dX0_release_41 : decode cX0_release 41 = .ok (.goto (-27), 3) := by decide +kernel
theorem dX0_release_44 : decode cX0_release 44 = .ok (.aload_n 0, 1) := by decide +kernel
theorem dX0_release_45 : decode cX0_release 45 = .ok (.dup, 1) := by decide +kernel
theorem dX0_release_46 : decode cX0_release 46 = .ok (.getfield 22, 3) := by decide +kernel
theorem dX0_release_49 : decode cX0_release 49 = .ok (.iconst 1, 1) := by decide +kernel
theorem dX0_release_50 : decode cX0_release 50 = .ok (.isub, 1) := by decide +kernel
theorem dX0_release_51 : decode cX0_release 51 = .ok (.putfield 22, 3) := by decide +kernel
theorem dX0_release_54 : decode cX0_release 54 = .ok (.return_, 1) := by decide +kernel
set_option maxRecDepth 20000 in
theorem ggX0_releaseFrom_X0_turnOf : GoodIn wsX0_releaseFrom wsX0_turnOf := goodIn_r _ [6, 1, 7, 8, 9, 10] (by decide +kernel) (by decide +kernel)
set_option maxRecDepth 20000 in
theorem gX0_releaseFrom_X0_turnOf : GoodIn wsX0_releaseFrom (wsV RX0 18 RX0 yX0_turnOf wsX0_turnOf) := goodIn_app (goodIn_of _ (by decide +kernel)) ggX0_releaseFrom_X0_turnOf
theorem dX0_releaseFrom_0 : decode cX0_releaseFrom 0 = .ok (.aload_n 0, 1) := by decide +kernel
theorem dX0_releaseFrom_1 : decode cX0_releaseFrom 1 = .ok (.iload_n 1, 1) := by decide +kernel
theorem dX0_releaseFrom_2 : decode cX0_releaseFrom 2 = .ok (.invokevirtual 18, 3) := by decide +kernel
theorem dX0_releaseFrom_5 : decode cX0_releaseFrom 5 = .ok (.istore_n 2, 1) := by decide +kernel
theorem dX0_releaseFrom_6 : decode cX0_releaseFrom 6 = .ok (.iload_n 2, 1) := by decide +kernel
theorem dX0_releaseFrom_7 : decode cX0_releaseFrom 7 = .ok (.iconst (-1), 1) := by decide +kernel
theorem dX0_releaseFrom_8 : decode cX0_releaseFrom 8 = .ok (.if_icmp .eq 8, 3) := by decide +kernel
theorem dX0_releaseFrom_11 : decode cX0_releaseFrom 11 = .ok (.aload_n 0, 1) := by decide +kernel
theorem dX0_releaseFrom_12 : decode cX0_releaseFrom 12 = .ok (.iload_n 2, 1) := by decide +kernel
theorem dX0_releaseFrom_13 : decode cX0_releaseFrom 13 = .ok (.putfield 22, 3) := by decide +kernel
theorem dX0_releaseFrom_16 : decode cX0_releaseFrom 16 = .ok (.return_, 1) := by decide +kernel
theorem dX0_turnOf_0 : decode cX0_turnOf 0 = .ok (.iconst 0, 1) := by decide +kernel
theorem dX0_turnOf_1 : decode cX0_turnOf 1 = .ok (.istore_n 2, 1) := by decide +kernel
theorem dX0_turnOf_2 : decode cX0_turnOf 2 = .ok (.iload_n 2, 1) := by decide +kernel
theorem dX0_turnOf_3 : decode cX0_turnOf 3 = .ok (.aload_n 0, 1) := by decide +kernel
theorem dX0_turnOf_4 : decode cX0_turnOf 4 = .ok (.getfield 22, 3) := by decide +kernel
theorem dX0_turnOf_7 : decode cX0_turnOf 7 = .ok (.if_icmp .ge 21, 3) := by decide +kernel
theorem dX0_turnOf_10 : decode cX0_turnOf 10 = .ok (.aload_n 0, 1) := by decide +kernel
theorem dX0_turnOf_11 : decode cX0_turnOf 11 = .ok (.getfield 15, 3) := by decide +kernel
theorem dX0_turnOf_14 : decode cX0_turnOf 14 = .ok (.iload_n 2, 1) := by decide +kernel
theorem dX0_turnOf_15 : decode cX0_turnOf 15 = .ok (.iaload, 1) := by decide +kernel
theorem dX0_turnOf_16 : decode cX0_turnOf 16 = .ok (.iload_n 1, 1) := by decide +kernel
theorem dX0_turnOf_17 : decode cX0_turnOf 17 = .ok (.if_icmp .ne 5, 3) := by decide +kernel
theorem dX0_turnOf_20 : decode cX0_turnOf 20 = .ok (.iload_n 2, 1) := by decide +kernel
theorem dX0_turnOf_21 : decode cX0_turnOf 21 = .ok (.ireturn, 1) := by decide +kernel
theorem dX0_turnOf_22 : decode cX0_turnOf 22 = .ok (.iinc 2 1, 3) := by decide +kernel
theorem dX0_turnOf_25 : decode cX0_turnOf 25 = .ok (.goto (-23), 3) := by decide +kernel
theorem dX0_turnOf_28 : decode cX0_turnOf 28 = .ok (.iconst (-1), 1) := by decide +kernel
theorem dX0_turnOf_29 : decode cX0_turnOf 29 = .ok (.ireturn, 1) := by decide +kernel
