set_option maxRecDepth 20000 in
theorem ggX3_init_X3_oneToSize : GoodIn wsX3_init wsX3_oneToSize := goodIn_r _ [23] (by decide +kernel) (by decide +kernel)
set_option maxRecDepth 20000 in
theorem gX3_init_X3_oneToSize : GoodIn wsX3_init (va_wsS RX3 9 yX3_oneToSize wsX3_oneToSize) := goodIn_app (goodIn_of _ (by decide +kernel)) ggX3_init_X3_oneToSize
set_option maxRecDepth 20000 in
theorem ggX3_init_X1_init : GoodIn wsX3_init wsX1_init := goodIn_r _ [26, 27, 2, 3, 16, 28, 29, 30, 31, 32, 49, 50, 51, 52, 53] (by decide +kernel) (by decide +kernel)
set_option maxRecDepth 20000 in
theorem gX3_init_X1_init : GoodIn wsX3_init (wsX1_init) := ggX3_init_X1_init
set_option maxRecDepth 20000 in
theorem ggX3_init_X2_init : GoodIn wsX3_init wsX2_init := goodIn_r _ [35, 36, 2, 3, 16, 37, 38, 39, 40, 41, 42, 43, 63, 64, 65, 66, 67, 68, 69, 70, 71, 72] (by decide +kernel) (by decide +kernel)
set_option maxRecDepth 20000 in
theorem gX3_init_X2_init : GoodIn wsX3_init (wsX2_init) := ggX3_init_X2_init
set_option maxRecDepth 20000 in
theorem ggX3_init_X0_init : GoodIn wsX3_init wsX0_init := goodIn_r _ [45, 46, 2, 3, 16, 47, 48, 73, 74, 75] (by decide +kernel) (by decide +kernel)
set_option maxRecDepth 20000 in
theorem gX3_init_X0_init_n33 : GoodIn wsX3_init (wsX0_init) := ggX3_init_X0_init
theorem dX3_init_0 : decode cX3_init 0 = .ok (.aload_n 0, 1) := by decide +kernel
theorem dX3_init_1 : decode cX3_init 1 = .ok (.invokespecial 1, 3) := by decide +kernel
theorem dX3_init_4 : decode cX3_init 4 = .ok (.iload_n 1, 1) := by decide +kernel
theorem dX3_init_5 : decode cX3_init 5 = .ok (.bipush 32, 2) := by decide +kernel
theorem dX3_init_7 : decode cX3_init 7 = .ok (.invokestatic 9, 3) := by decide +kernel
theorem dX3_init_10 : decode cX3_init 10 = .ok (.istore 4, 2) := by decide +kernel
theorem dX3_init_12 : decode cX3_init 12 = .ok (.aload_n 0, 1) := by decide +kernel
theorem dX3_init_13 : decode cX3_init 13 = .ok (.new 13, 3) := by decide +kernel
theorem dX3_init_16 : decode cX3_init 16 = .ok (.dup, 1) := by decide +kernel
theorem dX3_init_17 : decode cX3_init 17 = .ok (.iload 4, 2) := by decide +kernel
theorem dX3_init_19 : decode cX3_init 19 = .ok (.iload_n 2, 1) := by decide +kernel
theorem dX3_init_20 : decode cX3_init 20 = .ok (.bipush 64, 2) := by decide +kernel
theorem dX3_init_22 : decode cX3_init 22 = .ok (.invokestatic 9, 3) := by decide +kernel
theorem dX3_init_25 : decode cX3_init 25 = .ok (.invokespecial 15, 3) := by decide +kernel
theorem dX3_init_28 : decode cX3_init 28 = .ok (.putfield 18, 3) := by decide +kernel
theorem dX3_init_31 : decode cX3_init 31 = .ok (.aload_n 0, 1) := by decide +kernel
theorem dX3_init_32 : decode cX3_init 32 = .ok (.new 22, 3) := by decide +kernel
theorem dX3_init_35 : decode cX3_init 35 = .ok (.dup, 1) := by decide +kernel
theorem dX3_init_36 : decode cX3_init 36 = .ok (.iload_n 3, 1) := by decide +kernel
theorem dX3_init_37 : decode cX3_init 37 = .ok (.bipush 64, 2) := by decide +kernel
theorem dX3_init_39 : decode cX3_init 39 = .ok (.invokestatic 9, 3) := by decide +kernel
theorem dX3_init_42 : decode cX3_init 42 = .ok (.invokespecial 24, 3) := by decide +kernel
theorem dX3_init_45 : decode cX3_init 45 = .ok (.putfield 27, 3) := by decide +kernel
theorem dX3_init_48 : decode cX3_init 48 = .ok (.aload_n 0, 1) := by decide +kernel
theorem dX3_init_49 : decode cX3_init 49 = .ok (.new 31, 3) := by decide +kernel
theorem dX3_init_52 : decode cX3_init 52 = .ok (.dup, 1) := by decide +kernel
theorem dX3_init_53 : decode cX3_init 53 = .ok (.invokespecial 33, 3) := by decide +kernel
theorem dX3_init_56 : decode cX3_init 56 = .ok (.putfield 34, 3) := by decide +kernel
theorem dX3_init_59 : decode cX3_init 59 = .ok (.aload_n 0, 1) := by decide +kernel
theorem dX3_init_60 : decode cX3_init 60 = .ok (.iload 4, 2) := by decide +kernel
theorem dX3_init_62 : decode cX3_init 62 = .ok (.newarray .int, 2) := by decide +kernel
theorem dX3_init_64 : decode cX3_init 64 = .ok (.putfield 38, 3) := by decide +kernel
theorem dX3_init_67 : decode cX3_init 67 = .ok (.aload_n 0, 1) := by decide +kernel
theorem dX3_init_68 : decode cX3_init 68 = .ok (.iload 4, 2) := by decide +kernel
theorem dX3_init_70 : decode cX3_init 70 = .ok (.newarray .int, 2) := by decide +kernel
theorem dX3_init_72 : decode cX3_init 72 = .ok (.putfield 42, 3) := by decide +kernel
theorem dX3_init_75 : decode cX3_init 75 = .ok (.iconst 0, 1) := by decide +kernel
theorem dX3_init_76 : decode cX3_init 76 = .ok (.istore 5, 2) := by decide +kernel
theorem dX3_init_78 : decode cX3_init 78 = .ok (.iload 5, 2) := by decide +kernel
theorem dX3_init_80 : decode cX3_init 80 = .ok (.iload 4, 2) := by decide +kernel
theorem dX3_init_82 : decode cX3_init 82 = .ok (.if_icmp .ge 27, 3) := by decide +kernel
theorem dX3_init_85 : decode cX3_init 85 = .ok (.aload_n 0, 1) := by decide +kernel
theorem dX3_init_86 : decode cX3_init 86 = .ok (.getfield 38, 3) := by decide +kernel
theorem dX3_init_89 : decode cX3_init 89 = .ok (.iload 5, 2) := by decide +kernel
theorem dX3_init_91 : decode cX3_init 91 = .ok (.iload 5, 2) := by decide +kernel
theorem dX3_init_93 : decode cX3_init 93 = .ok (.iastore, 1) := by decide +kernel
theorem dX3_init_94 : decode cX3_init 94 = .ok (.aload_n 0, 1) := by decide +kernel
theorem dX3_init_95 : decode cX3_init 95 = .ok (.getfield 42, 3) := by decide +kernel
theorem dX3_init_98 : decode cX3_init 98 = .ok (.iload 5, 2) := by decide +kernel
theorem dX3_init_100 : decode cX3_init 100 = .ok (.iload 5, 2) := by decide +kernel
theorem dX3_init_102 : decode cX3_init 102 = .ok (.iastore, 1) := by decide +kernel
theorem dX3_init_103 : decode cX3_init 103 = .ok (.iinc 5 1, 3) := by decide +kernel
theorem dX3_init_106 : decode cX3_init 106 = .ok (.goto (-28), 3) := by decide +kernel
theorem dX3_init_109 : decode cX3_init 109 = .ok (.aload_n 0, 1) := by decide +kernel
theorem dX3_init_110 : decode cX3_init 110 = .ok (.bipush 8, 2) := by decide +kernel
theorem dX3_init_112 : decode cX3_init 112 = .ok (.newarray .int, 2) := by decide +kernel
theorem dX3_init_114 : decode cX3_init 114 = .ok (.putfield 45, 3) := by decide +kernel
theorem dX3_init_117 : decode cX3_init 117 = .ok (.iconst 0, 1) := by decide +kernel
theorem dX3_init_118 : decode cX3_init 118 = .ok (.istore 5, 2) := by decide +kernel
theorem dX3_init_120 : decode cX3_init 120 = .ok (.iload 5, 2) := by decide +kernel
theorem dX3_init_122 : decode cX3_init 122 = .ok (.bipush 8, 2) := by decide +kernel
theorem dX3_init_124 : decode cX3_init 124 = .ok (.if_icmp .ge 17, 3) := by decide +kernel
theorem dX3_init_127 : decode cX3_init 127 = .ok (.aload_n 0, 1) := by decide +kernel
theorem dX3_init_128 : decode cX3_init 128 = .ok (.getfield 45, 3) := by decide +kernel
theorem dX3_init_131 : decode cX3_init 131 = .ok (.iload 5, 2) := by decide +kernel
theorem dX3_init_133 : decode cX3_init 133 = .ok (.iconst (-1), 1) := by decide +kernel
theorem dX3_init_134 : decode cX3_init 134 = .ok (.iastore, 1) := by decide +kernel
theorem dX3_init_135 : decode cX3_init 135 = .ok (.iinc 5 1, 3) := by decide +kernel
theorem dX3_init_138 : decode cX3_init 138 = .ok (.goto (-18), 3) := by decide +kernel
theorem dX3_init_141 : decode cX3_init 141 = .ok (.return_, 1) := by decide +kernel
set_option maxRecDepth 20000 in
theorem ggX3_dispatch_X3_isRegisterOrNone : GoodIn wsX3_dispatch wsX3_isRegisterOrNone := goodIn_r _ [12, 13, 14, 15, 11, 16, 17, 73, 74, 75, 76, 77, 78, 79, 80, 81] (by decide +kernel) (by decide +kernel)
set_option maxRecDepth 20000 in
theorem gX3_dispatch_X3_isRegisterOrNone : GoodIn wsX3_dispatch (wsV RX3 48 RX3 yX3_isRegisterOrNone wsX3_isRegisterOrNone) := goodIn_app (goodIn_of _ (by decide +kernel)) ggX3_dispatch_X3_isRegisterOrNone
set_option maxRecDepth 20000 in
theorem ggX3_dispatch_X2_isFull : GoodIn wsX3_dispatch wsX2_isFull := goodIn_r _ [22, 23, 24, 82, 83, 84, 85, 86, 87, 88, 89, 90, 91] (by decide +kernel) (by decide +kernel)
set_option maxRecDepth 20000 in
theorem gX3_dispatch_X2_isFull : GoodIn wsX3_dispatch (wsV RX3 59 RX2 yX2_isFull wsX2_isFull) := goodIn_app (goodIn_of _ (by decide +kernel)) ggX3_dispatch_X2_isFull
set_option maxRecDepth 20000 in
theorem ggX3_dispatch_X1_freeCount : GoodIn wsX3_dispatch wsX1_freeCount := goodIn_r _ [29, 30, 92, 93, 94, 95, 96] (by decide +kernel) (by decide +kernel)
set_option maxRecDepth 20000 in
theorem gX3_dispatch_X1_freeCount : GoodIn wsX3_dispatch (wsV RX3 67 RX1 yX1_freeCount wsX1_freeCount) := goodIn_app (goodIn_of _ (by decide +kernel)) ggX3_dispatch_X1_freeCount
set_option maxRecDepth 20000 in
theorem ggX3_dispatch_X3_currentName : GoodIn wsX3_dispatch wsX3_currentName := goodIn_r _ [34, 17, 13, 14, 15, 11, 16, 73, 74, 75, 76, 77, 78, 79, 80, 81] (by decide +kernel) (by decide +kernel)
set_option maxRecDepth 20000 in
theorem gX3_dispatch_X3_currentName : GoodIn wsX3_dispatch (wsV RX3 74 RX3 yX3_currentName wsX3_currentName) := goodIn_app (goodIn_of _ (by decide +kernel)) ggX3_dispatch_X3_currentName
set_option maxRecDepth 20000 in
theorem ggX3_dispatch_X1_takeFirstFree : GoodIn wsX3_dispatch wsX1_takeFirstFree := goodIn_r _ [38, 30, 39, 40, 41, 42, 43, 44, 45, 28, 46, 92, 93, 94, 95, 96] (by decide +kernel) (by decide +kernel)
set_option maxRecDepth 20000 in
theorem gX3_dispatch_X1_takeFirstFree : GoodIn wsX3_dispatch (wsV RX3 78 RX1 yX1_takeFirstFree wsX1_takeFirstFree) := goodIn_app (goodIn_of _ (by decide +kernel)) ggX3_dispatch_X1_takeFirstFree
set_option maxRecDepth 20000 in
theorem ggX3_dispatch_X3_appendRow : GoodIn wsX3_dispatch wsX3_appendRow := goodIn_r _ [50, 4, 17, 31, 32, 33, 11, 34, 13, 14, 15, 16, 51, 52, 53, 21, 54, 23, 55, 56, 57, 58, 59, 60, 24, 61, 19, 20, 22, 62, 63, 64, 65, 66, 73, 74, 75, 76, 77, 78, 79, 80, 81, 82, 83, 84, 85, 86, 87, 88, 89, 90, 91] (by decide +kernel) (by decide +kernel)
set_option maxRecDepth 20000 in
theorem gX3_dispatch_X3_appendRow : GoodIn wsX3_dispatch (wsV RX3 81 RX3 yX3_appendRow wsX3_appendRow) := goodIn_app (goodIn_of _ (by decide +kernel)) ggX3_dispatch_X3_appendRow
theorem dX3_dispatch_0 : decode cX3_dispatch 0 = .ok (.aload_n 0, 1) := by decide +kernel
theorem dX3_dispatch_1 : decode cX3_dispatch 1 = .ok (.iload_n 1, 1) := by decide +kernel
theorem dX3_dispatch_2 : decode cX3_dispatch 2 = .ok (.invokevirtual 48, 3) := by decide +kernel
theorem dX3_dispatch_5 : decode cX3_dispatch 5 = .ok (.ifCond .eq 19, 3) := by decide +kernel
theorem dX3_dispatch_8 : decode cX3_dispatch 8 = .ok (.aload_n 0, 1) := by decide +kernel
theorem dX3_dispatch_9 : decode cX3_dispatch 9 = .ok (.iload_n 2, 1) := by decide +kernel
theorem dX3_dispatch_10 : decode cX3_dispatch 10 = .ok (.invokevirtual 48, 3) := by decide +kernel
theorem dX3_dispatch_13 : decode cX3_dispatch 13 = .ok (.ifCond .eq 11, 3) := by decide +kernel
theorem dX3_dispatch_16 : decode cX3_dispatch 16 = .ok (.aload_n 0, 1) := by decide +kernel
theorem dX3_dispatch_17 : decode cX3_dispatch 17 = .ok (.iload_n 3, 1) := by decide +kernel
theorem dX3_dispatch_18 : decode cX3_dispatch 18 = .ok (.invokevirtual 48, 3) := by decide +kernel
theorem dX3_dispatch_21 : decode cX3_dispatch 21 = .ok (.ifCond .ne 13, 3) := by decide +kernel
theorem dX3_dispatch_24 : decode cX3_dispatch 24 = .ok (.new 52, 3) := by decide +kernel
theorem dX3_dispatch_27 : decode cX3_dispatch 27 = .ok (.dup, 1) := by decide +kernel
theorem dX3_dispatch_28 : decode cX3_dispatch 28 = .ok (.ldc 54, 2) := by decide +kernel
theorem dX3_dispatch_30 : decode cX3_dispatch 30 = .ok (.invokespecial 56, 3) := by decide +kernel
theorem dX3_dispatch_33 : decode cX3_dispatch 33 = .ok (.athrow, 1) := by decide +kernel
theorem dX3_dispatch_34 : decode cX3_dispatch 34 = .ok (.aload_n 0, 1) := by decide +kernel
theorem dX3_dispatch_35 : decode cX3_dispatch 35 = .ok (.getfield 27, 3) := by decide +kernel
theorem dX3_dispatch_38 : decode cX3_dispatch 38 = .ok (.invokevirtual 59, 3) := by decide +kernel
theorem dX3_dispatch_41 : decode cX3_dispatch 41 = .ok (.ifCond .eq 15, 3) := by decide +kernel
theorem dX3_dispatch_44 : decode cX3_dispatch 44 = .ok (.aload_n 0, 1) := by decide +kernel
theorem dX3_dispatch_45 : decode cX3_dispatch 45 = .ok (.dup, 1) := by decide +kernel
theorem dX3_dispatch_46 : decode cX3_dispatch 46 = .ok (.getfield 63, 3) := by decide +kernel
theorem dX3_dispatch_49 : decode cX3_dispatch 49 = .ok (.iconst 1, 1) := by decide +kernel
theorem dX3_dispatch_50 : decode cX3_dispatch 50 = .ok (.iadd, 1) := by decide +kernel
theorem dX3_dispatch_51 : decode cX3_dispatch 51 = .ok (.putfield 63, 3) := by decide +kernel
theorem dX3_dispatch_54 : decode cX3_dispatch 54 = .ok (.iconst (-1), 1) := by decide +kernel
theorem dX3_dispatch_55 : decode cX3_dispatch 55 = .ok (.ireturn, 1) := by decide +kernel
theorem dX3_dispatch_56 : decode cX3_dispatch 56 = .ok (.iload_n 3, 1) := by decide +kernel
theorem dX3_dispatch_57 : decode cX3_dispatch 57 = .ok (.iconst (-1), 1) := by decide +kernel
theorem dX3_dispatch_58 : decode cX3_dispatch 58 = .ok (.if_icmp .eq 25, 3) := by decide +kernel
theorem dX3_dispatch_61 : decode cX3_dispatch 61 = .ok (.aload_n 0, 1) := by decide +kernel
theorem dX3_dispatch_62 : decode cX3_dispatch 62 = .ok (.getfield 18, 3) := by decide +kernel
theorem dX3_dispatch_65 : decode cX3_dispatch 65 = .ok (.invokevirtual 67, 3) := by decide +kernel
theorem dX3_dispatch_68 : decode cX3_dispatch 68 = .ok (.ifCond .ne 15, 3) := by decide +kernel
theorem dX3_dispatch_71 : decode cX3_dispatch 71 = .ok (.aload_n 0, 1) := by decide +kernel
theorem dX3_dispatch_72 : decode cX3_dispatch 72 = .ok (.dup, 1) := by decide +kernel
theorem dX3_dispatch_73 : decode cX3_dispatch 73 = .ok (.getfield 71, 3) := by decide +kernel
theorem dX3_dispatch_76 : decode cX3_dispatch 76 = .ok (.iconst 1, 1) := by decide +kernel
theorem dX3_dispatch_77 : decode cX3_dispatch 77 = .ok (.iadd, 1) := by decide +kernel
theorem dX3_dispatch_78 : decode cX3_dispatch 78 = .ok (.putfield 71, 3) := by decide +kernel
theorem dX3_dispatch_81 : decode cX3_dispatch 81 = .ok (.iconst (-1), 1) := by decide +kernel
theorem dX3_dispatch_82 : decode cX3_dispatch 82 = .ok (.ireturn, 1) := by decide +kernel
theorem dX3_dispatch_83 : decode cX3_dispatch 83 = .ok (.aload_n 0, 1) := by decide +kernel
theorem dX3_dispatch_84 : decode cX3_dispatch 84 = .ok (.iload_n 1, 1) := by decide +kernel
theorem dX3_dispatch_85 : decode cX3_dispatch 85 = .ok (.invokevirtual 74, 3) := by decide +kernel
theorem dX3_dispatch_88 : decode cX3_dispatch 88 = .ok (.istore 4, 2) := by decide +kernel
theorem dX3_dispatch_90 : decode cX3_dispatch 90 = .ok (.aload_n 0, 1) := by decide +kernel
theorem dX3_dispatch_91 : decode cX3_dispatch 91 = .ok (.iload_n 2, 1) := by decide +kernel
theorem dX3_dispatch_92 : decode cX3_dispatch 92 = .ok (.invokevirtual 74, 3) := by decide +kernel
theorem dX3_dispatch_95 : decode cX3_dispatch 95 = .ok (.istore 5, 2) := by decide +kernel
theorem dX3_dispatch_97 : decode cX3_dispatch 97 = .ok (.iload_n 3, 1) := by decide +kernel
theorem dX3_dispatch_98 : decode cX3_dispatch 98 = .ok (.iconst (-1), 1) := by decide +kernel
theorem dX3_dispatch_99 : decode cX3_dispatch 99 = .ok (.if_icmp .ne 7, 3) := by decide +kernel
theorem dX3_dispatch_102 : decode cX3_dispatch 102 = .ok (.iconst (-1), 1) := by decide +kernel
theorem dX3_dispatch_103 : decode cX3_dispatch 103 = .ok (.goto 10, 3) := by decide +kernel
theorem dX3_dispatch_106 : decode cX3_dispatch 106 = .ok (.aload_n 0, 1) := by decide +kernel
theorem dX3_dispatch_107 : decode cX3_dispatch 107 = .ok (.getfield 18, 3) := by decide +kernel
theorem dX3_dispatch_110 : decode cX3_dispatch 110 = .ok (.invokevirtual 78, 3) := by decide +kernel
theorem dX3_dispatch_113 : decode cX3_dispatch 113 = .ok (.istore 6, 2) := by decide +kernel
theorem dX3_dispatch_115 : decode cX3_dispatch 115 = .ok (.aload_n 0, 1) := by decide +kernel
theorem dX3_dispatch_116 : decode cX3_dispatch 116 = .ok (.iload 4, 2) := by decide +kernel
theorem dX3_dispatch_118 : decode cX3_dispatch 118 = .ok (.iload 5, 2) := by decide +kernel
theorem dX3_dispatch_120 : decode cX3_dispatch 120 = .ok (.iload 6, 2) := by decide +kernel
theorem dX3_dispatch_122 : decode cX3_dispatch 122 = .ok (.iload_n 3, 1) := by decide +kernel
theorem dX3_dispatch_123 : decode cX3_dispatch 123 = .ok (.iconst 0, 1) := by decide +kernel
theorem dX3_dispatch_124 : decode cX3_dispatch 124 = .ok (.invokevirtual 81, 3) := by decide +kernel
theorem dX3_dispatch_127 : decode cX3_dispatch 127 = .ok (.ireturn, 1) := by decide +kernel
set_option maxRecDepth 20000 in
theorem ggX3_move_X3_isRegister : GoodIn wsX3_move wsX3_isRegister := goodIn_r _ [11, 12, 60, 61, 62, 63, 64, 65, 66, 67, 68] (by decide +kernel) (by decide +kernel)
set_option maxRecDepth 20000 in
theorem gX3_move_X3_isRegister : GoodIn wsX3_move (wsV RX3 85 RX3 yX3_isRegister wsX3_isRegister) := goodIn_app (goodIn_of _ (by decide +kernel)) ggX3_move_X3_isRegister
set_option maxRecDepth 20000 in
theorem ggX3_move_X2_isFull : GoodIn wsX3_move wsX2_isFull := goodIn_r _ [17, 18, 19, 69, 70, 71, 72, 73, 74, 75, 76, 77, 78] (by decide +kernel) (by decide +kernel)
set_option maxRecDepth 20000 in
theorem gX3_move_X2_isFull : GoodIn wsX3_move (wsV RX3 59 RX2 yX2_isFull wsX2_isFull) := goodIn_app (goodIn_of _ (by decide +kernel)) ggX3_move_X2_isFull
set_option maxRecDepth 20000 in
theorem ggX3_move_X3_currentName : GoodIn wsX3_move wsX3_currentName := goodIn_r _ [23, 12, 7, 8, 9, 10, 11, 60, 61, 62, 63, 64, 65, 66, 67, 68] (by decide +kernel) (by decide +kernel)
set_option maxRecDepth 20000 in
theorem gX3_move_X3_currentName : GoodIn wsX3_move (wsV RX3 74 RX3 yX3_currentName wsX3_currentName) := goodIn_app (goodIn_of _ (by decide +kernel)) ggX3_move_X3_currentName
set_option maxRecDepth 20000 in
theorem ggX3_move_X1_addShare : GoodIn wsX3_move wsX1_addShare := goodIn_r _ [28, 29, 30, 31, 32, 27, 33, 79, 80, 81, 82, 83] (by decide +kernel) (by decide +kernel)
set_option maxRecDepth 20000 in
theorem gX3_move_X1_addShare : GoodIn wsX3_move (wsV RX3 88 RX1 yX1_addShare wsX1_addShare) := goodIn_app (goodIn_of _ (by decide +kernel)) ggX3_move_X1_addShare
set_option maxRecDepth 20000 in
theorem ggX3_move_X3_appendRow : GoodIn wsX3_move wsX3_appendRow := goodIn_r _ [37, 4, 12, 20, 21, 22, 10, 23, 7, 8, 9, 11, 38, 39, 40, 16, 41, 18, 42, 43, 44, 45, 46, 47, 19, 48, 14, 15, 17, 49, 50, 51, 52, 53, 60, 61, 62, 63, 64, 65, 66, 67, 68, 69, 70, 71, 72, 73, 74, 75, 76, 77, 78] (by decide +kernel) (by decide +kernel)
set_option maxRecDepth 20000 in
theorem gX3_move_X3_appendRow : GoodIn wsX3_move (wsV RX3 81 RX3 yX3_appendRow wsX3_appendRow) := goodIn_app (goodIn_of _ (by decide +kernel)) ggX3_move_X3_appendRow
theorem dX3_move_0 : decode cX3_move 0 = .ok (.aload_n 0, 1) := by decide +kernel
theorem dX3_move_1 : decode cX3_move 1 = .ok (.iload_n 1, 1) := by decide +kernel
theorem dX3_move_2 : decode cX3_move 2 = .ok (.invokevirtual 85, 3) := by decide +kernel
theorem dX3_move_5 : decode cX3_move 5 = .ok (.ifCond .eq 11, 3) := by decide +kernel
theorem dX3_move_8 : decode cX3_move 8 = .ok (.aload_n 0, 1) := by decide +kernel
theorem dX3_move_9 : decode cX3_move 9 = .ok (.iload_n 2, 1) := by decide +kernel
theorem dX3_move_10 : decode cX3_move 10 = .ok (.invokevirtual 85, 3) := by decide +kernel
theorem dX3_move_13 : decode cX3_move 13 = .ok (.ifCond .ne 13, 3) := by decide +kernel
theorem dX3_move_16 : decode cX3_move 16 = .ok (.new 52, 3) := by decide +kernel
theorem dX3_move_19 : decode cX3_move 19 = .ok (.dup, 1) := by decide +kernel
theorem dX3_move_20 : decode cX3_move 20 = .ok (.ldc 54, 2) := by decide +kernel
theorem dX3_move_22 : decode cX3_move 22 = .ok (.invokespecial 56, 3) := by decide +kernel
theorem dX3_move_25 : decode cX3_move 25 = .ok (.athrow, 1) := by decide +kernel
theorem dX3_move_26 : decode cX3_move 26 = .ok (.aload_n 0, 1) := by decide +kernel
theorem dX3_move_27 : decode cX3_move 27 = .ok (.getfield 27, 3) := by decide +kernel
theorem dX3_move_30 : decode cX3_move 30 = .ok (.invokevirtual 59, 3) := by decide +kernel
theorem dX3_move_33 : decode cX3_move 33 = .ok (.ifCond .eq 15, 3) := by decide +kernel
theorem dX3_move_36 : decode cX3_move 36 = .ok (.aload_n 0, 1) := by decide +kernel
theorem dX3_move_37 : decode cX3_move 37 = .ok (.dup, 1) := by decide +kernel
theorem dX3_move_38 : decode cX3_move 38 = .ok (.getfield 63, 3) := by decide +kernel
theorem dX3_move_41 : decode cX3_move 41 = .ok (.iconst 1, 1) := by decide +kernel
theorem dX3_move_42 : decode cX3_move 42 = .ok (.iadd, 1) := by decide +kernel
theorem dX3_move_43 : decode cX3_move 43 = .ok (.putfield 63, 3) := by decide +kernel
theorem dX3_move_46 : decode cX3_move 46 = .ok (.iconst (-1), 1) := by decide +kernel
theorem dX3_move_47 : decode cX3_move 47 = .ok (.ireturn, 1) := by decide +kernel
theorem dX3_move_48 : decode cX3_move 48 = .ok (.aload_n 0, 1) := by decide +kernel
theorem dX3_move_49 : decode cX3_move 49 = .ok (.iload_n 1, 1) := by decide +kernel
theorem dX3_move_50 : decode cX3_move 50 = .ok (.invokevirtual 74, 3) := by decide +kernel
theorem dX3_move_53 : decode cX3_move 53 = .ok (.istore_n 3, 1) := by decide +kernel
theorem dX3_move_54 : decode cX3_move 54 = .ok (.aload_n 0, 1) := by decide +kernel
theorem dX3_move_55 : decode cX3_move 55 = .ok (.getfield 18, 3) := by decide +kernel
theorem dX3_move_58 : decode cX3_move 58 = .ok (.iload_n 3, 1) := by decide +kernel
theorem dX3_move_59 : decode cX3_move 59 = .ok (.invokevirtual 88, 3) := by decide +kernel
theorem dX3_move_62 : decode cX3_move 62 = .ok (.aload_n 0, 1) := by decide +kernel
theorem dX3_move_63 : decode cX3_move 63 = .ok (.iload_n 3, 1) := by decide +kernel
theorem dX3_move_64 : decode cX3_move 64 = .ok (.iconst (-1), 1) := by decide +kernel
theorem dX3_move_65 : decode cX3_move 65 = .ok (.iload_n 3, 1) := by decide +kernel
theorem dX3_move_66 : decode cX3_move 66 = .ok (.iload_n 2, 1) := by decide +kernel
theorem dX3_move_67 : decode cX3_move 67 = .ok (.iconst 2, 1) := by decide +kernel
theorem dX3_move_68 : decode cX3_move 68 = .ok (.invokevirtual 81, 3) := by decide +kernel
theorem dX3_move_71 : decode cX3_move 71 = .ok (.ireturn, 1) := by decide +kernel
set_option maxRecDepth 20000 in
theorem ggX3_port_X2_isPlace : GoodIn wsX3_port wsX2_isPlace := goodIn_r _ [13, 14, 54, 55, 56, 57, 58, 59, 60, 61, 62, 63] (by decide +kernel) (by decide +kernel)
set_option maxRecDepth 20000 in
theorem gX3_port_X2_isPlace : GoodIn wsX3_port (wsV RX3 91 RX2 yX2_isPlace wsX2_isPlace) := goodIn_app (goodIn_of _ (by decide +kernel)) ggX3_port_X2_isPlace
set_option maxRecDepth 20000 in
theorem ggX3_port_X2_isInState : GoodIn wsX3_port wsX2_isInState := goodIn_r _ [18, 14, 19, 20, 21, 12, 22, 23, 24, 10, 11, 13, 25, 26, 27, 28, 29, 54, 55, 56, 57, 58, 59, 60, 61, 62, 63] (by decide +kernel) (by decide +kernel)
set_option maxRecDepth 20000 in
theorem gX3_port_X2_isInState : GoodIn wsX3_port (wsV RX3 96 RX2 yX2_isInState wsX2_isInState) := goodIn_app (goodIn_of _ (by decide +kernel)) ggX3_port_X2_isInState
set_option maxRecDepth 20000 in
theorem ggX3_port_X2_portAt : GoodIn wsX3_port wsX2_portAt := goodIn_r _ [33, 34, 24, 10, 11, 12, 13, 14, 54, 55, 56, 57, 58, 59, 60, 61, 62, 63] (by decide +kernel) (by decide +kernel)
set_option maxRecDepth 20000 in
theorem gX3_port_X2_portAt : GoodIn wsX3_port (wsV RX3 110 RX2 yX2_portAt wsX2_portAt) := goodIn_app (goodIn_of _ (by decide +kernel)) ggX3_port_X2_portAt
set_option maxRecDepth 20000 in
theorem ggX3_port_X2_setPort : GoodIn wsX3_port wsX2_setPort := goodIn_r _ [38, 34, 24, 10, 11, 12, 13, 14, 54, 55, 56, 57, 58, 59, 60, 61, 62, 63] (by decide +kernel) (by decide +kernel)
set_option maxRecDepth 20000 in
theorem gX3_port_X2_setPort : GoodIn wsX3_port (wsV RX3 113 RX2 yX2_setPort wsX2_setPort) := goodIn_app (goodIn_of _ (by decide +kernel)) ggX3_port_X2_setPort
theorem dX3_port_0 : decode cX3_port 0 = .ok (.aload_n 0, 1) := by decide +kernel
theorem dX3_port_1 : decode cX3_port 1 = .ok (.getfield 27, 3) := by decide +kernel
theorem dX3_port_4 : decode cX3_port 4 = .ok (.iload_n 1, 1) := by decide +kernel
theorem dX3_port_5 : decode cX3_port 5 = .ok (.invokevirtual 91, 3) := by decide +kernel
theorem dX3_port_8 : decode cX3_port 8 = .ok (.ifCond .ne 13, 3) := by decide +kernel
theorem dX3_port_11 : decode cX3_port 11 = .ok (.new 52, 3) := by decide +kernel
theorem dX3_port_14 : decode cX3_port 14 = .ok (.dup, 1) := by decide +kernel
theorem dX3_port_15 : decode cX3_port 15 = .ok (.ldc 94, 2) := by decide +kernel
theorem dX3_port_17 : decode cX3_port 17 = .ok (.invokespecial 56, 3) := by decide +kernel
theorem dX3_port_20 : decode cX3_port 20 = .ok (.athrow, 1) := by decide +kernel
theorem dX3_port_21 : decode cX3_port 21 = .ok (.aload_n 0, 1) := by decide +kernel
theorem dX3_port_22 : decode cX3_port 22 = .ok (.getfield 27, 3) := by decide +kernel
theorem dX3_port_25 : decode cX3_port 25 = .ok (.iload_n 1, 1) := by decide +kernel
theorem dX3_port_26 : decode cX3_port 26 = .ok (.iconst 0, 1) := by decide +kernel
theorem dX3_port_27 : decode cX3_port 27 = .ok (.invokevirtual 96, 3) := by decide +kernel
theorem dX3_port_30 : decode cX3_port 30 = .ok (.ifCond .ne 13, 3) := by decide +kernel
theorem dX3_port_33 : decode cX3_port 33 = .ok (.new 100, 3) := by decide +kernel
theorem dX3_port_36 : decode cX3_port 36 = .ok (.dup, 1) := by decide +kernel
theorem dX3_port_37 : decode cX3_port 37 = .ok (.ldc 102, 2) := by decide +kernel
theorem dX3_port_39 : decode cX3_port 39 = .ok (.invokespecial 104, 3) := by decide +kernel
theorem dX3_port_42 : decode cX3_port 42 = .ok (.athrow, 1) := by decide +kernel
theorem dX3_port_43 : decode cX3_port 43 = .ok (.iload_n 2, 1) := by decide +kernel
theorem dX3_port_44 : decode cX3_port 44 = .ok (.ifCond .lt 9, 3) := by decide +kernel
theorem dX3_port_47 : decode cX3_port 47 = .ok (.iload_n 2, 1) := by decide +kernel
theorem dX3_port_48 : decode cX3_port 48 = .ok (.bipush 8, 2) := by decide +kernel
theorem dX3_port_50 : decode cX3_port 50 = .ok (.if_icmp .lt 13, 3) := by decide +kernel
theorem dX3_port_53 : decode cX3_port 53 = .ok (.new 105, 3) := by decide +kernel
theorem dX3_port_56 : decode cX3_port 56 = .ok (.dup, 1) := by decide +kernel
theorem dX3_port_57 : decode cX3_port 57 = .ok (.ldc 107, 2) := by decide +kernel
theorem dX3_port_59 : decode cX3_port 59 = .ok (.invokespecial 109, 3) := by decide +kernel
theorem dX3_port_62 : decode cX3_port 62 = .ok (.athrow, 1) := by decide +kernel
theorem dX3_port_63 : decode cX3_port 63 = .ok (.aload_n 0, 1) := by decide +kernel
theorem dX3_port_64 : decode cX3_port 64 = .ok (.getfield 27, 3) := by decide +kernel
theorem dX3_port_67 : decode cX3_port 67 = .ok (.iload_n 1, 1) := by decide +kernel
theorem dX3_port_68 : decode cX3_port 68 = .ok (.invokevirtual 110, 3) := by decide +kernel
theorem dX3_port_71 : decode cX3_port 71 = .ok (.istore_n 3, 1) := by decide +kernel
theorem dX3_port_72 : decode cX3_port 72 = .ok (.aload_n 0, 1) := by decide +kernel
theorem dX3_port_73 : decode cX3_port 73 = .ok (.getfield 27, 3) := by decide +kernel
theorem dX3_port_76 : decode cX3_port 76 = .ok (.iload_n 1, 1) := by decide +kernel
theorem dX3_port_77 : decode cX3_port 77 = .ok (.iload_n 2, 1) := by decide +kernel
theorem dX3_port_78 : decode cX3_port 78 = .ok (.invokevirtual 113, 3) := by decide +kernel
theorem dX3_port_81 : decode cX3_port 81 = .ok (.iload_n 3, 1) := by decide +kernel
theorem dX3_port_82 : decode cX3_port 82 = .ok (.ireturn, 1) := by decide +kernel
set_option maxRecDepth 20000 in
theorem ggX3_select_X3_oldestAbleFor : GoodIn wsX3_select wsX3_oldestAbleFor := goodIn_r _ [9, 4, 10, 11, 12, 13, 14, 15, 16, 17, 18, 19, 20, 21, 22, 23, 24, 25, 26, 27, 28, 29, 30, 31, 32, 33, 8, 34, 35, 36, 37, 38, 39, 40, 41, 42, 43, 44, 45, 46, 47, 48, 49, 50, 51, 52, 53, 54, 55, 56, 57, 58, 59, 60, 61, 62, 63, 64, 65, 66, 67, 68, 73, 74, 75, 76, 77, 78, 79, 80, 81, 82, 83, 84, 85, 86, 87, 88, 89, 90, 91, 92, 93, 94, 95, 96] (by decide +kernel) (by decide +kernel)
set_option maxRecDepth 20000 in
theorem gX3_select_X3_oldestAbleFor : GoodIn wsX3_select (wsV RX3 118 RX3 yX3_oldestAbleFor wsX3_oldestAbleFor) := goodIn_app (goodIn_of _ (by decide +kernel)) ggX3_select_X3_oldestAbleFor
set_option maxRecDepth 20000 in
theorem ggX3_select_X2_setState : GoodIn wsX3_select wsX2_setState := goodIn_r _ [72, 21, 27, 28, 29, 13, 30, 82, 83, 84, 85, 86, 87, 88, 89, 90, 91] (by decide +kernel) (by decide +kernel)
set_option maxRecDepth 20000 in
theorem gX3_select_X2_setState : GoodIn wsX3_select (wsV RX3 121 RX2 yX2_setState wsX2_setState) := goodIn_app (goodIn_of _ (by decide +kernel)) ggX3_select_X2_setState
theorem dX3_select_0 : decode cX3_select 0 = .ok (.iload_n 1, 1) := by decide +kernel
theorem dX3_select_1 : decode cX3_select 1 = .ok (.iconst 1, 1) := by decide +kernel
theorem dX3_select_2 : decode cX3_select 2 = .ok (.if_icmp .lt 9, 3) := by decide +kernel
theorem dX3_select_5 : decode cX3_select 5 = .ok (.iload_n 1, 1) := by decide +kernel
theorem dX3_select_6 : decode cX3_select 6 = .ok (.bipush 8, 2) := by decide +kernel
theorem dX3_select_8 : decode cX3_select 8 = .ok (.if_icmp .le 13, 3) := by decide +kernel
theorem dX3_select_11 : decode cX3_select 11 = .ok (.new 105, 3) := by decide +kernel
theorem dX3_select_14 : decode cX3_select 14 = .ok (.dup, 1) := by decide +kernel
theorem dX3_select_15 : decode cX3_select 15 = .ok (.ldc 116, 2) := by decide +kernel
theorem dX3_select_17 : decode cX3_select 17 = .ok (.invokespecial 109, 3) := by decide +kernel
theorem dX3_select_20 : decode cX3_select 20 = .ok (.athrow, 1) := by decide +kernel
theorem dX3_select_21 : decode cX3_select 21 = .ok (.iconst 0, 1) := by decide +kernel
theorem dX3_select_22 : decode cX3_select 22 = .ok (.istore_n 2, 1) := by decide +kernel
theorem dX3_select_23 : decode cX3_select 23 = .ok (.iconst 0, 1) := by decide +kernel
theorem dX3_select_24 : decode cX3_select 24 = .ok (.istore_n 3, 1) := by decide +kernel
theorem dX3_select_25 : decode cX3_select 25 = .ok (.iload_n 3, 1) := by decide +kernel
theorem dX3_select_26 : decode cX3_select 26 = .ok (.bipush 8, 2) := by decide +kernel
theorem dX3_select_28 : decode cX3_select 28 = .ok (.if_icmp .ge 52, 3) := by decide +kernel
theorem dX3_select_31 : decode cX3_select 31 = .ok (.iload_n 3, 1) := by decide +kernel
theorem dX3_select_32 : decode cX3_select 32 = .ok (.iload_n 1, 1) := by decide +kernel
theorem dX3_select_33 : decode cX3_select 33 = .ok (.if_icmp .ge 11, 3) := by decide +kernel
theorem dX3_select_36 : decode cX3_select 36 = .ok (.aload_n 0, 1) := by decide +kernel
theorem dX3_select_37 : decode cX3_select 37 = .ok (.iload_n 3, 1) := by decide +kernel
theorem dX3_select_38 : decode cX3_select 38 = .ok (.invokevirtual 118, 3) := by decide +kernel
theorem dX3_select_41 : decode cX3_select 41 = .ok (.goto 4, 3) := by decide +kernel
theorem dX3_select_44 : decode cX3_select 44 = .ok (.iconst (-1), 1) := by decide +kernel
theorem dX3_select_45 : decode cX3_select 45 = .ok (.istore 4, 2) := by decide +kernel
theorem dX3_select_47 : decode cX3_select 47 = .ok (.aload_n 0, 1) := by decide +kernel
theorem dX3_select_48 : decode cX3_select 48 = .ok (.getfield 45, 3) := by decide +kernel
theorem dX3_select_51 : decode cX3_select 51 = .ok (.iload_n 3, 1) := by decide +kernel
theorem dX3_select_52 : decode cX3_select 52 = .ok (.iload 4, 2) := by decide +kernel
theorem dX3_select_54 : decode cX3_select 54 = .ok (.iastore, 1) := by decide +kernel
theorem dX3_select_55 : decode cX3_select 55 = .ok (.iload 4, 2) := by decide +kernel
theorem dX3_select_57 : decode cX3_select 57 = .ok (.iconst (-1), 1) := by decide +kernel
theorem dX3_select_58 : decode cX3_select 58 = .ok (.if_icmp .eq 16, 3) := by decide +kernel
theorem dX3_select_61 : decode cX3_select 61 = .ok (.aload_n 0, 1) := by decide +kernel
theorem dX3_select_62 : decode cX3_select 62 = .ok (.getfield 27, 3) := by decide +kernel
theorem dX3_select_65 : decode cX3_select 65 = .ok (.iload 4, 2) := by decide +kernel
theorem dX3_select_67 : decode cX3_select 67 = .ok (.iconst 1, 1) := by decide +kernel
theorem dX3_select_68 : decode cX3_select 68 = .ok (.invokevirtual 121, 3) := by decide +kernel
theorem dX3_select_71 : decode cX3_select 71 = .ok (.iinc 2 1, 3) := by decide +kernel
theorem dX3_select_74 : decode cX3_select 74 = .ok (.iinc 3 1, 3) := by decide +kernel
theorem dX3_select_77 : decode cX3_select 77 = .ok (.goto (-52), 3) := by decide +kernel
theorem dX3_select_80 : decode cX3_select 80 = .ok (.iload_n 2, 1) := by decide +kernel
theorem dX3_select_81 : decode cX3_select 81 = .ok (.ireturn, 1) := by decide +kernel
theorem dX3_selected_0 : decode cX3_selected 0 = .ok (.iload_n 1, 1) := by decide +kernel
theorem dX3_selected_1 : decode cX3_selected 1 = .ok (.ifCond .lt 9, 3) := by decide +kernel
theorem dX3_selected_4 : decode cX3_selected 4 = .ok (.iload_n 1, 1) := by decide +kernel
theorem dX3_selected_5 : decode cX3_selected 5 = .ok (.bipush 8, 2) := by decide +kernel
theorem dX3_selected_7 : decode cX3_selected 7 = .ok (.if_icmp .lt 13, 3) := by decide +kernel
theorem dX3_selected_10 : decode cX3_selected 10 = .ok (.new 52, 3) := by decide +kernel
theorem dX3_selected_13 : decode cX3_selected 13 = .ok (.dup, 1) := by decide +kernel
theorem dX3_selected_14 : decode cX3_selected 14 = .ok (.ldc 107, 2) := by decide +kernel
theorem dX3_selected_16 : decode cX3_selected 16 = .ok (.invokespecial 56, 3) := by decide +kernel
theorem dX3_selected_19 : decode cX3_selected 19 = .ok (.athrow, 1) := by decide +kernel
theorem dX3_selected_20 : decode cX3_selected 20 = .ok (.aload_n 0, 1) := by decide +kernel
theorem dX3_selected_21 : decode cX3_selected 21 = .ok (.getfield 45, 3) := by decide +kernel
theorem dX3_selected_24 : decode cX3_selected 24 = .ok (.iload_n 1, 1) := by decide +kernel
theorem dX3_selected_25 : decode cX3_selected 25 = .ok (.iaload, 1) := by decide +kernel
theorem dX3_selected_26 : decode cX3_selected 26 = .ok (.ireturn, 1) := by decide +kernel
set_option maxRecDepth 20000 in
theorem ggX3_end_X2_isPlace : GoodIn wsX3_end wsX2_isPlace := goodIn_r _ [12, 13, 95, 96, 97, 98, 99, 100, 101, 102, 103, 104] (by decide +kernel) (by decide +kernel)
set_option maxRecDepth 20000 in
theorem gX3_end_X2_isPlace : GoodIn wsX3_end (wsV RX3 91 RX2 yX2_isPlace wsX2_isPlace) := goodIn_app (goodIn_of _ (by decide +kernel)) ggX3_end_X2_isPlace
set_option maxRecDepth 20000 in
theorem ggX3_end_X2_isInState : GoodIn wsX3_end wsX2_isInState := goodIn_r _ [17, 13, 18, 19, 20, 11, 21, 22, 23, 9, 10, 12, 24, 25, 26, 27, 28, 95, 96, 97, 98, 99, 100, 101, 102, 103, 104] (by decide +kernel) (by decide +kernel)
set_option maxRecDepth 20000 in
theorem gX3_end_X2_isInState : GoodIn wsX3_end (wsV RX3 96 RX2 yX2_isInState wsX2_isInState) := goodIn_app (goodIn_of _ (by decide +kernel)) ggX3_end_X2_isInState
set_option maxRecDepth 20000 in
theorem ggX3_end_X2_setState : GoodIn wsX3_end wsX2_setState := goodIn_r _ [32, 13, 23, 9, 10, 11, 12, 95, 96, 97, 98, 99, 100, 101, 102, 103, 104] (by decide +kernel) (by decide +kernel)
set_option maxRecDepth 20000 in
theorem gX3_end_X2_setState : GoodIn wsX3_end (wsV RX3 121 RX2 yX2_setState wsX2_setState) := goodIn_app (goodIn_of _ (by decide +kernel)) ggX3_end_X2_setState
set_option maxRecDepth 20000 in
theorem ggX3_end_X3_countAble : GoodIn wsX3_end wsX3_countAble := goodIn_r _ [37, 3, 38, 39, 40, 11, 41, 22, 42, 43, 44, 45, 28, 13, 46, 47, 48, 36, 49, 7, 14, 15, 16, 17, 18, 19, 20, 21, 23, 9, 10, 12, 24, 25, 26, 27, 50, 51, 52, 53, 54, 55, 56, 57, 58, 59, 60, 61, 62, 63, 64, 65, 66, 67, 68, 69, 70, 80, 81, 82, 83, 84, 85, 86, 87, 88, 95, 96, 97, 98, 99, 100, 101, 102, 103, 104, 105, 106, 107, 108, 109] (by decide +kernel) (by decide +kernel)
set_option maxRecDepth 20000 in
theorem gX3_end_X3_countAble : GoodIn wsX3_end (wsV RX3 126 RX3 yX3_countAble wsX3_countAble) := goodIn_app (goodIn_of _ (by decide +kernel)) ggX3_end_X3_countAble
set_option maxRecDepth 20000 in
theorem ggX3_end_X2_givenAt : GoodIn wsX3_end wsX2_givenAt := goodIn_r _ [74, 75, 23, 9, 10, 11, 12, 13, 95, 96, 97, 98, 99, 100, 101, 102, 103, 104] (by decide +kernel) (by decide +kernel)
set_option maxRecDepth 20000 in
theorem gX3_end_X2_givenAt : GoodIn wsX3_end (wsV RX3 129 RX2 yX2_givenAt wsX2_givenAt) := goodIn_app (goodIn_of _ (by decide +kernel)) ggX3_end_X2_givenAt
set_option maxRecDepth 20000 in
theorem ggX3_end_X1_makeReady : GoodIn wsX3_end wsX1_makeReady := goodIn_r _ [79, 60, 61, 62, 63, 58, 64, 65, 105, 106, 107, 108, 109] (by decide +kernel) (by decide +kernel)
set_option maxRecDepth 20000 in
theorem gX3_end_X1_makeReady : GoodIn wsX3_end (wsV RX3 132 RX1 yX1_makeReady wsX1_makeReady) := goodIn_app (goodIn_of _ (by decide +kernel)) ggX3_end_X1_makeReady
theorem dX3_end_0 : decode cX3_end 0 = .ok (.aload_n 0, 1) := by decide +kernel
theorem dX3_end_1 : decode cX3_end 1 = .ok (.getfield 27, 3) := by decide +kernel
theorem dX3_end_4 : decode cX3_end 4 = .ok (.iload_n 1, 1) := by decide +kernel
theorem dX3_end_5 : decode cX3_end 5 = .ok (.invokevirtual 91, 3) := by decide +kernel
theorem dX3_end_8 : decode cX3_end 8 = .ok (.ifCond .ne 13, 3) := by decide +kernel
theorem dX3_end_11 : decode cX3_end 11 = .ok (.new 52, 3) := by decide +kernel
theorem dX3_end_14 : decode cX3_end 14 = .ok (.dup, 1) := by decide +kernel
theorem dX3_end_15 : decode cX3_end 15 = .ok (.ldc 94, 2) := by decide +kernel
theorem dX3_end_17 : decode cX3_end 17 = .ok (.invokespecial 56, 3) := by decide +kernel
theorem dX3_end_20 : decode cX3_end 20 = .ok (.athrow, 1) := by decide +kernel
theorem dX3_end_21 : decode cX3_end 21 = .ok (.aload_n 0, 1) := by decide +kernel
theorem dX3_end_22 : decode cX3_end 22 = .ok (.getfield 27, 3) := by decide +kernel
theorem dX3_end_25 : decode cX3_end 25 = .ok (.iload_n 1, 1) := by decide +kernel
theorem dX3_end_26 : decode cX3_end 26 = .ok (.iconst 1, 1) := by decide +kernel
theorem dX3_end_27 : decode cX3_end 27 = .ok (.invokevirtual 96, 3) := by decide +kernel
theorem dX3_end_30 : decode cX3_end 30 = .ok (.ifCond .ne 13, 3) := by decide +kernel
theorem dX3_end_33 : decode cX3_end 33 = .ok (.new 100, 3) := by decide +kernel
theorem dX3_end_36 : decode cX3_end 36 = .ok (.dup, 1) := by decide +kernel
theorem dX3_end_37 : decode cX3_end 37 = .ok (.ldc 124, 2) := by decide +kernel
theorem dX3_end_39 : decode cX3_end 39 = .ok (.invokespecial 104, 3) := by decide +kernel
theorem dX3_end_42 : decode cX3_end 42 = .ok (.athrow, 1) := by decide +kernel
theorem dX3_end_43 : decode cX3_end 43 = .ok (.aload_n 0, 1) := by decide +kernel
theorem dX3_end_44 : decode cX3_end 44 = .ok (.getfield 27, 3) := by decide +kernel
theorem dX3_end_47 : decode cX3_end 47 = .ok (.iload_n 1, 1) := by decide +kernel
theorem dX3_end_48 : decode cX3_end 48 = .ok (.iconst 2, 1) := by decide +kernel
theorem dX3_end_49 : decode cX3_end 49 = .ok (.invokevirtual 121, 3) := by decide +kernel
theorem dX3_end_52 : decode cX3_end 52 = .ok (.aload_n 0, 1) := by decide +kernel
theorem dX3_end_53 : decode cX3_end 53 = .ok (.invokevirtual 126, 3) := by decide +kernel
theorem dX3_end_56 : decode cX3_end 56 = .ok (.istore_n 2, 1) := by decide +kernel
theorem dX3_end_57 : decode cX3_end 57 = .ok (.aload_n 0, 1) := by decide +kernel
theorem dX3_end_58 : decode cX3_end 58 = .ok (.getfield 18, 3) := by decide +kernel
theorem dX3_end_61 : decode cX3_end 61 = .ok (.aload_n 0, 1) := by decide +kernel
theorem dX3_end_62 : decode cX3_end 62 = .ok (.getfield 27, 3) := by decide +kernel
theorem dX3_end_65 : decode cX3_end 65 = .ok (.iload_n 1, 1) := by decide +kernel
theorem dX3_end_66 : decode cX3_end 66 = .ok (.invokevirtual 129, 3) := by decide +kernel
theorem dX3_end_69 : decode cX3_end 69 = .ok (.invokevirtual 132, 3) := by decide +kernel
theorem dX3_end_72 : decode cX3_end 72 = .ok (.aload_n 0, 1) := by decide +kernel
theorem dX3_end_73 : decode cX3_end 73 = .ok (.invokevirtual 126, 3) := by decide +kernel
theorem dX3_end_76 : decode cX3_end 76 = .ok (.iload_n 2, 1) := by decide +kernel
theorem dX3_end_77 : decode cX3_end 77 = .ok (.isub, 1) := by decide +kernel
theorem dX3_end_78 : decode cX3_end 78 = .ok (.ireturn, 1) := by decide +kernel
set_option maxRecDepth 20000 in
theorem ggX3_commit_X3_rowsBeforeOldestMark : GoodIn wsX3_commit wsX3_rowsBeforeOldestMark := goodIn_r _ [12, 13, 7, 14, 15, 16, 17, 18, 19, 20, 21, 22, 23, 24, 25, 26, 27, 28, 29, 30, 31, 32, 33, 34, 35, 36, 37, 38, 39, 40, 114, 115, 116, 117, 118, 119, 120, 121, 122, 123, 124, 125, 126, 127, 128, 129, 130, 131, 132, 133, 134, 135] (by decide +kernel) (by decide +kernel)
set_option maxRecDepth 20000 in
theorem gX3_commit_X3_rowsBeforeOldestMark : GoodIn wsX3_commit (wsV RX3 137 RX3 yX3_rowsBeforeOldestMark wsX3_rowsBeforeOldestMark) := goodIn_app (goodIn_of _ (by decide +kernel)) ggX3_commit_X3_rowsBeforeOldestMark
set_option maxRecDepth 20000 in
theorem ggX3_commit_X2_oldestPlace : GoodIn wsX3_commit wsX2_oldestPlace := goodIn_r _ [44, 26, 45, 126, 127, 128, 129, 130, 131, 132, 133, 134, 135] (by decide +kernel) (by decide +kernel)
set_option maxRecDepth 20000 in
theorem gX3_commit_X2_oldestPlace : GoodIn wsX3_commit (wsV RX3 145 RX2 yX2_oldestPlace wsX2_oldestPlace) := goodIn_app (goodIn_of _ (by decide +kernel)) ggX3_commit_X2_oldestPlace
set_option maxRecDepth 20000 in
theorem ggX3_commit_X2_isInState : GoodIn wsX3_commit wsX2_isInState := goodIn_r _ [49, 50, 51, 52, 53, 24, 54, 26, 55, 56, 57, 58, 59, 60, 61, 62, 45, 126, 127, 128, 129, 130, 131, 132, 133, 134, 135] (by decide +kernel) (by decide +kernel)
set_option maxRecDepth 20000 in
theorem gX3_commit_X2_isInState : GoodIn wsX3_commit (wsV RX3 96 RX2 yX2_isInState wsX2_isInState) := goodIn_app (goodIn_of _ (by decide +kernel)) ggX3_commit_X2_isInState
set_option maxRecDepth 20000 in
theorem ggX3_commit_X3_finishOldest : GoodIn wsX3_commit wsX3_finishOldest := goodIn_r _ [66, 7, 67, 68, 41, 42, 43, 24, 44, 26, 45, 69, 70, 71, 72, 73, 55, 56, 57, 58, 50, 74, 75, 76, 11, 77, 78, 79, 80, 81, 82, 83, 84, 85, 86, 87, 88, 89, 90, 91, 92, 93, 94, 95, 96, 97, 98, 99, 100, 101, 102, 103, 104, 105, 106, 107, 108, 109, 40, 110, 111, 112, 113, 114, 115, 116, 117, 118, 119, 120, 121, 122, 126, 127, 128, 129, 130, 131, 132, 133, 134, 135, 136, 137, 138, 139, 140] (by decide +kernel) (by decide +kernel)
set_option maxRecDepth 20000 in
theorem gX3_commit_X3_finishOldest : GoodIn wsX3_commit (wsV RX3 148 RX3 yX3_finishOldest wsX3_finishOldest) := goodIn_app (goodIn_of _ (by decide +kernel)) ggX3_commit_X3_finishOldest
theorem dX3_commit_0 : decode cX3_commit 0 = .ok (.iload_n 1, 1) := by decide +kernel
theorem dX3_commit_1 : decode cX3_commit 1 = .ok (.ifCond .ge 13, 3) := by decide +kernel
theorem dX3_commit_4 : decode cX3_commit 4 = .ok (.new 105, 3) := by decide +kernel
theorem dX3_commit_7 : decode cX3_commit 7 = .ok (.dup, 1) := by decide +kernel
theorem dX3_commit_8 : decode cX3_commit 8 = .ok (.ldc 135, 2) := by decide +kernel
theorem dX3_commit_10 : decode cX3_commit 10 = .ok (.invokespecial 109, 3) := by decide +kernel
theorem dX3_commit_13 : decode cX3_commit 13 = .ok (.athrow, 1) := by decide +kernel
theorem dX3_commit_14 : decode cX3_commit 14 = .ok (.iload_n 1, 1) := by decide +kernel
theorem dX3_commit_15 : decode cX3_commit 15 = .ok (.aload_n 0, 1) := by decide +kernel
theorem dX3_commit_16 : decode cX3_commit 16 = .ok (.invokevirtual 137, 3) := by decide +kernel
theorem dX3_commit_19 : decode cX3_commit 19 = .ok (.invokestatic 140, 3) := by decide +kernel
theorem dX3_commit_22 : decode cX3_commit 22 = .ok (.istore_n 2, 1) := by decide +kernel
theorem dX3_commit_23 : decode cX3_commit 23 = .ok (.iconst 0, 1) := by decide +kernel
theorem dX3_commit_24 : decode cX3_commit 24 = .ok (.istore_n 3, 1) := by decide +kernel
theorem dX3_commit_25 : decode cX3_commit 25 = .ok (.iload_n 3, 1) := by decide +kernel
theorem dX3_commit_26 : decode cX3_commit 26 = .ok (.iload_n 2, 1) := by decide +kernel
theorem dX3_commit_27 : decode cX3_commit 27 = .ok (.if_icmp .ge 31, 3) := by decide +kernel
theorem dX3_commit_30 : decode cX3_commit 30 = .ok (.aload_n 0, 1) := by decide +kernel
theorem dX3_commit_31 : decode cX3_commit 31 = .ok (.getfield 27, 3) := by decide +kernel
theorem dX3_commit_34 : decode cX3_commit 34 = .ok (.aload_n 0, 1) := by decide +kernel
theorem dX3_commit_35 : decode cX3_commit 35 = .ok (.getfield 27, 3) := by decide +kernel
theorem dX3_commit_38 : decode cX3_commit 38 = .ok (.invokevirtual 145, 3) := by decide +kernel
theorem dX3_commit_41 : decode cX3_commit 41 = .ok (.iconst 2, 1) := by decide +kernel
theorem dX3_commit_42 : decode cX3_commit 42 = .ok (.invokevirtual 96, 3) := by decide +kernel
theorem dX3_commit_45 : decode cX3_commit 45 = .ok (.ifCond .eq 13, 3) := by decide +kernel
theorem dX3_commit_48 : decode cX3_commit 48 = .ok (.aload_n 0, 1) := by decide +kernel
theorem dX3_commit_49 : decode cX3_commit 49 = .ok (.invokevirtual 148, 3) := by decide +kernel
theorem dX3_commit_52 : decode cX3_commit 52 = .ok (.iinc 3 1, 3) := by decide +kernel
theorem dX3_commit_55 : decode cX3_commit 55 = .ok (.goto (-30), 3) := by decide +kernel
theorem dX3_commit_58 : decode cX3_commit 58 = .ok (.iload_n 3, 1) := by decide +kernel
theorem dX3_commit_59 : decode cX3_commit 59 = .ok (.ireturn, 1) := by decide +kernel
set_option maxRecDepth 20000 in
theorem ggX3_branch_X2_rowsSinceBeginning : GoodIn wsX3_branch wsX2_rowsSinceBeginning := goodIn_r _ [7, 8, 9, 35, 36, 37, 38, 39, 40, 41, 42, 43, 44] (by decide +kernel) (by decide +kernel)
set_option maxRecDepth 20000 in
theorem gX3_branch_X2_rowsSinceBeginning : GoodIn wsX3_branch (wsV RX3 151 RX2 yX2_rowsSinceBeginning wsX2_rowsSinceBeginning) := goodIn_app (goodIn_of _ (by decide +kernel)) ggX3_branch_X2_rowsSinceBeginning
set_option maxRecDepth 20000 in
theorem ggX3_branch_X0_takeLowest : GoodIn wsX3_branch wsX0_takeLowest := goodIn_r _ [14, 15, 16, 17, 18, 19, 20, 13, 21, 22, 23, 24, 25, 45, 46, 47] (by decide +kernel) (by decide +kernel)
set_option maxRecDepth 20000 in
theorem gX3_branch_X0_takeLowest : GoodIn wsX3_branch (wsV RX3 154 RX0 yX0_takeLowest wsX0_takeLowest) := goodIn_app (goodIn_of _ (by decide +kernel)) ggX3_branch_X0_takeLowest
theorem dX3_branch_0 : decode cX3_branch 0 = .ok (.aload_n 0, 1) := by decide +kernel
theorem dX3_branch_1 : decode cX3_branch 1 = .ok (.getfield 34, 3) := by decide +kernel
theorem dX3_branch_4 : decode cX3_branch 4 = .ok (.aload_n 0, 1) := by decide +kernel
theorem dX3_branch_5 : decode cX3_branch 5 = .ok (.getfield 27, 3) := by decide +kernel
theorem dX3_branch_8 : decode cX3_branch 8 = .ok (.invokevirtual 151, 3) := by decide +kernel
theorem dX3_branch_11 : decode cX3_branch 11 = .ok (.invokevirtual 154, 3) := by decide +kernel
theorem dX3_branch_14 : decode cX3_branch 14 = .ok (.ireturn, 1) := by decide +kernel
set_option maxRecDepth 20000 in
theorem ggX3_right_X0_isMark : GoodIn wsX3_right wsX0_isMark := goodIn_r _ [11] (by decide +kernel) (by decide +kernel)
set_option maxRecDepth 20000 in
theorem gX3_right_X0_isMark : GoodIn wsX3_right (wsV RX3 157 RX0 yX0_isMark wsX0_isMark) := goodIn_app (goodIn_of _ (by decide +kernel)) ggX3_right_X0_isMark
set_option maxRecDepth 20000 in
theorem ggX3_right_X0_isFree : GoodIn wsX3_right wsX0_isFree := goodIn_r _ [15, 16, 17, 18, 10, 19, 20, 21, 45, 46, 47] (by decide +kernel) (by decide +kernel)
set_option maxRecDepth 20000 in
theorem gX3_right_X0_isFree : GoodIn wsX3_right (wsV RX3 162 RX0 yX0_isFree wsX0_isFree) := goodIn_app (goodIn_of _ (by decide +kernel)) ggX3_right_X0_isFree
set_option maxRecDepth 20000 in
theorem ggX3_right_X0_release : GoodIn wsX3_right wsX0_release := goodIn_r _ [25, 20, 21, 16, 17, 18, 10, 19, 45, 46, 47] (by decide +kernel) (by decide +kernel)
set_option maxRecDepth 20000 in
theorem gX3_right_X0_release : GoodIn wsX3_right (wsV RX3 167 RX0 yX0_release wsX0_release) := goodIn_app (goodIn_of _ (by decide +kernel)) ggX3_right_X0_release
set_option maxRecDepth 20000 in
theorem ggX3_right_X0_takenCount : GoodIn wsX3_right wsX0_takenCount := goodIn_r _ [29, 20, 45, 46, 47] (by decide +kernel) (by decide +kernel)
set_option maxRecDepth 20000 in
theorem gX3_right_X0_takenCount : GoodIn wsX3_right (wsV RX3 170 RX0 yX0_takenCount wsX0_takenCount) := goodIn_app (goodIn_of _ (by decide +kernel)) ggX3_right_X0_takenCount
theorem dX3_right_0 : decode cX3_right 0 = .ok (.aload_n 0, 1) := by decide +kernel
theorem dX3_right_1 : decode cX3_right 1 = .ok (.getfield 34, 3) := by decide +kernel
theorem dX3_right_4 : decode cX3_right 4 = .ok (.iload_n 1, 1) := by decide +kernel
theorem dX3_right_5 : decode cX3_right 5 = .ok (.invokevirtual 157, 3) := by decide +kernel
theorem dX3_right_8 : decode cX3_right 8 = .ok (.ifCond .ne 13, 3) := by decide +kernel
theorem dX3_right_11 : decode cX3_right 11 = .ok (.new 52, 3) := by decide +kernel
theorem dX3_right_14 : decode cX3_right 14 = .ok (.dup, 1) := by decide +kernel
theorem dX3_right_15 : decode cX3_right 15 = .ok (.ldc 160, 2) := by decide +kernel
theorem dX3_right_17 : decode cX3_right 17 = .ok (.invokespecial 56, 3) := by decide +kernel
theorem dX3_right_20 : decode cX3_right 20 = .ok (.athrow, 1) := by decide +kernel
theorem dX3_right_21 : decode cX3_right 21 = .ok (.aload_n 0, 1) := by decide +kernel
theorem dX3_right_22 : decode cX3_right 22 = .ok (.getfield 34, 3) := by decide +kernel
theorem dX3_right_25 : decode cX3_right 25 = .ok (.iload_n 1, 1) := by decide +kernel
theorem dX3_right_26 : decode cX3_right 26 = .ok (.invokevirtual 162, 3) := by decide +kernel
theorem dX3_right_29 : decode cX3_right 29 = .ok (.ifCond .eq 13, 3) := by decide +kernel
theorem dX3_right_32 : decode cX3_right 32 = .ok (.new 100, 3) := by decide +kernel
theorem dX3_right_35 : decode cX3_right 35 = .ok (.dup, 1) := by decide +kernel
theorem dX3_right_36 : decode cX3_right 36 = .ok (.ldc 165, 2) := by decide +kernel
theorem dX3_right_38 : decode cX3_right 38 = .ok (.invokespecial 104, 3) := by decide +kernel
theorem dX3_right_41 : decode cX3_right 41 = .ok (.athrow, 1) := by decide +kernel
theorem dX3_right_42 : decode cX3_right 42 = .ok (.aload_n 0, 1) := by decide +kernel
theorem dX3_right_43 : decode cX3_right 43 = .ok (.getfield 34, 3) := by decide +kernel
theorem dX3_right_46 : decode cX3_right 46 = .ok (.iload_n 1, 1) := by decide +kernel
theorem dX3_right_47 : decode cX3_right 47 = .ok (.invokevirtual 167, 3) := by decide +kernel
theorem dX3_right_50 : decode cX3_right 50 = .ok (.aload_n 0, 1) := by decide +kernel
theorem dX3_right_51 : decode cX3_right 51 = .ok (.getfield 34, 3) := by decide +kernel
theorem dX3_right_54 : decode cX3_right 54 = .ok (.invokevirtual 170, 3) := by decide +kernel
theorem dX3_right_57 : decode cX3_right 57 = .ok (.ireturn, 1) := by decide +kernel
set_option maxRecDepth 20000 in
theorem ggX3_wrong_X0_isMark : GoodIn wsX3_wrong wsX0_isMark := goodIn_r _ [13] (by decide +kernel) (by decide +kernel)
set_option maxRecDepth 20000 in
theorem gX3_wrong_X0_isMark : GoodIn wsX3_wrong (wsV RX3 157 RX0 yX0_isMark wsX0_isMark) := goodIn_app (goodIn_of _ (by decide +kernel)) ggX3_wrong_X0_isMark
set_option maxRecDepth 20000 in
theorem ggX3_wrong_X0_isFree : GoodIn wsX3_wrong wsX0_isFree := goodIn_r _ [17, 18, 19, 20, 12, 21, 22, 23, 117, 118, 119] (by decide +kernel) (by decide +kernel)
set_option maxRecDepth 20000 in
theorem gX3_wrong_X0_isFree : GoodIn wsX3_wrong (wsV RX3 162 RX0 yX0_isFree wsX0_isFree) := goodIn_app (goodIn_of _ (by decide +kernel)) ggX3_wrong_X0_isFree
set_option maxRecDepth 20000 in
theorem ggX3_wrong_X2_rowsSinceBeginning : GoodIn wsX3_wrong wsX2_rowsSinceBeginning := goodIn_r _ [28, 29, 30, 120, 121, 122, 123, 124, 125, 126, 127, 128, 129] (by decide +kernel) (by decide +kernel)
set_option maxRecDepth 20000 in
theorem gX3_wrong_X2_rowsSinceBeginning : GoodIn wsX3_wrong (wsV RX3 151 RX2 yX2_rowsSinceBeginning wsX2_rowsSinceBeginning) := goodIn_app (goodIn_of _ (by decide +kernel)) ggX3_wrong_X2_rowsSinceBeginning
set_option maxRecDepth 20000 in
theorem ggX3_wrong_X0_rowsBefore : GoodIn wsX3_wrong wsX0_rowsBefore := goodIn_r _ [34, 35, 36, 10, 11, 12, 13, 117, 118, 119] (by decide +kernel) (by decide +kernel)
set_option maxRecDepth 20000 in
theorem gX3_wrong_X0_rowsBefore : GoodIn wsX3_wrong (wsV RX3 173 RX0 yX0_rowsBefore wsX0_rowsBefore) := goodIn_app (goodIn_of _ (by decide +kernel)) ggX3_wrong_X0_rowsBefore
set_option maxRecDepth 20000 in
theorem ggX3_wrong_X3_takeBackLast : GoodIn wsX3_wrong wsX3_takeBackLast := goodIn_r _ [41, 7, 42, 43, 44, 45, 46, 27, 47, 30, 48, 49, 50, 51, 52, 53, 54, 55, 56, 57, 58, 59, 60, 61, 62, 63, 64, 65, 40, 66, 67, 68, 69, 70, 71, 72, 73, 74, 75, 76, 77, 78, 79, 80, 81, 82, 83, 84, 85, 86, 87, 88, 89, 90, 91, 92, 93, 94, 95, 96, 97, 102, 103, 104, 105, 106, 107, 108, 109, 110, 120, 121, 122, 123, 124, 125, 126, 127, 128, 129, 130, 131, 132, 133, 134] (by decide +kernel) (by decide +kernel)
set_option maxRecDepth 20000 in
theorem gX3_wrong_X3_takeBackLast : GoodIn wsX3_wrong (wsV RX3 176 RX3 yX3_takeBackLast wsX3_takeBackLast) := goodIn_app (goodIn_of _ (by decide +kernel)) ggX3_wrong_X3_takeBackLast
set_option maxRecDepth 20000 in
theorem ggX3_wrong_X0_releaseFrom : GoodIn wsX3_wrong wsX0_releaseFrom := goodIn_r _ [101, 22, 18, 19, 20, 12, 21, 23, 117, 118, 119] (by decide +kernel) (by decide +kernel)
set_option maxRecDepth 20000 in
theorem gX3_wrong_X0_releaseFrom : GoodIn wsX3_wrong (wsV RX3 179 RX0 yX0_releaseFrom wsX0_releaseFrom) := goodIn_app (goodIn_of _ (by decide +kernel)) ggX3_wrong_X0_releaseFrom
theorem dX3_wrong_0 : decode cX3_wrong 0 = .ok (.aload_n 0, 1) := by decide +kernel
theorem dX3_wrong_1 : decode cX3_wrong 1 = .ok (.getfield 34, 3) := by decide +kernel
theorem dX3_wrong_4 : decode cX3_wrong 4 = .ok (.iload_n 1, 1) := by decide +kernel
theorem dX3_wrong_5 : decode cX3_wrong 5 = .ok (.invokevirtual 157, 3) := by decide +kernel
theorem dX3_wrong_8 : decode cX3_wrong 8 = .ok (.ifCond .ne 13, 3) := by decide +kernel
theorem dX3_wrong_11 : decode cX3_wrong 11 = .ok (.new 52, 3) := by decide +kernel
theorem dX3_wrong_14 : decode cX3_wrong 14 = .ok (.dup, 1) := by decide +kernel
theorem dX3_wrong_15 : decode cX3_wrong 15 = .ok (.ldc 160, 2) := by decide +kernel
theorem dX3_wrong_17 : decode cX3_wrong 17 = .ok (.invokespecial 56, 3) := by decide +kernel
theorem dX3_wrong_20 : decode cX3_wrong 20 = .ok (.athrow, 1) := by decide +kernel
theorem dX3_wrong_21 : decode cX3_wrong 21 = .ok (.aload_n 0, 1) := by decide +kernel
theorem dX3_wrong_22 : decode cX3_wrong 22 = .ok (.getfield 34, 3) := by decide +kernel
theorem dX3_wrong_25 : decode cX3_wrong 25 = .ok (.iload_n 1, 1) := by decide +kernel
theorem dX3_wrong_26 : decode cX3_wrong 26 = .ok (.invokevirtual 162, 3) := by decide +kernel
theorem dX3_wrong_29 : decode cX3_wrong 29 = .ok (.ifCond .eq 13, 3) := by decide +kernel
theorem dX3_wrong_32 : decode cX3_wrong 32 = .ok (.new 100, 3) := by decide +kernel
theorem dX3_wrong_35 : decode cX3_wrong 35 = .ok (.dup, 1) := by decide +kernel
theorem dX3_wrong_36 : decode cX3_wrong 36 = .ok (.ldc 165, 2) := by decide +kernel
theorem dX3_wrong_38 : decode cX3_wrong 38 = .ok (.invokespecial 104, 3) := by decide +kernel
theorem dX3_wrong_41 : decode cX3_wrong 41 = .ok (.athrow, 1) := by decide +kernel
theorem dX3_wrong_42 : decode cX3_wrong 42 = .ok (.aload_n 0, 1) := by decide +kernel
theorem dX3_wrong_43 : decode cX3_wrong 43 = .ok (.getfield 27, 3) := by decide +kernel
theorem dX3_wrong_46 : decode cX3_wrong 46 = .ok (.invokevirtual 151, 3) := by decide +kernel
theorem dX3_wrong_49 : decode cX3_wrong 49 = .ok (.aload_n 0, 1) := by decide +kernel
theorem dX3_wrong_50 : decode cX3_wrong 50 = .ok (.getfield 34, 3) := by decide +kernel
theorem dX3_wrong_53 : decode cX3_wrong 53 = .ok (.iload_n 1, 1) := by decide +kernel
theorem dX3_wrong_54 : decode cX3_wrong 54 = .ok (.invokevirtual 173, 3) := by decide +kernel
theorem dX3_wrong_57 : decode cX3_wrong 57 = .ok (.isub, 1) := by decide +kernel
theorem dX3_wrong_58 : decode cX3_wrong 58 = .ok (.istore_n 2, 1) := by decide +kernel
theorem dX3_wrong_59 : decode cX3_wrong 59 = .ok (.iconst 0, 1) := by decide +kernel
theorem dX3_wrong_60 : decode cX3_wrong 60 = .ok (.istore_n 3, 1) := by decide +kernel
theorem dX3_wrong_61 : decode cX3_wrong 61 = .ok (.iload_n 3, 1) := by decide +kernel
theorem dX3_wrong_62 : decode cX3_wrong 62 = .ok (.iload_n 2, 1) := by decide +kernel
theorem dX3_wrong_63 : decode cX3_wrong 63 = .ok (.if_icmp .ge 13, 3) := by decide +kernel
theorem dX3_wrong_66 : decode cX3_wrong 66 = .ok (.aload_n 0, 1) := by decide +kernel
theorem dX3_wrong_67 : decode cX3_wrong 67 = .ok (.invokevirtual 176, 3) := by decide +kernel
theorem dX3_wrong_70 : decode cX3_wrong 70 = .ok (.iinc 3 1, 3) := by decide +kernel
theorem dX3_wrong_73 : decode cX3_wrong 73 = .ok (.goto (-12), 3) := by decide +kernel
theorem dX3_wrong_76 : decode cX3_wrong 76 = .ok (.aload_n 0, 1) := by decide +kernel
theorem dX3_wrong_77 : decode cX3_wrong 77 = .ok (.getfield 34, 3) := by decide +kernel
theorem dX3_wrong_80 : decode cX3_wrong 80 = .ok (.iload_n 1, 1) := by decide +kernel
theorem dX3_wrong_81 : decode cX3_wrong 81 = .ok (.invokevirtual 179, 3) := by decide +kernel
theorem dX3_wrong_84 : decode cX3_wrong 84 = .ok (.aload_n 0, 1) := by decide +kernel
theorem dX3_wrong_85 : decode cX3_wrong 85 = .ok (.dup, 1) := by decide +kernel
theorem dX3_wrong_86 : decode cX3_wrong 86 = .ok (.getfield 182, 3) := by decide +kernel
theorem dX3_wrong_89 : decode cX3_wrong 89 = .ok (.iload_n 2, 1) := by decide +kernel
theorem dX3_wrong_90 : decode cX3_wrong 90 = .ok (.iadd, 1) := by decide +kernel
theorem dX3_wrong_91 : decode cX3_wrong 91 = .ok (.putfield 182, 3) := by decide +kernel
theorem dX3_wrong_94 : decode cX3_wrong 94 = .ok (.iload_n 2, 1) := by decide +kernel
theorem dX3_wrong_95 : decode cX3_wrong 95 = .ok (.ireturn, 1) := by decide +kernel
set_option maxRecDepth 20000 in
theorem ggX3_name_X3_isRegister : GoodIn wsX3_name wsX3_isRegister := goodIn_r _ [9, 4, 16, 17, 18, 19, 20, 21, 22, 23, 24] (by decide +kernel) (by decide +kernel)
set_option maxRecDepth 20000 in
theorem gX3_name_X3_isRegister : GoodIn wsX3_name (wsV RX3 85 RX3 yX3_isRegister wsX3_isRegister) := goodIn_app (goodIn_of _ (by decide +kernel)) ggX3_name_X3_isRegister
theorem dX3_name_0 : decode cX3_name 0 = .ok (.aload_n 0, 1) := by decide +kernel
theorem dX3_name_1 : decode cX3_name 1 = .ok (.iload_n 1, 1) := by decide +kernel
theorem dX3_name_2 : decode cX3_name 2 = .ok (.invokevirtual 85, 3) := by decide +kernel
theorem dX3_name_5 : decode cX3_name 5 = .ok (.ifCond .ne 13, 3) := by decide +kernel
theorem dX3_name_8 : decode cX3_name 8 = .ok (.new 52, 3) := by decide +kernel
theorem dX3_name_11 : decode cX3_name 11 = .ok (.dup, 1) := by decide +kernel
theorem dX3_name_12 : decode cX3_name 12 = .ok (.ldc 54, 2) := by decide +kernel
theorem dX3_name_14 : decode cX3_name 14 = .ok (.invokespecial 56, 3) := by decide +kernel
theorem dX3_name_17 : decode cX3_name 17 = .ok (.athrow, 1) := by decide +kernel
theorem dX3_name_18 : decode cX3_name 18 = .ok (.aload_n 0, 1) := by decide +kernel
theorem dX3_name_19 : decode cX3_name 19 = .ok (.getfield 38, 3) := by decide +kernel
theorem dX3_name_22 : decode cX3_name 22 = .ok (.iload_n 1, 1) := by decide +kernel
theorem dX3_name_23 : decode cX3_name 23 = .ok (.iaload, 1) := by decide +kernel
theorem dX3_name_24 : decode cX3_name 24 = .ok (.ireturn, 1) := by decide +kernel
set_option maxRecDepth 20000 in
theorem ggX3_sure_X3_isRegister : GoodIn wsX3_sure wsX3_isRegister := goodIn_r _ [9, 10, 17, 18, 19, 20, 21, 22, 23, 24, 25] (by decide +kernel) (by decide +kernel)
set_option maxRecDepth 20000 in
theorem gX3_sure_X3_isRegister : GoodIn wsX3_sure (wsV RX3 85 RX3 yX3_isRegister wsX3_isRegister) := goodIn_app (goodIn_of _ (by decide +kernel)) ggX3_sure_X3_isRegister
theorem dX3_sure_0 : decode cX3_sure 0 = .ok (.aload_n 0, 1) := by decide +kernel
theorem dX3_sure_1 : decode cX3_sure 1 = .ok (.iload_n 1, 1) := by decide +kernel
theorem dX3_sure_2 : decode cX3_sure 2 = .ok (.invokevirtual 85, 3) := by decide +kernel
theorem dX3_sure_5 : decode cX3_sure 5 = .ok (.ifCond .ne 13, 3) := by decide +kernel
theorem dX3_sure_8 : decode cX3_sure 8 = .ok (.new 52, 3) := by decide +kernel
theorem dX3_sure_11 : decode cX3_sure 11 = .ok (.dup, 1) := by decide +kernel
theorem dX3_sure_12 : decode cX3_sure 12 = .ok (.ldc 54, 2) := by decide +kernel
theorem dX3_sure_14 : decode cX3_sure 14 = .ok (.invokespecial 56, 3) := by decide +kernel
theorem dX3_sure_17 : decode cX3_sure 17 = .ok (.athrow, 1) := by decide +kernel
theorem dX3_sure_18 : decode cX3_sure 18 = .ok (.aload_n 0, 1) := by decide +kernel
theorem dX3_sure_19 : decode cX3_sure 19 = .ok (.getfield 42, 3) := by decide +kernel
theorem dX3_sure_22 : decode cX3_sure 22 = .ok (.iload_n 1, 1) := by decide +kernel
theorem dX3_sure_23 : decode cX3_sure 23 = .ok (.iaload, 1) := by decide +kernel
theorem dX3_sure_24 : decode cX3_sure 24 = .ok (.ireturn, 1) := by decide +kernel
set_option maxRecDepth 20000 in
theorem ggX3_shares_X1_isName : GoodIn wsX3_shares wsX1_isName := goodIn_r _ [9, 10, 31, 32, 33, 34, 35] (by decide +kernel) (by decide +kernel)
set_option maxRecDepth 20000 in
theorem gX3_shares_X1_isName : GoodIn wsX3_shares (wsV RX3 185 RX1 yX1_isName wsX1_isName) := goodIn_app (goodIn_of _ (by decide +kernel)) ggX3_shares_X1_isName
set_option maxRecDepth 20000 in
theorem ggX3_shares_X1_sharesOf : GoodIn wsX3_shares wsX1_sharesOf := goodIn_r _ [14, 10, 15, 6, 7, 8, 9, 31, 32, 33, 34, 35] (by decide +kernel) (by decide +kernel)
set_option maxRecDepth 20000 in
theorem gX3_shares_X1_sharesOf : GoodIn wsX3_shares (wsV RX3 190 RX1 yX1_sharesOf wsX1_sharesOf) := goodIn_app (goodIn_of _ (by decide +kernel)) ggX3_shares_X1_sharesOf
theorem dX3_shares_0 : decode cX3_shares 0 = .ok (.aload_n 0, 1) := by decide +kernel
theorem dX3_shares_1 : decode cX3_shares 1 = .ok (.getfield 18, 3) := by decide +kernel
theorem dX3_shares_4 : decode cX3_shares 4 = .ok (.iload_n 1, 1) := by decide +kernel
theorem dX3_shares_5 : decode cX3_shares 5 = .ok (.invokevirtual 185, 3) := by decide +kernel
theorem dX3_shares_8 : decode cX3_shares 8 = .ok (.ifCond .ne 13, 3) := by decide +kernel
theorem dX3_shares_11 : decode cX3_shares 11 = .ok (.new 52, 3) := by decide +kernel
theorem dX3_shares_14 : decode cX3_shares 14 = .ok (.dup, 1) := by decide +kernel
theorem dX3_shares_15 : decode cX3_shares 15 = .ok (.ldc 188, 2) := by decide +kernel
theorem dX3_shares_17 : decode cX3_shares 17 = .ok (.invokespecial 56, 3) := by decide +kernel
theorem dX3_shares_20 : decode cX3_shares 20 = .ok (.athrow, 1) := by decide +kernel
theorem dX3_shares_21 : decode cX3_shares 21 = .ok (.aload_n 0, 1) := by decide +kernel
theorem dX3_shares_22 : decode cX3_shares 22 = .ok (.getfield 18, 3) := by decide +kernel
theorem dX3_shares_25 : decode cX3_shares 25 = .ok (.iload_n 1, 1) := by decide +kernel
theorem dX3_shares_26 : decode cX3_shares 26 = .ok (.invokevirtual 190, 3) := by decide +kernel
theorem dX3_shares_29 : decode cX3_shares 29 = .ok (.ireturn, 1) := by decide +kernel
set_option maxRecDepth 20000 in
theorem ggX3_queue_X1_freeCount : GoodIn wsX3_queue wsX1_freeCount := goodIn_r _ [8, 9, 29, 30, 31, 32, 33] (by decide +kernel) (by decide +kernel)
set_option maxRecDepth 20000 in
theorem gX3_queue_X1_freeCount : GoodIn wsX3_queue (wsV RX3 67 RX1 yX1_freeCount wsX1_freeCount) := goodIn_app (goodIn_of _ (by decide +kernel)) ggX3_queue_X1_freeCount
set_option maxRecDepth 20000 in
theorem ggX3_queue_X1_freeAt : GoodIn wsX3_queue wsX1_freeAt := goodIn_r _ [13, 9, 14, 15, 16, 17, 7, 18, 19, 29, 30, 31, 32, 33] (by decide +kernel) (by decide +kernel)
set_option maxRecDepth 20000 in
theorem gX3_queue_X1_freeAt : GoodIn wsX3_queue (wsV RX3 195 RX1 yX1_freeAt wsX1_freeAt) := goodIn_app (goodIn_of _ (by decide +kernel)) ggX3_queue_X1_freeAt
theorem dX3_queue_0 : decode cX3_queue 0 = .ok (.iload_n 1, 1) := by decide +kernel
theorem dX3_queue_1 : decode cX3_queue 1 = .ok (.ifCond .lt 14, 3) := by decide +kernel
theorem dX3_queue_4 : decode cX3_queue 4 = .ok (.iload_n 1, 1) := by decide +kernel
theorem dX3_queue_5 : decode cX3_queue 5 = .ok (.aload_n 0, 1) := by decide +kernel
theorem dX3_queue_6 : decode cX3_queue 6 = .ok (.getfield 18, 3) := by decide +kernel
theorem dX3_queue_9 : decode cX3_queue 9 = .ok (.invokevirtual 67, 3) := by decide +kernel
theorem dX3_queue_12 : decode cX3_queue 12 = .ok (.if_icmp .lt 13, 3) := by decide +kernel
theorem dX3_queue_15 : decode cX3_queue 15 = .ok (.new 105, 3) := by decide +kernel
theorem dX3_queue_18 : decode cX3_queue 18 = .ok (.dup, 1) := by decide +kernel
theorem dX3_queue_19 : decode cX3_queue 19 = .ok (.ldc 193, 2) := by decide +kernel
theorem dX3_queue_21 : decode cX3_queue 21 = .ok (.invokespecial 109, 3) := by decide +kernel
theorem dX3_queue_24 : decode cX3_queue 24 = .ok (.athrow, 1) := by decide +kernel
theorem dX3_queue_25 : decode cX3_queue 25 = .ok (.aload_n 0, 1) := by decide +kernel
theorem dX3_queue_26 : decode cX3_queue 26 = .ok (.getfield 18, 3) := by decide +kernel
theorem dX3_queue_29 : decode cX3_queue 29 = .ok (.iload_n 1, 1) := by decide +kernel
theorem dX3_queue_30 : decode cX3_queue 30 = .ok (.invokevirtual 195, 3) := by decide +kernel
theorem dX3_queue_33 : decode cX3_queue 33 = .ok (.ireturn, 1) := by decide +kernel
set_option maxRecDepth 20000 in
theorem ggX3_row_X2_isPlace : GoodIn wsX3_row wsX2_isPlace := goodIn_r _ [13, 14, 75, 76, 77, 78, 79, 80, 81, 82, 83, 84] (by decide +kernel) (by decide +kernel)
set_option maxRecDepth 20000 in
theorem gX3_row_X2_isPlace : GoodIn wsX3_row (wsV RX3 91 RX2 yX2_isPlace wsX2_isPlace) := goodIn_app (goodIn_of _ (by decide +kernel)) ggX3_row_X2_isPlace
set_option maxRecDepth 20000 in
theorem ggX3_row_X2_holdsRow : GoodIn wsX3_row wsX2_holdsRow := goodIn_r _ [18, 19, 20, 10, 11, 12, 13, 14, 21, 22, 23, 24, 25, 75, 76, 77, 78, 79, 80, 81, 82, 83, 84] (by decide +kernel) (by decide +kernel)
set_option maxRecDepth 20000 in
theorem gX3_row_X2_holdsRow : GoodIn wsX3_row (wsV RX3 198 RX2 yX2_holdsRow wsX2_holdsRow) := goodIn_app (goodIn_of _ (by decide +kernel)) ggX3_row_X2_holdsRow
set_option maxRecDepth 20000 in
theorem ggX3_row_X2_readAAt : GoodIn wsX3_row wsX2_readAAt := goodIn_r _ [29, 30, 20, 10, 11, 12, 13, 14, 75, 76, 77, 78, 79, 80, 81, 82, 83, 84] (by decide +kernel) (by decide +kernel)
set_option maxRecDepth 20000 in
theorem gX3_row_X2_readAAt : GoodIn wsX3_row (wsV RX3 203 RX2 yX2_readAAt wsX2_readAAt) := goodIn_app (goodIn_of _ (by decide +kernel)) ggX3_row_X2_readAAt
set_option maxRecDepth 20000 in
theorem ggX3_row_X2_readBAt : GoodIn wsX3_row wsX2_readBAt := goodIn_r _ [34, 35, 20, 10, 11, 12, 13, 14, 75, 76, 77, 78, 79, 80, 81, 82, 83, 84] (by decide +kernel) (by decide +kernel)
set_option maxRecDepth 20000 in
theorem gX3_row_X2_readBAt : GoodIn wsX3_row (wsV RX3 206 RX2 yX2_readBAt wsX2_readBAt) := goodIn_app (goodIn_of _ (by decide +kernel)) ggX3_row_X2_readBAt
set_option maxRecDepth 20000 in
theorem ggX3_row_X2_givenAt : GoodIn wsX3_row wsX2_givenAt := goodIn_r _ [39, 40, 20, 10, 11, 12, 13, 14, 75, 76, 77, 78, 79, 80, 81, 82, 83, 84] (by decide +kernel) (by decide +kernel)
set_option maxRecDepth 20000 in
theorem gX3_row_X2_givenAt : GoodIn wsX3_row (wsV RX3 129 RX2 yX2_givenAt wsX2_givenAt) := goodIn_app (goodIn_of _ (by decide +kernel)) ggX3_row_X2_givenAt
set_option maxRecDepth 20000 in
theorem ggX3_row_X2_knownAt : GoodIn wsX3_row wsX2_knownAt := goodIn_r _ [44, 45, 20, 10, 11, 12, 13, 14, 75, 76, 77, 78, 79, 80, 81, 82, 83, 84] (by decide +kernel) (by decide +kernel)
set_option maxRecDepth 20000 in
theorem gX3_row_X2_knownAt : GoodIn wsX3_row (wsV RX3 209 RX2 yX2_knownAt wsX2_knownAt) := goodIn_app (goodIn_of _ (by decide +kernel)) ggX3_row_X2_knownAt
set_option maxRecDepth 20000 in
theorem ggX3_row_X2_registerAt : GoodIn wsX3_row wsX2_registerAt := goodIn_r _ [49, 50, 20, 10, 11, 12, 13, 14, 75, 76, 77, 78, 79, 80, 81, 82, 83, 84] (by decide +kernel) (by decide +kernel)
set_option maxRecDepth 20000 in
theorem gX3_row_X2_registerAt : GoodIn wsX3_row (wsV RX3 212 RX2 yX2_registerAt wsX2_registerAt) := goodIn_app (goodIn_of _ (by decide +kernel)) ggX3_row_X2_registerAt
set_option maxRecDepth 20000 in
theorem ggX3_row_X2_portAt : GoodIn wsX3_row wsX2_portAt := goodIn_r _ [54, 55, 20, 10, 11, 12, 13, 14, 75, 76, 77, 78, 79, 80, 81, 82, 83, 84] (by decide +kernel) (by decide +kernel)
set_option maxRecDepth 20000 in
theorem gX3_row_X2_portAt : GoodIn wsX3_row (wsV RX3 110 RX2 yX2_portAt wsX2_portAt) := goodIn_app (goodIn_of _ (by decide +kernel)) ggX3_row_X2_portAt
set_option maxRecDepth 20000 in
theorem ggX3_row_X2_stateAt : GoodIn wsX3_row wsX2_stateAt := goodIn_r _ [59, 14, 20, 10, 11, 12, 13, 75, 76, 77, 78, 79, 80, 81, 82, 83, 84] (by decide +kernel) (by decide +kernel)
set_option maxRecDepth 20000 in
theorem gX3_row_X2_stateAt : GoodIn wsX3_row (wsV RX3 215 RX2 yX2_stateAt wsX2_stateAt) := goodIn_app (goodIn_of _ (by decide +kernel)) ggX3_row_X2_stateAt
theorem dX3_row_0 : decode cX3_row 0 = .ok (.aload_n 0, 1) := by decide +kernel
theorem dX3_row_1 : decode cX3_row 1 = .ok (.getfield 27, 3) := by decide +kernel
theorem dX3_row_4 : decode cX3_row 4 = .ok (.iload_n 1, 1) := by decide +kernel
theorem dX3_row_5 : decode cX3_row 5 = .ok (.invokevirtual 91, 3) := by decide +kernel
theorem dX3_row_8 : decode cX3_row 8 = .ok (.ifCond .ne 13, 3) := by decide +kernel
theorem dX3_row_11 : decode cX3_row 11 = .ok (.new 52, 3) := by decide +kernel
theorem dX3_row_14 : decode cX3_row 14 = .ok (.dup, 1) := by decide +kernel
theorem dX3_row_15 : decode cX3_row 15 = .ok (.ldc 94, 2) := by decide +kernel
theorem dX3_row_17 : decode cX3_row 17 = .ok (.invokespecial 56, 3) := by decide +kernel
theorem dX3_row_20 : decode cX3_row 20 = .ok (.athrow, 1) := by decide +kernel
theorem dX3_row_21 : decode cX3_row 21 = .ok (.aload_n 0, 1) := by decide +kernel
theorem dX3_row_22 : decode cX3_row 22 = .ok (.getfield 27, 3) := by decide +kernel
theorem dX3_row_25 : decode cX3_row 25 = .ok (.iload_n 1, 1) := by decide +kernel
theorem dX3_row_26 : decode cX3_row 26 = .ok (.invokevirtual 198, 3) := by decide +kernel
theorem dX3_row_29 : decode cX3_row 29 = .ok (.ifCond .ne 13, 3) := by decide +kernel
theorem dX3_row_32 : decode cX3_row 32 = .ok (.new 100, 3) := by decide +kernel
theorem dX3_row_35 : decode cX3_row 35 = .ok (.dup, 1) := by decide +kernel
theorem dX3_row_36 : decode cX3_row 36 = .ok (.ldc 201, 2) := by decide +kernel
theorem dX3_row_38 : decode cX3_row 38 = .ok (.invokespecial 104, 3) := by decide +kernel
theorem dX3_row_41 : decode cX3_row 41 = .ok (.athrow, 1) := by decide +kernel
theorem dX3_row_42 : decode cX3_row 42 = .ok (.iload_n 2, 1) := by decide +kernel
theorem dX3_row_43 : decode cX3_row 43 = .ok (.tableswitch 104 0 6 #[41, 50, 59, 68, 77, 86, 95], 41) := by decide +kernel
theorem dX3_row_84 : decode cX3_row 84 = .ok (.aload_n 0, 1) := by decide +kernel
theorem dX3_row_85 : decode cX3_row 85 = .ok (.getfield 27, 3) := by decide +kernel
theorem dX3_row_88 : decode cX3_row 88 = .ok (.iload_n 1, 1) := by decide +kernel
theorem dX3_row_89 : decode cX3_row 89 = .ok (.invokevirtual 203, 3) := by decide +kernel
theorem dX3_row_92 : decode cX3_row 92 = .ok (.ireturn, 1) := by decide +kernel
theorem dX3_row_93 : decode cX3_row 93 = .ok (.aload_n 0, 1) := by decide +kernel
theorem dX3_row_94 : decode cX3_row 94 = .ok (.getfield 27, 3) := by decide +kernel
theorem dX3_row_97 : decode cX3_row 97 = .ok (.iload_n 1, 1) := by decide +kernel
theorem dX3_row_98 : decode cX3_row 98 = .ok (.invokevirtual 206, 3) := by decide +kernel
theorem dX3_row_101 : decode cX3_row 101 = .ok (.ireturn, 1) := by decide +kernel
theorem dX3_row_102 : decode cX3_row 102 = .ok (.aload_n 0, 1) := by decide +kernel
theorem dX3_row_103 : decode cX3_row 103 = .ok (.getfield 27, 3) := by decide +kernel
theorem dX3_row_106 : decode cX3_row 106 = .ok (.iload_n 1, 1) := by decide +kernel
theorem dX3_row_107 : decode cX3_row 107 = .ok (.invokevirtual 129, 3) := by decide +kernel
theorem dX3_row_110 : decode cX3_row 110 = .ok (.ireturn, 1) := by decide +kernel
theorem dX3_row_111 : decode cX3_row 111 = .ok (.aload_n 0, 1) := by decide +kernel
theorem dX3_row_112 : decode cX3_row 112 = .ok (.getfield 27, 3) := by decide +kernel
theorem dX3_row_115 : decode cX3_row 115 = .ok (.iload_n 1, 1) := by decide +kernel
theorem dX3_row_116 : decode cX3_row 116 = .ok (.invokevirtual 209, 3) := by decide +kernel
theorem dX3_row_119 : decode cX3_row 119 = .ok (.ireturn, 1) := by decide +kernel
theorem dX3_row_120 : decode cX3_row 120 = .ok (.aload_n 0, 1) := by decide +kernel
theorem dX3_row_121 : decode cX3_row 121 = .ok (.getfield 27, 3) := by decide +kernel
theorem dX3_row_124 : decode cX3_row 124 = .ok (.iload_n 1, 1) := by decide +kernel
theorem dX3_row_125 : decode cX3_row 125 = .ok (.invokevirtual 212, 3) := by decide +kernel
theorem dX3_row_128 : decode cX3_row 128 = .ok (.ireturn, 1) := by decide +kernel
theorem dX3_row_129 : decode cX3_row 129 = .ok (.aload_n 0, 1) := by decide +kernel
theorem dX3_row_130 : decode cX3_row 130 = .ok (.getfield 27, 3) := by decide +kernel
theorem dX3_row_133 : decode cX3_row 133 = .ok (.iload_n 1, 1) := by decide +kernel
theorem dX3_row_134 : decode cX3_row 134 = .ok (.invokevirtual 110, 3) := by decide +kernel
theorem dX3_row_137 : decode cX3_row 137 = .ok (.ireturn, 1) := by decide +kernel
theorem dX3_row_138 : decode cX3_row 138 = .ok (.aload_n 0, 1) := by decide +kernel
theorem dX3_row_139 : decode cX3_row 139 = .ok (.getfield 27, 3) := by decide +kernel
theorem dX3_row_142 : decode cX3_row 142 = .ok (.iload_n 1, 1) := by decide +kernel
theorem dX3_row_143 : decode cX3_row 143 = .ok (.invokevirtual 215, 3) := by decide +kernel
theorem dX3_row_146 : decode cX3_row 146 = .ok (.ireturn, 1) := by decide +kernel
theorem dX3_row_147 : decode cX3_row 147 = .ok (.new 105, 3) := by decide +kernel
theorem dX3_row_150 : decode cX3_row 150 = .ok (.dup, 1) := by decide +kernel
theorem dX3_row_151 : decode cX3_row 151 = .ok (.ldc 218, 2) := by decide +kernel
theorem dX3_row_153 : decode cX3_row 153 = .ok (.invokespecial 109, 3) := by decide +kernel
theorem dX3_row_156 : decode cX3_row 156 = .ok (.athrow, 1) := by decide +kernel
set_option maxRecDepth 20000 in
theorem ggX3_count_X1_total : GoodIn wsX3_count wsX1_total := goodIn_r _ [12, 13, 55, 56, 57, 58, 59] (by decide +kernel) (by decide +kernel)
set_option maxRecDepth 20000 in
theorem gX3_count_X1_total : GoodIn wsX3_count (wsV RX3 220 RX1 yX1_total wsX1_total) := goodIn_app (goodIn_of _ (by decide +kernel)) ggX3_count_X1_total
set_option maxRecDepth 20000 in
theorem ggX3_count_X2_placeCount : GoodIn wsX3_count wsX2_placeCount := goodIn_r _ [18, 19, 60, 61, 62, 63, 64, 65, 66, 67, 68, 69] (by decide +kernel) (by decide +kernel)
set_option maxRecDepth 20000 in
theorem gX3_count_X2_placeCount : GoodIn wsX3_count (wsV RX3 223 RX2 yX2_placeCount wsX2_placeCount) := goodIn_app (goodIn_of _ (by decide +kernel)) ggX3_count_X2_placeCount
set_option maxRecDepth 20000 in
theorem ggX3_count_X2_rowCount : GoodIn wsX3_count wsX2_rowCount := goodIn_r _ [23, 24, 60, 61, 62, 63, 64, 65, 66, 67, 68, 69] (by decide +kernel) (by decide +kernel)
set_option maxRecDepth 20000 in
theorem gX3_count_X2_rowCount : GoodIn wsX3_count (wsV RX3 226 RX2 yX2_rowCount wsX2_rowCount) := goodIn_app (goodIn_of _ (by decide +kernel)) ggX3_count_X2_rowCount
set_option maxRecDepth 20000 in
theorem ggX3_count_X1_freeCount : GoodIn wsX3_count wsX1_freeCount := goodIn_r _ [28, 29, 55, 56, 57, 58, 59] (by decide +kernel) (by decide +kernel)
set_option maxRecDepth 20000 in
theorem gX3_count_X1_freeCount : GoodIn wsX3_count (wsV RX3 67 RX1 yX1_freeCount wsX1_freeCount) := goodIn_app (goodIn_of _ (by decide +kernel)) ggX3_count_X1_freeCount
set_option maxRecDepth 20000 in
theorem ggX3_count_X0_takenCount : GoodIn wsX3_count wsX0_takenCount := goodIn_r _ [34, 35, 70, 71, 72] (by decide +kernel) (by decide +kernel)
set_option maxRecDepth 20000 in
theorem gX3_count_X0_takenCount : GoodIn wsX3_count (wsV RX3 170 RX0 yX0_takenCount wsX0_takenCount) := goodIn_app (goodIn_of _ (by decide +kernel)) ggX3_count_X0_takenCount
set_option maxRecDepth 20000 in
theorem ggX3_count_X2_doneCount : GoodIn wsX3_count wsX2_doneCount := goodIn_r _ [39, 40, 60, 61, 62, 63, 64, 65, 66, 67, 68, 69] (by decide +kernel) (by decide +kernel)
set_option maxRecDepth 20000 in
theorem gX3_count_X2_doneCount : GoodIn wsX3_count (wsV RX3 229 RX2 yX2_doneCount wsX2_doneCount) := goodIn_app (goodIn_of _ (by decide +kernel)) ggX3_count_X2_doneCount
set_option maxRecDepth 20000 in
theorem ggX3_count_X2_oldestPlace : GoodIn wsX3_count wsX2_oldestPlace := goodIn_r _ [44, 24, 45, 60, 61, 62, 63, 64, 65, 66, 67, 68, 69] (by decide +kernel) (by decide +kernel)
set_option maxRecDepth 20000 in
theorem gX3_count_X2_oldestPlace : GoodIn wsX3_count (wsV RX3 145 RX2 yX2_oldestPlace wsX2_oldestPlace) := goodIn_app (goodIn_of _ (by decide +kernel)) ggX3_count_X2_oldestPlace
theorem dX3_count_0 : decode cX3_count 0 = .ok (.iload_n 1, 1) := by decide +kernel
theorem dX3_count_1 : decode cX3_count 1 = .ok (.tableswitch 136 0 10 #[59, 65, 73, 81, 89, 97, 105, 113, 118, 126, 131], 59) := by decide +kernel
theorem dX3_count_60 : decode cX3_count 60 = .ok (.aload_n 0, 1) := by decide +kernel
theorem dX3_count_61 : decode cX3_count 61 = .ok (.getfield 38, 3) := by decide +kernel
theorem dX3_count_64 : decode cX3_count 64 = .ok (.arraylength, 1) := by decide +kernel
theorem dX3_count_65 : decode cX3_count 65 = .ok (.ireturn, 1) := by decide +kernel
theorem dX3_count_66 : decode cX3_count 66 = .ok (.aload_n 0, 1) := by decide +kernel
theorem dX3_count_67 : decode cX3_count 67 = .ok (.getfield 18, 3) := by decide +kernel
theorem dX3_count_70 : decode cX3_count 70 = .ok (.invokevirtual 220, 3) := by decide +kernel
theorem dX3_count_73 : decode cX3_count 73 = .ok (.ireturn, 1) := by decide +kernel
theorem dX3_count_74 : decode cX3_count 74 = .ok (.aload_n 0, 1) := by decide +kernel
theorem dX3_count_75 : decode cX3_count 75 = .ok (.getfield 27, 3) := by decide +kernel
theorem dX3_count_78 : decode cX3_count 78 = .ok (.invokevirtual 223, 3) := by decide +kernel
theorem dX3_count_81 : decode cX3_count 81 = .ok (.ireturn, 1) := by decide +kernel
theorem dX3_count_82 : decode cX3_count 82 = .ok (.aload_n 0, 1) := by decide +kernel
theorem dX3_count_83 : decode cX3_count 83 = .ok (.getfield 27, 3) := by decide +kernel
theorem dX3_count_86 : decode cX3_count 86 = .ok (.invokevirtual 226, 3) := by decide +kernel
theorem dX3_count_89 : decode cX3_count 89 = .ok (.ireturn, 1) := by decide +kernel
theorem dX3_count_90 : decode cX3_count 90 = .ok (.aload_n 0, 1) := by decide +kernel
theorem dX3_count_91 : decode cX3_count 91 = .ok (.getfield 18, 3) := by decide +kernel
theorem dX3_count_94 : decode cX3_count 94 = .ok (.invokevirtual 67, 3) := by decide +kernel
theorem dX3_count_97 : decode cX3_count 97 = .ok (.ireturn, 1) := by decide +kernel
theorem dX3_count_98 : decode cX3_count 98 = .ok (.aload_n 0, 1) := by decide +kernel
theorem dX3_count_99 : decode cX3_count 99 = .ok (.getfield 34, 3) := by decide +kernel
theorem dX3_count_102 : decode cX3_count 102 = .ok (.invokevirtual 170, 3) := by decide +kernel
theorem dX3_count_105 : decode cX3_count 105 = .ok (.ireturn, 1) := by decide +kernel
theorem dX3_count_106 : decode cX3_count 106 = .ok (.aload_n 0, 1) := by decide +kernel
theorem dX3_count_107 : decode cX3_count 107 = .ok (.getfield 27, 3) := by decide +kernel
theorem dX3_count_110 : decode cX3_count 110 = .ok (.invokevirtual 229, 3) := by decide +kernel
theorem dX3_count_113 : decode cX3_count 113 = .ok (.ireturn, 1) := by decide +kernel
theorem dX3_count_114 : decode cX3_count 114 = .ok (.aload_n 0, 1) := by decide +kernel
theorem dX3_count_115 : decode cX3_count 115 = .ok (.getfield 182, 3) := by decide +kernel
theorem dX3_count_118 : decode cX3_count 118 = .ok (.ireturn, 1) := by decide +kernel
theorem dX3_count_119 : decode cX3_count 119 = .ok (.aload_n 0, 1) := by decide +kernel
theorem dX3_count_120 : decode cX3_count 120 = .ok (.getfield 27, 3) := by decide +kernel
theorem dX3_count_123 : decode cX3_count 123 = .ok (.invokevirtual 145, 3) := by decide +kernel
theorem dX3_count_126 : decode cX3_count 126 = .ok (.ireturn, 1) := by decide +kernel
theorem dX3_count_127 : decode cX3_count 127 = .ok (.aload_n 0, 1) := by decide +kernel
theorem dX3_count_128 : decode cX3_count 128 = .ok (.getfield 63, 3) := by decide +kernel
theorem dX3_count_131 : decode cX3_count 131 = .ok (.ireturn, 1) := by decide +kernel
theorem dX3_count_132 : decode cX3_count 132 = .ok (.aload_n 0, 1) := by decide +kernel
theorem dX3_count_133 : decode cX3_count 133 = .ok (.getfield 71, 3) := by decide +kernel
theorem dX3_count_136 : decode cX3_count 136 = .ok (.ireturn, 1) := by decide +kernel
theorem dX3_count_137 : decode cX3_count 137 = .ok (.iconst (-1), 1) := by decide +kernel
theorem dX3_count_138 : decode cX3_count 138 = .ok (.ireturn, 1) := by decide +kernel
theorem dX3_oneToSize_0 : decode cX3_oneToSize 0 = .ok (.iconst 1, 1) := by decide +kernel
theorem dX3_oneToSize_1 : decode cX3_oneToSize 1 = .ok (.iload_n 0, 1) := by decide +kernel
theorem dX3_oneToSize_2 : decode cX3_oneToSize 2 = .ok (.iconst 1, 1) := by decide +kernel
theorem dX3_oneToSize_3 : decode cX3_oneToSize 3 = .ok (.isub, 1) := by decide +kernel
theorem dX3_oneToSize_4 : decode cX3_oneToSize 4 = .ok (.iload_n 1, 1) := by decide +kernel
theorem dX3_oneToSize_5 : decode cX3_oneToSize 5 = .ok (.iconst 1, 1) := by decide +kernel
theorem dX3_oneToSize_6 : decode cX3_oneToSize 6 = .ok (.isub, 1) := by decide +kernel
theorem dX3_oneToSize_7 : decode cX3_oneToSize 7 = .ok (.iand, 1) := by decide +kernel
theorem dX3_oneToSize_8 : decode cX3_oneToSize 8 = .ok (.iadd, 1) := by decide +kernel
theorem dX3_oneToSize_9 : decode cX3_oneToSize 9 = .ok (.ireturn, 1) := by decide +kernel
theorem dX3_isRegister_0 : decode cX3_isRegister 0 = .ok (.iload_n 1, 1) := by decide +kernel
theorem dX3_isRegister_1 : decode cX3_isRegister 1 = .ok (.ifCond .lt 16, 3) := by decide +kernel
theorem dX3_isRegister_4 : decode cX3_isRegister 4 = .ok (.iload_n 1, 1) := by decide +kernel
theorem dX3_isRegister_5 : decode cX3_isRegister 5 = .ok (.aload_n 0, 1) := by decide +kernel
theorem dX3_isRegister_6 : decode cX3_isRegister 6 = .ok (.getfield 38, 3) := by decide +kernel
theorem dX3_isRegister_9 : decode cX3_isRegister 9 = .ok (.arraylength, 1) := by decide +kernel
theorem dX3_isRegister_10 : decode cX3_isRegister 10 = .ok (.if_icmp .ge 7, 3) := by decide +kernel
theorem dX3_isRegister_13 : decode cX3_isRegister 13 = .ok (.iconst 1, 1) := by decide +kernel
theorem dX3_isRegister_14 : decode cX3_isRegister 14 = .ok (.goto 4, 3) := by decide +kernel
theorem dX3_isRegister_17 : decode cX3_isRegister 17 = .ok (.iconst 0, 1) := by decide +kernel
theorem dX3_isRegister_18 : decode cX3_isRegister 18 = .ok (.ireturn, 1) := by decide +kernel
set_option maxRecDepth 20000 in
theorem ggX3_isRegisterOrNone_X3_isRegister : GoodIn wsX3_isRegisterOrNone wsX3_isRegister := goodIn_r _ [5, 6, 7, 8, 9, 10, 11, 12, 13, 14, 15] (by decide +kernel) (by decide +kernel)
set_option maxRecDepth 20000 in
theorem gX3_isRegisterOrNone_X3_isRegister : GoodIn wsX3_isRegisterOrNone (wsV RX3 85 RX3 yX3_isRegister wsX3_isRegister) := goodIn_app (goodIn_of _ (by decide +kernel)) ggX3_isRegisterOrNone_X3_isRegister
theorem dX3_isRegisterOrNone_0 : decode cX3_isRegisterOrNone 0 = .ok (.iload_n 1, 1) := by decide +kernel
theorem dX3_isRegisterOrNone_1 : decode cX3_isRegisterOrNone 1 = .ok (.iconst (-1), 1) := by decide +kernel
theorem dX3_isRegisterOrNone_2 : decode cX3_isRegisterOrNone 2 = .ok (.if_icmp .eq 11, 3) := by decide +kernel
theorem dX3_isRegisterOrNone_5 : decode cX3_isRegisterOrNone 5 = .ok (.aload_n 0, 1) := by decide +kernel
theorem dX3_isRegisterOrNone_6 : decode cX3_isRegisterOrNone 6 = .ok (.iload_n 1, 1) := by decide +kernel
theorem dX3_isRegisterOrNone_7 : decode cX3_isRegisterOrNone 7 = .ok (.invokevirtual 85, 3) := by decide +kernel
theorem dX3_isRegisterOrNone_10 : decode cX3_isRegisterOrNone 10 = .ok (.ifCond .eq 7, 3) := by decide +kernel
theorem dX3_isRegisterOrNone_13 : decode cX3_isRegisterOrNone 13 = .ok (.iconst 1, 1) := by decide +kernel
theorem dX3_isRegisterOrNone_14 : decode cX3_isRegisterOrNone 14 = .ok (.goto 4, 3) := by decide +kernel
theorem dX3_isRegisterOrNone_17 : decode cX3_isRegisterOrNone 17 = .ok (.iconst 0, 1) := by decide +kernel
theorem dX3_isRegisterOrNone_18 : decode cX3_isRegisterOrNone 18 = .ok (.ireturn, 1) := by decide +kernel
set_option maxRecDepth 20000 in
theorem ggX3_currentName_X3_isRegister : GoodIn wsX3_currentName wsX3_isRegister := goodIn_r _ [6, 1, 7, 8, 9, 10, 11, 12, 13, 14, 15] (by decide +kernel) (by decide +kernel)
set_option maxRecDepth 20000 in
theorem gX3_currentName_X3_isRegister : GoodIn wsX3_currentName (wsV RX3 85 RX3 yX3_isRegister wsX3_isRegister) := goodIn_app (goodIn_of _ (by decide +kernel)) ggX3_currentName_X3_isRegister
theorem dX3_currentName_0 : decode cX3_currentName 0 = .ok (.aload_n 0, 1) := by decide +kernel
theorem dX3_currentName_1 : decode cX3_currentName 1 = .ok (.iload_n 1, 1) := by decide +kernel
theorem dX3_currentName_2 : decode cX3_currentName 2 = .ok (.invokevirtual 85, 3) := by decide +kernel
theorem dX3_currentName_5 : decode cX3_currentName 5 = .ok (.ifCond .eq 12, 3) := by decide +kernel
theorem dX3_currentName_8 : decode cX3_currentName 8 = .ok (.aload_n 0, 1) := by decide +kernel
theorem dX3_currentName_9 : decode cX3_currentName 9 = .ok (.getfield 38, 3) := by decide +kernel
theorem dX3_currentName_12 : decode cX3_currentName 12 = .ok (.iload_n 1, 1) := by decide +kernel
theorem dX3_currentName_13 : decode cX3_currentName 13 = .ok (.iaload, 1) := by decide +kernel
theorem dX3_currentName_14 : decode cX3_currentName 14 = .ok (.goto 4, 3) := by decide +kernel
theorem dX3_currentName_17 : decode cX3_currentName 17 = .ok (.iconst (-1), 1) := by decide +kernel
theorem dX3_currentName_18 : decode cX3_currentName 18 = .ok (.ireturn, 1) := by decide +kernel
set_option maxRecDepth 20000 in
theorem ggX3_appendRow_X3_currentName : GoodIn wsX3_appendRow wsX3_currentName := goodIn_r _ [7, 2, 8, 9, 10, 6, 11, 34, 35, 36, 37, 38, 39, 40, 41, 42] (by decide +kernel) (by decide +kernel)
set_option maxRecDepth 20000 in
theorem gX3_appendRow_X3_currentName : GoodIn wsX3_appendRow (wsV RX3 74 RX3 yX3_currentName wsX3_currentName) := goodIn_app (goodIn_of _ (by decide +kernel)) ggX3_appendRow_X3_currentName
set_option maxRecDepth 20000 in
theorem ggX3_appendRow_X2_append : GoodIn wsX3_appendRow wsX2_append := goodIn_r _ [16, 17, 18, 19, 20, 21, 22, 23, 24, 25, 26, 27, 15, 28, 29, 30, 31, 32, 33, 43, 44, 45, 46, 47, 48, 49, 50, 51, 52] (by decide +kernel) (by decide +kernel)
set_option maxRecDepth 20000 in
theorem gX3_appendRow_X2_append : GoodIn wsX3_appendRow (wsV RX3 232 RX2 yX2_append wsX2_append) := goodIn_app (goodIn_of _ (by decide +kernel)) ggX3_appendRow_X2_append
set_option maxRecDepth 20000 in
theorem ggX3_appendRow_X3_isRegister : GoodIn wsX3_appendRow wsX3_isRegister := goodIn_r _ [11, 2, 34, 35, 36, 37, 38, 39, 40, 41, 42] (by decide +kernel) (by decide +kernel)
set_option maxRecDepth 20000 in
theorem gX3_appendRow_X3_isRegister : GoodIn wsX3_appendRow (wsV RX3 85 RX3 yX3_isRegister wsX3_isRegister) := goodIn_app (goodIn_of _ (by decide +kernel)) ggX3_appendRow_X3_isRegister
theorem dX3_appendRow_0 : decode cX3_appendRow 0 = .ok (.aload_n 0, 1) := by decide +kernel
theorem dX3_appendRow_1 : decode cX3_appendRow 1 = .ok (.getfield 27, 3) := by decide +kernel
theorem dX3_appendRow_4 : decode cX3_appendRow 4 = .ok (.iload_n 1, 1) := by decide +kernel
theorem dX3_appendRow_5 : decode cX3_appendRow 5 = .ok (.iload_n 2, 1) := by decide +kernel
theorem dX3_appendRow_6 : decode cX3_appendRow 6 = .ok (.iload_n 3, 1) := by decide +kernel
theorem dX3_appendRow_7 : decode cX3_appendRow 7 = .ok (.aload_n 0, 1) := by decide +kernel
theorem dX3_appendRow_8 : decode cX3_appendRow 8 = .ok (.iload 4, 2) := by decide +kernel
theorem dX3_appendRow_10 : decode cX3_appendRow 10 = .ok (.invokevirtual 74, 3) := by decide +kernel
theorem dX3_appendRow_13 : decode cX3_appendRow 13 = .ok (.iload 4, 2) := by decide +kernel
theorem dX3_appendRow_15 : decode cX3_appendRow 15 = .ok (.iload 5, 2) := by decide +kernel
theorem dX3_appendRow_17 : decode cX3_appendRow 17 = .ok (.invokevirtual 232, 3) := by decide +kernel
theorem dX3_appendRow_20 : decode cX3_appendRow 20 = .ok (.istore 6, 2) := by decide +kernel
theorem dX3_appendRow_22 : decode cX3_appendRow 22 = .ok (.aload_n 0, 1) := by decide +kernel
theorem dX3_appendRow_23 : decode cX3_appendRow 23 = .ok (.iload 4, 2) := by decide +kernel
theorem dX3_appendRow_25 : decode cX3_appendRow 25 = .ok (.invokevirtual 85, 3) := by decide +kernel
theorem dX3_appendRow_28 : decode cX3_appendRow 28 = .ok (.ifCond .eq 11, 3) := by decide +kernel
theorem dX3_appendRow_31 : decode cX3_appendRow 31 = .ok (.aload_n 0, 1) := by decide +kernel
theorem dX3_appendRow_32 : decode cX3_appendRow 32 = .ok (.getfield 38, 3) := by decide +kernel
theorem dX3_appendRow_35 : decode cX3_appendRow 35 = .ok (.iload 4, 2) := by decide +kernel
theorem dX3_appendRow_37 : decode cX3_appendRow 37 = .ok (.iload_n 3, 1) := by decide +kernel
theorem dX3_appendRow_38 : decode cX3_appendRow 38 = .ok (.iastore, 1) := by decide +kernel
theorem dX3_appendRow_39 : decode cX3_appendRow 39 = .ok (.iload 6, 2) := by decide +kernel
theorem dX3_appendRow_41 : decode cX3_appendRow 41 = .ok (.ireturn, 1) := by decide +kernel
set_option maxRecDepth 20000 in
theorem ggX3_isAble_X2_isInState : GoodIn wsX3_isAble wsX2_isInState := goodIn_r _ [7, 8, 9, 10, 11, 6, 12, 13, 14, 15, 16, 17, 18, 19, 20, 21, 22, 53, 54, 55, 56, 57, 58, 59, 60, 61, 62] (by decide +kernel) (by decide +kernel)
set_option maxRecDepth 20000 in
theorem gX3_isAble_X2_isInState : GoodIn wsX3_isAble (wsV RX3 96 RX2 yX2_isInState wsX2_isInState) := goodIn_app (goodIn_of _ (by decide +kernel)) ggX3_isAble_X2_isInState
set_option maxRecDepth 20000 in
theorem ggX3_isAble_X2_readAAt : GoodIn wsX3_isAble wsX2_readAAt := goodIn_r _ [26, 27, 14, 15, 16, 6, 17, 8, 53, 54, 55, 56, 57, 58, 59, 60, 61, 62] (by decide +kernel) (by decide +kernel)
set_option maxRecDepth 20000 in
theorem gX3_isAble_X2_readAAt : GoodIn wsX3_isAble (wsV RX3 203 RX2 yX2_readAAt wsX2_readAAt) := goodIn_app (goodIn_of _ (by decide +kernel)) ggX3_isAble_X2_readAAt
set_option maxRecDepth 20000 in
theorem ggX3_isAble_X1_isReadyOrNone : GoodIn wsX3_isAble wsX1_isReadyOrNone := goodIn_r _ [32, 33, 34, 35, 36, 31, 37, 38, 63, 64, 65, 66, 67] (by decide +kernel) (by decide +kernel)
set_option maxRecDepth 20000 in
theorem gX3_isAble_X1_isReadyOrNone : GoodIn wsX3_isAble (wsV RX3 236 RX1 yX1_isReadyOrNone wsX1_isReadyOrNone) := goodIn_app (goodIn_of _ (by decide +kernel)) ggX3_isAble_X1_isReadyOrNone
set_option maxRecDepth 20000 in
theorem ggX3_isAble_X2_readBAt : GoodIn wsX3_isAble wsX2_readBAt := goodIn_r _ [42, 43, 14, 15, 16, 6, 17, 8, 53, 54, 55, 56, 57, 58, 59, 60, 61, 62] (by decide +kernel) (by decide +kernel)
set_option maxRecDepth 20000 in
theorem gX3_isAble_X2_readBAt : GoodIn wsX3_isAble (wsV RX3 206 RX2 yX2_readBAt wsX2_readBAt) := goodIn_app (goodIn_of _ (by decide +kernel)) ggX3_isAble_X2_readBAt
theorem dX3_isAble_0 : decode cX3_isAble 0 = .ok (.aload_n 0, 1) := by decide +kernel
theorem dX3_isAble_1 : decode cX3_isAble 1 = .ok (.getfield 27, 3) := by decide +kernel
theorem dX3_isAble_4 : decode cX3_isAble 4 = .ok (.iload_n 1, 1) := by decide +kernel
theorem dX3_isAble_5 : decode cX3_isAble 5 = .ok (.iconst 0, 1) := by decide +kernel
theorem dX3_isAble_6 : decode cX3_isAble 6 = .ok (.invokevirtual 96, 3) := by decide +kernel
theorem dX3_isAble_9 : decode cX3_isAble 9 = .ok (.ifCond .eq 43, 3) := by decide +kernel
theorem dX3_isAble_12 : decode cX3_isAble 12 = .ok (.aload_n 0, 1) := by decide +kernel
theorem dX3_isAble_13 : decode cX3_isAble 13 = .ok (.getfield 18, 3) := by decide +kernel
theorem dX3_isAble_16 : decode cX3_isAble 16 = .ok (.aload_n 0, 1) := by decide +kernel
theorem dX3_isAble_17 : decode cX3_isAble 17 = .ok (.getfield 27, 3) := by decide +kernel
theorem dX3_isAble_20 : decode cX3_isAble 20 = .ok (.iload_n 1, 1) := by decide +kernel
theorem dX3_isAble_21 : decode cX3_isAble 21 = .ok (.invokevirtual 203, 3) := by decide +kernel
theorem dX3_isAble_24 : decode cX3_isAble 24 = .ok (.invokevirtual 236, 3) := by decide +kernel
theorem dX3_isAble_27 : decode cX3_isAble 27 = .ok (.ifCond .eq 25, 3) := by decide +kernel
theorem dX3_isAble_30 : decode cX3_isAble 30 = .ok (.aload_n 0, 1) := by decide +kernel
theorem dX3_isAble_31 : decode cX3_isAble 31 = .ok (.getfield 18, 3) := by decide +kernel
theorem dX3_isAble_34 : decode cX3_isAble 34 = .ok (.aload_n 0, 1) := by decide +kernel
theorem dX3_isAble_35 : decode cX3_isAble 35 = .ok (.getfield 27, 3) := by decide +kernel
theorem dX3_isAble_38 : decode cX3_isAble 38 = .ok (.iload_n 1, 1) := by decide +kernel
theorem dX3_isAble_39 : decode cX3_isAble 39 = .ok (.invokevirtual 206, 3) := by decide +kernel
theorem dX3_isAble_42 : decode cX3_isAble 42 = .ok (.invokevirtual 236, 3) := by decide +kernel
theorem dX3_isAble_45 : decode cX3_isAble 45 = .ok (.ifCond .eq 7, 3) := by decide +kernel
theorem dX3_isAble_48 : decode cX3_isAble 48 = .ok (.iconst 1, 1) := by decide +kernel
theorem dX3_isAble_49 : decode cX3_isAble 49 = .ok (.goto 4, 3) := by decide +kernel
theorem dX3_isAble_52 : decode cX3_isAble 52 = .ok (.iconst 0, 1) := by decide +kernel
theorem dX3_isAble_53 : decode cX3_isAble 53 = .ok (.ireturn, 1) := by decide +kernel
set_option maxRecDepth 20000 in
theorem ggX3_oldestAbleFor_X2_rowCount : GoodIn wsX3_oldestAbleFor wsX2_rowCount := goodIn_r _ [6, 7, 71, 72, 73, 74, 75, 76, 77, 78, 79, 80] (by decide +kernel) (by decide +kernel)
set_option maxRecDepth 20000 in
theorem gX3_oldestAbleFor_X2_rowCount : GoodIn wsX3_oldestAbleFor (wsV RX3 226 RX2 yX2_rowCount wsX2_rowCount) := goodIn_app (goodIn_of _ (by decide +kernel)) ggX3_oldestAbleFor_X2_rowCount
set_option maxRecDepth 20000 in
theorem ggX3_oldestAbleFor_X2_placeOfAge : GoodIn wsX3_oldestAbleFor wsX2_placeOfAge := goodIn_r _ [11, 12, 13, 71, 72, 73, 74, 75, 76, 77, 78, 79, 80] (by decide +kernel) (by decide +kernel)
set_option maxRecDepth 20000 in
theorem gX3_oldestAbleFor_X2_placeOfAge : GoodIn wsX3_oldestAbleFor (wsV RX3 239 RX2 yX2_placeOfAge wsX2_placeOfAge) := goodIn_app (goodIn_of _ (by decide +kernel)) ggX3_oldestAbleFor_X2_placeOfAge
set_option maxRecDepth 20000 in
theorem ggX3_oldestAbleFor_X2_portAt : GoodIn wsX3_oldestAbleFor wsX2_portAt := goodIn_r _ [17, 18, 19, 20, 21, 5, 22, 13, 71, 72, 73, 74, 75, 76, 77, 78, 79, 80] (by decide +kernel) (by decide +kernel)
set_option maxRecDepth 20000 in
theorem gX3_oldestAbleFor_X2_portAt : GoodIn wsX3_oldestAbleFor (wsV RX3 110 RX2 yX2_portAt wsX2_portAt) := goodIn_app (goodIn_of _ (by decide +kernel)) ggX3_oldestAbleFor_X2_portAt
set_option maxRecDepth 20000 in
theorem ggX3_oldestAbleFor_X3_isAble : GoodIn wsX3_oldestAbleFor wsX3_isAble := goodIn_r _ [27, 1, 28, 29, 30, 31, 5, 32, 13, 33, 34, 35, 36, 7, 19, 20, 21, 22, 37, 38, 39, 40, 12, 41, 42, 43, 44, 45, 46, 47, 48, 49, 50, 51, 52, 53, 54, 55, 56, 57, 58, 59, 60, 61, 62, 63, 64, 65, 66, 67, 68, 69, 70, 71, 72, 73, 74, 75, 76, 77, 78, 79, 80, 81, 82, 83, 84, 85] (by decide +kernel) (by decide +kernel)
set_option maxRecDepth 20000 in
theorem gX3_oldestAbleFor_X3_isAble : GoodIn wsX3_oldestAbleFor (wsV RX3 242 RX3 yX3_isAble wsX3_isAble) := goodIn_app (goodIn_of _ (by decide +kernel)) ggX3_oldestAbleFor_X3_isAble
theorem dX3_oldestAbleFor_0 : decode cX3_oldestAbleFor 0 = .ok (.iconst 0, 1) := by decide +kernel
theorem dX3_oldestAbleFor_1 : decode cX3_oldestAbleFor 1 = .ok (.istore_n 2, 1) := by decide +kernel
theorem dX3_oldestAbleFor_2 : decode cX3_oldestAbleFor 2 = .ok (.iload_n 2, 1) := by decide +kernel
theorem dX3_oldestAbleFor_3 : decode cX3_oldestAbleFor 3 = .ok (.aload_n 0, 1) := by decide +kernel
theorem dX3_oldestAbleFor_4 : decode cX3_oldestAbleFor 4 = .ok (.getfield 27, 3) := by decide +kernel
theorem dX3_oldestAbleFor_7 : decode cX3_oldestAbleFor 7 = .ok (.invokevirtual 226, 3) := by decide +kernel
theorem dX3_oldestAbleFor_10 : decode cX3_oldestAbleFor 10 = .ok (.if_icmp .ge 40, 3) := by decide +kernel
theorem dX3_oldestAbleFor_13 : decode cX3_oldestAbleFor 13 = .ok (.aload_n 0, 1) := by decide +kernel
theorem dX3_oldestAbleFor_14 : decode cX3_oldestAbleFor 14 = .ok (.getfield 27, 3) := by decide +kernel
theorem dX3_oldestAbleFor_17 : decode cX3_oldestAbleFor 17 = .ok (.iload_n 2, 1) := by decide +kernel
theorem dX3_oldestAbleFor_18 : decode cX3_oldestAbleFor 18 = .ok (.invokevirtual 239, 3) := by decide +kernel
theorem dX3_oldestAbleFor_21 : decode cX3_oldestAbleFor 21 = .ok (.istore_n 3, 1) := by decide +kernel
theorem dX3_oldestAbleFor_22 : decode cX3_oldestAbleFor 22 = .ok (.aload_n 0, 1) := by decide +kernel
theorem dX3_oldestAbleFor_23 : decode cX3_oldestAbleFor 23 = .ok (.getfield 27, 3) := by decide +kernel
theorem dX3_oldestAbleFor_26 : decode cX3_oldestAbleFor 26 = .ok (.iload_n 3, 1) := by decide +kernel
theorem dX3_oldestAbleFor_27 : decode cX3_oldestAbleFor 27 = .ok (.invokevirtual 110, 3) := by decide +kernel
theorem dX3_oldestAbleFor_30 : decode cX3_oldestAbleFor 30 = .ok (.iload_n 1, 1) := by decide +kernel
theorem dX3_oldestAbleFor_31 : decode cX3_oldestAbleFor 31 = .ok (.if_icmp .ne 13, 3) := by decide +kernel
theorem dX3_oldestAbleFor_34 : decode cX3_oldestAbleFor 34 = .ok (.aload_n 0, 1) := by decide +kernel
theorem dX3_oldestAbleFor_35 : decode cX3_oldestAbleFor 35 = .ok (.iload_n 3, 1) := by decide +kernel
theorem dX3_oldestAbleFor_36 : decode cX3_oldestAbleFor 36 = .ok (.invokevirtual 242, 3) := by decide +kernel
theorem dX3_oldestAbleFor_39 : decode cX3_oldestAbleFor 39 = .ok (.ifCond .eq 5, 3) := by decide +kernel
theorem dX3_oldestAbleFor_42 : decode cX3_oldestAbleFor 42 = .ok (.iload_n 3, 1) := by decide +kernel
theorem dX3_oldestAbleFor_43 : decode cX3_oldestAbleFor 43 = .ok (.ireturn, 1) := by decide +kernel
theorem dX3_oldestAbleFor_44 : decode cX3_oldestAbleFor 44 = .ok (.iinc 2 1, 3) := by decide +kernel
theorem dX3_oldestAbleFor_47 : decode cX3_oldestAbleFor 47 = .ok (.goto (-45), 3) := by decide +kernel
theorem dX3_oldestAbleFor_50 : decode cX3_oldestAbleFor 50 = .ok (.iconst (-1), 1) := by decide +kernel
theorem dX3_oldestAbleFor_51 : decode cX3_oldestAbleFor 51 = .ok (.ireturn, 1) := by decide +kernel
set_option maxRecDepth 20000 in
theorem ggX3_countAble_X2_rowCount : GoodIn wsX3_countAble wsX2_rowCount := goodIn_r _ [6, 7, 66, 67, 68, 69, 70, 71, 72, 73, 74, 75] (by decide +kernel) (by decide +kernel)
set_option maxRecDepth 20000 in
theorem gX3_countAble_X2_rowCount : GoodIn wsX3_countAble (wsV RX3 226 RX2 yX2_rowCount wsX2_rowCount) := goodIn_app (goodIn_of _ (by decide +kernel)) ggX3_countAble_X2_rowCount
set_option maxRecDepth 20000 in
theorem ggX3_countAble_X2_placeOfAge : GoodIn wsX3_countAble wsX2_placeOfAge := goodIn_r _ [11, 12, 13, 66, 67, 68, 69, 70, 71, 72, 73, 74, 75] (by decide +kernel) (by decide +kernel)
set_option maxRecDepth 20000 in
theorem gX3_countAble_X2_placeOfAge : GoodIn wsX3_countAble (wsV RX3 239 RX2 yX2_placeOfAge wsX2_placeOfAge) := goodIn_app (goodIn_of _ (by decide +kernel)) ggX3_countAble_X2_placeOfAge
set_option maxRecDepth 20000 in
theorem ggX3_countAble_X3_isAble : GoodIn wsX3_countAble wsX3_isAble := goodIn_r _ [18, 1, 19, 20, 21, 22, 5, 23, 13, 24, 25, 26, 27, 7, 28, 29, 30, 31, 32, 33, 34, 35, 12, 36, 37, 38, 39, 40, 41, 42, 43, 44, 45, 46, 47, 48, 49, 50, 51, 52, 53, 54, 55, 56, 57, 58, 59, 60, 61, 62, 63, 64, 65, 66, 67, 68, 69, 70, 71, 72, 73, 74, 75, 76, 77, 78, 79, 80] (by decide +kernel) (by decide +kernel)
set_option maxRecDepth 20000 in
theorem gX3_countAble_X3_isAble : GoodIn wsX3_countAble (wsV RX3 242 RX3 yX3_isAble wsX3_isAble) := goodIn_app (goodIn_of _ (by decide +kernel)) ggX3_countAble_X3_isAble
theorem dX3_countAble_0 : decode cX3_countAble 0 = .ok (.iconst 0, 1) := by decide +kernel
theorem dX3_countAble_1 : decode cX3_countAble 1 = .ok (.istore_n 1, 1) := by decide +kernel
theorem dX3_countAble_2 : decode cX3_countAble 2 = .ok (.iconst 0, 1) := by decide +kernel
theorem dX3_countAble_3 : decode cX3_countAble 3 = .ok (.istore_n 2, 1) := by decide +kernel
theorem dX3_countAble_4 : decode cX3_countAble 4 = .ok (.iload_n 2, 1) := by decide +kernel
theorem dX3_countAble_5 : decode cX3_countAble 5 = .ok (.aload_n 0, 1) := by decide +kernel
theorem dX3_countAble_6 : decode cX3_countAble 6 = .ok (.getfield 27, 3) := by decide +kernel
theorem dX3_countAble_9 : decode cX3_countAble 9 = .ok (.invokevirtual 226, 3) := by decide +kernel
theorem dX3_countAble_12 : decode cX3_countAble 12 = .ok (.if_icmp .ge 27, 3) := by decide +kernel
theorem dX3_countAble_15 : decode cX3_countAble 15 = .ok (.aload_n 0, 1) := by decide +kernel
theorem dX3_countAble_16 : decode cX3_countAble 16 = .ok (.aload_n 0, 1) := by decide +kernel
theorem dX3_countAble_17 : decode cX3_countAble 17 = .ok (.getfield 27, 3) := by decide +kernel
theorem dX3_countAble_20 : decode cX3_countAble 20 = .ok (.iload_n 2, 1) := by decide +kernel
theorem dX3_countAble_21 : decode cX3_countAble 21 = .ok (.invokevirtual 239, 3) := by decide +kernel
theorem dX3_countAble_24 : decode cX3_countAble 24 = .ok (.invokevirtual 242, 3) := by decide +kernel
theorem dX3_countAble_27 : decode cX3_countAble 27 = .ok (.ifCond .eq 6, 3) := by decide +kernel
theorem dX3_countAble_30 : decode cX3_countAble 30 = .ok (.iinc 1 1, 3) := by decide +kernel
theorem dX3_countAble_33 : decode cX3_countAble 33 = .ok (.iinc 2 1, 3) := by decide +kernel
theorem dX3_countAble_36 : decode cX3_countAble 36 = .ok (.goto (-32), 3) := by decide +kernel
theorem dX3_countAble_39 : decode cX3_countAble 39 = .ok (.iload_n 1, 1) := by decide +kernel
theorem dX3_countAble_40 : decode cX3_countAble 40 = .ok (.ireturn, 1) := by decide +kernel
set_option maxRecDepth 20000 in
theorem ggX3_rowsBeforeOldestMark_X0_oldest : GoodIn wsX3_rowsBeforeOldestMark wsX0_oldest := goodIn_r _ [7, 8, 9, 39, 40, 41] (by decide +kernel) (by decide +kernel)
set_option maxRecDepth 20000 in
theorem gX3_rowsBeforeOldestMark_X0_oldest : GoodIn wsX3_rowsBeforeOldestMark (wsV RX3 245 RX0 yX0_oldest wsX0_oldest) := goodIn_app (goodIn_of _ (by decide +kernel)) ggX3_rowsBeforeOldestMark_X0_oldest
set_option maxRecDepth 20000 in
theorem ggX3_rowsBeforeOldestMark_X2_rowCount : GoodIn wsX3_rowsBeforeOldestMark wsX2_rowCount := goodIn_r _ [14, 15, 42, 43, 44, 45, 46, 47, 48, 49, 50, 51] (by decide +kernel) (by decide +kernel)
set_option maxRecDepth 20000 in
theorem gX3_rowsBeforeOldestMark_X2_rowCount : GoodIn wsX3_rowsBeforeOldestMark (wsV RX3 226 RX2 yX2_rowCount wsX2_rowCount) := goodIn_app (goodIn_of _ (by decide +kernel)) ggX3_rowsBeforeOldestMark_X2_rowCount
set_option maxRecDepth 20000 in
theorem ggX3_rowsBeforeOldestMark_X0_rowsBefore : GoodIn wsX3_rowsBeforeOldestMark wsX0_rowsBefore := goodIn_r _ [19, 20, 21, 22, 23, 6, 24, 39, 40, 41] (by decide +kernel) (by decide +kernel)
set_option maxRecDepth 20000 in
theorem gX3_rowsBeforeOldestMark_X0_rowsBefore : GoodIn wsX3_rowsBeforeOldestMark (wsV RX3 173 RX0 yX0_rowsBefore wsX0_rowsBefore) := goodIn_app (goodIn_of _ (by decide +kernel)) ggX3_rowsBeforeOldestMark_X0_rowsBefore
set_option maxRecDepth 20000 in
theorem ggX3_rowsBeforeOldestMark_X2_doneCount : GoodIn wsX3_rowsBeforeOldestMark wsX2_doneCount := goodIn_r _ [28, 29, 42, 43, 44, 45, 46, 47, 48, 49, 50, 51] (by decide +kernel) (by decide +kernel)
set_option maxRecDepth 20000 in
theorem gX3_rowsBeforeOldestMark_X2_doneCount : GoodIn wsX3_rowsBeforeOldestMark (wsV RX3 229 RX2 yX2_doneCount wsX2_doneCount) := goodIn_app (goodIn_of _ (by decide +kernel)) ggX3_rowsBeforeOldestMark_X2_doneCount
theorem dX3_rowsBeforeOldestMark_0 : decode cX3_rowsBeforeOldestMark 0 = .ok (.aload_n 0, 1) := by decide +kernel
theorem dX3_rowsBeforeOldestMark_1 : decode cX3_rowsBeforeOldestMark 1 = .ok (.getfield 34, 3) := by decide +kernel
theorem dX3_rowsBeforeOldestMark_4 : decode cX3_rowsBeforeOldestMark 4 = .ok (.invokevirtual 245, 3) := by decide +kernel
theorem dX3_rowsBeforeOldestMark_7 : decode cX3_rowsBeforeOldestMark 7 = .ok (.istore_n 1, 1) := by decide +kernel
theorem dX3_rowsBeforeOldestMark_8 : decode cX3_rowsBeforeOldestMark 8 = .ok (.iload_n 1, 1) := by decide +kernel
theorem dX3_rowsBeforeOldestMark_9 : decode cX3_rowsBeforeOldestMark 9 = .ok (.iconst (-1), 1) := by decide +kernel
theorem dX3_rowsBeforeOldestMark_10 : decode cX3_rowsBeforeOldestMark 10 = .ok (.if_icmp .ne 13, 3) := by decide +kernel
theorem dX3_rowsBeforeOldestMark_13 : decode cX3_rowsBeforeOldestMark 13 = .ok (.aload_n 0, 1) := by decide +kernel
theorem dX3_rowsBeforeOldestMark_14 : decode cX3_rowsBeforeOldestMark 14 = .ok (.getfield 27, 3) := by decide +kernel
theorem dX3_rowsBeforeOldestMark_17 : decode cX3_rowsBeforeOldestMark 17 = .ok (.invokevirtual 226, 3) := by decide +kernel
theorem dX3_rowsBeforeOldestMark_20 : decode cX3_rowsBeforeOldestMark 20 = .ok (.goto 19, 3) := by decide +kernel
theorem dX3_rowsBeforeOldestMark_23 : decode cX3_rowsBeforeOldestMark 23 = .ok (.aload_n 0, 1) := by decide +kernel
theorem dX3_rowsBeforeOldestMark_24 : decode cX3_rowsBeforeOldestMark 24 = .ok (.getfield 34, 3) := by decide +kernel
theorem dX3_rowsBeforeOldestMark_27 : decode cX3_rowsBeforeOldestMark 27 = .ok (.iload_n 1, 1) := by decide +kernel
theorem dX3_rowsBeforeOldestMark_28 : decode cX3_rowsBeforeOldestMark 28 = .ok (.invokevirtual 173, 3) := by decide +kernel
theorem dX3_rowsBeforeOldestMark_31 : decode cX3_rowsBeforeOldestMark 31 = .ok (.aload_n 0, 1) := by decide +kernel
theorem dX3_rowsBeforeOldestMark_32 : decode cX3_rowsBeforeOldestMark 32 = .ok (.getfield 27, 3) := by decide +kernel
theorem dX3_rowsBeforeOldestMark_35 : decode cX3_rowsBeforeOldestMark 35 = .ok (.invokevirtual 229, 3) := by decide +kernel
theorem dX3_rowsBeforeOldestMark_38 : decode cX3_rowsBeforeOldestMark 38 = .ok (.isub, 1) := by decide +kernel
theorem dX3_rowsBeforeOldestMark_39 : decode cX3_rowsBeforeOldestMark 39 = .ok (.ireturn, 1) := by decide +kernel
set_option maxRecDepth 20000 in
theorem ggX3_finishOldest_X2_oldestPlace : GoodIn wsX3_finishOldest wsX2_oldestPlace := goodIn_r _ [8, 9, 10, 72, 73, 74, 75, 76, 77, 78, 79, 80, 81] (by decide +kernel) (by decide +kernel)
set_option maxRecDepth 20000 in
theorem gX3_finishOldest_X2_oldestPlace : GoodIn wsX3_finishOldest (wsV RX3 145 RX2 yX2_oldestPlace wsX2_oldestPlace) := goodIn_app (goodIn_of _ (by decide +kernel)) ggX3_finishOldest_X2_oldestPlace
set_option maxRecDepth 20000 in
theorem ggX3_finishOldest_X2_registerAt : GoodIn wsX3_finishOldest wsX2_registerAt := goodIn_r _ [14, 15, 16, 17, 18, 7, 19, 20, 72, 73, 74, 75, 76, 77, 78, 79, 80, 81] (by decide +kernel) (by decide +kernel)
set_option maxRecDepth 20000 in
theorem gX3_finishOldest_X2_registerAt : GoodIn wsX3_finishOldest (wsV RX3 212 RX2 yX2_registerAt wsX2_registerAt) := goodIn_app (goodIn_of _ (by decide +kernel)) ggX3_finishOldest_X2_registerAt
set_option maxRecDepth 20000 in
theorem ggX3_finishOldest_X3_isRegister : GoodIn wsX3_finishOldest wsX3_isRegister := goodIn_r _ [25, 26, 63, 64, 65, 66, 67, 68, 69, 70, 71] (by decide +kernel) (by decide +kernel)
set_option maxRecDepth 20000 in
theorem gX3_finishOldest_X3_isRegister : GoodIn wsX3_finishOldest (wsV RX3 85 RX3 yX3_isRegister wsX3_isRegister) := goodIn_app (goodIn_of _ (by decide +kernel)) ggX3_finishOldest_X3_isRegister
set_option maxRecDepth 20000 in
theorem ggX3_finishOldest_X2_givenAt : GoodIn wsX3_finishOldest wsX2_givenAt := goodIn_r _ [30, 31, 16, 17, 18, 7, 19, 20, 72, 73, 74, 75, 76, 77, 78, 79, 80, 81] (by decide +kernel) (by decide +kernel)
set_option maxRecDepth 20000 in
theorem gX3_finishOldest_X2_givenAt : GoodIn wsX3_finishOldest (wsV RX3 129 RX2 yX2_givenAt wsX2_givenAt) := goodIn_app (goodIn_of _ (by decide +kernel)) ggX3_finishOldest_X2_givenAt
set_option maxRecDepth 20000 in
theorem ggX3_finishOldest_X2_knownAt : GoodIn wsX3_finishOldest wsX2_knownAt := goodIn_r _ [35, 36, 16, 17, 18, 7, 19, 20, 72, 73, 74, 75, 76, 77, 78, 79, 80, 81] (by decide +kernel) (by decide +kernel)
set_option maxRecDepth 20000 in
theorem gX3_finishOldest_X2_knownAt : GoodIn wsX3_finishOldest (wsV RX3 209 RX2 yX2_knownAt wsX2_knownAt) := goodIn_app (goodIn_of _ (by decide +kernel)) ggX3_finishOldest_X2_knownAt
set_option maxRecDepth 20000 in
theorem ggX3_finishOldest_X1_giveBack : GoodIn wsX3_finishOldest wsX1_giveBack := goodIn_r _ [41, 42, 43, 44, 45, 46, 47, 40, 48, 49, 50, 51, 52, 53, 82, 83, 84, 85, 86] (by decide +kernel) (by decide +kernel)
set_option maxRecDepth 20000 in
theorem gX3_finishOldest_X1_giveBack : GoodIn wsX3_finishOldest (wsV RX3 248 RX1 yX1_giveBack wsX1_giveBack) := goodIn_app (goodIn_of _ (by decide +kernel)) ggX3_finishOldest_X1_giveBack
set_option maxRecDepth 20000 in
theorem ggX3_finishOldest_X2_dropOldest : GoodIn wsX3_finishOldest wsX2_dropOldest := goodIn_r _ [57, 9, 10, 58, 59, 60, 61, 7, 62, 20, 72, 73, 74, 75, 76, 77, 78, 79, 80, 81] (by decide +kernel) (by decide +kernel)
set_option maxRecDepth 20000 in
theorem gX3_finishOldest_X2_dropOldest : GoodIn wsX3_finishOldest (wsV RX3 251 RX2 yX2_dropOldest wsX2_dropOldest) := goodIn_app (goodIn_of _ (by decide +kernel)) ggX3_finishOldest_X2_dropOldest
theorem dX3_finishOldest_0 : decode cX3_finishOldest 0 = .ok (.aload_n 0, 1) := by decide +kernel
theorem dX3_finishOldest_1 : decode cX3_finishOldest 1 = .ok (.getfield 27, 3) := by decide +kernel
theorem dX3_finishOldest_4 : decode cX3_finishOldest 4 = .ok (.invokevirtual 145, 3) := by decide +kernel
theorem dX3_finishOldest_7 : decode cX3_finishOldest 7 = .ok (.istore_n 1, 1) := by decide +kernel
theorem dX3_finishOldest_8 : decode cX3_finishOldest 8 = .ok (.aload_n 0, 1) := by decide +kernel
theorem dX3_finishOldest_9 : decode cX3_finishOldest 9 = .ok (.getfield 27, 3) := by decide +kernel
theorem dX3_finishOldest_12 : decode cX3_finishOldest 12 = .ok (.iload_n 1, 1) := by decide +kernel
theorem dX3_finishOldest_13 : decode cX3_finishOldest 13 = .ok (.invokevirtual 212, 3) := by decide +kernel
theorem dX3_finishOldest_16 : decode cX3_finishOldest 16 = .ok (.istore_n 2, 1) := by decide +kernel
theorem dX3_finishOldest_17 : decode cX3_finishOldest 17 = .ok (.aload_n 0, 1) := by decide +kernel
theorem dX3_finishOldest_18 : decode cX3_finishOldest 18 = .ok (.iload_n 2, 1) := by decide +kernel
theorem dX3_finishOldest_19 : decode cX3_finishOldest 19 = .ok (.invokevirtual 85, 3) := by decide +kernel
theorem dX3_finishOldest_22 : decode cX3_finishOldest 22 = .ok (.ifCond .eq 32, 3) := by decide +kernel
theorem dX3_finishOldest_25 : decode cX3_finishOldest 25 = .ok (.aload_n 0, 1) := by decide +kernel
theorem dX3_finishOldest_26 : decode cX3_finishOldest 26 = .ok (.getfield 42, 3) := by decide +kernel
theorem dX3_finishOldest_29 : decode cX3_finishOldest 29 = .ok (.iload_n 2, 1) := by decide +kernel
theorem dX3_finishOldest_30 : decode cX3_finishOldest 30 = .ok (.aload_n 0, 1) := by decide +kernel
theorem dX3_finishOldest_31 : decode cX3_finishOldest 31 = .ok (.getfield 27, 3) := by decide +kernel
theorem dX3_finishOldest_34 : decode cX3_finishOldest 34 = .ok (.iload_n 1, 1) := by decide +kernel
theorem dX3_finishOldest_35 : decode cX3_finishOldest 35 = .ok (.invokevirtual 129, 3) := by decide +kernel
theorem dX3_finishOldest_38 : decode cX3_finishOldest 38 = .ok (.iastore, 1) := by decide +kernel
theorem dX3_finishOldest_39 : decode cX3_finishOldest 39 = .ok (.aload_n 0, 1) := by decide +kernel
theorem dX3_finishOldest_40 : decode cX3_finishOldest 40 = .ok (.getfield 18, 3) := by decide +kernel
theorem dX3_finishOldest_43 : decode cX3_finishOldest 43 = .ok (.aload_n 0, 1) := by decide +kernel
theorem dX3_finishOldest_44 : decode cX3_finishOldest 44 = .ok (.getfield 27, 3) := by decide +kernel
theorem dX3_finishOldest_47 : decode cX3_finishOldest 47 = .ok (.iload_n 1, 1) := by decide +kernel
theorem dX3_finishOldest_48 : decode cX3_finishOldest 48 = .ok (.invokevirtual 209, 3) := by decide +kernel
theorem dX3_finishOldest_51 : decode cX3_finishOldest 51 = .ok (.invokevirtual 248, 3) := by decide +kernel
theorem dX3_finishOldest_54 : decode cX3_finishOldest 54 = .ok (.aload_n 0, 1) := by decide +kernel
theorem dX3_finishOldest_55 : decode cX3_finishOldest 55 = .ok (.getfield 27, 3) := by decide +kernel
theorem dX3_finishOldest_58 : decode cX3_finishOldest 58 = .ok (.invokevirtual 251, 3) := by decide +kernel
theorem dX3_finishOldest_61 : decode cX3_finishOldest 61 = .ok (.return_, 1) := by decide +kernel
set_option maxRecDepth 20000 in
theorem ggX3_takeBackLast_X2_lastPlace : GoodIn wsX3_takeBackLast wsX2_lastPlace := goodIn_r _ [8, 9, 10, 11, 12, 7, 13, 14, 15, 70, 71, 72, 73, 74, 75, 76, 77, 78, 79] (by decide +kernel) (by decide +kernel)
set_option maxRecDepth 20000 in
theorem gX3_takeBackLast_X2_lastPlace : GoodIn wsX3_takeBackLast (wsV RX3 254 RX2 yX2_lastPlace wsX2_lastPlace) := goodIn_app (goodIn_of _ (by decide +kernel)) ggX3_takeBackLast_X2_lastPlace
set_option maxRecDepth 20000 in
theorem ggX3_takeBackLast_X2_registerAt : GoodIn wsX3_takeBackLast wsX2_registerAt := goodIn_r _ [19, 20, 21, 22, 23, 7, 24, 15, 70, 71, 72, 73, 74, 75, 76, 77, 78, 79] (by decide +kernel) (by decide +kernel)
set_option maxRecDepth 20000 in
theorem gX3_takeBackLast_X2_registerAt : GoodIn wsX3_takeBackLast (wsV RX3 212 RX2 yX2_registerAt wsX2_registerAt) := goodIn_app (goodIn_of _ (by decide +kernel)) ggX3_takeBackLast_X2_registerAt
set_option maxRecDepth 20000 in
theorem ggX3_takeBackLast_X3_isRegister : GoodIn wsX3_takeBackLast wsX3_isRegister := goodIn_r _ [29, 3, 61, 62, 63, 64, 65, 66, 67, 68, 69] (by decide +kernel) (by decide +kernel)
set_option maxRecDepth 20000 in
theorem gX3_takeBackLast_X3_isRegister : GoodIn wsX3_takeBackLast (wsV RX3 85 RX3 yX3_isRegister wsX3_isRegister) := goodIn_app (goodIn_of _ (by decide +kernel)) ggX3_takeBackLast_X3_isRegister
set_option maxRecDepth 20000 in
theorem ggX3_takeBackLast_X2_givenAt : GoodIn wsX3_takeBackLast wsX2_givenAt := goodIn_r _ [33, 34, 21, 22, 23, 7, 24, 15, 70, 71, 72, 73, 74, 75, 76, 77, 78, 79] (by decide +kernel) (by decide +kernel)
set_option maxRecDepth 20000 in
theorem gX3_takeBackLast_X2_givenAt : GoodIn wsX3_takeBackLast (wsV RX3 129 RX2 yX2_givenAt wsX2_givenAt) := goodIn_app (goodIn_of _ (by decide +kernel)) ggX3_takeBackLast_X2_givenAt
set_option maxRecDepth 20000 in
theorem ggX3_takeBackLast_X1_giveBack : GoodIn wsX3_takeBackLast wsX1_giveBack := goodIn_r _ [39, 40, 41, 42, 43, 44, 45, 38, 46, 47, 48, 49, 50, 51, 80, 81, 82, 83, 84] (by decide +kernel) (by decide +kernel)
set_option maxRecDepth 20000 in
theorem gX3_takeBackLast_X1_giveBack : GoodIn wsX3_takeBackLast (wsV RX3 248 RX1 yX1_giveBack wsX1_giveBack) := goodIn_app (goodIn_of _ (by decide +kernel)) ggX3_takeBackLast_X1_giveBack
set_option maxRecDepth 20000 in
theorem ggX3_takeBackLast_X2_knownAt : GoodIn wsX3_takeBackLast wsX2_knownAt := goodIn_r _ [55, 56, 21, 22, 23, 7, 24, 15, 70, 71, 72, 73, 74, 75, 76, 77, 78, 79] (by decide +kernel) (by decide +kernel)
set_option maxRecDepth 20000 in
theorem gX3_takeBackLast_X2_knownAt : GoodIn wsX3_takeBackLast (wsV RX3 209 RX2 yX2_knownAt wsX2_knownAt) := goodIn_app (goodIn_of _ (by decide +kernel)) ggX3_takeBackLast_X2_knownAt
set_option maxRecDepth 20000 in
theorem ggX3_takeBackLast_X2_dropLast : GoodIn wsX3_takeBackLast wsX2_dropLast := goodIn_r _ [60, 9, 70, 71, 72, 73, 74, 75, 76, 77, 78, 79] (by decide +kernel) (by decide +kernel)
set_option maxRecDepth 20000 in
theorem gX3_takeBackLast_X2_dropLast : GoodIn wsX3_takeBackLast (wsV RX3 257 RX2 yX2_dropLast wsX2_dropLast) := goodIn_app (goodIn_of _ (by decide +kernel)) ggX3_takeBackLast_X2_dropLast
theorem dX3_takeBackLast_0 : decode cX3_takeBackLast 0 = .ok (.aload_n 0, 1) := by decide +kernel
theorem dX3_takeBackLast_1 : decode cX3_takeBackLast 1 = .ok (.getfield 27, 3) := by decide +kernel
theorem dX3_takeBackLast_4 : decode cX3_takeBackLast 4 = .ok (.invokevirtual 254, 3) := by decide +kernel
theorem dX3_takeBackLast_7 : decode cX3_takeBackLast 7 = .ok (.istore_n 1, 1) := by decide +kernel
theorem dX3_takeBackLast_8 : decode cX3_takeBackLast 8 = .ok (.aload_n 0, 1) := by decide +kernel
theorem dX3_takeBackLast_9 : decode cX3_takeBackLast 9 = .ok (.getfield 27, 3) := by decide +kernel
theorem dX3_takeBackLast_12 : decode cX3_takeBackLast 12 = .ok (.iload_n 1, 1) := by decide +kernel
theorem dX3_takeBackLast_13 : decode cX3_takeBackLast 13 = .ok (.invokevirtual 212, 3) := by decide +kernel
theorem dX3_takeBackLast_16 : decode cX3_takeBackLast 16 = .ok (.istore_n 2, 1) := by decide +kernel
theorem dX3_takeBackLast_17 : decode cX3_takeBackLast 17 = .ok (.aload_n 0, 1) := by decide +kernel
theorem dX3_takeBackLast_18 : decode cX3_takeBackLast 18 = .ok (.iload_n 2, 1) := by decide +kernel
theorem dX3_takeBackLast_19 : decode cX3_takeBackLast 19 = .ok (.invokevirtual 85, 3) := by decide +kernel
theorem dX3_takeBackLast_22 : decode cX3_takeBackLast 22 = .ok (.ifCond .eq 32, 3) := by decide +kernel
theorem dX3_takeBackLast_25 : decode cX3_takeBackLast 25 = .ok (.aload_n 0, 1) := by decide +kernel
theorem dX3_takeBackLast_26 : decode cX3_takeBackLast 26 = .ok (.getfield 18, 3) := by decide +kernel
theorem dX3_takeBackLast_29 : decode cX3_takeBackLast 29 = .ok (.aload_n 0, 1) := by decide +kernel
theorem dX3_takeBackLast_30 : decode cX3_takeBackLast 30 = .ok (.getfield 27, 3) := by decide +kernel
theorem dX3_takeBackLast_33 : decode cX3_takeBackLast 33 = .ok (.iload_n 1, 1) := by decide +kernel
theorem dX3_takeBackLast_34 : decode cX3_takeBackLast 34 = .ok (.invokevirtual 129, 3) := by decide +kernel
theorem dX3_takeBackLast_37 : decode cX3_takeBackLast 37 = .ok (.invokevirtual 248, 3) := by decide +kernel
theorem dX3_takeBackLast_40 : decode cX3_takeBackLast 40 = .ok (.aload_n 0, 1) := by decide +kernel
theorem dX3_takeBackLast_41 : decode cX3_takeBackLast 41 = .ok (.getfield 38, 3) := by decide +kernel
theorem dX3_takeBackLast_44 : decode cX3_takeBackLast 44 = .ok (.iload_n 2, 1) := by decide +kernel
theorem dX3_takeBackLast_45 : decode cX3_takeBackLast 45 = .ok (.aload_n 0, 1) := by decide +kernel
theorem dX3_takeBackLast_46 : decode cX3_takeBackLast 46 = .ok (.getfield 27, 3) := by decide +kernel
theorem dX3_takeBackLast_49 : decode cX3_takeBackLast 49 = .ok (.iload_n 1, 1) := by decide +kernel
theorem dX3_takeBackLast_50 : decode cX3_takeBackLast 50 = .ok (.invokevirtual 209, 3) := by decide +kernel
theorem dX3_takeBackLast_53 : decode cX3_takeBackLast 53 = .ok (.iastore, 1) := by decide +kernel
theorem dX3_takeBackLast_54 : decode cX3_takeBackLast 54 = .ok (.aload_n 0, 1) := by decide +kernel
theorem dX3_takeBackLast_55 : decode cX3_takeBackLast 55 = .ok (.getfield 27, 3) := by decide +kernel
theorem dX3_takeBackLast_58 : decode cX3_takeBackLast 58 = .ok (.invokevirtual 257, 3) := by decide +kernel
theorem dX3_takeBackLast_61 : decode cX3_takeBackLast 61 = .ok (.return_, 1) := by decide +kernel
