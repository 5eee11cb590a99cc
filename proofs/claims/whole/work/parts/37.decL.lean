theorem dL_cell_0 : decode cL_cell 0 = .ok (.iload_n 1, 1) := by decide +kernel
theorem dL_cell_1 : decode cL_cell 1 = .ok (.aload_n 0, 1) := by decide +kernel
theorem dL_cell_2 : decode cL_cell 2 = .ok (.arraylength, 1) := by decide +kernel
theorem dL_cell_3 : decode cL_cell 3 = .ok (.if_icmp .ge 9, 3) := by decide +kernel
theorem dL_cell_6 : decode cL_cell 6 = .ok (.aload_n 0, 1) := by decide +kernel
theorem dL_cell_7 : decode cL_cell 7 = .ok (.iload_n 1, 1) := by decide +kernel
theorem dL_cell_8 : decode cL_cell 8 = .ok (.iaload, 1) := by decide +kernel
theorem dL_cell_9 : decode cL_cell 9 = .ok (.goto 4, 3) := by decide +kernel
theorem dL_cell_12 : decode cL_cell 12 = .ok (.iconst 0, 1) := by decide +kernel
theorem dL_cell_13 : decode cL_cell 13 = .ok (.ireturn, 1) := by decide +kernel
set_option maxRecDepth 20000 in
theorem ggL_dispatch_X3_dispatch : GoodIn wsL_dispatch wsX3_dispatch := goodIn_r _ [5, 6, 7, 8, 9, 10, 11, 12, 13, 14, 15, 4, 16, 17, 18, 19, 20, 21, 22, 23, 24, 25, 26, 27, 28, 29, 30, 31, 32, 33, 34, 35, 36, 37, 38, 39, 40, 41, 42, 43, 44, 45, 46, 47, 48, 49, 50, 51, 52, 53, 54, 55, 56, 57, 58, 59, 60, 61, 62, 63, 64, 65, 66, 67, 68, 69, 70, 71, 72, 73, 74, 75, 76, 77, 78, 79, 80, 81, 82, 83, 84, 85, 86, 87, 88, 89, 90, 91, 92, 93, 94, 95, 96, 97, 98, 99, 100] (by decide +kernel) (by decide +kernel)
set_option maxRecDepth 20000 in
theorem gL_dispatch_X3_dispatch : GoodIn wsL_dispatch (wsV RL 7 RX3 yX3_dispatch wsX3_dispatch) := goodIn_app (goodIn_of _ (by decide +kernel)) ggL_dispatch_X3_dispatch
theorem dL_dispatch_0 : decode cL_dispatch 0 = .ok (.aload 4, 2) := by decide +kernel
theorem dL_dispatch_2 : decode cL_dispatch 2 = .ok (.iconst 0, 1) := by decide +kernel
theorem dL_dispatch_3 : decode cL_dispatch 3 = .ok (.aload_n 0, 1) := by decide +kernel
theorem dL_dispatch_4 : decode cL_dispatch 4 = .ok (.iload_n 1, 1) := by decide +kernel
theorem dL_dispatch_5 : decode cL_dispatch 5 = .ok (.iload_n 2, 1) := by decide +kernel
theorem dL_dispatch_6 : decode cL_dispatch 6 = .ok (.iload_n 3, 1) := by decide +kernel
theorem dL_dispatch_7 : decode cL_dispatch 7 = .ok (.invokevirtual 7, 3) := by decide +kernel
theorem dL_dispatch_10 : decode cL_dispatch 10 = .ok (.i2l, 1) := by decide +kernel
theorem dL_dispatch_11 : decode cL_dispatch 11 = .ok (.lastore, 1) := by decide +kernel
theorem dL_dispatch_12 : decode cL_dispatch 12 = .ok (.goto 7, 3) := by decide +kernel
theorem dL_dispatch_15 : decode cL_dispatch 15 = .ok (.astore 5, 2) := by decide +kernel
theorem dL_dispatch_17 : decode cL_dispatch 17 = .ok (.iconst 1, 1) := by decide +kernel
theorem dL_dispatch_18 : decode cL_dispatch 18 = .ok (.ireturn, 1) := by decide +kernel
theorem dL_dispatch_19 : decode cL_dispatch 19 = .ok (.iconst 0, 1) := by decide +kernel
theorem dL_dispatch_20 : decode cL_dispatch 20 = .ok (.ireturn, 1) := by decide +kernel
set_option maxRecDepth 20000 in
theorem ggL_move_X3_move : GoodIn wsL_move wsX3_move := goodIn_r _ [5, 6, 7, 8, 9, 10, 11, 12, 13, 14, 4, 15, 16, 17, 18, 19, 20, 21, 22, 23, 24, 25, 26, 27, 28, 29, 30, 31, 32, 33, 34, 35, 36, 37, 38, 39, 40, 41, 42, 43, 44, 45, 46, 47, 48, 49, 50, 51, 52, 53, 54, 55, 56, 57, 58, 59, 60, 61, 62, 63, 64, 65, 66, 67, 68, 69, 70, 71, 72, 73, 74, 75, 76, 77, 78, 79, 80, 81, 82, 83, 84, 85, 86, 87] (by decide +kernel) (by decide +kernel)
set_option maxRecDepth 20000 in
theorem gL_move_X3_move : GoodIn wsL_move (wsV RL 15 RX3 yX3_move wsX3_move) := goodIn_app (goodIn_of _ (by decide +kernel)) ggL_move_X3_move
theorem dL_move_0 : decode cL_move 0 = .ok (.aload_n 3, 1) := by decide +kernel
theorem dL_move_1 : decode cL_move 1 = .ok (.iconst 0, 1) := by decide +kernel
theorem dL_move_2 : decode cL_move 2 = .ok (.aload_n 0, 1) := by decide +kernel
theorem dL_move_3 : decode cL_move 3 = .ok (.iload_n 1, 1) := by decide +kernel
theorem dL_move_4 : decode cL_move 4 = .ok (.iload_n 2, 1) := by decide +kernel
theorem dL_move_5 : decode cL_move 5 = .ok (.invokevirtual 15, 3) := by decide +kernel
theorem dL_move_8 : decode cL_move 8 = .ok (.i2l, 1) := by decide +kernel
theorem dL_move_9 : decode cL_move 9 = .ok (.lastore, 1) := by decide +kernel
theorem dL_move_10 : decode cL_move 10 = .ok (.goto 7, 3) := by decide +kernel
theorem dL_move_13 : decode cL_move 13 = .ok (.astore 4, 2) := by decide +kernel
theorem dL_move_15 : decode cL_move 15 = .ok (.iconst 1, 1) := by decide +kernel
theorem dL_move_16 : decode cL_move 16 = .ok (.ireturn, 1) := by decide +kernel
theorem dL_move_17 : decode cL_move 17 = .ok (.iconst 0, 1) := by decide +kernel
theorem dL_move_18 : decode cL_move 18 = .ok (.ireturn, 1) := by decide +kernel
set_option maxRecDepth 20000 in
theorem ggL_port_X3_port : GoodIn wsL_port wsX3_port := goodIn_ca (goodIn_ca (goodIn_r _ [8, 9, 10, 11, 12, 13, 14, 15, 16, 17, 18, 19, 20, 21, 22, 23, 24, 25, 26, 27, 28, 29, 30, 31, 32, 33, 34, 35, 36, 37, 38, 39, 40, 41, 42, 43, 44, 45, 46, 47, 48, 49, 50, 51, 52, 53, 54, 55, 56, 57, 58, 59, 60, 61, 62, 63, 64, 65, 66, 67, 68, 69, 70, 71] (by decide +kernel) (by decide +kernel)) (goodIn_sub (fun _ h => List.mem_cons_of_mem _ (List.mem_append_left _ (List.mem_append_right _ h))) (by decide +kernel))) (goodIn_sub (fun _ h => List.mem_cons_of_mem _ (List.mem_append_right _ h)) (by decide +kernel))
set_option maxRecDepth 20000 in
theorem gL_port_X3_port : GoodIn wsL_port (wsV RL 19 RX3 yX3_port wsX3_port) := goodIn_app (goodIn_of _ (by decide +kernel)) ggL_port_X3_port
theorem dL_port_0 : decode cL_port 0 = .ok (.aload_n 3, 1) := by decide +kernel
theorem dL_port_1 : decode cL_port 1 = .ok (.iconst 0, 1) := by decide +kernel
theorem dL_port_2 : decode cL_port 2 = .ok (.aload_n 0, 1) := by decide +kernel
theorem dL_port_3 : decode cL_port 3 = .ok (.iload_n 1, 1) := by decide +kernel
theorem dL_port_4 : decode cL_port 4 = .ok (.iload_n 2, 1) := by decide +kernel
theorem dL_port_5 : decode cL_port 5 = .ok (.invokevirtual 19, 3) := by decide +kernel
theorem dL_port_8 : decode cL_port 8 = .ok (.i2l, 1) := by decide +kernel
theorem dL_port_9 : decode cL_port 9 = .ok (.lastore, 1) := by decide +kernel
theorem dL_port_10 : decode cL_port 10 = .ok (.goto 15, 3) := by decide +kernel
theorem dL_port_13 : decode cL_port 13 = .ok (.astore 4, 2) := by decide +kernel
theorem dL_port_15 : decode cL_port 15 = .ok (.iconst 1, 1) := by decide +kernel
theorem dL_port_16 : decode cL_port 16 = .ok (.ireturn, 1) := by decide +kernel
theorem dL_port_17 : decode cL_port 17 = .ok (.astore 4, 2) := by decide +kernel
theorem dL_port_19 : decode cL_port 19 = .ok (.iconst 2, 1) := by decide +kernel
theorem dL_port_20 : decode cL_port 20 = .ok (.ireturn, 1) := by decide +kernel
theorem dL_port_21 : decode cL_port 21 = .ok (.astore 4, 2) := by decide +kernel
theorem dL_port_23 : decode cL_port 23 = .ok (.iconst 3, 1) := by decide +kernel
theorem dL_port_24 : decode cL_port 24 = .ok (.ireturn, 1) := by decide +kernel
theorem dL_port_25 : decode cL_port 25 = .ok (.iconst 0, 1) := by decide +kernel
theorem dL_port_26 : decode cL_port 26 = .ok (.ireturn, 1) := by decide +kernel
set_option maxRecDepth 20000 in
theorem ggL_select_X3_select : GoodIn wsL_select wsX3_select := goodIn_ca (goodIn_r _ [6, 7, 8, 9, 10, 11, 12, 13, 5, 14, 15, 16, 17, 18, 19, 20, 21, 22, 23, 24, 25, 26, 27, 28, 29, 30, 31, 32, 33, 34, 35, 36, 37, 38, 39, 40, 41, 42, 43, 44, 45, 46, 47, 48, 49, 50, 51, 52, 53, 54, 55, 56, 57, 58, 59, 60, 61, 62, 63, 64, 65, 66, 67, 68, 69, 70, 71, 72, 73, 74, 75, 76, 77, 78, 79, 80, 81, 82, 83, 84, 85, 86, 87, 88, 89, 90, 91, 92, 93, 94, 95, 96, 97, 98, 99, 100, 101] (by decide +kernel) (by decide +kernel)) (goodIn_sub (fun _ h => List.mem_cons_of_mem _ (List.mem_append_right _ h)) (by decide +kernel))
set_option maxRecDepth 20000 in
theorem gL_select_X3_select : GoodIn wsL_select (wsV RL 26 RX3 yX3_select wsX3_select) := goodIn_app (goodIn_of _ (by decide +kernel)) ggL_select_X3_select
theorem dL_select_0 : decode cL_select 0 = .ok (.aload_n 2, 1) := by decide +kernel
theorem dL_select_1 : decode cL_select 1 = .ok (.iconst 0, 1) := by decide +kernel
theorem dL_select_2 : decode cL_select 2 = .ok (.aload_n 0, 1) := by decide +kernel
theorem dL_select_3 : decode cL_select 3 = .ok (.iload_n 1, 1) := by decide +kernel
theorem dL_select_4 : decode cL_select 4 = .ok (.invokevirtual 26, 3) := by decide +kernel
theorem dL_select_7 : decode cL_select 7 = .ok (.i2l, 1) := by decide +kernel
theorem dL_select_8 : decode cL_select 8 = .ok (.lastore, 1) := by decide +kernel
theorem dL_select_9 : decode cL_select 9 = .ok (.goto 6, 3) := by decide +kernel
theorem dL_select_12 : decode cL_select 12 = .ok (.astore_n 3, 1) := by decide +kernel
theorem dL_select_13 : decode cL_select 13 = .ok (.iconst 1, 1) := by decide +kernel
theorem dL_select_14 : decode cL_select 14 = .ok (.ireturn, 1) := by decide +kernel
theorem dL_select_15 : decode cL_select 15 = .ok (.iconst 0, 1) := by decide +kernel
theorem dL_select_16 : decode cL_select 16 = .ok (.ireturn, 1) := by decide +kernel
set_option maxRecDepth 20000 in
theorem ggL_selected_X3_selected : GoodIn wsL_selected wsX3_selected := goodIn_r _ [5, 6, 7, 8, 9, 10, 11, 12, 13, 14, 15, 16, 17, 18, 19, 20, 21, 22, 23, 24] (by decide +kernel) (by decide +kernel)
set_option maxRecDepth 20000 in
theorem gL_selected_X3_selected : GoodIn wsL_selected (wsV RL 30 RX3 yX3_selected wsX3_selected) := goodIn_app (goodIn_of _ (by decide +kernel)) ggL_selected_X3_selected
theorem dL_selected_0 : decode cL_selected 0 = .ok (.aload_n 2, 1) := by decide +kernel
theorem dL_selected_1 : decode cL_selected 1 = .ok (.iconst 0, 1) := by decide +kernel
theorem dL_selected_2 : decode cL_selected 2 = .ok (.aload_n 0, 1) := by decide +kernel
theorem dL_selected_3 : decode cL_selected 3 = .ok (.iload_n 1, 1) := by decide +kernel
theorem dL_selected_4 : decode cL_selected 4 = .ok (.invokevirtual 30, 3) := by decide +kernel
theorem dL_selected_7 : decode cL_selected 7 = .ok (.i2l, 1) := by decide +kernel
theorem dL_selected_8 : decode cL_selected 8 = .ok (.lastore, 1) := by decide +kernel
theorem dL_selected_9 : decode cL_selected 9 = .ok (.goto 6, 3) := by decide +kernel
theorem dL_selected_12 : decode cL_selected 12 = .ok (.astore_n 3, 1) := by decide +kernel
theorem dL_selected_13 : decode cL_selected 13 = .ok (.iconst 1, 1) := by decide +kernel
theorem dL_selected_14 : decode cL_selected 14 = .ok (.ireturn, 1) := by decide +kernel
theorem dL_selected_15 : decode cL_selected 15 = .ok (.iconst 0, 1) := by decide +kernel
theorem dL_selected_16 : decode cL_selected 16 = .ok (.ireturn, 1) := by decide +kernel
set_option maxRecDepth 20000 in
theorem ggL_end_X3_end : GoodIn wsL_end wsX3_end := goodIn_ca (goodIn_r _ [7, 8, 9, 10, 11, 12, 13, 14, 15, 16, 17, 18, 19, 20, 21, 22, 23, 24, 25, 26, 27, 28, 29, 30, 31, 32, 33, 34, 35, 36, 37, 38, 39, 40, 41, 42, 6, 43, 44, 45, 46, 47, 48, 49, 50, 51, 52, 53, 54, 55, 56, 57, 58, 59, 60, 61, 62, 63, 64, 65, 66, 67, 68, 69, 70, 71, 72, 73, 74, 75, 76, 77, 78, 79, 80, 81, 82, 83, 84, 85, 86, 87, 88, 89, 90, 91, 92, 93, 94, 95, 96, 97, 98, 99, 100, 101, 102, 103, 104, 105, 106, 107, 108, 109, 110, 111, 112, 113, 114, 115] (by decide +kernel) (by decide +kernel)) (goodIn_sub (fun _ h => List.mem_cons_of_mem _ (List.mem_append_right _ h)) (by decide +kernel))
set_option maxRecDepth 20000 in
theorem gL_end_X3_end : GoodIn wsL_end (wsV RL 33 RX3 yX3_end wsX3_end) := goodIn_app (goodIn_of _ (by decide +kernel)) ggL_end_X3_end
theorem dL_end_0 : decode cL_end 0 = .ok (.aload_n 2, 1) := by decide +kernel
theorem dL_end_1 : decode cL_end 1 = .ok (.iconst 0, 1) := by decide +kernel
theorem dL_end_2 : decode cL_end 2 = .ok (.aload_n 0, 1) := by decide +kernel
theorem dL_end_3 : decode cL_end 3 = .ok (.iload_n 1, 1) := by decide +kernel
theorem dL_end_4 : decode cL_end 4 = .ok (.invokevirtual 33, 3) := by decide +kernel
theorem dL_end_7 : decode cL_end 7 = .ok (.i2l, 1) := by decide +kernel
theorem dL_end_8 : decode cL_end 8 = .ok (.lastore, 1) := by decide +kernel
theorem dL_end_9 : decode cL_end 9 = .ok (.goto 9, 3) := by decide +kernel
theorem dL_end_12 : decode cL_end 12 = .ok (.astore_n 3, 1) := by decide +kernel
theorem dL_end_13 : decode cL_end 13 = .ok (.iconst 1, 1) := by decide +kernel
theorem dL_end_14 : decode cL_end 14 = .ok (.ireturn, 1) := by decide +kernel
theorem dL_end_15 : decode cL_end 15 = .ok (.astore_n 3, 1) := by decide +kernel
theorem dL_end_16 : decode cL_end 16 = .ok (.iconst 2, 1) := by decide +kernel
theorem dL_end_17 : decode cL_end 17 = .ok (.ireturn, 1) := by decide +kernel
theorem dL_end_18 : decode cL_end 18 = .ok (.iconst 0, 1) := by decide +kernel
theorem dL_end_19 : decode cL_end 19 = .ok (.ireturn, 1) := by decide +kernel
set_option maxRecDepth 20000 in
theorem ggL_commit_X3_commit : GoodIn wsL_commit wsX3_commit := goodIn_ca (goodIn_r _ [6, 7, 8, 9, 10, 11, 12, 13, 14, 15, 16, 5, 17, 18, 19, 20, 21, 22, 23, 24, 25, 26, 27, 28, 29, 30, 31, 32, 33, 34, 35, 36, 37, 38, 39, 40, 41, 42, 43, 44, 45, 46, 47, 48, 49, 50, 51, 52, 53, 54, 55, 56, 57, 58, 59, 60, 61, 62, 63, 64, 65, 66, 67, 68, 69, 70, 71, 72, 73, 74, 75, 76, 77, 78, 79, 80, 81, 82, 83, 84, 85, 86, 87, 88, 89, 90, 91, 92, 93, 94, 95, 96, 97, 98, 99, 100, 101, 102, 103, 104, 105, 106, 107, 108, 109, 110, 111, 112, 113, 114, 115, 116, 117, 118, 119, 120, 121, 122, 123, 124, 125, 126, 127, 128, 129, 130, 131, 132, 133, 134, 135, 136, 137, 138, 139, 140, 141, 142, 143, 144, 145] (by decide +kernel) (by decide +kernel)) (goodIn_sub (fun _ h => List.mem_cons_of_mem _ (List.mem_append_right _ h)) (by decide +kernel))
set_option maxRecDepth 20000 in
theorem gL_commit_X3_commit : GoodIn wsL_commit (wsV RL 36 RX3 yX3_commit wsX3_commit) := goodIn_app (goodIn_of _ (by decide +kernel)) ggL_commit_X3_commit
theorem dL_commit_0 : decode cL_commit 0 = .ok (.aload_n 2, 1) := by decide +kernel
theorem dL_commit_1 : decode cL_commit 1 = .ok (.iconst 0, 1) := by decide +kernel
theorem dL_commit_2 : decode cL_commit 2 = .ok (.aload_n 0, 1) := by decide +kernel
theorem dL_commit_3 : decode cL_commit 3 = .ok (.iload_n 1, 1) := by decide +kernel
theorem dL_commit_4 : decode cL_commit 4 = .ok (.invokevirtual 36, 3) := by decide +kernel
theorem dL_commit_7 : decode cL_commit 7 = .ok (.i2l, 1) := by decide +kernel
theorem dL_commit_8 : decode cL_commit 8 = .ok (.lastore, 1) := by decide +kernel
theorem dL_commit_9 : decode cL_commit 9 = .ok (.goto 6, 3) := by decide +kernel
theorem dL_commit_12 : decode cL_commit 12 = .ok (.astore_n 3, 1) := by decide +kernel
theorem dL_commit_13 : decode cL_commit 13 = .ok (.iconst 1, 1) := by decide +kernel
theorem dL_commit_14 : decode cL_commit 14 = .ok (.ireturn, 1) := by decide +kernel
theorem dL_commit_15 : decode cL_commit 15 = .ok (.iconst 0, 1) := by decide +kernel
theorem dL_commit_16 : decode cL_commit 16 = .ok (.ireturn, 1) := by decide +kernel
set_option maxRecDepth 20000 in
theorem ggL_right_X3_right : GoodIn wsL_right wsX3_right := goodIn_ca (goodIn_r _ [7, 8, 9, 10, 11, 12, 13, 14, 15, 16, 17, 18, 19, 20, 21, 22, 23, 24, 25, 26, 27, 28, 29, 30, 31, 32, 33, 34, 35, 36, 37, 38, 39, 40, 41, 42, 43, 44, 45, 46, 47, 48, 49, 50, 51, 52, 53, 54] (by decide +kernel) (by decide +kernel)) (goodIn_sub (fun _ h => List.mem_cons_of_mem _ (List.mem_append_right _ h)) (by decide +kernel))
set_option maxRecDepth 20000 in
theorem gL_right_X3_right : GoodIn wsL_right (wsV RL 39 RX3 yX3_right wsX3_right) := goodIn_app (goodIn_of _ (by decide +kernel)) ggL_right_X3_right
theorem dL_right_0 : decode cL_right 0 = .ok (.aload_n 2, 1) := by decide +kernel
theorem dL_right_1 : decode cL_right 1 = .ok (.iconst 0, 1) := by decide +kernel
theorem dL_right_2 : decode cL_right 2 = .ok (.aload_n 0, 1) := by decide +kernel
theorem dL_right_3 : decode cL_right 3 = .ok (.iload_n 1, 1) := by decide +kernel
theorem dL_right_4 : decode cL_right 4 = .ok (.invokevirtual 39, 3) := by decide +kernel
theorem dL_right_7 : decode cL_right 7 = .ok (.i2l, 1) := by decide +kernel
theorem dL_right_8 : decode cL_right 8 = .ok (.lastore, 1) := by decide +kernel
theorem dL_right_9 : decode cL_right 9 = .ok (.goto 9, 3) := by decide +kernel
theorem dL_right_12 : decode cL_right 12 = .ok (.astore_n 3, 1) := by decide +kernel
theorem dL_right_13 : decode cL_right 13 = .ok (.iconst 1, 1) := by decide +kernel
theorem dL_right_14 : decode cL_right 14 = .ok (.ireturn, 1) := by decide +kernel
theorem dL_right_15 : decode cL_right 15 = .ok (.astore_n 3, 1) := by decide +kernel
theorem dL_right_16 : decode cL_right 16 = .ok (.iconst 2, 1) := by decide +kernel
theorem dL_right_17 : decode cL_right 17 = .ok (.ireturn, 1) := by decide +kernel
theorem dL_right_18 : decode cL_right 18 = .ok (.iconst 0, 1) := by decide +kernel
theorem dL_right_19 : decode cL_right 19 = .ok (.ireturn, 1) := by decide +kernel
set_option maxRecDepth 20000 in
theorem ggL_wrong_X3_wrong : GoodIn wsL_wrong wsX3_wrong := goodIn_ca (goodIn_r _ [7, 8, 9, 10, 11, 12, 13, 14, 15, 16, 17, 18, 19, 20, 21, 22, 23, 24, 25, 26, 27, 28, 29, 30, 31, 32, 33, 34, 35, 36, 37, 38, 39, 40, 41, 42, 43, 44, 45, 46, 6, 47, 48, 49, 50, 51, 52, 53, 54, 55, 56, 57, 58, 59, 60, 61, 62, 63, 64, 65, 66, 67, 68, 69, 70, 71, 72, 73, 74, 75, 76, 77, 78, 79, 80, 81, 82, 83, 84, 85, 86, 87, 88, 89, 90, 91, 92, 93, 94, 95, 96, 97, 98, 99, 100, 101, 102, 103, 104, 105, 106, 107, 108, 109, 110, 111, 112, 113, 114, 115, 116, 117, 118, 119, 120, 121, 122, 123, 124, 125, 126, 127, 128, 129, 130, 131, 132, 133, 134, 135, 136, 137, 138, 139, 140] (by decide +kernel) (by decide +kernel)) (goodIn_sub (fun _ h => List.mem_cons_of_mem _ (List.mem_append_right _ h)) (by decide +kernel))
set_option maxRecDepth 20000 in
theorem gL_wrong_X3_wrong : GoodIn wsL_wrong (wsV RL 42 RX3 yX3_wrong wsX3_wrong) := goodIn_app (goodIn_of _ (by decide +kernel)) ggL_wrong_X3_wrong
theorem dL_wrong_0 : decode cL_wrong 0 = .ok (.aload_n 2, 1) := by decide +kernel
theorem dL_wrong_1 : decode cL_wrong 1 = .ok (.iconst 0, 1) := by decide +kernel
theorem dL_wrong_2 : decode cL_wrong 2 = .ok (.aload_n 0, 1) := by decide +kernel
theorem dL_wrong_3 : decode cL_wrong 3 = .ok (.iload_n 1, 1) := by decide +kernel
theorem dL_wrong_4 : decode cL_wrong 4 = .ok (.invokevirtual 42, 3) := by decide +kernel
theorem dL_wrong_7 : decode cL_wrong 7 = .ok (.i2l, 1) := by decide +kernel
theorem dL_wrong_8 : decode cL_wrong 8 = .ok (.lastore, 1) := by decide +kernel
theorem dL_wrong_9 : decode cL_wrong 9 = .ok (.goto 9, 3) := by decide +kernel
theorem dL_wrong_12 : decode cL_wrong 12 = .ok (.astore_n 3, 1) := by decide +kernel
theorem dL_wrong_13 : decode cL_wrong 13 = .ok (.iconst 1, 1) := by decide +kernel
theorem dL_wrong_14 : decode cL_wrong 14 = .ok (.ireturn, 1) := by decide +kernel
theorem dL_wrong_15 : decode cL_wrong 15 = .ok (.astore_n 3, 1) := by decide +kernel
theorem dL_wrong_16 : decode cL_wrong 16 = .ok (.iconst 2, 1) := by decide +kernel
theorem dL_wrong_17 : decode cL_wrong 17 = .ok (.ireturn, 1) := by decide +kernel
theorem dL_wrong_18 : decode cL_wrong 18 = .ok (.iconst 0, 1) := by decide +kernel
theorem dL_wrong_19 : decode cL_wrong 19 = .ok (.ireturn, 1) := by decide +kernel
set_option maxRecDepth 20000 in
theorem ggL_name_X3_name : GoodIn wsL_name wsX3_name := goodIn_r _ [5, 6, 7, 8, 9, 10, 11, 12, 4, 13, 14, 15, 16, 17, 18, 19, 20, 21, 22, 23, 24, 25, 26, 27, 28] (by decide +kernel) (by decide +kernel)
set_option maxRecDepth 20000 in
theorem gL_name_X3_name : GoodIn wsL_name (wsV RL 45 RX3 yX3_name wsX3_name) := goodIn_app (goodIn_of _ (by decide +kernel)) ggL_name_X3_name
theorem dL_name_0 : decode cL_name 0 = .ok (.aload_n 2, 1) := by decide +kernel
theorem dL_name_1 : decode cL_name 1 = .ok (.iconst 0, 1) := by decide +kernel
theorem dL_name_2 : decode cL_name 2 = .ok (.aload_n 0, 1) := by decide +kernel
theorem dL_name_3 : decode cL_name 3 = .ok (.iload_n 1, 1) := by decide +kernel
theorem dL_name_4 : decode cL_name 4 = .ok (.invokevirtual 45, 3) := by decide +kernel
theorem dL_name_7 : decode cL_name 7 = .ok (.i2l, 1) := by decide +kernel
theorem dL_name_8 : decode cL_name 8 = .ok (.lastore, 1) := by decide +kernel
theorem dL_name_9 : decode cL_name 9 = .ok (.goto 6, 3) := by decide +kernel
theorem dL_name_12 : decode cL_name 12 = .ok (.astore_n 3, 1) := by decide +kernel
theorem dL_name_13 : decode cL_name 13 = .ok (.iconst 1, 1) := by decide +kernel
theorem dL_name_14 : decode cL_name 14 = .ok (.ireturn, 1) := by decide +kernel
theorem dL_name_15 : decode cL_name 15 = .ok (.iconst 0, 1) := by decide +kernel
theorem dL_name_16 : decode cL_name 16 = .ok (.ireturn, 1) := by decide +kernel
set_option maxRecDepth 20000 in
theorem ggL_sure_X3_sure : GoodIn wsL_sure wsX3_sure := goodIn_r _ [5, 6, 7, 8, 9, 10, 11, 12, 4, 13, 14, 15, 16, 17, 18, 19, 20, 21, 22, 23, 24, 25, 26, 27, 28, 29] (by decide +kernel) (by decide +kernel)
set_option maxRecDepth 20000 in
theorem gL_sure_X3_sure : GoodIn wsL_sure (wsV RL 48 RX3 yX3_sure wsX3_sure) := goodIn_app (goodIn_of _ (by decide +kernel)) ggL_sure_X3_sure
theorem dL_sure_0 : decode cL_sure 0 = .ok (.aload_n 2, 1) := by decide +kernel
theorem dL_sure_1 : decode cL_sure 1 = .ok (.iconst 0, 1) := by decide +kernel
theorem dL_sure_2 : decode cL_sure 2 = .ok (.aload_n 0, 1) := by decide +kernel
theorem dL_sure_3 : decode cL_sure 3 = .ok (.iload_n 1, 1) := by decide +kernel
theorem dL_sure_4 : decode cL_sure 4 = .ok (.invokevirtual 48, 3) := by decide +kernel
theorem dL_sure_7 : decode cL_sure 7 = .ok (.i2l, 1) := by decide +kernel
theorem dL_sure_8 : decode cL_sure 8 = .ok (.lastore, 1) := by decide +kernel
theorem dL_sure_9 : decode cL_sure 9 = .ok (.goto 6, 3) := by decide +kernel
theorem dL_sure_12 : decode cL_sure 12 = .ok (.astore_n 3, 1) := by decide +kernel
theorem dL_sure_13 : decode cL_sure 13 = .ok (.iconst 1, 1) := by decide +kernel
theorem dL_sure_14 : decode cL_sure 14 = .ok (.ireturn, 1) := by decide +kernel
theorem dL_sure_15 : decode cL_sure 15 = .ok (.iconst 0, 1) := by decide +kernel
theorem dL_sure_16 : decode cL_sure 16 = .ok (.ireturn, 1) := by decide +kernel
set_option maxRecDepth 20000 in
theorem ggL_shares_X3_shares : GoodIn wsL_shares wsX3_shares := goodIn_r _ [5, 6, 7, 8, 9, 10, 11, 12, 13, 14, 15, 16, 17, 18, 19, 20, 21, 22, 23, 24, 25, 26, 27, 28, 29, 30, 31, 32, 33, 34, 35, 36, 37, 38, 39, 40] (by decide +kernel) (by decide +kernel)
set_option maxRecDepth 20000 in
theorem gL_shares_X3_shares : GoodIn wsL_shares (wsV RL 51 RX3 yX3_shares wsX3_shares) := goodIn_app (goodIn_of _ (by decide +kernel)) ggL_shares_X3_shares
theorem dL_shares_0 : decode cL_shares 0 = .ok (.aload_n 2, 1) := by decide +kernel
theorem dL_shares_1 : decode cL_shares 1 = .ok (.iconst 0, 1) := by decide +kernel
theorem dL_shares_2 : decode cL_shares 2 = .ok (.aload_n 0, 1) := by decide +kernel
theorem dL_shares_3 : decode cL_shares 3 = .ok (.iload_n 1, 1) := by decide +kernel
theorem dL_shares_4 : decode cL_shares 4 = .ok (.invokevirtual 51, 3) := by decide +kernel
theorem dL_shares_7 : decode cL_shares 7 = .ok (.i2l, 1) := by decide +kernel
theorem dL_shares_8 : decode cL_shares 8 = .ok (.lastore, 1) := by decide +kernel
theorem dL_shares_9 : decode cL_shares 9 = .ok (.goto 6, 3) := by decide +kernel
theorem dL_shares_12 : decode cL_shares 12 = .ok (.astore_n 3, 1) := by decide +kernel
theorem dL_shares_13 : decode cL_shares 13 = .ok (.iconst 1, 1) := by decide +kernel
theorem dL_shares_14 : decode cL_shares 14 = .ok (.ireturn, 1) := by decide +kernel
theorem dL_shares_15 : decode cL_shares 15 = .ok (.iconst 0, 1) := by decide +kernel
theorem dL_shares_16 : decode cL_shares 16 = .ok (.ireturn, 1) := by decide +kernel
set_option maxRecDepth 20000 in
theorem ggL_queue_X3_queue : GoodIn wsL_queue wsX3_queue := goodIn_ca (goodIn_r _ [6, 7, 8, 9, 10, 11, 12, 13, 14, 15, 16, 17, 18, 19, 20, 21, 22, 23, 24, 25, 26, 27, 28, 29, 30, 31, 32, 33, 34, 35, 36, 37, 38, 39] (by decide +kernel) (by decide +kernel)) (goodIn_sub (fun _ h => List.mem_cons_of_mem _ (List.mem_append_right _ h)) (by decide +kernel))
set_option maxRecDepth 20000 in
theorem gL_queue_X3_queue : GoodIn wsL_queue (wsV RL 54 RX3 yX3_queue wsX3_queue) := goodIn_app (goodIn_of _ (by decide +kernel)) ggL_queue_X3_queue
theorem dL_queue_0 : decode cL_queue 0 = .ok (.aload_n 2, 1) := by decide +kernel
theorem dL_queue_1 : decode cL_queue 1 = .ok (.iconst 0, 1) := by decide +kernel
theorem dL_queue_2 : decode cL_queue 2 = .ok (.aload_n 0, 1) := by decide +kernel
theorem dL_queue_3 : decode cL_queue 3 = .ok (.iload_n 1, 1) := by decide +kernel
theorem dL_queue_4 : decode cL_queue 4 = .ok (.invokevirtual 54, 3) := by decide +kernel
theorem dL_queue_7 : decode cL_queue 7 = .ok (.i2l, 1) := by decide +kernel
theorem dL_queue_8 : decode cL_queue 8 = .ok (.lastore, 1) := by decide +kernel
theorem dL_queue_9 : decode cL_queue 9 = .ok (.goto 6, 3) := by decide +kernel
theorem dL_queue_12 : decode cL_queue 12 = .ok (.astore_n 3, 1) := by decide +kernel
theorem dL_queue_13 : decode cL_queue 13 = .ok (.iconst 1, 1) := by decide +kernel
theorem dL_queue_14 : decode cL_queue 14 = .ok (.ireturn, 1) := by decide +kernel
theorem dL_queue_15 : decode cL_queue 15 = .ok (.iconst 0, 1) := by decide +kernel
theorem dL_queue_16 : decode cL_queue 16 = .ok (.ireturn, 1) := by decide +kernel
set_option maxRecDepth 20000 in
theorem ggL_row_X3_row : GoodIn wsL_row wsX3_row := goodIn_ca (goodIn_ca (goodIn_r _ [8, 9, 10, 11, 12, 13, 14, 15, 16, 17, 18, 19, 20, 21, 22, 23, 24, 25, 26, 27, 28, 29, 30, 31, 32, 33, 34, 35, 36, 37, 38, 39, 40, 41, 42, 43, 44, 45, 46, 47, 48, 49, 50, 51, 52, 53, 54, 55, 56, 57, 58, 59, 60, 61, 62, 63, 64, 65, 66, 67, 68, 69, 70, 71, 72, 73, 74, 75, 76, 77, 78, 79, 80, 81, 82, 83, 84, 85, 86, 87, 88, 89, 90, 91, 92] (by decide +kernel) (by decide +kernel)) (goodIn_sub (fun _ h => List.mem_cons_of_mem _ (List.mem_append_left _ (List.mem_append_right _ h))) (by decide +kernel))) (goodIn_sub (fun _ h => List.mem_cons_of_mem _ (List.mem_append_right _ h)) (by decide +kernel))
set_option maxRecDepth 20000 in
theorem gL_row_X3_row : GoodIn wsL_row (wsV RL 57 RX3 yX3_row wsX3_row) := goodIn_app (goodIn_of _ (by decide +kernel)) ggL_row_X3_row
theorem dL_row_0 : decode cL_row 0 = .ok (.aload_n 3, 1) := by decide +kernel
theorem dL_row_1 : decode cL_row 1 = .ok (.iconst 0, 1) := by decide +kernel
theorem dL_row_2 : decode cL_row 2 = .ok (.aload_n 0, 1) := by decide +kernel
theorem dL_row_3 : decode cL_row 3 = .ok (.iload_n 1, 1) := by decide +kernel
theorem dL_row_4 : decode cL_row 4 = .ok (.iload_n 2, 1) := by decide +kernel
theorem dL_row_5 : decode cL_row 5 = .ok (.invokevirtual 57, 3) := by decide +kernel
theorem dL_row_8 : decode cL_row 8 = .ok (.i2l, 1) := by decide +kernel
theorem dL_row_9 : decode cL_row 9 = .ok (.lastore, 1) := by decide +kernel
theorem dL_row_10 : decode cL_row 10 = .ok (.goto 15, 3) := by decide +kernel
theorem dL_row_13 : decode cL_row 13 = .ok (.astore 4, 2) := by decide +kernel
theorem dL_row_15 : decode cL_row 15 = .ok (.iconst 1, 1) := by decide +kernel
theorem dL_row_16 : decode cL_row 16 = .ok (.ireturn, 1) := by decide +kernel
theorem dL_row_17 : decode cL_row 17 = .ok (.astore 4, 2) := by decide +kernel
theorem dL_row_19 : decode cL_row 19 = .ok (.iconst 2, 1) := by decide +kernel
theorem dL_row_20 : decode cL_row 20 = .ok (.ireturn, 1) := by decide +kernel
theorem dL_row_21 : decode cL_row 21 = .ok (.astore 4, 2) := by decide +kernel
theorem dL_row_23 : decode cL_row 23 = .ok (.iconst 3, 1) := by decide +kernel
theorem dL_row_24 : decode cL_row 24 = .ok (.ireturn, 1) := by decide +kernel
theorem dL_row_25 : decode cL_row 25 = .ok (.iconst 0, 1) := by decide +kernel
theorem dL_row_26 : decode cL_row 26 = .ok (.ireturn, 1) := by decide +kernel
set_option maxRecDepth 20000 in
theorem ggL_law_L_cell : GoodIn wsL_law wsL_cell := goodIn_r _ [10] (by decide +kernel) (by decide +kernel)
set_option maxRecDepth 20000 in
theorem gL_law_L_cell : GoodIn wsL_law (va_wsS RL 60 yL_cell wsL_cell) := goodIn_app (goodIn_of _ (by decide +kernel)) ggL_law_L_cell
set_option maxRecDepth 20000 in
theorem ggL_law_X3_init : GoodIn wsL_law wsX3_init := goodIn_r _ [13, 14, 15, 16, 17, 18, 19, 20, 21, 22, 23, 24, 25, 26, 27, 28, 29, 30, 31, 32, 33, 34, 2, 35, 36, 37, 38, 39, 40, 41, 42, 43, 44, 45, 46, 47, 48, 49, 50, 51, 52, 53, 54, 55, 56, 57, 58, 59, 60, 615, 616, 617, 618, 619, 577, 578, 579, 580, 581, 582, 583, 584, 585, 620, 621, 622, 623, 624, 625, 626, 627, 628, 629, 630, 631, 632] (by decide +kernel) (by decide +kernel)
set_option maxRecDepth 20000 in
theorem gL_law_X3_init : GoodIn wsL_law (wsX3_init) := ggL_law_X3_init
set_option maxRecDepth 20000 in
theorem ggL_law_X4_init : GoodIn wsL_law wsX4_init := goodIn_r _ [63, 64, 15, 16, 29, 65, 66, 67, 41, 68, 69, 70, 71, 72, 73, 74, 75, 76, 77, 78, 79, 80, 81, 82, 83, 84, 85, 86, 5, 87, 586, 587, 588, 589, 590, 591, 592, 593, 594, 595, 596, 597, 598, 599, 600, 601, 602, 603, 604, 605, 606, 607, 608, 609, 610, 611, 612, 613, 614] (by decide +kernel) (by decide +kernel)
set_option maxRecDepth 20000 in
theorem gL_law_X4_init : GoodIn wsL_law (wsX4_init) := ggL_law_X4_init
set_option maxRecDepth 20000 in
theorem ggL_law_L_dispatch : GoodIn wsL_law wsL_dispatch := goodIn_r _ [90, 91, 92, 93, 2, 94, 95, 96, 97, 24, 98, 20, 99, 100, 101, 102, 103, 104, 105, 106, 107, 30, 108, 109, 110, 23, 111, 112, 55, 113, 114, 115, 19, 116, 44, 117, 118, 119, 120, 121, 122, 123, 124, 43, 125, 40, 42, 126, 127, 128, 129, 130, 131, 132, 133, 134, 135, 136, 137, 49, 50, 51, 52, 53, 54, 138, 139, 140, 141, 142, 143, 633, 634, 635, 636, 637, 638, 577, 578, 579, 580, 581, 582, 583, 584, 585, 620, 621, 622, 623, 624, 625, 626, 627, 628, 629, 615, 616, 617, 618, 619] (by decide +kernel) (by decide +kernel)
set_option maxRecDepth 20000 in
theorem gL_law_L_dispatch : GoodIn wsL_law (va_wsS RL 72 yL_dispatch wsL_dispatch) := goodIn_app (goodIn_of _ (by decide +kernel)) ggL_law_L_dispatch
set_option maxRecDepth 20000 in
theorem ggL_law_X4_dispatch : GoodIn wsL_law wsX4_dispatch := goodIn_r _ [147, 148, 83, 149, 84, 150, 65, 67, 68, 151, 152, 153, 5, 154, 81, 155, 156, 157, 158, 159, 160, 161, 162, 163, 69, 164, 165, 166, 167, 70, 71, 72, 73, 74, 75, 76, 168, 169, 170, 171, 172, 586, 587, 588, 589, 590, 591, 592, 593, 594, 595, 596, 597, 598, 599, 600, 601, 602, 603, 604, 605, 606, 607, 608, 609, 610, 611, 612, 613, 614] (by decide +kernel) (by decide +kernel)
set_option maxRecDepth 20000 in
theorem gL_law_X4_dispatch : GoodIn wsL_law (wsV RL 75 RX4 yX4_dispatch wsX4_dispatch) := goodIn_app (goodIn_of _ (by decide +kernel)) ggL_law_X4_dispatch
set_option maxRecDepth 20000 in
theorem ggL_law_X4_thrown : GoodIn wsL_law wsX4_thrown := goodIn_r _ [176, 159, 586, 587, 588, 589, 590, 591, 592, 593, 594, 595, 596, 597, 598, 599, 600, 601, 602, 603, 604, 605, 606, 607, 608, 609, 610, 611, 612, 613, 614] (by decide +kernel) (by decide +kernel)
set_option maxRecDepth 20000 in
theorem gL_law_X4_thrown : GoodIn wsL_law (wsV RL 76 RX4 yX4_thrown wsX4_thrown) := goodIn_app (goodIn_of _ (by decide +kernel)) ggL_law_X4_thrown
set_option maxRecDepth 20000 in
theorem ggL_law_L_move : GoodIn wsL_law wsL_move := goodIn_r _ [179, 180, 181, 182, 2, 183, 95, 96, 97, 24, 98, 20, 104, 105, 106, 107, 30, 108, 109, 110, 23, 111, 112, 55, 117, 118, 119, 120, 184, 185, 186, 19, 187, 40, 188, 189, 190, 191, 130, 131, 132, 133, 134, 135, 136, 137, 49, 50, 51, 52, 53, 54, 138, 139, 140, 141, 142, 143, 633, 634, 635, 636, 637, 638, 577, 578, 579, 580, 581, 582, 583, 584, 585, 620, 621, 622, 623, 624, 625, 626, 627, 628, 629, 615, 616, 617, 618, 619] (by decide +kernel) (by decide +kernel)
set_option maxRecDepth 20000 in
theorem gL_law_L_move : GoodIn wsL_law (va_wsS RL 80 yL_move wsL_move) := goodIn_app (goodIn_of _ (by decide +kernel)) ggL_law_L_move
set_option maxRecDepth 20000 in
theorem ggL_law_X4_move : GoodIn wsL_law wsX4_move := goodIn_r _ [195, 148, 83, 149, 67, 65, 151, 152, 153, 5, 154, 81, 155, 156, 157, 158, 159, 164, 165, 166, 167, 70, 71, 72, 73, 74, 75, 76, 168, 169, 170, 171, 172, 586, 587, 588, 589, 590, 591, 592, 593, 594, 595, 596, 597, 598, 599, 600, 601, 602, 603, 604, 605, 606, 607, 608, 609, 610, 611, 612, 613, 614] (by decide +kernel) (by decide +kernel)
set_option maxRecDepth 20000 in
theorem gL_law_X4_move : GoodIn wsL_law (wsV RL 83 RX4 yX4_move wsX4_move) := goodIn_app (goodIn_of _ (by decide +kernel)) ggL_law_X4_move
set_option maxRecDepth 20000 in
theorem ggL_law_L_port : GoodIn wsL_law wsL_port := goodIn_ca (goodIn_ca (goodIn_r _ [198, 199, 200, 201, 202, 203, 204, 2, 205, 206, 207, 208, 209, 24, 95, 96, 97, 210, 211, 212, 23, 213, 55, 214, 215, 216, 217, 218, 219, 220, 221, 112, 222, 223, 224, 225, 226, 143, 227, 228, 229, 230, 54, 231, 232, 233, 234, 577, 578, 579, 580, 581, 582, 583, 584, 585, 633, 634, 635, 636, 637, 638, 620, 621, 622, 623, 624, 625, 626, 627, 628, 629] (by decide +kernel) (by decide +kernel)) (goodIn_sub (fun _ h => List.mem_append_left _ (List.mem_append_right _ h)) (by decide +kernel))) (goodIn_sub (fun _ h => List.mem_append_right _ h) (by decide +kernel))
set_option maxRecDepth 20000 in
theorem gL_law_L_port : GoodIn wsL_law (va_wsS RL 84 yL_port wsL_port) := goodIn_app (goodIn_of _ (by decide +kernel)) ggL_law_L_port
set_option maxRecDepth 20000 in
theorem ggL_law_X4_port : GoodIn wsL_law wsX4_port := goodIn_r _ [238, 76, 75, 239, 240, 241, 5, 242, 83, 243, 244, 245, 246, 172, 148, 155, 156, 157, 158, 159, 586, 587, 588, 589, 590, 591, 592, 593, 594, 595, 596, 597, 598, 599, 600, 601, 602, 603, 604, 605, 606, 607, 608, 609, 610, 611, 612, 613, 614] (by decide +kernel) (by decide +kernel)
set_option maxRecDepth 20000 in
theorem gL_law_X4_port : GoodIn wsL_law (wsV RL 86 RX4 yX4_port wsX4_port) := goodIn_app (goodIn_of _ (by decide +kernel)) ggL_law_X4_port
set_option maxRecDepth 20000 in
theorem ggL_law_L_select : GoodIn wsL_law wsL_select := goodIn_ca (goodIn_r _ [249, 201, 250, 251, 252, 2, 253, 208, 209, 32, 24, 254, 255, 256, 257, 258, 259, 260, 23, 261, 112, 262, 140, 141, 142, 143, 55, 227, 228, 229, 230, 54, 222, 211, 212, 213, 263, 264, 265, 266, 20, 214, 215, 216, 217, 218, 219, 220, 221, 223, 224, 225, 226, 267, 268, 269, 270, 49, 271, 272, 273, 19, 274, 42, 188, 189, 190, 191, 40, 275, 276, 277, 278, 50, 279, 280, 281, 282, 577, 578, 579, 580, 581, 582, 583, 584, 585, 620, 621, 622, 623, 624, 625, 626, 627, 628, 629, 615, 616, 617, 618, 619] (by decide +kernel) (by decide +kernel)) (goodIn_sub (fun _ h => List.mem_append_right _ h) (by decide +kernel))
set_option maxRecDepth 20000 in
theorem gL_law_L_select : GoodIn wsL_law (va_wsS RL 87 yL_select wsL_select) := goodIn_app (goodIn_of _ (by decide +kernel)) ggL_law_L_select
set_option maxRecDepth 20000 in
theorem ggL_law_X4_select : GoodIn wsL_law wsX4_select := goodIn_r _ [286, 80, 148, 75, 76, 155, 156, 157, 5, 158, 159, 287, 288, 289, 290, 70, 71, 291, 292, 293, 294, 68, 168, 169, 170, 171, 172, 83, 586, 587, 588, 589, 590, 591, 592, 593, 594, 595, 596, 597, 598, 599, 600, 601, 602, 603, 604, 605, 606, 607, 608, 609, 610, 611, 612, 613, 614] (by decide +kernel) (by decide +kernel)
set_option maxRecDepth 20000 in
theorem gL_law_X4_select : GoodIn wsL_law (wsV RL 90 RX4 yX4_select wsX4_select) := goodIn_app (goodIn_of _ (by decide +kernel)) ggL_law_X4_select
set_option maxRecDepth 20000 in
theorem ggL_law_L_selected : GoodIn wsL_law wsL_selected := goodIn_r _ [297, 298, 299, 300, 2, 301, 95, 96, 97, 32, 633, 634, 635, 636, 637, 638, 577, 578, 579, 580, 581, 582, 583, 584, 585] (by decide +kernel) (by decide +kernel)
set_option maxRecDepth 20000 in
theorem gL_law_L_selected : GoodIn wsL_law (va_wsS RL 91 yL_selected wsL_selected) := goodIn_app (goodIn_of _ (by decide +kernel)) ggL_law_L_selected
set_option maxRecDepth 20000 in
theorem ggL_law_X4_selected : GoodIn wsL_law wsX4_selected := goodIn_r _ [305, 80, 155, 156, 157, 5, 158, 159, 586, 587, 588, 589, 590, 591, 592, 593, 594, 595, 596, 597, 598, 599, 600, 601, 602, 603, 604, 605, 606, 607, 608, 609, 610, 611, 612, 613, 614] (by decide +kernel) (by decide +kernel)
set_option maxRecDepth 20000 in
theorem gL_law_X4_selected : GoodIn wsL_law (wsV RL 93 RX4 yX4_selected wsX4_selected) := goodIn_app (goodIn_of _ (by decide +kernel)) ggL_law_X4_selected
set_option maxRecDepth 20000 in
theorem ggL_law_L_end : GoodIn wsL_law wsL_end := goodIn_ca (goodIn_r _ [308, 199, 200, 309, 310, 311, 2, 312, 206, 207, 24, 95, 96, 97, 20, 210, 211, 212, 23, 213, 55, 214, 215, 216, 217, 218, 219, 220, 221, 112, 222, 223, 224, 225, 226, 143, 279, 280, 281, 282, 313, 314, 315, 316, 258, 259, 260, 261, 262, 140, 141, 142, 263, 264, 265, 266, 267, 268, 269, 270, 49, 271, 272, 273, 19, 274, 42, 188, 189, 190, 191, 40, 275, 276, 277, 278, 50, 317, 318, 319, 320, 51, 321, 322, 323, 324, 577, 578, 579, 580, 581, 582, 583, 584, 585, 633, 634, 635, 636, 637, 638, 620, 621, 622, 623, 624, 625, 626, 627, 628, 629, 615, 616, 617, 618, 619] (by decide +kernel) (by decide +kernel)) (goodIn_sub (fun _ h => List.mem_append_left _ (List.mem_append_right _ h)) (by decide +kernel))
set_option maxRecDepth 20000 in
theorem gL_law_L_end : GoodIn wsL_law (va_wsS RL 94 yL_end wsL_end) := goodIn_app (goodIn_of _ (by decide +kernel)) ggL_law_L_end
set_option maxRecDepth 20000 in
theorem ggL_law_X4_end : GoodIn wsL_law wsX4_end := goodIn_r _ [328, 76, 72, 68, 239, 240, 241, 5, 242, 83, 243, 244, 245, 246, 172, 148, 155, 156, 157, 158, 159, 329, 330, 331, 332, 287, 288, 289, 290, 70, 71, 291, 292, 293, 294, 586, 587, 588, 589, 590, 591, 592, 593, 594, 595, 596, 597, 598, 599, 600, 601, 602, 603, 604, 605, 606, 607, 608, 609, 610, 611, 612, 613, 614] (by decide +kernel) (by decide +kernel)
set_option maxRecDepth 20000 in
theorem gL_law_X4_end : GoodIn wsL_law (wsV RL 96 RX4 yX4_end wsX4_end) := goodIn_app (goodIn_of _ (by decide +kernel)) ggL_law_X4_end
set_option maxRecDepth 20000 in
theorem ggL_law_L_commit : GoodIn wsL_law wsL_commit := goodIn_ca (goodIn_r _ [335, 201, 336, 337, 338, 2, 339, 208, 209, 340, 341, 342, 343, 24, 344, 345, 346, 347, 28, 348, 349, 350, 27, 351, 352, 60, 258, 259, 260, 23, 261, 112, 353, 354, 355, 356, 59, 357, 358, 359, 360, 361, 362, 363, 364, 365, 366, 367, 368, 369, 143, 214, 215, 216, 217, 55, 218, 219, 220, 221, 222, 211, 212, 213, 223, 224, 225, 226, 370, 371, 372, 373, 31, 20, 374, 375, 376, 377, 53, 104, 105, 106, 107, 30, 317, 318, 319, 320, 51, 378, 379, 380, 381, 52, 382, 383, 384, 19, 385, 40, 43, 44, 188, 189, 190, 191, 126, 127, 128, 129, 125, 386, 387, 388, 389, 139, 140, 141, 142, 577, 578, 579, 580, 581, 582, 583, 584, 585, 630, 631, 632, 620, 621, 622, 623, 624, 625, 626, 627, 628, 629, 615, 616, 617, 618, 619] (by decide +kernel) (by decide +kernel)) (goodIn_sub (fun _ h => List.mem_append_right _ h) (by decide +kernel))
set_option maxRecDepth 20000 in
theorem gL_law_L_commit : GoodIn wsL_law (va_wsS RL 97 yL_commit wsL_commit) := goodIn_app (goodIn_of _ (by decide +kernel)) ggL_law_L_commit
set_option maxRecDepth 20000 in
theorem ggL_law_X4_commit : GoodIn wsL_law wsX4_commit := goodIn_r _ [393, 148, 76, 394, 74, 66, 72, 73, 155, 156, 157, 5, 158, 159, 395, 396, 397, 398, 399, 77, 78, 400, 401, 402, 403, 67, 69, 84, 404, 405, 406, 407, 172, 83, 70, 71, 75, 586, 587, 588, 589, 590, 591, 592, 593, 594, 595, 596, 597, 598, 599, 600, 601, 602, 603, 604, 605, 606, 607, 608, 609, 610, 611, 612, 613, 614] (by decide +kernel) (by decide +kernel)
set_option maxRecDepth 20000 in
theorem gL_law_X4_commit : GoodIn wsL_law (wsV RL 99 RX4 yX4_commit wsX4_commit) := goodIn_app (goodIn_of _ (by decide +kernel)) ggL_law_X4_commit
set_option maxRecDepth 20000 in
theorem ggL_law_X3_branch : GoodIn wsL_law wsX3_branch := goodIn_r _ [411, 28, 24, 412, 413, 414, 23, 415, 365, 112, 416, 417, 418, 27, 419, 352, 59, 60, 420, 421, 422, 423, 424, 425, 426, 427, 577, 578, 579, 580, 581, 582, 583, 584, 585, 620, 621, 622, 623, 624, 625, 626, 627, 628, 629, 630, 631, 632] (by decide +kernel) (by decide +kernel)
set_option maxRecDepth 20000 in
theorem gL_law_X3_branch : GoodIn wsL_law (wsV RL 100 RX3 yX3_branch wsX3_branch) := goodIn_app (goodIn_of _ (by decide +kernel)) ggL_law_X3_branch
set_option maxRecDepth 20000 in
theorem ggL_law_X4_branch : GoodIn wsL_law wsX4_branch := goodIn_r _ [431, 159, 77, 432, 78, 394, 148, 79, 433, 586, 587, 588, 589, 590, 591, 592, 593, 594, 595, 596, 597, 598, 599, 600, 601, 602, 603, 604, 605, 606, 607, 608, 609, 610, 611, 612, 613, 614] (by decide +kernel) (by decide +kernel)
set_option maxRecDepth 20000 in
theorem gL_law_X4_branch : GoodIn wsL_law (wsV RL 103 RX4 yX4_branch wsX4_branch) := goodIn_app (goodIn_of _ (by decide +kernel)) ggL_law_X4_branch
set_option maxRecDepth 20000 in
theorem ggL_law_L_right : GoodIn wsL_law wsL_right := goodIn_ca (goodIn_r _ [436, 199, 200, 437, 438, 439, 2, 440, 206, 207, 28, 95, 96, 97, 441, 358, 359, 27, 360, 442, 421, 422, 423, 424, 425, 426, 427, 352, 60, 443, 444, 445, 446, 447, 448, 449, 450, 577, 578, 579, 580, 581, 582, 583, 584, 585, 633, 634, 635, 636, 637, 638, 630, 631, 632] (by decide +kernel) (by decide +kernel)) (goodIn_sub (fun _ h => List.mem_append_left _ (List.mem_append_right _ h)) (by decide +kernel))
set_option maxRecDepth 20000 in
theorem gL_law_L_right : GoodIn wsL_law (va_wsS RL 104 yL_right wsL_right) := goodIn_app (goodIn_of _ (by decide +kernel)) ggL_law_L_right
set_option maxRecDepth 20000 in
theorem ggL_law_X4_right : GoodIn wsL_law wsX4_right := goodIn_r _ [454, 77, 432, 455, 456, 457, 5, 458, 155, 156, 157, 158, 159, 459, 460, 461, 462, 586, 587, 588, 589, 590, 591, 592, 593, 594, 595, 596, 597, 598, 599, 600, 601, 602, 603, 604, 605, 606, 607, 608, 609, 610, 611, 612, 613, 614] (by decide +kernel) (by decide +kernel)
set_option maxRecDepth 20000 in
theorem gL_law_X4_right : GoodIn wsL_law (wsV RL 106 RX4 yX4_right wsX4_right) := goodIn_app (goodIn_of _ (by decide +kernel)) ggL_law_X4_right
set_option maxRecDepth 20000 in
theorem ggL_law_L_wrong : GoodIn wsL_law wsL_wrong := goodIn_ca (goodIn_r _ [465, 199, 200, 466, 467, 468, 2, 469, 206, 207, 28, 95, 96, 97, 24, 470, 441, 358, 359, 27, 360, 442, 421, 422, 423, 424, 425, 426, 427, 352, 60, 412, 413, 414, 23, 415, 365, 112, 353, 354, 355, 356, 59, 357, 471, 472, 473, 474, 20, 30, 475, 476, 477, 478, 139, 140, 141, 142, 143, 55, 374, 375, 376, 377, 53, 222, 211, 212, 213, 104, 105, 106, 107, 317, 318, 319, 320, 51, 382, 383, 384, 19, 385, 40, 43, 44, 188, 189, 190, 191, 126, 127, 128, 129, 125, 378, 379, 380, 381, 52, 479, 480, 481, 482, 483, 484, 485, 486, 577, 578, 579, 580, 581, 582, 583, 584, 585, 633, 634, 635, 636, 637, 638, 630, 631, 632, 620, 621, 622, 623, 624, 625, 626, 627, 628, 629, 615, 616, 617, 618, 619] (by decide +kernel) (by decide +kernel)) (goodIn_sub (fun _ h => List.mem_append_left _ (List.mem_append_right _ h)) (by decide +kernel))
set_option maxRecDepth 20000 in
theorem gL_law_L_wrong : GoodIn wsL_law (va_wsS RL 107 yL_wrong wsL_wrong) := goodIn_app (goodIn_of _ (by decide +kernel)) ggL_law_L_wrong
set_option maxRecDepth 20000 in
theorem ggL_law_X4_wrong : GoodIn wsL_law wsX4_wrong := goodIn_r _ [490, 77, 394, 148, 78, 74, 65, 73, 72, 491, 79, 455, 456, 457, 5, 458, 155, 156, 157, 158, 159, 400, 401, 402, 403, 67, 69, 84, 459, 460, 461, 462, 432, 586, 587, 588, 589, 590, 591, 592, 593, 594, 595, 596, 597, 598, 599, 600, 601, 602, 603, 604, 605, 606, 607, 608, 609, 610, 611, 612, 613, 614] (by decide +kernel) (by decide +kernel)
set_option maxRecDepth 20000 in
theorem gL_law_X4_wrong : GoodIn wsL_law (wsV RL 109 RX4 yX4_wrong wsX4_wrong) := goodIn_app (goodIn_of _ (by decide +kernel)) ggL_law_X4_wrong
set_option maxRecDepth 20000 in
theorem ggL_law_L_name : GoodIn wsL_law wsL_name := goodIn_r _ [494, 495, 496, 497, 2, 498, 95, 96, 97, 30, 104, 105, 106, 107, 633, 634, 635, 636, 637, 638, 577, 578, 579, 580, 581, 582, 583, 584, 585] (by decide +kernel) (by decide +kernel)
set_option maxRecDepth 20000 in
theorem gL_law_L_name : GoodIn wsL_law (va_wsS RL 110 yL_name wsL_name) := goodIn_app (goodIn_of _ (by decide +kernel)) ggL_law_L_name
set_option maxRecDepth 20000 in
theorem ggL_law_X4_name : GoodIn wsL_law wsX4_name := goodIn_r _ [502, 65, 151, 152, 153, 5, 154, 81, 155, 156, 157, 158, 159, 586, 587, 588, 589, 590, 591, 592, 593, 594, 595, 596, 597, 598, 599, 600, 601, 602, 603, 604, 605, 606, 607, 608, 609, 610, 611, 612, 613, 614] (by decide +kernel) (by decide +kernel)
set_option maxRecDepth 20000 in
theorem gL_law_X4_name : GoodIn wsL_law (wsV RL 112 RX4 yX4_name wsX4_name) := goodIn_app (goodIn_of _ (by decide +kernel)) ggL_law_X4_name
set_option maxRecDepth 20000 in
theorem ggL_law_L_sure : GoodIn wsL_law wsL_sure := goodIn_r _ [505, 506, 507, 508, 2, 509, 95, 96, 97, 31, 104, 105, 106, 107, 30, 633, 634, 635, 636, 637, 638, 577, 578, 579, 580, 581, 582, 583, 584, 585] (by decide +kernel) (by decide +kernel)
set_option maxRecDepth 20000 in
theorem gL_law_L_sure : GoodIn wsL_law (va_wsS RL 113 yL_sure wsL_sure) := goodIn_app (goodIn_of _ (by decide +kernel)) ggL_law_L_sure
set_option maxRecDepth 20000 in
theorem ggL_law_X4_sure : GoodIn wsL_law wsX4_sure := goodIn_r _ [513, 66, 151, 152, 153, 5, 154, 81, 155, 156, 157, 158, 159, 586, 587, 588, 589, 590, 591, 592, 593, 594, 595, 596, 597, 598, 599, 600, 601, 602, 603, 604, 605, 606, 607, 608, 609, 610, 611, 612, 613, 614] (by decide +kernel) (by decide +kernel)
set_option maxRecDepth 20000 in
theorem gL_law_X4_sure : GoodIn wsL_law (wsV RL 115 RX4 yX4_sure wsX4_sure) := goodIn_app (goodIn_of _ (by decide +kernel)) ggL_law_X4_sure
set_option maxRecDepth 20000 in
theorem ggL_law_L_shares : GoodIn wsL_law wsL_shares := goodIn_r _ [516, 517, 518, 519, 2, 520, 20, 95, 96, 97, 521, 189, 190, 19, 191, 40, 522, 523, 524, 525, 188, 577, 578, 579, 580, 581, 582, 583, 584, 585, 633, 634, 635, 636, 637, 638, 615, 616, 617, 618, 619] (by decide +kernel) (by decide +kernel)
set_option maxRecDepth 20000 in
theorem gL_law_L_shares : GoodIn wsL_law (va_wsS RL 116 yL_shares wsL_shares) := goodIn_app (goodIn_of _ (by decide +kernel)) ggL_law_L_shares
set_option maxRecDepth 20000 in
theorem ggL_law_X4_shares : GoodIn wsL_law wsX4_shares := goodIn_r _ [529, 82, 67, 155, 156, 157, 5, 158, 159, 586, 587, 588, 589, 590, 591, 592, 593, 594, 595, 596, 597, 598, 599, 600, 601, 602, 603, 604, 605, 606, 607, 608, 609, 610, 611, 612, 613, 614] (by decide +kernel) (by decide +kernel)
set_option maxRecDepth 20000 in
theorem gL_law_X4_shares : GoodIn wsL_law (wsV RL 118 RX4 yX4_shares wsX4_shares) := goodIn_app (goodIn_of _ (by decide +kernel)) ggL_law_X4_shares
set_option maxRecDepth 20000 in
theorem ggL_law_L_queue : GoodIn wsL_law wsL_queue := goodIn_ca (goodIn_r _ [532, 201, 533, 534, 535, 2, 536, 208, 209, 20, 113, 114, 115, 19, 116, 44, 537, 538, 539, 540, 43, 126, 127, 128, 129, 125, 577, 578, 579, 580, 581, 582, 583, 584, 585, 615, 616, 617, 618, 619] (by decide +kernel) (by decide +kernel)) (goodIn_sub (fun _ h => List.mem_append_right _ h) (by decide +kernel))
set_option maxRecDepth 20000 in
theorem gL_law_L_queue : GoodIn wsL_law (va_wsS RL 119 yL_queue wsL_queue) := goodIn_app (goodIn_of _ (by decide +kernel)) ggL_law_L_queue
set_option maxRecDepth 20000 in
theorem ggL_law_X4_queue : GoodIn wsL_law wsX4_queue := goodIn_r _ [544, 84, 69, 155, 156, 157, 5, 158, 159, 586, 587, 588, 589, 590, 591, 592, 593, 594, 595, 596, 597, 598, 599, 600, 601, 602, 603, 604, 605, 606, 607, 608, 609, 610, 611, 612, 613, 614] (by decide +kernel) (by decide +kernel)
set_option maxRecDepth 20000 in
theorem gL_law_X4_queue : GoodIn wsL_law (wsV RL 121 RX4 yX4_queue wsX4_queue) := goodIn_app (goodIn_of _ (by decide +kernel)) ggL_law_X4_queue
set_option maxRecDepth 20000 in
theorem ggL_law_L_row : GoodIn wsL_law wsL_row := goodIn_ca (goodIn_ca (goodIn_r _ [547, 199, 200, 201, 548, 549, 550, 2, 551, 206, 207, 208, 209, 24, 95, 96, 97, 210, 211, 212, 23, 213, 55, 552, 219, 220, 221, 112, 222, 223, 224, 225, 226, 143, 267, 268, 269, 270, 49, 275, 276, 277, 278, 50, 317, 318, 319, 320, 51, 378, 379, 380, 381, 52, 374, 375, 376, 377, 53, 227, 228, 229, 230, 54, 553, 554, 555, 556, 577, 578, 579, 580, 581, 582, 583, 584, 585, 633, 634, 635, 636, 637, 638, 620, 621, 622, 623, 624, 625, 626, 627, 628, 629] (by decide +kernel) (by decide +kernel)) (goodIn_sub (fun _ h => List.mem_append_left _ (List.mem_append_right _ h)) (by decide +kernel))) (goodIn_sub (fun _ h => List.mem_append_right _ h) (by decide +kernel))
set_option maxRecDepth 20000 in
theorem gL_law_L_row : GoodIn wsL_law (va_wsS RL 122 yL_row wsL_row) := goodIn_app (goodIn_of _ (by decide +kernel)) ggL_law_L_row
set_option maxRecDepth 20000 in
theorem ggL_law_X4_row : GoodIn wsL_law wsX4_row := goodIn_r _ [560, 70, 71, 72, 73, 74, 75, 76, 239, 240, 241, 5, 242, 83, 243, 244, 245, 246, 172, 148, 155, 156, 157, 158, 159, 586, 587, 588, 589, 590, 591, 592, 593, 594, 595, 596, 597, 598, 599, 600, 601, 602, 603, 604, 605, 606, 607, 608, 609, 610, 611, 612, 613, 614] (by decide +kernel) (by decide +kernel)
set_option maxRecDepth 20000 in
theorem gL_law_X4_row : GoodIn wsL_law (wsV RL 124 RX4 yX4_row wsX4_row) := goodIn_app (goodIn_of _ (by decide +kernel)) ggL_law_X4_row
set_option maxRecDepth 20000 in
theorem ggL_law_X3_count : GoodIn wsL_law wsX3_count := goodIn_r _ [564, 30, 20, 24, 28, 470, 98, 99, 565, 566, 567, 19, 568, 40, 569, 570, 571, 23, 572, 55, 258, 259, 260, 261, 112, 113, 114, 115, 116, 44, 447, 448, 449, 27, 450, 352, 361, 362, 363, 364, 365, 366, 367, 368, 369, 143, 577, 578, 579, 580, 581, 582, 583, 584, 585, 615, 616, 617, 618, 619, 620, 621, 622, 623, 624, 625, 626, 627, 628, 629, 630, 631, 632] (by decide +kernel) (by decide +kernel)
set_option maxRecDepth 20000 in
theorem gL_law_X3_count : GoodIn wsL_law (wsV RL 125 RX3 yX3_count wsX3_count) := goodIn_app (goodIn_of _ (by decide +kernel)) ggL_law_X3_count
set_option maxRecDepth 20000 in
theorem ggL_law_X4_count : GoodIn wsL_law wsX4_count := goodIn_r _ [576, 159, 81, 82, 83, 148, 84, 432, 394, 491, 172, 149, 150, 586, 587, 588, 589, 590, 591, 592, 593, 594, 595, 596, 597, 598, 599, 600, 601, 602, 603, 604, 605, 606, 607, 608, 609, 610, 611, 612, 613, 614] (by decide +kernel) (by decide +kernel)
set_option maxRecDepth 20000 in
theorem gL_law_X4_count : GoodIn wsL_law (wsV RL 128 RX4 yX4_count wsX4_count) := goodIn_app (goodIn_of _ (by decide +kernel)) ggL_law_X4_count
theorem dL_law_0 : decode cL_law 0 = .ok (.new 8, 3) := by decide +kernel
theorem dL_law_3 : decode cL_law 3 = .ok (.dup, 1) := by decide +kernel
theorem dL_law_4 : decode cL_law 4 = .ok (.aload_n 0, 1) := by decide +kernel
theorem dL_law_5 : decode cL_law 5 = .ok (.iconst 0, 1) := by decide +kernel
theorem dL_law_6 : decode cL_law 6 = .ok (.invokestatic 60, 3) := by decide +kernel
theorem dL_law_9 : decode cL_law 9 = .ok (.aload_n 0, 1) := by decide +kernel
theorem dL_law_10 : decode cL_law 10 = .ok (.iconst 1, 1) := by decide +kernel
theorem dL_law_11 : decode cL_law 11 = .ok (.invokestatic 60, 3) := by decide +kernel
theorem dL_law_14 : decode cL_law 14 = .ok (.aload_n 0, 1) := by decide +kernel
theorem dL_law_15 : decode cL_law 15 = .ok (.iconst 2, 1) := by decide +kernel
theorem dL_law_16 : decode cL_law 16 = .ok (.invokestatic 60, 3) := by decide +kernel
theorem dL_law_19 : decode cL_law 19 = .ok (.invokespecial 66, 3) := by decide +kernel
theorem dL_law_22 : decode cL_law 22 = .ok (.astore_n 1, 1) := by decide +kernel
theorem dL_law_23 : decode cL_law 23 = .ok (.new 69, 3) := by decide +kernel
theorem dL_law_26 : decode cL_law 26 = .ok (.dup, 1) := by decide +kernel
theorem dL_law_27 : decode cL_law 27 = .ok (.aload_n 0, 1) := by decide +kernel
theorem dL_law_28 : decode cL_law 28 = .ok (.iconst 0, 1) := by decide +kernel
theorem dL_law_29 : decode cL_law 29 = .ok (.invokestatic 60, 3) := by decide +kernel
theorem dL_law_32 : decode cL_law 32 = .ok (.aload_n 0, 1) := by decide +kernel
theorem dL_law_33 : decode cL_law 33 = .ok (.iconst 1, 1) := by decide +kernel
theorem dL_law_34 : decode cL_law 34 = .ok (.invokestatic 60, 3) := by decide +kernel
theorem dL_law_37 : decode cL_law 37 = .ok (.aload_n 0, 1) := by decide +kernel
theorem dL_law_38 : decode cL_law 38 = .ok (.iconst 2, 1) := by decide +kernel
theorem dL_law_39 : decode cL_law 39 = .ok (.invokestatic 60, 3) := by decide +kernel
theorem dL_law_42 : decode cL_law 42 = .ok (.invokespecial 71, 3) := by decide +kernel
theorem dL_law_45 : decode cL_law 45 = .ok (.astore_n 2, 1) := by decide +kernel
theorem dL_law_46 : decode cL_law 46 = .ok (.iconst 1, 1) := by decide +kernel
theorem dL_law_47 : decode cL_law 47 = .ok (.newarray .long, 2) := by decide +kernel
theorem dL_law_49 : decode cL_law 49 = .ok (.astore_n 3, 1) := by decide +kernel
theorem dL_law_50 : decode cL_law 50 = .ok (.iconst 3, 1) := by decide +kernel
theorem dL_law_51 : decode cL_law 51 = .ok (.istore 4, 2) := by decide +kernel
theorem dL_law_53 : decode cL_law 53 = .ok (.iload 4, 2) := by decide +kernel
theorem dL_law_55 : decode cL_law 55 = .ok (.aload_n 0, 1) := by decide +kernel
theorem dL_law_56 : decode cL_law 56 = .ok (.arraylength, 1) := by decide +kernel
theorem dL_law_57 : decode cL_law 57 = .ok (.iconst 4, 1) := by decide +kernel
theorem dL_law_58 : decode cL_law 58 = .ok (.isub, 1) := by decide +kernel
theorem dL_law_59 : decode cL_law 59 = .ok (.if_icmp .gt 977, 3) := by decide +kernel
theorem dL_law_62 : decode cL_law 62 = .ok (.aload_n 0, 1) := by decide +kernel
theorem dL_law_63 : decode cL_law 63 = .ok (.iload 4, 2) := by decide +kernel
theorem dL_law_65 : decode cL_law 65 = .ok (.iaload, 1) := by decide +kernel
theorem dL_law_66 : decode cL_law 66 = .ok (.bipush 15, 2) := by decide +kernel
theorem dL_law_68 : decode cL_law 68 = .ok (.iand, 1) := by decide +kernel
theorem dL_law_69 : decode cL_law 69 = .ok (.tableswitch 961 0 15 #[79, 159, 227, 295, 351, 407, 463, 519, 532, 588, 644, 700, 756, 812, 868, 936], 79) := by decide +kernel
theorem dL_law_148 : decode cL_law 148 = .ok (.aload_n 1, 1) := by decide +kernel
theorem dL_law_149 : decode cL_law 149 = .ok (.aload_n 0, 1) := by decide +kernel
theorem dL_law_150 : decode cL_law 150 = .ok (.iload 4, 2) := by decide +kernel
theorem dL_law_152 : decode cL_law 152 = .ok (.iconst 1, 1) := by decide +kernel
theorem dL_law_153 : decode cL_law 153 = .ok (.iadd, 1) := by decide +kernel
theorem dL_law_154 : decode cL_law 154 = .ok (.iaload, 1) := by decide +kernel
theorem dL_law_155 : decode cL_law 155 = .ok (.aload_n 0, 1) := by decide +kernel
theorem dL_law_156 : decode cL_law 156 = .ok (.iload 4, 2) := by decide +kernel
theorem dL_law_158 : decode cL_law 158 = .ok (.iconst 2, 1) := by decide +kernel
theorem dL_law_159 : decode cL_law 159 = .ok (.iadd, 1) := by decide +kernel
theorem dL_law_160 : decode cL_law 160 = .ok (.iaload, 1) := by decide +kernel
theorem dL_law_161 : decode cL_law 161 = .ok (.aload_n 0, 1) := by decide +kernel
theorem dL_law_162 : decode cL_law 162 = .ok (.iload 4, 2) := by decide +kernel
theorem dL_law_164 : decode cL_law 164 = .ok (.iconst 3, 1) := by decide +kernel
theorem dL_law_165 : decode cL_law 165 = .ok (.iadd, 1) := by decide +kernel
theorem dL_law_166 : decode cL_law 166 = .ok (.iaload, 1) := by decide +kernel
theorem dL_law_167 : decode cL_law 167 = .ok (.aload_n 3, 1) := by decide +kernel
theorem dL_law_168 : decode cL_law 168 = .ok (.invokestatic 72, 3) := by decide +kernel
theorem dL_law_171 : decode cL_law 171 = .ok (.istore 5, 2) := by decide +kernel
theorem dL_law_173 : decode cL_law 173 = .ok (.aload_n 2, 1) := by decide +kernel
theorem dL_law_174 : decode cL_law 174 = .ok (.aload_n 0, 1) := by decide +kernel
theorem dL_law_175 : decode cL_law 175 = .ok (.iload 4, 2) := by decide +kernel
theorem dL_law_177 : decode cL_law 177 = .ok (.iconst 1, 1) := by decide +kernel
theorem dL_law_178 : decode cL_law 178 = .ok (.iadd, 1) := by decide +kernel
theorem dL_law_179 : decode cL_law 179 = .ok (.iaload, 1) := by decide +kernel
theorem dL_law_180 : decode cL_law 180 = .ok (.aload_n 0, 1) := by decide +kernel
theorem dL_law_181 : decode cL_law 181 = .ok (.iload 4, 2) := by decide +kernel
theorem dL_law_183 : decode cL_law 183 = .ok (.iconst 2, 1) := by decide +kernel
theorem dL_law_184 : decode cL_law 184 = .ok (.iadd, 1) := by decide +kernel
theorem dL_law_185 : decode cL_law 185 = .ok (.iaload, 1) := by decide +kernel
theorem dL_law_186 : decode cL_law 186 = .ok (.aload_n 0, 1) := by decide +kernel
theorem dL_law_187 : decode cL_law 187 = .ok (.iload 4, 2) := by decide +kernel
theorem dL_law_189 : decode cL_law 189 = .ok (.iconst 3, 1) := by decide +kernel
theorem dL_law_190 : decode cL_law 190 = .ok (.iadd, 1) := by decide +kernel
theorem dL_law_191 : decode cL_law 191 = .ok (.iaload, 1) := by decide +kernel
theorem dL_law_192 : decode cL_law 192 = .ok (.invokevirtual 75, 3) := by decide +kernel
theorem dL_law_195 : decode cL_law 195 = .ok (.istore 6, 2) := by decide +kernel
theorem dL_law_197 : decode cL_law 197 = .ok (.aload_n 2, 1) := by decide +kernel
theorem dL_law_198 : decode cL_law 198 = .ok (.invokevirtual 76, 3) := by decide +kernel
theorem dL_law_201 : decode cL_law 201 = .ok (.iload 5, 2) := by decide +kernel
theorem dL_law_203 : decode cL_law 203 = .ok (.if_icmp .eq 5, 3) := by decide +kernel
theorem dL_law_206 : decode cL_law 206 = .ok (.iconst 0, 1) := by decide +kernel
theorem dL_law_207 : decode cL_law 207 = .ok (.ireturn, 1) := by decide +kernel
theorem dL_law_208 : decode cL_law 208 = .ok (.iload 5, 2) := by decide +kernel
theorem dL_law_210 : decode cL_law 210 = .ok (.ifCond .ne 15, 3) := by decide +kernel
theorem dL_law_213 : decode cL_law 213 = .ok (.aload_n 3, 1) := by decide +kernel
theorem dL_law_214 : decode cL_law 214 = .ok (.iconst 0, 1) := by decide +kernel
theorem dL_law_215 : decode cL_law 215 = .ok (.laload, 1) := by decide +kernel
theorem dL_law_216 : decode cL_law 216 = .ok (.iload 6, 2) := by decide +kernel
theorem dL_law_218 : decode cL_law 218 = .ok (.i2l, 1) := by decide +kernel
theorem dL_law_219 : decode cL_law 219 = .ok (.lcmp, 1) := by decide +kernel
theorem dL_law_220 : decode cL_law 220 = .ok (.ifCond .eq 5, 3) := by decide +kernel
theorem dL_law_223 : decode cL_law 223 = .ok (.iconst 0, 1) := by decide +kernel
theorem dL_law_224 : decode cL_law 224 = .ok (.ireturn, 1) := by decide +kernel
theorem dL_law_225 : decode cL_law 225 = .ok (.goto 805, 3) := by decide +kernel
theorem dL_law_228 : decode cL_law 228 = .ok (.aload_n 1, 1) := by decide +kernel
theorem dL_law_229 : decode cL_law 229 = .ok (.aload_n 0, 1) := by decide +kernel
theorem dL_law_230 : decode cL_law 230 = .ok (.iload 4, 2) := by decide +kernel
theorem dL_law_232 : decode cL_law 232 = .ok (.iconst 1, 1) := by decide +kernel
theorem dL_law_233 : decode cL_law 233 = .ok (.iadd, 1) := by decide +kernel
theorem dL_law_234 : decode cL_law 234 = .ok (.iaload, 1) := by decide +kernel
theorem dL_law_235 : decode cL_law 235 = .ok (.aload_n 0, 1) := by decide +kernel
theorem dL_law_236 : decode cL_law 236 = .ok (.iload 4, 2) := by decide +kernel
theorem dL_law_238 : decode cL_law 238 = .ok (.iconst 2, 1) := by decide +kernel
theorem dL_law_239 : decode cL_law 239 = .ok (.iadd, 1) := by decide +kernel
theorem dL_law_240 : decode cL_law 240 = .ok (.iaload, 1) := by decide +kernel
theorem dL_law_241 : decode cL_law 241 = .ok (.aload_n 3, 1) := by decide +kernel
theorem dL_law_242 : decode cL_law 242 = .ok (.invokestatic 80, 3) := by decide +kernel
theorem dL_law_245 : decode cL_law 245 = .ok (.istore 5, 2) := by decide +kernel
theorem dL_law_247 : decode cL_law 247 = .ok (.aload_n 2, 1) := by decide +kernel
theorem dL_law_248 : decode cL_law 248 = .ok (.aload_n 0, 1) := by decide +kernel
theorem dL_law_249 : decode cL_law 249 = .ok (.iload 4, 2) := by decide +kernel
theorem dL_law_251 : decode cL_law 251 = .ok (.iconst 1, 1) := by decide +kernel
theorem dL_law_252 : decode cL_law 252 = .ok (.iadd, 1) := by decide +kernel
theorem dL_law_253 : decode cL_law 253 = .ok (.iaload, 1) := by decide +kernel
theorem dL_law_254 : decode cL_law 254 = .ok (.aload_n 0, 1) := by decide +kernel
theorem dL_law_255 : decode cL_law 255 = .ok (.iload 4, 2) := by decide +kernel
theorem dL_law_257 : decode cL_law 257 = .ok (.iconst 2, 1) := by decide +kernel
theorem dL_law_258 : decode cL_law 258 = .ok (.iadd, 1) := by decide +kernel
theorem dL_law_259 : decode cL_law 259 = .ok (.iaload, 1) := by decide +kernel
theorem dL_law_260 : decode cL_law 260 = .ok (.invokevirtual 83, 3) := by decide +kernel
theorem dL_law_263 : decode cL_law 263 = .ok (.istore 6, 2) := by decide +kernel
theorem dL_law_265 : decode cL_law 265 = .ok (.aload_n 2, 1) := by decide +kernel
theorem dL_law_266 : decode cL_law 266 = .ok (.invokevirtual 76, 3) := by decide +kernel
theorem dL_law_269 : decode cL_law 269 = .ok (.iload 5, 2) := by decide +kernel
theorem dL_law_271 : decode cL_law 271 = .ok (.if_icmp .eq 5, 3) := by decide +kernel
theorem dL_law_274 : decode cL_law 274 = .ok (.iconst 0, 1) := by decide +kernel
theorem dL_law_275 : decode cL_law 275 = .ok (.ireturn, 1) := by decide +kernel
theorem dL_law_276 : decode cL_law 276 = .ok (.iload 5, 2) := by decide +kernel
theorem dL_law_278 : decode cL_law 278 = .ok (.ifCond .ne 15, 3) := by decide +kernel
theorem dL_law_281 : decode cL_law 281 = .ok (.aload_n 3, 1) := by decide +kernel
theorem dL_law_282 : decode cL_law 282 = .ok (.iconst 0, 1) := by decide +kernel
theorem dL_law_283 : decode cL_law 283 = .ok (.laload, 1) := by decide +kernel
theorem dL_law_284 : decode cL_law 284 = .ok (.iload 6, 2) := by decide +kernel
theorem dL_law_286 : decode cL_law 286 = .ok (.i2l, 1) := by decide +kernel
theorem dL_law_287 : decode cL_law 287 = .ok (.lcmp, 1) := by decide +kernel
theorem dL_law_288 : decode cL_law 288 = .ok (.ifCond .eq 5, 3) := by decide +kernel
theorem dL_law_291 : decode cL_law 291 = .ok (.iconst 0, 1) := by decide +kernel
theorem dL_law_292 : decode cL_law 292 = .ok (.ireturn, 1) := by decide +kernel
theorem dL_law_293 : decode cL_law 293 = .ok (.goto 737, 3) := by decide +kernel
theorem dL_law_296 : decode cL_law 296 = .ok (.aload_n 1, 1) := by decide +kernel
theorem dL_law_297 : decode cL_law 297 = .ok (.aload_n 0, 1) := by decide +kernel
theorem dL_law_298 : decode cL_law 298 = .ok (.iload 4, 2) := by decide +kernel
theorem dL_law_300 : decode cL_law 300 = .ok (.iconst 1, 1) := by decide +kernel
theorem dL_law_301 : decode cL_law 301 = .ok (.iadd, 1) := by decide +kernel
theorem dL_law_302 : decode cL_law 302 = .ok (.iaload, 1) := by decide +kernel
theorem dL_law_303 : decode cL_law 303 = .ok (.aload_n 0, 1) := by decide +kernel
theorem dL_law_304 : decode cL_law 304 = .ok (.iload 4, 2) := by decide +kernel
theorem dL_law_306 : decode cL_law 306 = .ok (.iconst 2, 1) := by decide +kernel
theorem dL_law_307 : decode cL_law 307 = .ok (.iadd, 1) := by decide +kernel
theorem dL_law_308 : decode cL_law 308 = .ok (.iaload, 1) := by decide +kernel
theorem dL_law_309 : decode cL_law 309 = .ok (.aload_n 3, 1) := by decide +kernel
theorem dL_law_310 : decode cL_law 310 = .ok (.invokestatic 84, 3) := by decide +kernel
theorem dL_law_313 : decode cL_law 313 = .ok (.istore 5, 2) := by decide +kernel
theorem dL_law_315 : decode cL_law 315 = .ok (.aload_n 2, 1) := by decide +kernel
theorem dL_law_316 : decode cL_law 316 = .ok (.aload_n 0, 1) := by decide +kernel
theorem dL_law_317 : decode cL_law 317 = .ok (.iload 4, 2) := by decide +kernel
theorem dL_law_319 : decode cL_law 319 = .ok (.iconst 1, 1) := by decide +kernel
theorem dL_law_320 : decode cL_law 320 = .ok (.iadd, 1) := by decide +kernel
theorem dL_law_321 : decode cL_law 321 = .ok (.iaload, 1) := by decide +kernel
theorem dL_law_322 : decode cL_law 322 = .ok (.aload_n 0, 1) := by decide +kernel
theorem dL_law_323 : decode cL_law 323 = .ok (.iload 4, 2) := by decide +kernel
theorem dL_law_325 : decode cL_law 325 = .ok (.iconst 2, 1) := by decide +kernel
theorem dL_law_326 : decode cL_law 326 = .ok (.iadd, 1) := by decide +kernel
theorem dL_law_327 : decode cL_law 327 = .ok (.iaload, 1) := by decide +kernel
theorem dL_law_328 : decode cL_law 328 = .ok (.invokevirtual 86, 3) := by decide +kernel
theorem dL_law_331 : decode cL_law 331 = .ok (.istore 6, 2) := by decide +kernel
theorem dL_law_333 : decode cL_law 333 = .ok (.aload_n 2, 1) := by decide +kernel
theorem dL_law_334 : decode cL_law 334 = .ok (.invokevirtual 76, 3) := by decide +kernel
theorem dL_law_337 : decode cL_law 337 = .ok (.iload 5, 2) := by decide +kernel
theorem dL_law_339 : decode cL_law 339 = .ok (.if_icmp .eq 5, 3) := by decide +kernel
theorem dL_law_342 : decode cL_law 342 = .ok (.iconst 0, 1) := by decide +kernel
theorem dL_law_343 : decode cL_law 343 = .ok (.ireturn, 1) := by decide +kernel
theorem dL_law_344 : decode cL_law 344 = .ok (.iload 5, 2) := by decide +kernel
theorem dL_law_346 : decode cL_law 346 = .ok (.ifCond .ne 15, 3) := by decide +kernel
theorem dL_law_349 : decode cL_law 349 = .ok (.aload_n 3, 1) := by decide +kernel
theorem dL_law_350 : decode cL_law 350 = .ok (.iconst 0, 1) := by decide +kernel
theorem dL_law_351 : decode cL_law 351 = .ok (.laload, 1) := by decide +kernel
theorem dL_law_352 : decode cL_law 352 = .ok (.iload 6, 2) := by decide +kernel
theorem dL_law_354 : decode cL_law 354 = .ok (.i2l, 1) := by decide +kernel
theorem dL_law_355 : decode cL_law 355 = .ok (.lcmp, 1) := by decide +kernel
theorem dL_law_356 : decode cL_law 356 = .ok (.ifCond .eq 5, 3) := by decide +kernel
theorem dL_law_359 : decode cL_law 359 = .ok (.iconst 0, 1) := by decide +kernel
theorem dL_law_360 : decode cL_law 360 = .ok (.ireturn, 1) := by decide +kernel
theorem dL_law_361 : decode cL_law 361 = .ok (.goto 669, 3) := by decide +kernel
theorem dL_law_364 : decode cL_law 364 = .ok (.aload_n 1, 1) := by decide +kernel
theorem dL_law_365 : decode cL_law 365 = .ok (.aload_n 0, 1) := by decide +kernel
theorem dL_law_366 : decode cL_law 366 = .ok (.iload 4, 2) := by decide +kernel
theorem dL_law_368 : decode cL_law 368 = .ok (.iconst 1, 1) := by decide +kernel
theorem dL_law_369 : decode cL_law 369 = .ok (.iadd, 1) := by decide +kernel
theorem dL_law_370 : decode cL_law 370 = .ok (.iaload, 1) := by decide +kernel
theorem dL_law_371 : decode cL_law 371 = .ok (.aload_n 3, 1) := by decide +kernel
theorem dL_law_372 : decode cL_law 372 = .ok (.invokestatic 87, 3) := by decide +kernel
theorem dL_law_375 : decode cL_law 375 = .ok (.istore 5, 2) := by decide +kernel
theorem dL_law_377 : decode cL_law 377 = .ok (.aload_n 2, 1) := by decide +kernel
theorem dL_law_378 : decode cL_law 378 = .ok (.aload_n 0, 1) := by decide +kernel
theorem dL_law_379 : decode cL_law 379 = .ok (.iload 4, 2) := by decide +kernel
theorem dL_law_381 : decode cL_law 381 = .ok (.iconst 1, 1) := by decide +kernel
theorem dL_law_382 : decode cL_law 382 = .ok (.iadd, 1) := by decide +kernel
theorem dL_law_383 : decode cL_law 383 = .ok (.iaload, 1) := by decide +kernel
theorem dL_law_384 : decode cL_law 384 = .ok (.invokevirtual 90, 3) := by decide +kernel
theorem dL_law_387 : decode cL_law 387 = .ok (.istore 6, 2) := by decide +kernel
theorem dL_law_389 : decode cL_law 389 = .ok (.aload_n 2, 1) := by decide +kernel
theorem dL_law_390 : decode cL_law 390 = .ok (.invokevirtual 76, 3) := by decide +kernel
theorem dL_law_393 : decode cL_law 393 = .ok (.iload 5, 2) := by decide +kernel
theorem dL_law_395 : decode cL_law 395 = .ok (.if_icmp .eq 5, 3) := by decide +kernel
theorem dL_law_398 : decode cL_law 398 = .ok (.iconst 0, 1) := by decide +kernel
theorem dL_law_399 : decode cL_law 399 = .ok (.ireturn, 1) := by decide +kernel
theorem dL_law_400 : decode cL_law 400 = .ok (.iload 5, 2) := by decide +kernel
theorem dL_law_402 : decode cL_law 402 = .ok (.ifCond .ne 15, 3) := by decide +kernel
theorem dL_law_405 : decode cL_law 405 = .ok (.aload_n 3, 1) := by decide +kernel
theorem dL_law_406 : decode cL_law 406 = .ok (.iconst 0, 1) := by decide +kernel
theorem dL_law_407 : decode cL_law 407 = .ok (.laload, 1) := by decide +kernel
theorem dL_law_408 : decode cL_law 408 = .ok (.iload 6, 2) := by decide +kernel
theorem dL_law_410 : decode cL_law 410 = .ok (.i2l, 1) := by decide +kernel
theorem dL_law_411 : decode cL_law 411 = .ok (.lcmp, 1) := by decide +kernel
theorem dL_law_412 : decode cL_law 412 = .ok (.ifCond .eq 5, 3) := by decide +kernel
theorem dL_law_415 : decode cL_law 415 = .ok (.iconst 0, 1) := by decide +kernel
theorem dL_law_416 : decode cL_law 416 = .ok (.ireturn, 1) := by decide +kernel
theorem dL_law_417 : decode cL_law 417 = .ok (.goto 613, 3) := by decide +kernel
theorem dL_law_420 : decode cL_law 420 = .ok (.aload_n 1, 1) := by decide +kernel
theorem dL_law_421 : decode cL_law 421 = .ok (.aload_n 0, 1) := by decide +kernel
theorem dL_law_422 : decode cL_law 422 = .ok (.iload 4, 2) := by decide +kernel
theorem dL_law_424 : decode cL_law 424 = .ok (.iconst 1, 1) := by decide +kernel
theorem dL_law_425 : decode cL_law 425 = .ok (.iadd, 1) := by decide +kernel
theorem dL_law_426 : decode cL_law 426 = .ok (.iaload, 1) := by decide +kernel
theorem dL_law_427 : decode cL_law 427 = .ok (.aload_n 3, 1) := by decide +kernel
theorem dL_law_428 : decode cL_law 428 = .ok (.invokestatic 91, 3) := by decide +kernel
theorem dL_law_431 : decode cL_law 431 = .ok (.istore 5, 2) := by decide +kernel
theorem dL_law_433 : decode cL_law 433 = .ok (.aload_n 2, 1) := by decide +kernel
theorem dL_law_434 : decode cL_law 434 = .ok (.aload_n 0, 1) := by decide +kernel
theorem dL_law_435 : decode cL_law 435 = .ok (.iload 4, 2) := by decide +kernel
theorem dL_law_437 : decode cL_law 437 = .ok (.iconst 1, 1) := by decide +kernel
theorem dL_law_438 : decode cL_law 438 = .ok (.iadd, 1) := by decide +kernel
theorem dL_law_439 : decode cL_law 439 = .ok (.iaload, 1) := by decide +kernel
theorem dL_law_440 : decode cL_law 440 = .ok (.invokevirtual 93, 3) := by decide +kernel
theorem dL_law_443 : decode cL_law 443 = .ok (.istore 6, 2) := by decide +kernel
theorem dL_law_445 : decode cL_law 445 = .ok (.aload_n 2, 1) := by decide +kernel
theorem dL_law_446 : decode cL_law 446 = .ok (.invokevirtual 76, 3) := by decide +kernel
theorem dL_law_449 : decode cL_law 449 = .ok (.iload 5, 2) := by decide +kernel
theorem dL_law_451 : decode cL_law 451 = .ok (.if_icmp .eq 5, 3) := by decide +kernel
theorem dL_law_454 : decode cL_law 454 = .ok (.iconst 0, 1) := by decide +kernel
theorem dL_law_455 : decode cL_law 455 = .ok (.ireturn, 1) := by decide +kernel
theorem dL_law_456 : decode cL_law 456 = .ok (.iload 5, 2) := by decide +kernel
theorem dL_law_458 : decode cL_law 458 = .ok (.ifCond .ne 15, 3) := by decide +kernel
theorem dL_law_461 : decode cL_law 461 = .ok (.aload_n 3, 1) := by decide +kernel
theorem dL_law_462 : decode cL_law 462 = .ok (.iconst 0, 1) := by decide +kernel
theorem dL_law_463 : decode cL_law 463 = .ok (.laload, 1) := by decide +kernel
theorem dL_law_464 : decode cL_law 464 = .ok (.iload 6, 2) := by decide +kernel
theorem dL_law_466 : decode cL_law 466 = .ok (.i2l, 1) := by decide +kernel
theorem dL_law_467 : decode cL_law 467 = .ok (.lcmp, 1) := by decide +kernel
theorem dL_law_468 : decode cL_law 468 = .ok (.ifCond .eq 5, 3) := by decide +kernel
theorem dL_law_471 : decode cL_law 471 = .ok (.iconst 0, 1) := by decide +kernel
theorem dL_law_472 : decode cL_law 472 = .ok (.ireturn, 1) := by decide +kernel
theorem dL_law_473 : decode cL_law 473 = .ok (.goto 557, 3) := by decide +kernel
theorem dL_law_476 : decode cL_law 476 = .ok (.aload_n 1, 1) := by decide +kernel
theorem dL_law_477 : decode cL_law 477 = .ok (.aload_n 0, 1) := by decide +kernel
theorem dL_law_478 : decode cL_law 478 = .ok (.iload 4, 2) := by decide +kernel
theorem dL_law_480 : decode cL_law 480 = .ok (.iconst 1, 1) := by decide +kernel
theorem dL_law_481 : decode cL_law 481 = .ok (.iadd, 1) := by decide +kernel
theorem dL_law_482 : decode cL_law 482 = .ok (.iaload, 1) := by decide +kernel
theorem dL_law_483 : decode cL_law 483 = .ok (.aload_n 3, 1) := by decide +kernel
theorem dL_law_484 : decode cL_law 484 = .ok (.invokestatic 94, 3) := by decide +kernel
theorem dL_law_487 : decode cL_law 487 = .ok (.istore 5, 2) := by decide +kernel
theorem dL_law_489 : decode cL_law 489 = .ok (.aload_n 2, 1) := by decide +kernel
theorem dL_law_490 : decode cL_law 490 = .ok (.aload_n 0, 1) := by decide +kernel
theorem dL_law_491 : decode cL_law 491 = .ok (.iload 4, 2) := by decide +kernel
theorem dL_law_493 : decode cL_law 493 = .ok (.iconst 1, 1) := by decide +kernel
theorem dL_law_494 : decode cL_law 494 = .ok (.iadd, 1) := by decide +kernel
theorem dL_law_495 : decode cL_law 495 = .ok (.iaload, 1) := by decide +kernel
theorem dL_law_496 : decode cL_law 496 = .ok (.invokevirtual 96, 3) := by decide +kernel
theorem dL_law_499 : decode cL_law 499 = .ok (.istore 6, 2) := by decide +kernel
theorem dL_law_501 : decode cL_law 501 = .ok (.aload_n 2, 1) := by decide +kernel
theorem dL_law_502 : decode cL_law 502 = .ok (.invokevirtual 76, 3) := by decide +kernel
theorem dL_law_505 : decode cL_law 505 = .ok (.iload 5, 2) := by decide +kernel
theorem dL_law_507 : decode cL_law 507 = .ok (.if_icmp .eq 5, 3) := by decide +kernel
theorem dL_law_510 : decode cL_law 510 = .ok (.iconst 0, 1) := by decide +kernel
theorem dL_law_511 : decode cL_law 511 = .ok (.ireturn, 1) := by decide +kernel
theorem dL_law_512 : decode cL_law 512 = .ok (.iload 5, 2) := by decide +kernel
theorem dL_law_514 : decode cL_law 514 = .ok (.ifCond .ne 15, 3) := by decide +kernel
theorem dL_law_517 : decode cL_law 517 = .ok (.aload_n 3, 1) := by decide +kernel
theorem dL_law_518 : decode cL_law 518 = .ok (.iconst 0, 1) := by decide +kernel
theorem dL_law_519 : decode cL_law 519 = .ok (.laload, 1) := by decide +kernel
theorem dL_law_520 : decode cL_law 520 = .ok (.iload 6, 2) := by decide +kernel
theorem dL_law_522 : decode cL_law 522 = .ok (.i2l, 1) := by decide +kernel
theorem dL_law_523 : decode cL_law 523 = .ok (.lcmp, 1) := by decide +kernel
theorem dL_law_524 : decode cL_law 524 = .ok (.ifCond .eq 5, 3) := by decide +kernel
theorem dL_law_527 : decode cL_law 527 = .ok (.iconst 0, 1) := by decide +kernel
theorem dL_law_528 : decode cL_law 528 = .ok (.ireturn, 1) := by decide +kernel
theorem dL_law_529 : decode cL_law 529 = .ok (.goto 501, 3) := by decide +kernel
theorem dL_law_532 : decode cL_law 532 = .ok (.aload_n 1, 1) := by decide +kernel
theorem dL_law_533 : decode cL_law 533 = .ok (.aload_n 0, 1) := by decide +kernel
theorem dL_law_534 : decode cL_law 534 = .ok (.iload 4, 2) := by decide +kernel
theorem dL_law_536 : decode cL_law 536 = .ok (.iconst 1, 1) := by decide +kernel
theorem dL_law_537 : decode cL_law 537 = .ok (.iadd, 1) := by decide +kernel
theorem dL_law_538 : decode cL_law 538 = .ok (.iaload, 1) := by decide +kernel
theorem dL_law_539 : decode cL_law 539 = .ok (.aload_n 3, 1) := by decide +kernel
theorem dL_law_540 : decode cL_law 540 = .ok (.invokestatic 97, 3) := by decide +kernel
theorem dL_law_543 : decode cL_law 543 = .ok (.istore 5, 2) := by decide +kernel
theorem dL_law_545 : decode cL_law 545 = .ok (.aload_n 2, 1) := by decide +kernel
theorem dL_law_546 : decode cL_law 546 = .ok (.aload_n 0, 1) := by decide +kernel
theorem dL_law_547 : decode cL_law 547 = .ok (.iload 4, 2) := by decide +kernel
theorem dL_law_549 : decode cL_law 549 = .ok (.iconst 1, 1) := by decide +kernel
theorem dL_law_550 : decode cL_law 550 = .ok (.iadd, 1) := by decide +kernel
theorem dL_law_551 : decode cL_law 551 = .ok (.iaload, 1) := by decide +kernel
theorem dL_law_552 : decode cL_law 552 = .ok (.invokevirtual 99, 3) := by decide +kernel
theorem dL_law_555 : decode cL_law 555 = .ok (.istore 6, 2) := by decide +kernel
theorem dL_law_557 : decode cL_law 557 = .ok (.aload_n 2, 1) := by decide +kernel
theorem dL_law_558 : decode cL_law 558 = .ok (.invokevirtual 76, 3) := by decide +kernel
theorem dL_law_561 : decode cL_law 561 = .ok (.iload 5, 2) := by decide +kernel
theorem dL_law_563 : decode cL_law 563 = .ok (.if_icmp .eq 5, 3) := by decide +kernel
theorem dL_law_566 : decode cL_law 566 = .ok (.iconst 0, 1) := by decide +kernel
theorem dL_law_567 : decode cL_law 567 = .ok (.ireturn, 1) := by decide +kernel
theorem dL_law_568 : decode cL_law 568 = .ok (.iload 5, 2) := by decide +kernel
theorem dL_law_570 : decode cL_law 570 = .ok (.ifCond .ne 15, 3) := by decide +kernel
theorem dL_law_573 : decode cL_law 573 = .ok (.aload_n 3, 1) := by decide +kernel
theorem dL_law_574 : decode cL_law 574 = .ok (.iconst 0, 1) := by decide +kernel
theorem dL_law_575 : decode cL_law 575 = .ok (.laload, 1) := by decide +kernel
theorem dL_law_576 : decode cL_law 576 = .ok (.iload 6, 2) := by decide +kernel
theorem dL_law_578 : decode cL_law 578 = .ok (.i2l, 1) := by decide +kernel
theorem dL_law_579 : decode cL_law 579 = .ok (.lcmp, 1) := by decide +kernel
theorem dL_law_580 : decode cL_law 580 = .ok (.ifCond .eq 5, 3) := by decide +kernel
theorem dL_law_583 : decode cL_law 583 = .ok (.iconst 0, 1) := by decide +kernel
theorem dL_law_584 : decode cL_law 584 = .ok (.ireturn, 1) := by decide +kernel
theorem dL_law_585 : decode cL_law 585 = .ok (.goto 445, 3) := by decide +kernel
theorem dL_law_588 : decode cL_law 588 = .ok (.aload_n 1, 1) := by decide +kernel
theorem dL_law_589 : decode cL_law 589 = .ok (.invokevirtual 100, 3) := by decide +kernel
theorem dL_law_592 : decode cL_law 592 = .ok (.aload_n 2, 1) := by decide +kernel
theorem dL_law_593 : decode cL_law 593 = .ok (.invokevirtual 103, 3) := by decide +kernel
theorem dL_law_596 : decode cL_law 596 = .ok (.if_icmp .eq 434, 3) := by decide +kernel
theorem dL_law_599 : decode cL_law 599 = .ok (.iconst 0, 1) := by decide +kernel
theorem dL_law_600 : decode cL_law 600 = .ok (.ireturn, 1) := by decide +kernel
theorem dL_law_601 : decode cL_law 601 = .ok (.aload_n 1, 1) := by decide +kernel
theorem dL_law_602 : decode cL_law 602 = .ok (.aload_n 0, 1) := by decide +kernel
theorem dL_law_603 : decode cL_law 603 = .ok (.iload 4, 2) := by decide +kernel
theorem dL_law_605 : decode cL_law 605 = .ok (.iconst 1, 1) := by decide +kernel
theorem dL_law_606 : decode cL_law 606 = .ok (.iadd, 1) := by decide +kernel
theorem dL_law_607 : decode cL_law 607 = .ok (.iaload, 1) := by decide +kernel
theorem dL_law_608 : decode cL_law 608 = .ok (.aload_n 3, 1) := by decide +kernel
theorem dL_law_609 : decode cL_law 609 = .ok (.invokestatic 104, 3) := by decide +kernel
theorem dL_law_612 : decode cL_law 612 = .ok (.istore 5, 2) := by decide +kernel
theorem dL_law_614 : decode cL_law 614 = .ok (.aload_n 2, 1) := by decide +kernel
theorem dL_law_615 : decode cL_law 615 = .ok (.aload_n 0, 1) := by decide +kernel
theorem dL_law_616 : decode cL_law 616 = .ok (.iload 4, 2) := by decide +kernel
theorem dL_law_618 : decode cL_law 618 = .ok (.iconst 1, 1) := by decide +kernel
theorem dL_law_619 : decode cL_law 619 = .ok (.iadd, 1) := by decide +kernel
theorem dL_law_620 : decode cL_law 620 = .ok (.iaload, 1) := by decide +kernel
theorem dL_law_621 : decode cL_law 621 = .ok (.invokevirtual 106, 3) := by decide +kernel
theorem dL_law_624 : decode cL_law 624 = .ok (.istore 6, 2) := by decide +kernel
theorem dL_law_626 : decode cL_law 626 = .ok (.aload_n 2, 1) := by decide +kernel
theorem dL_law_627 : decode cL_law 627 = .ok (.invokevirtual 76, 3) := by decide +kernel
theorem dL_law_630 : decode cL_law 630 = .ok (.iload 5, 2) := by decide +kernel
theorem dL_law_632 : decode cL_law 632 = .ok (.if_icmp .eq 5, 3) := by decide +kernel
theorem dL_law_635 : decode cL_law 635 = .ok (.iconst 0, 1) := by decide +kernel
theorem dL_law_636 : decode cL_law 636 = .ok (.ireturn, 1) := by decide +kernel
theorem dL_law_637 : decode cL_law 637 = .ok (.iload 5, 2) := by decide +kernel
theorem dL_law_639 : decode cL_law 639 = .ok (.ifCond .ne 15, 3) := by decide +kernel
theorem dL_law_642 : decode cL_law 642 = .ok (.aload_n 3, 1) := by decide +kernel
theorem dL_law_643 : decode cL_law 643 = .ok (.iconst 0, 1) := by decide +kernel
theorem dL_law_644 : decode cL_law 644 = .ok (.laload, 1) := by decide +kernel
theorem dL_law_645 : decode cL_law 645 = .ok (.iload 6, 2) := by decide +kernel
theorem dL_law_647 : decode cL_law 647 = .ok (.i2l, 1) := by decide +kernel
theorem dL_law_648 : decode cL_law 648 = .ok (.lcmp, 1) := by decide +kernel
theorem dL_law_649 : decode cL_law 649 = .ok (.ifCond .eq 5, 3) := by decide +kernel
theorem dL_law_652 : decode cL_law 652 = .ok (.iconst 0, 1) := by decide +kernel
theorem dL_law_653 : decode cL_law 653 = .ok (.ireturn, 1) := by decide +kernel
theorem dL_law_654 : decode cL_law 654 = .ok (.goto 376, 3) := by decide +kernel
theorem dL_law_657 : decode cL_law 657 = .ok (.aload_n 1, 1) := by decide +kernel
theorem dL_law_658 : decode cL_law 658 = .ok (.aload_n 0, 1) := by decide +kernel
theorem dL_law_659 : decode cL_law 659 = .ok (.iload 4, 2) := by decide +kernel
theorem dL_law_661 : decode cL_law 661 = .ok (.iconst 1, 1) := by decide +kernel
theorem dL_law_662 : decode cL_law 662 = .ok (.iadd, 1) := by decide +kernel
theorem dL_law_663 : decode cL_law 663 = .ok (.iaload, 1) := by decide +kernel
theorem dL_law_664 : decode cL_law 664 = .ok (.aload_n 3, 1) := by decide +kernel
theorem dL_law_665 : decode cL_law 665 = .ok (.invokestatic 107, 3) := by decide +kernel
theorem dL_law_668 : decode cL_law 668 = .ok (.istore 5, 2) := by decide +kernel
theorem dL_law_670 : decode cL_law 670 = .ok (.aload_n 2, 1) := by decide +kernel
theorem dL_law_671 : decode cL_law 671 = .ok (.aload_n 0, 1) := by decide +kernel
theorem dL_law_672 : decode cL_law 672 = .ok (.iload 4, 2) := by decide +kernel
theorem dL_law_674 : decode cL_law 674 = .ok (.iconst 1, 1) := by decide +kernel
theorem dL_law_675 : decode cL_law 675 = .ok (.iadd, 1) := by decide +kernel
theorem dL_law_676 : decode cL_law 676 = .ok (.iaload, 1) := by decide +kernel
theorem dL_law_677 : decode cL_law 677 = .ok (.invokevirtual 109, 3) := by decide +kernel
theorem dL_law_680 : decode cL_law 680 = .ok (.istore 6, 2) := by decide +kernel
theorem dL_law_682 : decode cL_law 682 = .ok (.aload_n 2, 1) := by decide +kernel
theorem dL_law_683 : decode cL_law 683 = .ok (.invokevirtual 76, 3) := by decide +kernel
theorem dL_law_686 : decode cL_law 686 = .ok (.iload 5, 2) := by decide +kernel
theorem dL_law_688 : decode cL_law 688 = .ok (.if_icmp .eq 5, 3) := by decide +kernel
theorem dL_law_691 : decode cL_law 691 = .ok (.iconst 0, 1) := by decide +kernel
theorem dL_law_692 : decode cL_law 692 = .ok (.ireturn, 1) := by decide +kernel
theorem dL_law_693 : decode cL_law 693 = .ok (.iload 5, 2) := by decide +kernel
theorem dL_law_695 : decode cL_law 695 = .ok (.ifCond .ne 15, 3) := by decide +kernel
theorem dL_law_698 : decode cL_law 698 = .ok (.aload_n 3, 1) := by decide +kernel
theorem dL_law_699 : decode cL_law 699 = .ok (.iconst 0, 1) := by decide +kernel
theorem dL_law_700 : decode cL_law 700 = .ok (.laload, 1) := by decide +kernel
theorem dL_law_701 : decode cL_law 701 = .ok (.iload 6, 2) := by decide +kernel
theorem dL_law_703 : decode cL_law 703 = .ok (.i2l, 1) := by decide +kernel
theorem dL_law_704 : decode cL_law 704 = .ok (.lcmp, 1) := by decide +kernel
theorem dL_law_705 : decode cL_law 705 = .ok (.ifCond .eq 5, 3) := by decide +kernel
theorem dL_law_708 : decode cL_law 708 = .ok (.iconst 0, 1) := by decide +kernel
theorem dL_law_709 : decode cL_law 709 = .ok (.ireturn, 1) := by decide +kernel
theorem dL_law_710 : decode cL_law 710 = .ok (.goto 320, 3) := by decide +kernel
theorem dL_law_713 : decode cL_law 713 = .ok (.aload_n 1, 1) := by decide +kernel
theorem dL_law_714 : decode cL_law 714 = .ok (.aload_n 0, 1) := by decide +kernel
theorem dL_law_715 : decode cL_law 715 = .ok (.iload 4, 2) := by decide +kernel
theorem dL_law_717 : decode cL_law 717 = .ok (.iconst 1, 1) := by decide +kernel
theorem dL_law_718 : decode cL_law 718 = .ok (.iadd, 1) := by decide +kernel
theorem dL_law_719 : decode cL_law 719 = .ok (.iaload, 1) := by decide +kernel
theorem dL_law_720 : decode cL_law 720 = .ok (.aload_n 3, 1) := by decide +kernel
theorem dL_law_721 : decode cL_law 721 = .ok (.invokestatic 110, 3) := by decide +kernel
theorem dL_law_724 : decode cL_law 724 = .ok (.istore 5, 2) := by decide +kernel
theorem dL_law_726 : decode cL_law 726 = .ok (.aload_n 2, 1) := by decide +kernel
theorem dL_law_727 : decode cL_law 727 = .ok (.aload_n 0, 1) := by decide +kernel
theorem dL_law_728 : decode cL_law 728 = .ok (.iload 4, 2) := by decide +kernel
theorem dL_law_730 : decode cL_law 730 = .ok (.iconst 1, 1) := by decide +kernel
theorem dL_law_731 : decode cL_law 731 = .ok (.iadd, 1) := by decide +kernel
theorem dL_law_732 : decode cL_law 732 = .ok (.iaload, 1) := by decide +kernel
theorem dL_law_733 : decode cL_law 733 = .ok (.invokevirtual 112, 3) := by decide +kernel
theorem dL_law_736 : decode cL_law 736 = .ok (.istore 6, 2) := by decide +kernel
theorem dL_law_738 : decode cL_law 738 = .ok (.aload_n 2, 1) := by decide +kernel
theorem dL_law_739 : decode cL_law 739 = .ok (.invokevirtual 76, 3) := by decide +kernel
theorem dL_law_742 : decode cL_law 742 = .ok (.iload 5, 2) := by decide +kernel
theorem dL_law_744 : decode cL_law 744 = .ok (.if_icmp .eq 5, 3) := by decide +kernel
theorem dL_law_747 : decode cL_law 747 = .ok (.iconst 0, 1) := by decide +kernel
theorem dL_law_748 : decode cL_law 748 = .ok (.ireturn, 1) := by decide +kernel
theorem dL_law_749 : decode cL_law 749 = .ok (.iload 5, 2) := by decide +kernel
theorem dL_law_751 : decode cL_law 751 = .ok (.ifCond .ne 15, 3) := by decide +kernel
theorem dL_law_754 : decode cL_law 754 = .ok (.aload_n 3, 1) := by decide +kernel
theorem dL_law_755 : decode cL_law 755 = .ok (.iconst 0, 1) := by decide +kernel
theorem dL_law_756 : decode cL_law 756 = .ok (.laload, 1) := by decide +kernel
theorem dL_law_757 : decode cL_law 757 = .ok (.iload 6, 2) := by decide +kernel
theorem dL_law_759 : decode cL_law 759 = .ok (.i2l, 1) := by decide +kernel
theorem dL_law_760 : decode cL_law 760 = .ok (.lcmp, 1) := by decide +kernel
theorem dL_law_761 : decode cL_law 761 = .ok (.ifCond .eq 5, 3) := by decide +kernel
theorem dL_law_764 : decode cL_law 764 = .ok (.iconst 0, 1) := by decide +kernel
theorem dL_law_765 : decode cL_law 765 = .ok (.ireturn, 1) := by decide +kernel
theorem dL_law_766 : decode cL_law 766 = .ok (.goto 264, 3) := by decide +kernel
theorem dL_law_769 : decode cL_law 769 = .ok (.aload_n 1, 1) := by decide +kernel
theorem dL_law_770 : decode cL_law 770 = .ok (.aload_n 0, 1) := by decide +kernel
theorem dL_law_771 : decode cL_law 771 = .ok (.iload 4, 2) := by decide +kernel
theorem dL_law_773 : decode cL_law 773 = .ok (.iconst 1, 1) := by decide +kernel
theorem dL_law_774 : decode cL_law 774 = .ok (.iadd, 1) := by decide +kernel
theorem dL_law_775 : decode cL_law 775 = .ok (.iaload, 1) := by decide +kernel
theorem dL_law_776 : decode cL_law 776 = .ok (.aload_n 3, 1) := by decide +kernel
theorem dL_law_777 : decode cL_law 777 = .ok (.invokestatic 113, 3) := by decide +kernel
theorem dL_law_780 : decode cL_law 780 = .ok (.istore 5, 2) := by decide +kernel
theorem dL_law_782 : decode cL_law 782 = .ok (.aload_n 2, 1) := by decide +kernel
theorem dL_law_783 : decode cL_law 783 = .ok (.aload_n 0, 1) := by decide +kernel
theorem dL_law_784 : decode cL_law 784 = .ok (.iload 4, 2) := by decide +kernel
theorem dL_law_786 : decode cL_law 786 = .ok (.iconst 1, 1) := by decide +kernel
theorem dL_law_787 : decode cL_law 787 = .ok (.iadd, 1) := by decide +kernel
theorem dL_law_788 : decode cL_law 788 = .ok (.iaload, 1) := by decide +kernel
theorem dL_law_789 : decode cL_law 789 = .ok (.invokevirtual 115, 3) := by decide +kernel
theorem dL_law_792 : decode cL_law 792 = .ok (.istore 6, 2) := by decide +kernel
theorem dL_law_794 : decode cL_law 794 = .ok (.aload_n 2, 1) := by decide +kernel
theorem dL_law_795 : decode cL_law 795 = .ok (.invokevirtual 76, 3) := by decide +kernel
theorem dL_law_798 : decode cL_law 798 = .ok (.iload 5, 2) := by decide +kernel
theorem dL_law_800 : decode cL_law 800 = .ok (.if_icmp .eq 5, 3) := by decide +kernel
theorem dL_law_803 : decode cL_law 803 = .ok (.iconst 0, 1) := by decide +kernel
theorem dL_law_804 : decode cL_law 804 = .ok (.ireturn, 1) := by decide +kernel
theorem dL_law_805 : decode cL_law 805 = .ok (.iload 5, 2) := by decide +kernel
theorem dL_law_807 : decode cL_law 807 = .ok (.ifCond .ne 15, 3) := by decide +kernel
theorem dL_law_810 : decode cL_law 810 = .ok (.aload_n 3, 1) := by decide +kernel
theorem dL_law_811 : decode cL_law 811 = .ok (.iconst 0, 1) := by decide +kernel
theorem dL_law_812 : decode cL_law 812 = .ok (.laload, 1) := by decide +kernel
theorem dL_law_813 : decode cL_law 813 = .ok (.iload 6, 2) := by decide +kernel
theorem dL_law_815 : decode cL_law 815 = .ok (.i2l, 1) := by decide +kernel
theorem dL_law_816 : decode cL_law 816 = .ok (.lcmp, 1) := by decide +kernel
theorem dL_law_817 : decode cL_law 817 = .ok (.ifCond .eq 5, 3) := by decide +kernel
theorem dL_law_820 : decode cL_law 820 = .ok (.iconst 0, 1) := by decide +kernel
theorem dL_law_821 : decode cL_law 821 = .ok (.ireturn, 1) := by decide +kernel
theorem dL_law_822 : decode cL_law 822 = .ok (.goto 208, 3) := by decide +kernel
theorem dL_law_825 : decode cL_law 825 = .ok (.aload_n 1, 1) := by decide +kernel
theorem dL_law_826 : decode cL_law 826 = .ok (.aload_n 0, 1) := by decide +kernel
theorem dL_law_827 : decode cL_law 827 = .ok (.iload 4, 2) := by decide +kernel
theorem dL_law_829 : decode cL_law 829 = .ok (.iconst 1, 1) := by decide +kernel
theorem dL_law_830 : decode cL_law 830 = .ok (.iadd, 1) := by decide +kernel
theorem dL_law_831 : decode cL_law 831 = .ok (.iaload, 1) := by decide +kernel
theorem dL_law_832 : decode cL_law 832 = .ok (.aload_n 3, 1) := by decide +kernel
theorem dL_law_833 : decode cL_law 833 = .ok (.invokestatic 116, 3) := by decide +kernel
theorem dL_law_836 : decode cL_law 836 = .ok (.istore 5, 2) := by decide +kernel
theorem dL_law_838 : decode cL_law 838 = .ok (.aload_n 2, 1) := by decide +kernel
theorem dL_law_839 : decode cL_law 839 = .ok (.aload_n 0, 1) := by decide +kernel
theorem dL_law_840 : decode cL_law 840 = .ok (.iload 4, 2) := by decide +kernel
theorem dL_law_842 : decode cL_law 842 = .ok (.iconst 1, 1) := by decide +kernel
theorem dL_law_843 : decode cL_law 843 = .ok (.iadd, 1) := by decide +kernel
theorem dL_law_844 : decode cL_law 844 = .ok (.iaload, 1) := by decide +kernel
theorem dL_law_845 : decode cL_law 845 = .ok (.invokevirtual 118, 3) := by decide +kernel
theorem dL_law_848 : decode cL_law 848 = .ok (.istore 6, 2) := by decide +kernel
theorem dL_law_850 : decode cL_law 850 = .ok (.aload_n 2, 1) := by decide +kernel
theorem dL_law_851 : decode cL_law 851 = .ok (.invokevirtual 76, 3) := by decide +kernel
theorem dL_law_854 : decode cL_law 854 = .ok (.iload 5, 2) := by decide +kernel
theorem dL_law_856 : decode cL_law 856 = .ok (.if_icmp .eq 5, 3) := by decide +kernel
theorem dL_law_859 : decode cL_law 859 = .ok (.iconst 0, 1) := by decide +kernel
theorem dL_law_860 : decode cL_law 860 = .ok (.ireturn, 1) := by decide +kernel
theorem dL_law_861 : decode cL_law 861 = .ok (.iload 5, 2) := by decide +kernel
theorem dL_law_863 : decode cL_law 863 = .ok (.ifCond .ne 15, 3) := by decide +kernel
theorem dL_law_866 : decode cL_law 866 = .ok (.aload_n 3, 1) := by decide +kernel
theorem dL_law_867 : decode cL_law 867 = .ok (.iconst 0, 1) := by decide +kernel
theorem dL_law_868 : decode cL_law 868 = .ok (.laload, 1) := by decide +kernel
theorem dL_law_869 : decode cL_law 869 = .ok (.iload 6, 2) := by decide +kernel
theorem dL_law_871 : decode cL_law 871 = .ok (.i2l, 1) := by decide +kernel
theorem dL_law_872 : decode cL_law 872 = .ok (.lcmp, 1) := by decide +kernel
theorem dL_law_873 : decode cL_law 873 = .ok (.ifCond .eq 5, 3) := by decide +kernel
theorem dL_law_876 : decode cL_law 876 = .ok (.iconst 0, 1) := by decide +kernel
theorem dL_law_877 : decode cL_law 877 = .ok (.ireturn, 1) := by decide +kernel
theorem dL_law_878 : decode cL_law 878 = .ok (.goto 152, 3) := by decide +kernel
theorem dL_law_881 : decode cL_law 881 = .ok (.aload_n 1, 1) := by decide +kernel
theorem dL_law_882 : decode cL_law 882 = .ok (.aload_n 0, 1) := by decide +kernel
theorem dL_law_883 : decode cL_law 883 = .ok (.iload 4, 2) := by decide +kernel
theorem dL_law_885 : decode cL_law 885 = .ok (.iconst 1, 1) := by decide +kernel
theorem dL_law_886 : decode cL_law 886 = .ok (.iadd, 1) := by decide +kernel
theorem dL_law_887 : decode cL_law 887 = .ok (.iaload, 1) := by decide +kernel
theorem dL_law_888 : decode cL_law 888 = .ok (.aload_n 3, 1) := by decide +kernel
theorem dL_law_889 : decode cL_law 889 = .ok (.invokestatic 119, 3) := by decide +kernel
theorem dL_law_892 : decode cL_law 892 = .ok (.istore 5, 2) := by decide +kernel
theorem dL_law_894 : decode cL_law 894 = .ok (.aload_n 2, 1) := by decide +kernel
theorem dL_law_895 : decode cL_law 895 = .ok (.aload_n 0, 1) := by decide +kernel
theorem dL_law_896 : decode cL_law 896 = .ok (.iload 4, 2) := by decide +kernel
theorem dL_law_898 : decode cL_law 898 = .ok (.iconst 1, 1) := by decide +kernel
theorem dL_law_899 : decode cL_law 899 = .ok (.iadd, 1) := by decide +kernel
theorem dL_law_900 : decode cL_law 900 = .ok (.iaload, 1) := by decide +kernel
theorem dL_law_901 : decode cL_law 901 = .ok (.invokevirtual 121, 3) := by decide +kernel
theorem dL_law_904 : decode cL_law 904 = .ok (.istore 6, 2) := by decide +kernel
theorem dL_law_906 : decode cL_law 906 = .ok (.aload_n 2, 1) := by decide +kernel
theorem dL_law_907 : decode cL_law 907 = .ok (.invokevirtual 76, 3) := by decide +kernel
theorem dL_law_910 : decode cL_law 910 = .ok (.iload 5, 2) := by decide +kernel
theorem dL_law_912 : decode cL_law 912 = .ok (.if_icmp .eq 5, 3) := by decide +kernel
theorem dL_law_915 : decode cL_law 915 = .ok (.iconst 0, 1) := by decide +kernel
theorem dL_law_916 : decode cL_law 916 = .ok (.ireturn, 1) := by decide +kernel
theorem dL_law_917 : decode cL_law 917 = .ok (.iload 5, 2) := by decide +kernel
theorem dL_law_919 : decode cL_law 919 = .ok (.ifCond .ne 15, 3) := by decide +kernel
theorem dL_law_922 : decode cL_law 922 = .ok (.aload_n 3, 1) := by decide +kernel
theorem dL_law_923 : decode cL_law 923 = .ok (.iconst 0, 1) := by decide +kernel
theorem dL_law_924 : decode cL_law 924 = .ok (.laload, 1) := by decide +kernel
theorem dL_law_925 : decode cL_law 925 = .ok (.iload 6, 2) := by decide +kernel
theorem dL_law_927 : decode cL_law 927 = .ok (.i2l, 1) := by decide +kernel
theorem dL_law_928 : decode cL_law 928 = .ok (.lcmp, 1) := by decide +kernel
theorem dL_law_929 : decode cL_law 929 = .ok (.ifCond .eq 5, 3) := by decide +kernel
theorem dL_law_932 : decode cL_law 932 = .ok (.iconst 0, 1) := by decide +kernel
theorem dL_law_933 : decode cL_law 933 = .ok (.ireturn, 1) := by decide +kernel
theorem dL_law_934 : decode cL_law 934 = .ok (.goto 96, 3) := by decide +kernel
theorem dL_law_937 : decode cL_law 937 = .ok (.aload_n 1, 1) := by decide +kernel
theorem dL_law_938 : decode cL_law 938 = .ok (.aload_n 0, 1) := by decide +kernel
theorem dL_law_939 : decode cL_law 939 = .ok (.iload 4, 2) := by decide +kernel
theorem dL_law_941 : decode cL_law 941 = .ok (.iconst 1, 1) := by decide +kernel
theorem dL_law_942 : decode cL_law 942 = .ok (.iadd, 1) := by decide +kernel
theorem dL_law_943 : decode cL_law 943 = .ok (.iaload, 1) := by decide +kernel
theorem dL_law_944 : decode cL_law 944 = .ok (.aload_n 0, 1) := by decide +kernel
theorem dL_law_945 : decode cL_law 945 = .ok (.iload 4, 2) := by decide +kernel
theorem dL_law_947 : decode cL_law 947 = .ok (.iconst 2, 1) := by decide +kernel
theorem dL_law_948 : decode cL_law 948 = .ok (.iadd, 1) := by decide +kernel
theorem dL_law_949 : decode cL_law 949 = .ok (.iaload, 1) := by decide +kernel
theorem dL_law_950 : decode cL_law 950 = .ok (.aload_n 3, 1) := by decide +kernel
theorem dL_law_951 : decode cL_law 951 = .ok (.invokestatic 122, 3) := by decide +kernel
theorem dL_law_954 : decode cL_law 954 = .ok (.istore 5, 2) := by decide +kernel
theorem dL_law_956 : decode cL_law 956 = .ok (.aload_n 2, 1) := by decide +kernel
theorem dL_law_957 : decode cL_law 957 = .ok (.aload_n 0, 1) := by decide +kernel
theorem dL_law_958 : decode cL_law 958 = .ok (.iload 4, 2) := by decide +kernel
theorem dL_law_960 : decode cL_law 960 = .ok (.iconst 1, 1) := by decide +kernel
theorem dL_law_961 : decode cL_law 961 = .ok (.iadd, 1) := by decide +kernel
theorem dL_law_962 : decode cL_law 962 = .ok (.iaload, 1) := by decide +kernel
theorem dL_law_963 : decode cL_law 963 = .ok (.aload_n 0, 1) := by decide +kernel
theorem dL_law_964 : decode cL_law 964 = .ok (.iload 4, 2) := by decide +kernel
theorem dL_law_966 : decode cL_law 966 = .ok (.iconst 2, 1) := by decide +kernel
theorem dL_law_967 : decode cL_law 967 = .ok (.iadd, 1) := by decide +kernel
theorem dL_law_968 : decode cL_law 968 = .ok (.iaload, 1) := by decide +kernel
theorem dL_law_969 : decode cL_law 969 = .ok (.invokevirtual 124, 3) := by decide +kernel
theorem dL_law_972 : decode cL_law 972 = .ok (.istore 6, 2) := by decide +kernel
theorem dL_law_974 : decode cL_law 974 = .ok (.aload_n 2, 1) := by decide +kernel
theorem dL_law_975 : decode cL_law 975 = .ok (.invokevirtual 76, 3) := by decide +kernel
theorem dL_law_978 : decode cL_law 978 = .ok (.iload 5, 2) := by decide +kernel
theorem dL_law_980 : decode cL_law 980 = .ok (.if_icmp .eq 5, 3) := by decide +kernel
theorem dL_law_983 : decode cL_law 983 = .ok (.iconst 0, 1) := by decide +kernel
theorem dL_law_984 : decode cL_law 984 = .ok (.ireturn, 1) := by decide +kernel
theorem dL_law_985 : decode cL_law 985 = .ok (.iload 5, 2) := by decide +kernel
theorem dL_law_987 : decode cL_law 987 = .ok (.ifCond .ne 15, 3) := by decide +kernel
theorem dL_law_990 : decode cL_law 990 = .ok (.aload_n 3, 1) := by decide +kernel
theorem dL_law_991 : decode cL_law 991 = .ok (.iconst 0, 1) := by decide +kernel
theorem dL_law_992 : decode cL_law 992 = .ok (.laload, 1) := by decide +kernel
theorem dL_law_993 : decode cL_law 993 = .ok (.iload 6, 2) := by decide +kernel
theorem dL_law_995 : decode cL_law 995 = .ok (.i2l, 1) := by decide +kernel
theorem dL_law_996 : decode cL_law 996 = .ok (.lcmp, 1) := by decide +kernel
theorem dL_law_997 : decode cL_law 997 = .ok (.ifCond .eq 5, 3) := by decide +kernel
theorem dL_law_1000 : decode cL_law 1000 = .ok (.iconst 0, 1) := by decide +kernel
theorem dL_law_1001 : decode cL_law 1001 = .ok (.ireturn, 1) := by decide +kernel
theorem dL_law_1002 : decode cL_law 1002 = .ok (.goto 28, 3) := by decide +kernel
theorem dL_law_1005 : decode cL_law 1005 = .ok (.aload_n 1, 1) := by decide +kernel
theorem dL_law_1006 : decode cL_law 1006 = .ok (.aload_n 0, 1) := by decide +kernel
theorem dL_law_1007 : decode cL_law 1007 = .ok (.iload 4, 2) := by decide +kernel
theorem dL_law_1009 : decode cL_law 1009 = .ok (.iconst 1, 1) := by decide +kernel
theorem dL_law_1010 : decode cL_law 1010 = .ok (.iadd, 1) := by decide +kernel
theorem dL_law_1011 : decode cL_law 1011 = .ok (.iaload, 1) := by decide +kernel
theorem dL_law_1012 : decode cL_law 1012 = .ok (.invokevirtual 125, 3) := by decide +kernel
theorem dL_law_1015 : decode cL_law 1015 = .ok (.aload_n 2, 1) := by decide +kernel
theorem dL_law_1016 : decode cL_law 1016 = .ok (.aload_n 0, 1) := by decide +kernel
theorem dL_law_1017 : decode cL_law 1017 = .ok (.iload 4, 2) := by decide +kernel
theorem dL_law_1019 : decode cL_law 1019 = .ok (.iconst 1, 1) := by decide +kernel
theorem dL_law_1020 : decode cL_law 1020 = .ok (.iadd, 1) := by decide +kernel
theorem dL_law_1021 : decode cL_law 1021 = .ok (.iaload, 1) := by decide +kernel
theorem dL_law_1022 : decode cL_law 1022 = .ok (.invokevirtual 128, 3) := by decide +kernel
theorem dL_law_1025 : decode cL_law 1025 = .ok (.if_icmp .eq 5, 3) := by decide +kernel
theorem dL_law_1028 : decode cL_law 1028 = .ok (.iconst 0, 1) := by decide +kernel
theorem dL_law_1029 : decode cL_law 1029 = .ok (.ireturn, 1) := by decide +kernel
theorem dL_law_1030 : decode cL_law 1030 = .ok (.iinc 4 4, 3) := by decide +kernel
theorem dL_law_1033 : decode cL_law 1033 = .ok (.goto (-980), 3) := by decide +kernel
theorem dL_law_1036 : decode cL_law 1036 = .ok (.iconst 1, 1) := by decide +kernel
theorem dL_law_1037 : decode cL_law 1037 = .ok (.ireturn, 1) := by decide +kernel
