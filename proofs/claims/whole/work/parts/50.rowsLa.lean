theorem dL_setSort_0 : decode cL_setSort 0 = .ok (.aload 4, 2) := by decide +kernel
theorem dL_setSort_2 : decode cL_setSort 2 = .ok (.iconst 0, 1) := by decide +kernel
theorem dL_setSort_3 : decode cL_setSort 3 = .ok (.aload_n 0, 1) := by decide +kernel
theorem dL_setSort_4 : decode cL_setSort 4 = .ok (.iload_n 1, 1) := by decide +kernel
theorem dL_setSort_5 : decode cL_setSort 5 = .ok (.iload_n 2, 1) := by decide +kernel
theorem dL_setSort_6 : decode cL_setSort 6 = .ok (.iload_n 3, 1) := by decide +kernel
theorem dL_setSort_7 : decode cL_setSort 7 = .ok (.invokevirtual 7, 3) := by decide +kernel
theorem dL_setSort_10 : decode cL_setSort 10 = .ok (.i2l, 1) := by decide +kernel
theorem dL_setSort_11 : decode cL_setSort 11 = .ok (.lastore, 1) := by decide +kernel
theorem dL_setSort_12 : decode cL_setSort 12 = .ok (.goto 11, 3) := by decide +kernel
theorem dL_setSort_15 : decode cL_setSort 15 = .ok (.astore 5, 2) := by decide +kernel
theorem dL_setSort_17 : decode cL_setSort 17 = .ok (.iconst 1, 1) := by decide +kernel
theorem dL_setSort_18 : decode cL_setSort 18 = .ok (.ireturn, 1) := by decide +kernel
theorem dL_setSort_19 : decode cL_setSort 19 = .ok (.astore 5, 2) := by decide +kernel
theorem dL_setSort_21 : decode cL_setSort 21 = .ok (.iconst 2, 1) := by decide +kernel
theorem dL_setSort_22 : decode cL_setSort 22 = .ok (.ireturn, 1) := by decide +kernel
theorem dL_setSort_23 : decode cL_setSort 23 = .ok (.iconst 0, 1) := by decide +kernel
theorem dL_setSort_24 : decode cL_setSort 24 = .ok (.ireturn, 1) := by decide +kernel
set_option maxRecDepth 20000 in
theorem ggL_setFrost_X1_setFrost : GoodIn wsL_setFrost wsX1_setFrost := goodIn_ca (goodIn_ca (goodIn_r _ [7, 8, 9, 10, 11, 12, 13, 14, 6, 15, 16, 17, 18, 19, 20, 21, 22, 23, 24, 25, 26, 27, 28] (by decide +kernel) (by decide +kernel)) (goodIn_sub (fun _ h => List.mem_cons_of_mem _ (List.mem_append_left _ (List.mem_append_right _ h))) (by decide +kernel))) (goodIn_sub (fun _ h => List.mem_cons_of_mem _ (List.mem_append_right _ h)) (by decide +kernel))
set_option maxRecDepth 20000 in
theorem gL_setFrost_X1_setFrost : GoodIn wsL_setFrost (wsV RL 17 RX1 yX1_setFrost wsX1_setFrost) := goodIn_app (goodIn_of _ (by decide +kernel)) ggL_setFrost_X1_setFrost
theorem dL_setFrost_0 : decode cL_setFrost 0 = .ok (.aload_n 3, 1) := by decide +kernel
theorem dL_setFrost_1 : decode cL_setFrost 1 = .ok (.iconst 0, 1) := by decide +kernel
theorem dL_setFrost_2 : decode cL_setFrost 2 = .ok (.aload_n 0, 1) := by decide +kernel
theorem dL_setFrost_3 : decode cL_setFrost 3 = .ok (.iload_n 1, 1) := by decide +kernel
theorem dL_setFrost_4 : decode cL_setFrost 4 = .ok (.iload_n 2, 1) := by decide +kernel
theorem dL_setFrost_5 : decode cL_setFrost 5 = .ok (.invokevirtual 17, 3) := by decide +kernel
theorem dL_setFrost_8 : decode cL_setFrost 8 = .ok (.i2l, 1) := by decide +kernel
theorem dL_setFrost_9 : decode cL_setFrost 9 = .ok (.lastore, 1) := by decide +kernel
theorem dL_setFrost_10 : decode cL_setFrost 10 = .ok (.goto 11, 3) := by decide +kernel
theorem dL_setFrost_13 : decode cL_setFrost 13 = .ok (.astore 4, 2) := by decide +kernel
theorem dL_setFrost_15 : decode cL_setFrost 15 = .ok (.iconst 1, 1) := by decide +kernel
theorem dL_setFrost_16 : decode cL_setFrost 16 = .ok (.ireturn, 1) := by decide +kernel
theorem dL_setFrost_17 : decode cL_setFrost 17 = .ok (.astore 4, 2) := by decide +kernel
theorem dL_setFrost_19 : decode cL_setFrost 19 = .ok (.iconst 2, 1) := by decide +kernel
theorem dL_setFrost_20 : decode cL_setFrost 20 = .ok (.ireturn, 1) := by decide +kernel
theorem dL_setFrost_21 : decode cL_setFrost 21 = .ok (.iconst 0, 1) := by decide +kernel
theorem dL_setFrost_22 : decode cL_setFrost 22 = .ok (.ireturn, 1) := by decide +kernel
set_option maxRecDepth 20000 in
theorem ggL_plant_X1_plant : GoodIn wsL_plant wsX1_plant := goodIn_ca (goodIn_ca (goodIn_r _ [7, 8, 9, 10, 11, 12, 13, 6, 14, 15, 16, 17, 18, 19, 20, 21, 22, 23, 24, 25, 26, 27, 28, 29, 30, 31, 32, 33, 34, 35, 36, 37, 38, 39, 40, 41, 42, 43, 44, 45, 46, 47, 48, 49, 50, 51, 52, 53, 54, 55, 56, 57, 58, 59, 60, 61, 62, 63, 64, 65, 66] (by decide +kernel) (by decide +kernel)) (goodIn_sub (fun _ h => List.mem_cons_of_mem _ (List.mem_append_left _ (List.mem_append_right _ h))) (by decide +kernel))) (goodIn_sub (fun _ h => List.mem_cons_of_mem _ (List.mem_append_right _ h)) (by decide +kernel))
set_option maxRecDepth 20000 in
theorem gL_plant_X1_plant : GoodIn wsL_plant (wsV RL 21 RX1 yX1_plant wsX1_plant) := goodIn_app (goodIn_of _ (by decide +kernel)) ggL_plant_X1_plant
theorem dL_plant_0 : decode cL_plant 0 = .ok (.aload 5, 2) := by decide +kernel
theorem dL_plant_2 : decode cL_plant 2 = .ok (.iconst 0, 1) := by decide +kernel
theorem dL_plant_3 : decode cL_plant 3 = .ok (.aload_n 0, 1) := by decide +kernel
theorem dL_plant_4 : decode cL_plant 4 = .ok (.iload_n 1, 1) := by decide +kernel
theorem dL_plant_5 : decode cL_plant 5 = .ok (.iload_n 2, 1) := by decide +kernel
theorem dL_plant_6 : decode cL_plant 6 = .ok (.iload_n 3, 1) := by decide +kernel
theorem dL_plant_7 : decode cL_plant 7 = .ok (.iload 4, 2) := by decide +kernel
theorem dL_plant_9 : decode cL_plant 9 = .ok (.invokevirtual 21, 3) := by decide +kernel
theorem dL_plant_12 : decode cL_plant 12 = .ok (.i2l, 1) := by decide +kernel
theorem dL_plant_13 : decode cL_plant 13 = .ok (.lastore, 1) := by decide +kernel
theorem dL_plant_14 : decode cL_plant 14 = .ok (.goto 11, 3) := by decide +kernel
theorem dL_plant_17 : decode cL_plant 17 = .ok (.astore 6, 2) := by decide +kernel
theorem dL_plant_19 : decode cL_plant 19 = .ok (.iconst 1, 1) := by decide +kernel
theorem dL_plant_20 : decode cL_plant 20 = .ok (.ireturn, 1) := by decide +kernel
theorem dL_plant_21 : decode cL_plant 21 = .ok (.astore 6, 2) := by decide +kernel
theorem dL_plant_23 : decode cL_plant 23 = .ok (.iconst 2, 1) := by decide +kernel
theorem dL_plant_24 : decode cL_plant 24 = .ok (.ireturn, 1) := by decide +kernel
theorem dL_plant_25 : decode cL_plant 25 = .ok (.iconst 0, 1) := by decide +kernel
theorem dL_plant_26 : decode cL_plant 26 = .ok (.ireturn, 1) := by decide +kernel
set_option maxRecDepth 20000 in
theorem ggL_prune_X1_prune : GoodIn wsL_prune wsX1_prune := goodIn_ca (goodIn_ca (goodIn_r _ [7, 8, 9, 10, 11, 12, 13, 6, 14, 15, 16, 17, 18, 19, 20, 21, 22, 23, 24, 25, 26, 27, 28, 29, 30, 31, 32, 33, 34, 35, 36, 37, 38, 39, 40, 41, 42, 43, 44, 45, 46, 47, 48, 49, 50, 51, 52, 53, 54, 55, 56, 57, 58, 59, 60, 61, 62, 63, 64, 65, 66, 67, 68, 69, 70, 71, 72, 73, 74, 75, 76, 77, 78, 79, 80, 81, 82, 83, 84, 85, 86, 87] (by decide +kernel) (by decide +kernel)) (goodIn_sub (fun _ h => List.mem_cons_of_mem _ (List.mem_append_left _ (List.mem_append_right _ h))) (by decide +kernel))) (goodIn_sub (fun _ h => List.mem_cons_of_mem _ (List.mem_append_right _ h)) (by decide +kernel))
set_option maxRecDepth 20000 in
theorem gL_prune_X1_prune : GoodIn wsL_prune (wsV RL 25 RX1 yX1_prune wsX1_prune) := goodIn_app (goodIn_of _ (by decide +kernel)) ggL_prune_X1_prune
theorem dL_prune_0 : decode cL_prune 0 = .ok (.aload 4, 2) := by decide +kernel
theorem dL_prune_2 : decode cL_prune 2 = .ok (.iconst 0, 1) := by decide +kernel
theorem dL_prune_3 : decode cL_prune 3 = .ok (.aload_n 0, 1) := by decide +kernel
theorem dL_prune_4 : decode cL_prune 4 = .ok (.iload_n 1, 1) := by decide +kernel
theorem dL_prune_5 : decode cL_prune 5 = .ok (.iload_n 2, 1) := by decide +kernel
theorem dL_prune_6 : decode cL_prune 6 = .ok (.iload_n 3, 1) := by decide +kernel
theorem dL_prune_7 : decode cL_prune 7 = .ok (.invokevirtual 25, 3) := by decide +kernel
theorem dL_prune_10 : decode cL_prune 10 = .ok (.i2l, 1) := by decide +kernel
theorem dL_prune_11 : decode cL_prune 11 = .ok (.lastore, 1) := by decide +kernel
theorem dL_prune_12 : decode cL_prune 12 = .ok (.goto 11, 3) := by decide +kernel
theorem dL_prune_15 : decode cL_prune 15 = .ok (.astore 5, 2) := by decide +kernel
theorem dL_prune_17 : decode cL_prune 17 = .ok (.iconst 1, 1) := by decide +kernel
theorem dL_prune_18 : decode cL_prune 18 = .ok (.ireturn, 1) := by decide +kernel
theorem dL_prune_19 : decode cL_prune 19 = .ok (.astore 5, 2) := by decide +kernel
theorem dL_prune_21 : decode cL_prune 21 = .ok (.iconst 2, 1) := by decide +kernel
theorem dL_prune_22 : decode cL_prune 22 = .ok (.ireturn, 1) := by decide +kernel
theorem dL_prune_23 : decode cL_prune 23 = .ok (.iconst 0, 1) := by decide +kernel
theorem dL_prune_24 : decode cL_prune 24 = .ok (.ireturn, 1) := by decide +kernel
set_option maxRecDepth 20000 in
theorem ggL_graft_X1_graft : GoodIn wsL_graft wsX1_graft := goodIn_ca (goodIn_ca (goodIn_r _ [7, 8, 9, 10, 11, 12, 13, 6, 14, 15, 16, 17, 18, 19, 20, 21, 22, 23, 24, 25, 26, 27, 28, 29, 30, 31, 32, 33, 34, 35, 36, 37, 38, 39, 40, 41, 42, 43, 44, 45, 46, 47, 48, 49, 50, 51, 52, 53, 54, 55, 56, 57, 58, 59, 60, 61, 62, 63, 64, 65, 66, 67, 68] (by decide +kernel) (by decide +kernel)) (goodIn_sub (fun _ h => List.mem_cons_of_mem _ (List.mem_append_left _ (List.mem_append_right _ h))) (by decide +kernel))) (goodIn_sub (fun _ h => List.mem_cons_of_mem _ (List.mem_append_right _ h)) (by decide +kernel))
set_option maxRecDepth 20000 in
theorem gL_graft_X1_graft : GoodIn wsL_graft (wsV RL 28 RX1 yX1_graft wsX1_graft) := goodIn_app (goodIn_of _ (by decide +kernel)) ggL_graft_X1_graft
theorem dL_graft_0 : decode cL_graft 0 = .ok (.aload 4, 2) := by decide +kernel
theorem dL_graft_2 : decode cL_graft 2 = .ok (.iconst 0, 1) := by decide +kernel
theorem dL_graft_3 : decode cL_graft 3 = .ok (.aload_n 0, 1) := by decide +kernel
theorem dL_graft_4 : decode cL_graft 4 = .ok (.iload_n 1, 1) := by decide +kernel
theorem dL_graft_5 : decode cL_graft 5 = .ok (.iload_n 2, 1) := by decide +kernel
theorem dL_graft_6 : decode cL_graft 6 = .ok (.iload_n 3, 1) := by decide +kernel
theorem dL_graft_7 : decode cL_graft 7 = .ok (.invokevirtual 28, 3) := by decide +kernel
theorem dL_graft_10 : decode cL_graft 10 = .ok (.i2l, 1) := by decide +kernel
theorem dL_graft_11 : decode cL_graft 11 = .ok (.lastore, 1) := by decide +kernel
theorem dL_graft_12 : decode cL_graft 12 = .ok (.goto 11, 3) := by decide +kernel
theorem dL_graft_15 : decode cL_graft 15 = .ok (.astore 5, 2) := by decide +kernel
theorem dL_graft_17 : decode cL_graft 17 = .ok (.iconst 1, 1) := by decide +kernel
theorem dL_graft_18 : decode cL_graft 18 = .ok (.ireturn, 1) := by decide +kernel
theorem dL_graft_19 : decode cL_graft 19 = .ok (.astore 5, 2) := by decide +kernel
theorem dL_graft_21 : decode cL_graft 21 = .ok (.iconst 2, 1) := by decide +kernel
theorem dL_graft_22 : decode cL_graft 22 = .ok (.ireturn, 1) := by decide +kernel
theorem dL_graft_23 : decode cL_graft 23 = .ok (.iconst 0, 1) := by decide +kernel
theorem dL_graft_24 : decode cL_graft 24 = .ok (.ireturn, 1) := by decide +kernel
set_option maxRecDepth 20000 in
theorem ggL_fell_X1_fell : GoodIn wsL_fell wsX1_fell := goodIn_ca (goodIn_r _ [6, 7, 8, 9, 10, 5, 11, 12, 13, 14, 15, 16, 17, 18, 19, 20, 21, 22, 23, 24, 25, 26, 27, 28, 29, 30, 31, 32, 33, 34, 35, 36, 37, 38, 39, 40, 41, 42, 43, 44, 45, 46, 47, 48, 49, 50, 51, 52, 53, 54, 55, 56, 57, 58, 59, 60] (by decide +kernel) (by decide +kernel)) (goodIn_sub (fun _ h => List.mem_cons_of_mem _ (List.mem_append_right _ h)) (by decide +kernel))
set_option maxRecDepth 20000 in
theorem gL_fell_X1_fell : GoodIn wsL_fell (wsV RL 31 RX1 yX1_fell wsX1_fell) := goodIn_app (goodIn_of _ (by decide +kernel)) ggL_fell_X1_fell
theorem dL_fell_0 : decode cL_fell 0 = .ok (.aload_n 3, 1) := by decide +kernel
theorem dL_fell_1 : decode cL_fell 1 = .ok (.iconst 0, 1) := by decide +kernel
theorem dL_fell_2 : decode cL_fell 2 = .ok (.aload_n 0, 1) := by decide +kernel
theorem dL_fell_3 : decode cL_fell 3 = .ok (.iload_n 1, 1) := by decide +kernel
theorem dL_fell_4 : decode cL_fell 4 = .ok (.iload_n 2, 1) := by decide +kernel
theorem dL_fell_5 : decode cL_fell 5 = .ok (.invokevirtual 31, 3) := by decide +kernel
theorem dL_fell_8 : decode cL_fell 8 = .ok (.i2l, 1) := by decide +kernel
theorem dL_fell_9 : decode cL_fell 9 = .ok (.lastore, 1) := by decide +kernel
theorem dL_fell_10 : decode cL_fell 10 = .ok (.goto 7, 3) := by decide +kernel
theorem dL_fell_13 : decode cL_fell 13 = .ok (.astore 4, 2) := by decide +kernel
theorem dL_fell_15 : decode cL_fell 15 = .ok (.iconst 1, 1) := by decide +kernel
theorem dL_fell_16 : decode cL_fell 16 = .ok (.ireturn, 1) := by decide +kernel
theorem dL_fell_17 : decode cL_fell 17 = .ok (.iconst 0, 1) := by decide +kernel
theorem dL_fell_18 : decode cL_fell 18 = .ok (.ireturn, 1) := by decide +kernel
set_option maxRecDepth 20000 in
theorem ggL_tree_X1_tree : GoodIn wsL_tree wsX1_tree := goodIn_ca (goodIn_r _ [6, 7, 8, 9, 10, 11, 12, 13, 14, 5, 15, 16, 17, 18, 19, 20, 21, 22, 23, 24, 25, 26, 27, 28, 29, 30, 31, 32, 33, 34, 35, 36, 37, 38, 39, 40, 41, 42, 43, 44, 45, 46, 47, 48, 49, 50, 51, 52, 53, 54, 55, 56, 57, 58, 59] (by decide +kernel) (by decide +kernel)) (goodIn_sub (fun _ h => List.mem_cons_of_mem _ (List.mem_append_right _ h)) (by decide +kernel))
set_option maxRecDepth 20000 in
theorem gL_tree_X1_tree : GoodIn wsL_tree (wsV RL 34 RX1 yX1_tree wsX1_tree) := goodIn_app (goodIn_of _ (by decide +kernel)) ggL_tree_X1_tree
theorem dL_tree_0 : decode cL_tree 0 = .ok (.aload 4, 2) := by decide +kernel
theorem dL_tree_2 : decode cL_tree 2 = .ok (.iconst 0, 1) := by decide +kernel
theorem dL_tree_3 : decode cL_tree 3 = .ok (.aload_n 0, 1) := by decide +kernel
theorem dL_tree_4 : decode cL_tree 4 = .ok (.iload_n 1, 1) := by decide +kernel
theorem dL_tree_5 : decode cL_tree 5 = .ok (.iload_n 2, 1) := by decide +kernel
theorem dL_tree_6 : decode cL_tree 6 = .ok (.iload_n 3, 1) := by decide +kernel
theorem dL_tree_7 : decode cL_tree 7 = .ok (.invokevirtual 34, 3) := by decide +kernel
theorem dL_tree_10 : decode cL_tree 10 = .ok (.i2l, 1) := by decide +kernel
theorem dL_tree_11 : decode cL_tree 11 = .ok (.lastore, 1) := by decide +kernel
theorem dL_tree_12 : decode cL_tree 12 = .ok (.goto 7, 3) := by decide +kernel
theorem dL_tree_15 : decode cL_tree 15 = .ok (.astore 5, 2) := by decide +kernel
theorem dL_tree_17 : decode cL_tree 17 = .ok (.iconst 1, 1) := by decide +kernel
theorem dL_tree_18 : decode cL_tree 18 = .ok (.ireturn, 1) := by decide +kernel
theorem dL_tree_19 : decode cL_tree 19 = .ok (.iconst 0, 1) := by decide +kernel
theorem dL_tree_20 : decode cL_tree 20 = .ok (.ireturn, 1) := by decide +kernel
set_option maxRecDepth 20000 in
theorem ggL_sort_X1_sort : GoodIn wsL_sort wsX1_sort := goodIn_ca (goodIn_r _ [6, 7, 8, 9, 10, 11, 12, 13, 5, 14, 15, 16, 17, 18, 19, 20, 21, 22, 23, 24, 25, 26, 27, 28, 29, 30, 31, 32, 33, 34, 35] (by decide +kernel) (by decide +kernel)) (goodIn_sub (fun _ h => List.mem_cons_of_mem _ (List.mem_append_right _ h)) (by decide +kernel))
set_option maxRecDepth 20000 in
theorem gL_sort_X1_sort : GoodIn wsL_sort (wsV RL 37 RX1 yX1_sort wsX1_sort) := goodIn_app (goodIn_of _ (by decide +kernel)) ggL_sort_X1_sort
theorem dL_sort_0 : decode cL_sort 0 = .ok (.aload_n 3, 1) := by decide +kernel
theorem dL_sort_1 : decode cL_sort 1 = .ok (.iconst 0, 1) := by decide +kernel
theorem dL_sort_2 : decode cL_sort 2 = .ok (.aload_n 0, 1) := by decide +kernel
theorem dL_sort_3 : decode cL_sort 3 = .ok (.iload_n 1, 1) := by decide +kernel
theorem dL_sort_4 : decode cL_sort 4 = .ok (.iload_n 2, 1) := by decide +kernel
theorem dL_sort_5 : decode cL_sort 5 = .ok (.invokevirtual 37, 3) := by decide +kernel
theorem dL_sort_8 : decode cL_sort 8 = .ok (.i2l, 1) := by decide +kernel
theorem dL_sort_9 : decode cL_sort 9 = .ok (.lastore, 1) := by decide +kernel
theorem dL_sort_10 : decode cL_sort 10 = .ok (.goto 7, 3) := by decide +kernel
theorem dL_sort_13 : decode cL_sort 13 = .ok (.astore 4, 2) := by decide +kernel
theorem dL_sort_15 : decode cL_sort 15 = .ok (.iconst 1, 1) := by decide +kernel
theorem dL_sort_16 : decode cL_sort 16 = .ok (.ireturn, 1) := by decide +kernel
theorem dL_sort_17 : decode cL_sort 17 = .ok (.iconst 0, 1) := by decide +kernel
theorem dL_sort_18 : decode cL_sort 18 = .ok (.ireturn, 1) := by decide +kernel
set_option maxRecDepth 20000 in
theorem ggL_count_X1_count : GoodIn wsL_count wsX1_count := goodIn_ca (goodIn_r _ [6, 7, 8, 9, 10, 11, 12, 5, 13, 14, 15, 16, 17, 18, 19, 20, 21, 22, 23, 24, 25, 26, 27, 28, 29, 30, 31, 32, 33, 34, 35, 36, 37, 38, 39, 40, 41, 42, 43, 44, 45, 46, 47, 48, 49, 50, 51, 52, 53, 54, 55, 56, 57, 58, 59, 60, 61] (by decide +kernel) (by decide +kernel)) (goodIn_sub (fun _ h => List.mem_cons_of_mem _ (List.mem_append_right _ h)) (by decide +kernel))
set_option maxRecDepth 20000 in
theorem gL_count_X1_count : GoodIn wsL_count (wsV RL 40 RX1 yX1_count wsX1_count) := goodIn_app (goodIn_of _ (by decide +kernel)) ggL_count_X1_count
theorem dL_count_0 : decode cL_count 0 = .ok (.aload_n 2, 1) := by decide +kernel
theorem dL_count_1 : decode cL_count 1 = .ok (.iconst 0, 1) := by decide +kernel
theorem dL_count_2 : decode cL_count 2 = .ok (.aload_n 0, 1) := by decide +kernel
theorem dL_count_3 : decode cL_count 3 = .ok (.iload_n 1, 1) := by decide +kernel
theorem dL_count_4 : decode cL_count 4 = .ok (.invokevirtual 40, 3) := by decide +kernel
theorem dL_count_7 : decode cL_count 7 = .ok (.i2l, 1) := by decide +kernel
theorem dL_count_8 : decode cL_count 8 = .ok (.lastore, 1) := by decide +kernel
theorem dL_count_9 : decode cL_count 9 = .ok (.goto 6, 3) := by decide +kernel
theorem dL_count_12 : decode cL_count 12 = .ok (.astore_n 3, 1) := by decide +kernel
theorem dL_count_13 : decode cL_count 13 = .ok (.iconst 1, 1) := by decide +kernel
theorem dL_count_14 : decode cL_count 14 = .ok (.ireturn, 1) := by decide +kernel
theorem dL_count_15 : decode cL_count 15 = .ok (.iconst 0, 1) := by decide +kernel
theorem dL_count_16 : decode cL_count 16 = .ok (.ireturn, 1) := by decide +kernel
set_option maxRecDepth 20000 in
theorem ggL_leans_X1_leans : GoodIn wsL_leans wsX1_leans := goodIn_ca (goodIn_r _ [6, 7, 8, 9, 10, 5, 11, 12, 13, 14, 15, 16, 17, 18, 19, 20, 21, 22, 23, 24, 25, 26, 27, 28, 29, 30, 31, 32, 33, 34, 35, 36, 37, 38, 39, 40, 41, 42, 43, 44, 45, 46, 47, 48, 49, 50, 51, 52, 53, 54, 55, 56, 57, 58, 59] (by decide +kernel) (by decide +kernel)) (goodIn_sub (fun _ h => List.mem_cons_of_mem _ (List.mem_append_right _ h)) (by decide +kernel))
set_option maxRecDepth 20000 in
theorem gL_leans_X1_leans : GoodIn wsL_leans (wsV RL 44 RX1 yX1_leans wsX1_leans) := goodIn_app (goodIn_of _ (by decide +kernel)) ggL_leans_X1_leans
theorem dL_leans_0 : decode cL_leans 0 = .ok (.aload_n 2, 1) := by decide +kernel
theorem dL_leans_1 : decode cL_leans 1 = .ok (.iconst 0, 1) := by decide +kernel
theorem dL_leans_2 : decode cL_leans 2 = .ok (.aload_n 0, 1) := by decide +kernel
theorem dL_leans_3 : decode cL_leans 3 = .ok (.iload_n 1, 1) := by decide +kernel
theorem dL_leans_4 : decode cL_leans 4 = .ok (.invokevirtual 44, 3) := by decide +kernel
theorem dL_leans_7 : decode cL_leans 7 = .ok (.i2l, 1) := by decide +kernel
theorem dL_leans_8 : decode cL_leans 8 = .ok (.lastore, 1) := by decide +kernel
theorem dL_leans_9 : decode cL_leans 9 = .ok (.goto 6, 3) := by decide +kernel
theorem dL_leans_12 : decode cL_leans 12 = .ok (.astore_n 3, 1) := by decide +kernel
theorem dL_leans_13 : decode cL_leans 13 = .ok (.iconst 1, 1) := by decide +kernel
theorem dL_leans_14 : decode cL_leans 14 = .ok (.ireturn, 1) := by decide +kernel
theorem dL_leans_15 : decode cL_leans 15 = .ok (.iconst 0, 1) := by decide +kernel
theorem dL_leans_16 : decode cL_leans 16 = .ok (.ireturn, 1) := by decide +kernel
set_option maxRecDepth 20000 in
theorem ggL_carry_X1_carry : GoodIn wsL_carry wsX1_carry := goodIn_ca (goodIn_ca (goodIn_ca (goodIn_r _ [8, 9, 10, 11, 12, 13, 14, 15, 16, 17, 18, 19, 7, 20, 21, 22, 23, 24, 25, 26, 27, 28, 29, 30, 31, 32, 33, 34, 35, 36] (by decide +kernel) (by decide +kernel)) (goodIn_sub (fun _ h => List.mem_cons_of_mem _ (List.mem_append_left _ (List.mem_append_left _ (List.mem_append_right _ h)))) (by decide +kernel))) (goodIn_sub (fun _ h => List.mem_cons_of_mem _ (List.mem_append_left _ (List.mem_append_right _ h))) (by decide +kernel))) (goodIn_sub (fun _ h => List.mem_cons_of_mem _ (List.mem_append_right _ h)) (by decide +kernel))
set_option maxRecDepth 20000 in
theorem gL_carry_X1_carry : GoodIn wsL_carry (wsV RL 47 RX1 yX1_carry wsX1_carry) := goodIn_app (goodIn_of _ (by decide +kernel)) ggL_carry_X1_carry
theorem dL_carry_0 : decode cL_carry 0 = .ok (.aload 4, 2) := by decide +kernel
theorem dL_carry_2 : decode cL_carry 2 = .ok (.iconst 0, 1) := by decide +kernel
theorem dL_carry_3 : decode cL_carry 3 = .ok (.aload_n 0, 1) := by decide +kernel
theorem dL_carry_4 : decode cL_carry 4 = .ok (.iload_n 1, 1) := by decide +kernel
theorem dL_carry_5 : decode cL_carry 5 = .ok (.iload_n 2, 1) := by decide +kernel
theorem dL_carry_6 : decode cL_carry 6 = .ok (.iload_n 3, 1) := by decide +kernel
theorem dL_carry_7 : decode cL_carry 7 = .ok (.invokevirtual 47, 3) := by decide +kernel
theorem dL_carry_10 : decode cL_carry 10 = .ok (.i2l, 1) := by decide +kernel
theorem dL_carry_11 : decode cL_carry 11 = .ok (.lastore, 1) := by decide +kernel
theorem dL_carry_12 : decode cL_carry 12 = .ok (.goto 15, 3) := by decide +kernel
theorem dL_carry_15 : decode cL_carry 15 = .ok (.astore 5, 2) := by decide +kernel
theorem dL_carry_17 : decode cL_carry 17 = .ok (.iconst 1, 1) := by decide +kernel
theorem dL_carry_18 : decode cL_carry 18 = .ok (.ireturn, 1) := by decide +kernel
theorem dL_carry_19 : decode cL_carry 19 = .ok (.astore 5, 2) := by decide +kernel
theorem dL_carry_21 : decode cL_carry 21 = .ok (.iconst 2, 1) := by decide +kernel
theorem dL_carry_22 : decode cL_carry 22 = .ok (.ireturn, 1) := by decide +kernel
theorem dL_carry_23 : decode cL_carry 23 = .ok (.astore 5, 2) := by decide +kernel
theorem dL_carry_25 : decode cL_carry 25 = .ok (.iconst 3, 1) := by decide +kernel
theorem dL_carry_26 : decode cL_carry 26 = .ok (.ireturn, 1) := by decide +kernel
theorem dL_carry_27 : decode cL_carry 27 = .ok (.iconst 0, 1) := by decide +kernel
theorem dL_carry_28 : decode cL_carry 28 = .ok (.ireturn, 1) := by decide +kernel
set_option maxRecDepth 20000 in
theorem ggL_pass_X1_pass : GoodIn wsL_pass wsX1_pass := goodIn_ca (goodIn_r _ [6, 7, 8, 9, 10, 11, 12, 5, 13, 14, 15, 16, 17, 18, 19, 20, 21, 22, 23, 24, 25, 26, 27, 28, 29, 30, 31, 32, 33, 34, 35, 36, 37, 38, 39, 40, 41, 42, 43, 44, 45, 46, 47, 48, 49, 50, 51, 52, 53, 54, 55, 56, 57, 58, 59, 60, 61, 62, 63, 64, 65, 66, 67, 68, 69, 70, 71, 72, 73, 74, 75, 76, 77, 78, 79, 80, 81, 82, 83, 84, 85, 86, 87, 88, 89, 90, 91, 92, 93] (by decide +kernel) (by decide +kernel)) (goodIn_sub (fun _ h => List.mem_cons_of_mem _ (List.mem_append_right _ h)) (by decide +kernel))
set_option maxRecDepth 20000 in
theorem gL_pass_X1_pass : GoodIn wsL_pass (wsV RL 52 RX1 yX1_pass wsX1_pass) := goodIn_app (goodIn_of _ (by decide +kernel)) ggL_pass_X1_pass
theorem dL_pass_0 : decode cL_pass 0 = .ok (.aload_n 2, 1) := by decide +kernel
theorem dL_pass_1 : decode cL_pass 1 = .ok (.iconst 0, 1) := by decide +kernel
theorem dL_pass_2 : decode cL_pass 2 = .ok (.aload_n 0, 1) := by decide +kernel
theorem dL_pass_3 : decode cL_pass 3 = .ok (.iload_n 1, 1) := by decide +kernel
theorem dL_pass_4 : decode cL_pass 4 = .ok (.invokevirtual 52, 3) := by decide +kernel
theorem dL_pass_7 : decode cL_pass 7 = .ok (.i2l, 1) := by decide +kernel
theorem dL_pass_8 : decode cL_pass 8 = .ok (.lastore, 1) := by decide +kernel
theorem dL_pass_9 : decode cL_pass 9 = .ok (.goto 6, 3) := by decide +kernel
theorem dL_pass_12 : decode cL_pass 12 = .ok (.astore_n 3, 1) := by decide +kernel
theorem dL_pass_13 : decode cL_pass 13 = .ok (.iconst 1, 1) := by decide +kernel
theorem dL_pass_14 : decode cL_pass 14 = .ok (.ireturn, 1) := by decide +kernel
theorem dL_pass_15 : decode cL_pass 15 = .ok (.iconst 0, 1) := by decide +kernel
theorem dL_pass_16 : decode cL_pass 16 = .ok (.ireturn, 1) := by decide +kernel
set_option maxRecDepth 20000 in
theorem ggL_foresee_X1_foresee : GoodIn wsL_foresee wsX1_foresee := goodIn_ca (goodIn_ca (goodIn_r _ [7, 8, 9, 10, 11, 12, 13, 14, 6, 15, 16, 17, 18, 19, 20, 21, 22, 23, 24, 25, 26, 27, 28, 29, 30, 31, 32, 33, 34, 35, 36, 37, 38, 39, 40, 41, 42, 43, 44, 45, 46, 47, 48, 49, 50, 51, 52, 53, 54, 55, 56, 57, 58, 59, 60, 61, 62, 63, 64, 65, 66, 67, 68, 69, 70, 71, 72, 73, 74, 75, 76, 77, 78, 79, 80, 81, 82] (by decide +kernel) (by decide +kernel)) (goodIn_sub (fun _ h => List.mem_cons_of_mem _ (List.mem_append_left _ (List.mem_append_right _ h))) (by decide +kernel))) (goodIn_sub (fun _ h => List.mem_cons_of_mem _ (List.mem_append_right _ h)) (by decide +kernel))
set_option maxRecDepth 20000 in
theorem gL_foresee_X1_foresee : GoodIn wsL_foresee (wsV RL 55 RX1 yX1_foresee wsX1_foresee) := goodIn_app (goodIn_of _ (by decide +kernel)) ggL_foresee_X1_foresee
theorem dL_foresee_0 : decode cL_foresee 0 = .ok (.aload_n 3, 1) := by decide +kernel
theorem dL_foresee_1 : decode cL_foresee 1 = .ok (.iconst 0, 1) := by decide +kernel
theorem dL_foresee_2 : decode cL_foresee 2 = .ok (.aload_n 0, 1) := by decide +kernel
theorem dL_foresee_3 : decode cL_foresee 3 = .ok (.iload_n 1, 1) := by decide +kernel
theorem dL_foresee_4 : decode cL_foresee 4 = .ok (.iload_n 2, 1) := by decide +kernel
theorem dL_foresee_5 : decode cL_foresee 5 = .ok (.invokevirtual 55, 3) := by decide +kernel
theorem dL_foresee_8 : decode cL_foresee 8 = .ok (.i2l, 1) := by decide +kernel
theorem dL_foresee_9 : decode cL_foresee 9 = .ok (.lastore, 1) := by decide +kernel
theorem dL_foresee_10 : decode cL_foresee 10 = .ok (.goto 11, 3) := by decide +kernel
theorem dL_foresee_13 : decode cL_foresee 13 = .ok (.astore 4, 2) := by decide +kernel
theorem dL_foresee_15 : decode cL_foresee 15 = .ok (.iconst 1, 1) := by decide +kernel
theorem dL_foresee_16 : decode cL_foresee 16 = .ok (.ireturn, 1) := by decide +kernel
theorem dL_foresee_17 : decode cL_foresee 17 = .ok (.astore 4, 2) := by decide +kernel
theorem dL_foresee_19 : decode cL_foresee 19 = .ok (.iconst 2, 1) := by decide +kernel
theorem dL_foresee_20 : decode cL_foresee 20 = .ok (.ireturn, 1) := by decide +kernel
theorem dL_foresee_21 : decode cL_foresee 21 = .ok (.iconst 0, 1) := by decide +kernel
theorem dL_foresee_22 : decode cL_foresee 22 = .ok (.ireturn, 1) := by decide +kernel
set_option maxRecDepth 20000 in
theorem ggL_advise_X1_advise : GoodIn wsL_advise wsX1_advise := goodIn_ca (goodIn_r _ [6, 7, 8, 9, 10, 5, 11, 12, 13, 14, 15, 16, 17, 18, 19, 20, 21, 22, 23, 24, 25, 26, 27, 28, 29, 30, 31, 32, 33, 34, 35, 36, 37, 38, 39, 40, 41, 42, 43, 44, 45, 46, 47, 48, 49, 50, 51, 52, 53, 54, 55, 56, 57, 58, 59, 60, 61, 62, 63, 64, 65, 66, 67, 68, 69, 70, 71, 72, 73, 74, 75, 76, 77, 78, 79, 80, 81, 82, 83, 84, 85, 86, 87, 88, 89, 90, 91, 92, 93, 94, 95, 96, 97, 98, 99, 100, 101] (by decide +kernel) (by decide +kernel)) (goodIn_sub (fun _ h => List.mem_cons_of_mem _ (List.mem_append_right _ h)) (by decide +kernel))
set_option maxRecDepth 20000 in
theorem gL_advise_X1_advise : GoodIn wsL_advise (wsV RL 58 RX1 yX1_advise wsX1_advise) := goodIn_app (goodIn_of _ (by decide +kernel)) ggL_advise_X1_advise
theorem dL_advise_0 : decode cL_advise 0 = .ok (.aload_n 2, 1) := by decide +kernel
theorem dL_advise_1 : decode cL_advise 1 = .ok (.iconst 0, 1) := by decide +kernel
theorem dL_advise_2 : decode cL_advise 2 = .ok (.aload_n 0, 1) := by decide +kernel
theorem dL_advise_3 : decode cL_advise 3 = .ok (.iload_n 1, 1) := by decide +kernel
theorem dL_advise_4 : decode cL_advise 4 = .ok (.invokevirtual 58, 3) := by decide +kernel
theorem dL_advise_7 : decode cL_advise 7 = .ok (.i2l, 1) := by decide +kernel
theorem dL_advise_8 : decode cL_advise 8 = .ok (.lastore, 1) := by decide +kernel
theorem dL_advise_9 : decode cL_advise 9 = .ok (.goto 6, 3) := by decide +kernel
theorem dL_advise_12 : decode cL_advise 12 = .ok (.astore_n 3, 1) := by decide +kernel
theorem dL_advise_13 : decode cL_advise 13 = .ok (.iconst 1, 1) := by decide +kernel
theorem dL_advise_14 : decode cL_advise 14 = .ok (.ireturn, 1) := by decide +kernel
theorem dL_advise_15 : decode cL_advise 15 = .ok (.iconst 0, 1) := by decide +kernel
theorem dL_advise_16 : decode cL_advise 16 = .ok (.ireturn, 1) := by decide +kernel
set_option maxRecDepth 20000 in
theorem ggL_law_X1_init : GoodIn wsL_law wsX1_init := goodIn_r _ [9, 10, 11, 12, 13, 14, 15, 16, 17, 18, 19, 20, 21, 22, 23, 24, 25, 26, 27, 28, 29, 30, 31, 32, 33, 34, 35, 36, 37, 492, 493, 494, 495, 496, 497, 498, 499, 500, 501, 502, 503, 504, 513, 514, 515, 516] (by decide +kernel) (by decide +kernel)
set_option maxRecDepth 20000 in
theorem gL_law_X1_init : GoodIn wsL_law (wsX1_init) := ggL_law_X1_init
set_option maxRecDepth 20000 in
theorem ggL_law_X2_init : GoodIn wsL_law wsX2_init := goodIn_r _ [40, 41, 11, 12, 13, 42, 43, 44, 45, 46, 47, 505, 506, 507, 508, 509, 510, 511, 512] (by decide +kernel) (by decide +kernel)
set_option maxRecDepth 20000 in
theorem gL_law_X2_init : GoodIn wsL_law (wsX2_init) := ggL_law_X2_init
set_option maxRecDepth 20000 in
theorem ggL_law_L_setSort : GoodIn wsL_law wsL_setSort := goodIn_ca (goodIn_ca (goodIn_r _ [51, 52, 53, 54, 55, 56, 2, 57, 58, 59, 60, 61, 14, 15, 62, 63, 64, 65, 66, 67, 492, 493, 494, 495, 496, 497, 498, 499, 500, 501, 502, 503, 504] (by decide +kernel) (by decide +kernel)) (goodIn_sub (fun _ h => List.mem_append_left _ (List.mem_append_left _ (List.mem_append_right _ h))) (by decide +kernel))) (goodIn_sub (fun _ h => List.mem_append_left _ (List.mem_append_right _ h)) (by decide +kernel))
set_option maxRecDepth 20000 in
theorem gL_law_L_setSort : GoodIn wsL_law (va_wsS RL 65 yL_setSort wsL_setSort) := goodIn_app (goodIn_of _ (by decide +kernel)) ggL_law_L_setSort
set_option maxRecDepth 20000 in
theorem ggL_law_X2_setSort : GoodIn wsL_law wsX2_setSort := goodIn_r _ [71, 72, 42, 43, 73, 74, 5, 75, 76, 77, 78, 79, 80, 81, 82, 505, 506, 507, 508, 509, 510, 511, 512] (by decide +kernel) (by decide +kernel)
set_option maxRecDepth 20000 in
theorem gL_law_X2_setSort : GoodIn wsL_law (wsV RL 70 RX2 yX2_setSort wsX2_setSort) := goodIn_app (goodIn_of _ (by decide +kernel)) ggL_law_X2_setSort
set_option maxRecDepth 20000 in
theorem ggL_law_X2_thrown : GoodIn wsL_law wsX2_thrown := goodIn_r _ [86, 72, 505, 506, 507, 508, 509, 510, 511, 512] (by decide +kernel) (by decide +kernel)
set_option maxRecDepth 20000 in
theorem gL_law_X2_thrown : GoodIn wsL_law (wsV RL 71 RX2 yX2_thrown wsX2_thrown) := goodIn_app (goodIn_of _ (by decide +kernel)) ggL_law_X2_thrown
set_option maxRecDepth 20000 in
theorem ggL_law_L_setFrost : GoodIn wsL_law wsL_setFrost := goodIn_ca (goodIn_ca (goodIn_r _ [89, 52, 53, 90, 91, 92, 2, 93, 58, 59, 60, 61, 17, 65, 66, 67, 492, 493, 494, 495, 496, 497, 498, 499, 500, 501, 502, 503, 504] (by decide +kernel) (by decide +kernel)) (goodIn_sub (fun _ h => List.mem_append_left _ (List.mem_append_left _ (List.mem_append_right _ h))) (by decide +kernel))) (goodIn_sub (fun _ h => List.mem_append_left _ (List.mem_append_right _ h)) (by decide +kernel))
set_option maxRecDepth 20000 in
theorem gL_law_L_setFrost : GoodIn wsL_law (va_wsS RL 75 yL_setFrost wsL_setFrost) := goodIn_app (goodIn_of _ (by decide +kernel)) ggL_law_L_setFrost
set_option maxRecDepth 20000 in
theorem ggL_law_X2_setFrost : GoodIn wsL_law wsX2_setFrost := goodIn_r _ [97, 72, 44, 76, 77, 5, 78, 79, 80, 81, 82, 505, 506, 507, 508, 509, 510, 511, 512] (by decide +kernel) (by decide +kernel)
set_option maxRecDepth 20000 in
theorem gL_law_X2_setFrost : GoodIn wsL_law (wsV RL 78 RX2 yX2_setFrost wsX2_setFrost) := goodIn_app (goodIn_of _ (by decide +kernel)) ggL_law_X2_setFrost
set_option maxRecDepth 20000 in
theorem ggL_law_L_plant : GoodIn wsL_law wsL_plant := goodIn_ca (goodIn_ca (goodIn_r _ [100, 52, 53, 101, 102, 103, 2, 104, 58, 59, 60, 61, 105, 106, 107, 65, 66, 67, 62, 63, 64, 108, 109, 110, 111, 112, 113, 114, 18, 19, 20, 22, 115, 116, 117, 118, 119, 120, 121, 122, 23, 123, 124, 125, 126, 127, 128, 129, 130, 131, 132, 133, 134, 135, 492, 493, 494, 495, 496, 497, 498, 499, 500, 501, 502, 503, 504] (by decide +kernel) (by decide +kernel)) (goodIn_sub (fun _ h => List.mem_append_left _ (List.mem_append_left _ (List.mem_append_right _ h))) (by decide +kernel))) (goodIn_sub (fun _ h => List.mem_append_left _ (List.mem_append_right _ h)) (by decide +kernel))
set_option maxRecDepth 20000 in
theorem gL_law_L_plant : GoodIn wsL_law (va_wsS RL 79 yL_plant wsL_plant) := goodIn_app (goodIn_of _ (by decide +kernel)) ggL_law_L_plant
set_option maxRecDepth 20000 in
theorem ggL_law_X2_plant : GoodIn wsL_law wsX2_plant := goodIn_r _ [139, 72, 140, 141, 5, 142, 76, 77, 78, 79, 80, 81, 82, 73, 74, 75, 143, 144, 145, 146, 147, 148, 149, 150, 47, 151, 152, 153, 154, 155, 156, 157, 158, 159, 45, 160, 161, 162, 163, 13, 164, 165, 166, 167, 168, 169, 170, 171, 172, 173, 174, 175, 505, 506, 507, 508, 509, 510, 511, 512] (by decide +kernel) (by decide +kernel)
set_option maxRecDepth 20000 in
theorem gL_law_X2_plant : GoodIn wsL_law (wsV RL 82 RX2 yX2_plant wsX2_plant) := goodIn_app (goodIn_of _ (by decide +kernel)) ggL_law_X2_plant
set_option maxRecDepth 20000 in
theorem ggL_law_L_prune : GoodIn wsL_law wsL_prune := goodIn_ca (goodIn_ca (goodIn_r _ [178, 52, 53, 179, 180, 181, 2, 182, 58, 59, 60, 61, 105, 106, 107, 65, 66, 67, 108, 109, 110, 183, 184, 185, 186, 29, 187, 188, 189, 190, 19, 115, 116, 117, 118, 18, 119, 120, 121, 122, 23, 123, 124, 125, 126, 127, 128, 129, 191, 192, 193, 194, 20, 22, 15, 195, 28, 196, 197, 198, 199, 200, 201, 202, 203, 130, 131, 132, 133, 134, 135, 492, 493, 494, 495, 496, 497, 498, 499, 500, 501, 502, 503, 504, 513, 514, 515, 516] (by decide +kernel) (by decide +kernel)) (goodIn_sub (fun _ h => List.mem_append_left _ (List.mem_append_left _ (List.mem_append_right _ h))) (by decide +kernel))) (goodIn_sub (fun _ h => List.mem_append_left _ (List.mem_append_right _ h)) (by decide +kernel))
set_option maxRecDepth 20000 in
theorem gL_law_L_prune : GoodIn wsL_law (va_wsS RL 83 yL_prune wsL_prune) := goodIn_app (goodIn_of _ (by decide +kernel)) ggL_law_L_prune
set_option maxRecDepth 20000 in
theorem ggL_law_X2_prune : GoodIn wsL_law wsX2_prune := goodIn_r _ [207, 72, 140, 141, 5, 142, 76, 77, 78, 79, 80, 81, 82, 143, 144, 145, 146, 147, 148, 149, 150, 47, 151, 152, 153, 154, 155, 156, 157, 158, 159, 45, 160, 161, 162, 163, 13, 164, 165, 166, 167, 168, 169, 170, 171, 172, 173, 174, 175, 505, 506, 507, 508, 509, 510, 511, 512] (by decide +kernel) (by decide +kernel)
set_option maxRecDepth 20000 in
theorem gL_law_X2_prune : GoodIn wsL_law (wsV RL 85 RX2 yX2_prune wsX2_prune) := goodIn_app (goodIn_of _ (by decide +kernel)) ggL_law_X2_prune
set_option maxRecDepth 20000 in
theorem ggL_law_L_graft : GoodIn wsL_law wsL_graft := goodIn_ca (goodIn_ca (goodIn_r _ [210, 52, 53, 211, 212, 213, 2, 214, 58, 59, 60, 61, 105, 106, 107, 65, 66, 67, 62, 63, 64, 108, 109, 110, 215, 216, 217, 218, 18, 19, 219, 169, 170, 171, 115, 116, 117, 118, 119, 120, 121, 122, 23, 123, 124, 125, 126, 127, 128, 129, 130, 131, 132, 133, 134, 135, 492, 493, 494, 495, 496, 497, 498, 499, 500, 501, 502, 503, 504] (by decide +kernel) (by decide +kernel)) (goodIn_sub (fun _ h => List.mem_append_left _ (List.mem_append_left _ (List.mem_append_right _ h))) (by decide +kernel))) (goodIn_sub (fun _ h => List.mem_append_left _ (List.mem_append_right _ h)) (by decide +kernel))
set_option maxRecDepth 20000 in
theorem gL_law_L_graft : GoodIn wsL_law (va_wsS RL 86 yL_graft wsL_graft) := goodIn_app (goodIn_of _ (by decide +kernel)) ggL_law_L_graft
set_option maxRecDepth 20000 in
theorem ggL_law_X2_graft : GoodIn wsL_law wsX2_graft := goodIn_r _ [223, 72, 140, 141, 5, 142, 76, 77, 78, 79, 80, 81, 82, 73, 74, 75, 143, 144, 145, 146, 147, 148, 149, 150, 47, 151, 152, 153, 154, 155, 156, 157, 158, 159, 45, 160, 161, 162, 163, 13, 164, 165, 166, 167, 168, 169, 170, 171, 172, 173, 174, 175, 505, 506, 507, 508, 509, 510, 511, 512] (by decide +kernel) (by decide +kernel)
set_option maxRecDepth 20000 in
theorem gL_law_X2_graft : GoodIn wsL_law (wsV RL 88 RX2 yX2_graft wsX2_graft) := goodIn_app (goodIn_of _ (by decide +kernel)) ggL_law_X2_graft
set_option maxRecDepth 20000 in
theorem ggL_law_L_fell : GoodIn wsL_law wsL_fell := goodIn_ca (goodIn_r _ [226, 52, 227, 228, 229, 2, 230, 58, 59, 105, 106, 107, 65, 66, 67, 108, 109, 110, 231, 232, 233, 234, 18, 19, 20, 22, 115, 116, 117, 118, 119, 120, 121, 122, 23, 123, 124, 125, 126, 127, 128, 129, 130, 131, 132, 133, 134, 135, 492, 493, 494, 495, 496, 497, 498, 499, 500, 501, 502, 503, 504] (by decide +kernel) (by decide +kernel)) (goodIn_sub (fun _ h => List.mem_append_left _ (List.mem_append_left _ (List.mem_append_right _ h))) (by decide +kernel))
set_option maxRecDepth 20000 in
theorem gL_law_L_fell : GoodIn wsL_law (va_wsS RL 89 yL_fell wsL_fell) := goodIn_app (goodIn_of _ (by decide +kernel)) ggL_law_L_fell
set_option maxRecDepth 20000 in
theorem ggL_law_X2_fell : GoodIn wsL_law wsX2_fell := goodIn_r _ [238, 72, 140, 141, 5, 142, 76, 77, 78, 143, 144, 145, 146, 147, 148, 149, 150, 47, 151, 152, 153, 154, 155, 156, 157, 158, 159, 45, 160, 161, 162, 163, 13, 164, 165, 166, 167, 168, 169, 170, 171, 172, 173, 174, 175, 79, 80, 81, 82, 505, 506, 507, 508, 509, 510, 511, 512] (by decide +kernel) (by decide +kernel)
set_option maxRecDepth 20000 in
theorem gL_law_X2_fell : GoodIn wsL_law (wsV RL 91 RX2 yX2_fell wsX2_fell) := goodIn_app (goodIn_of _ (by decide +kernel)) ggL_law_X2_fell
set_option maxRecDepth 20000 in
theorem ggL_law_L_tree : GoodIn wsL_law wsL_tree := goodIn_ca (goodIn_r _ [241, 52, 242, 243, 244, 2, 245, 58, 59, 19, 20, 18, 22, 105, 106, 107, 65, 66, 67, 108, 109, 110, 115, 116, 117, 118, 246, 247, 248, 249, 29, 191, 192, 193, 194, 15, 250, 28, 251, 252, 198, 253, 199, 492, 493, 494, 495, 496, 497, 498, 499, 500, 501, 502, 503, 504, 513, 514, 515, 516] (by decide +kernel) (by decide +kernel)) (goodIn_sub (fun _ h => List.mem_append_left _ (List.mem_append_left _ (List.mem_append_right _ h))) (by decide +kernel))
set_option maxRecDepth 20000 in
theorem gL_law_L_tree : GoodIn wsL_law (va_wsS RL 92 yL_tree wsL_tree) := goodIn_app (goodIn_of _ (by decide +kernel)) ggL_law_L_tree
set_option maxRecDepth 20000 in
theorem ggL_law_X2_tree : GoodIn wsL_law wsX2_tree := goodIn_r _ [257, 72, 140, 141, 5, 142, 76, 77, 78, 258, 259, 260, 261, 262, 263, 264, 265, 156, 157, 158, 159, 45, 79, 80, 81, 82, 505, 506, 507, 508, 509, 510, 511, 512] (by decide +kernel) (by decide +kernel)
set_option maxRecDepth 20000 in
theorem gL_law_X2_tree : GoodIn wsL_law (wsV RL 94 RX2 yX2_tree wsX2_tree) := goodIn_app (goodIn_of _ (by decide +kernel)) ggL_law_X2_tree
set_option maxRecDepth 20000 in
theorem ggL_law_L_sort : GoodIn wsL_law wsL_sort := goodIn_ca (goodIn_r _ [268, 52, 269, 270, 271, 2, 272, 58, 59, 14, 15, 16, 62, 63, 64, 65, 66, 67, 273, 274, 275, 276, 18, 492, 493, 494, 495, 496, 497, 498, 499, 500, 501, 502, 503, 504] (by decide +kernel) (by decide +kernel)) (goodIn_sub (fun _ h => List.mem_append_left _ (List.mem_append_left _ (List.mem_append_right _ h))) (by decide +kernel))
set_option maxRecDepth 20000 in
theorem gL_law_L_sort : GoodIn wsL_law (va_wsS RL 95 yL_sort wsL_sort) := goodIn_app (goodIn_of _ (by decide +kernel)) ggL_law_L_sort
set_option maxRecDepth 20000 in
theorem ggL_law_X2_sort : GoodIn wsL_law wsX2_sort := goodIn_r _ [280, 72, 73, 74, 5, 75, 76, 77, 78, 281, 282, 283, 284, 42, 43, 46, 156, 157, 158, 159, 45, 79, 80, 81, 82, 505, 506, 507, 508, 509, 510, 511, 512] (by decide +kernel) (by decide +kernel)
set_option maxRecDepth 20000 in
theorem gL_law_X2_sort : GoodIn wsL_law (wsV RL 97 RX2 yX2_sort wsX2_sort) := goodIn_app (goodIn_of _ (by decide +kernel)) ggL_law_X2_sort
set_option maxRecDepth 20000 in
theorem ggL_law_L_count : GoodIn wsL_law wsL_count := goodIn_ca (goodIn_r _ [287, 52, 288, 289, 290, 2, 291, 58, 59, 24, 23, 65, 66, 67, 292, 293, 294, 295, 115, 116, 117, 118, 18, 296, 297, 298, 299, 22, 300, 301, 302, 303, 16, 304, 305, 306, 307, 14, 308, 309, 310, 311, 19, 108, 109, 110, 130, 131, 132, 492, 493, 494, 495, 496, 497, 498, 499, 500, 501, 502, 503, 504] (by decide +kernel) (by decide +kernel)) (goodIn_sub (fun _ h => List.mem_append_left _ (List.mem_append_left _ (List.mem_append_right _ h))) (by decide +kernel))
set_option maxRecDepth 20000 in
theorem gL_law_L_count : GoodIn wsL_law (va_wsS RL 98 yL_count wsL_count) := goodIn_app (goodIn_of _ (by decide +kernel)) ggL_law_L_count
set_option maxRecDepth 20000 in
theorem ggL_law_X2_count : GoodIn wsL_law wsX2_count := goodIn_r _ [315, 72, 76, 77, 5, 78, 316, 317, 318, 319, 47, 46, 42, 320, 321, 322, 323, 156, 157, 158, 159, 45, 79, 80, 81, 82, 505, 506, 507, 508, 509, 510, 511, 512] (by decide +kernel) (by decide +kernel)
set_option maxRecDepth 20000 in
theorem gL_law_X2_count : GoodIn wsL_law (wsV RL 101 RX2 yX2_count wsX2_count) := goodIn_app (goodIn_of _ (by decide +kernel)) ggL_law_X2_count
set_option maxRecDepth 20000 in
theorem ggL_law_L_leans : GoodIn wsL_law wsL_leans := goodIn_ca (goodIn_r _ [326, 52, 327, 328, 329, 2, 330, 58, 59, 65, 66, 67, 108, 109, 110, 246, 247, 248, 249, 29, 191, 192, 193, 194, 20, 19, 22, 15, 18, 115, 116, 117, 118, 250, 28, 251, 252, 198, 253, 199, 130, 131, 132, 492, 493, 494, 495, 496, 497, 498, 499, 500, 501, 502, 503, 504, 513, 514, 515, 516] (by decide +kernel) (by decide +kernel)) (goodIn_sub (fun _ h => List.mem_append_left _ (List.mem_append_left _ (List.mem_append_right _ h))) (by decide +kernel))
set_option maxRecDepth 20000 in
theorem gL_law_L_leans : GoodIn wsL_law (va_wsS RL 102 yL_leans wsL_leans) := goodIn_app (goodIn_of _ (by decide +kernel)) ggL_law_L_leans
set_option maxRecDepth 20000 in
theorem ggL_law_X2_leans : GoodIn wsL_law wsX2_leans := goodIn_r _ [334, 72, 76, 77, 5, 78, 79, 80, 81, 82, 262, 263, 264, 265, 156, 157, 158, 159, 45, 505, 506, 507, 508, 509, 510, 511, 512] (by decide +kernel) (by decide +kernel)
set_option maxRecDepth 20000 in
theorem gL_law_X2_leans : GoodIn wsL_law (wsV RL 104 RX2 yX2_leans wsX2_leans) := goodIn_app (goodIn_of _ (by decide +kernel)) ggL_law_X2_leans
set_option maxRecDepth 20000 in
theorem ggL_law_L_carry : GoodIn wsL_law wsL_carry := goodIn_ca (goodIn_ca (goodIn_ca (goodIn_r _ [337, 52, 53, 338, 339, 340, 341, 2, 342, 58, 59, 60, 61, 343, 344, 16, 25, 14, 62, 63, 64, 65, 66, 67, 492, 493, 494, 495, 496, 497, 498, 499, 500, 501, 502, 503, 504] (by decide +kernel) (by decide +kernel)) (goodIn_sub (fun _ h => List.mem_append_left _ (List.mem_append_left _ (List.mem_append_right _ h))) (by decide +kernel))) (goodIn_sub (fun _ h => List.mem_append_left _ (List.mem_append_right _ h)) (by decide +kernel))) (goodIn_sub (fun _ h => List.mem_append_right _ h) (by decide +kernel))
set_option maxRecDepth 20000 in
theorem gL_law_L_carry : GoodIn wsL_law (va_wsS RL 105 yL_carry wsL_carry) := goodIn_app (goodIn_of _ (by decide +kernel)) ggL_law_L_carry
set_option maxRecDepth 20000 in
theorem ggL_law_X2_carry : GoodIn wsL_law wsX2_carry := goodIn_r _ [348, 72, 46, 349, 42, 73, 74, 5, 75, 76, 77, 78, 79, 80, 81, 82, 505, 506, 507, 508, 509, 510, 511, 512] (by decide +kernel) (by decide +kernel)
set_option maxRecDepth 20000 in
theorem gL_law_X2_carry : GoodIn wsL_law (wsV RL 107 RX2 yX2_carry wsX2_carry) := goodIn_app (goodIn_of _ (by decide +kernel)) ggL_law_X2_carry
set_option maxRecDepth 20000 in
theorem ggL_law_X1_tilt : GoodIn wsL_law wsX1_tilt := goodIn_r _ [353, 25, 492, 493, 494, 495, 496, 497, 498, 499, 500, 501, 502, 503, 504] (by decide +kernel) (by decide +kernel)
set_option maxRecDepth 20000 in
theorem gL_law_X1_tilt : GoodIn wsL_law (wsV RL 108 RX1 yX1_tilt wsX1_tilt) := goodIn_app (goodIn_of _ (by decide +kernel)) ggL_law_X1_tilt
set_option maxRecDepth 20000 in
theorem ggL_law_X2_tilt : GoodIn wsL_law wsX2_tilt := goodIn_r _ [357, 72, 349, 505, 506, 507, 508, 509, 510, 511, 512] (by decide +kernel) (by decide +kernel)
set_option maxRecDepth 20000 in
theorem gL_law_X2_tilt : GoodIn wsL_law (wsV RL 111 RX2 yX2_tilt wsX2_tilt) := goodIn_app (goodIn_of _ (by decide +kernel)) ggL_law_X2_tilt
set_option maxRecDepth 20000 in
theorem ggL_law_X1_balance : GoodIn wsL_law wsX1_balance := goodIn_r _ [361, 14, 362, 363, 364, 2, 365, 16, 366, 367, 170, 368, 219, 169, 171, 369, 370, 371, 372, 30, 34, 35, 36, 37, 373, 374, 375, 376, 492, 493, 494, 495, 496, 497, 498, 499, 500, 501, 502, 503, 504] (by decide +kernel) (by decide +kernel)
set_option maxRecDepth 20000 in
theorem gL_law_X1_balance : GoodIn wsL_law (wsV RL 112 RX1 yX1_balance wsX1_balance) := goodIn_app (goodIn_of _ (by decide +kernel)) ggL_law_X1_balance
set_option maxRecDepth 20000 in
theorem ggL_law_X2_balance : GoodIn wsL_law wsX2_balance := goodIn_r _ [380, 72, 42, 46, 381, 367, 170, 368, 21, 505, 506, 507, 508, 509, 510, 511, 512] (by decide +kernel) (by decide +kernel)
set_option maxRecDepth 20000 in
theorem gL_law_X2_balance : GoodIn wsL_law (wsV RL 115 RX2 yX2_balance wsX2_balance) := goodIn_app (goodIn_of _ (by decide +kernel)) ggL_law_X2_balance
set_option maxRecDepth 20000 in
theorem ggL_law_L_pass : GoodIn wsL_law wsL_pass := goodIn_ca (goodIn_r _ [384, 53, 385, 386, 387, 2, 388, 60, 61, 24, 23, 65, 66, 67, 115, 116, 117, 118, 18, 389, 390, 391, 392, 16, 191, 192, 193, 194, 29, 20, 19, 22, 15, 393, 394, 395, 396, 17, 397, 398, 399, 400, 401, 28, 402, 403, 199, 404, 405, 406, 407, 408, 409, 169, 170, 171, 198, 410, 250, 251, 252, 253, 411, 412, 413, 414, 415, 367, 368, 200, 201, 202, 203, 34, 35, 36, 37, 492, 493, 494, 495, 496, 497, 498, 499, 500, 501, 502, 503, 504, 513, 514, 515, 516] (by decide +kernel) (by decide +kernel)) (goodIn_sub (fun _ h => List.mem_append_left _ (List.mem_append_right _ h)) (by decide +kernel))
set_option maxRecDepth 20000 in
theorem gL_law_L_pass : GoodIn wsL_law (va_wsS RL 116 yL_pass wsL_pass) := goodIn_app (goodIn_of _ (by decide +kernel)) ggL_law_L_pass
set_option maxRecDepth 20000 in
theorem ggL_law_X2_pass : GoodIn wsL_law wsX2_pass := goodIn_r _ [419, 72, 76, 77, 5, 78, 420, 421, 422, 423, 424, 425, 426, 427, 44, 47, 43, 168, 169, 170, 171, 46, 381, 367, 368, 156, 157, 158, 159, 45, 172, 173, 174, 175, 262, 263, 264, 265, 79, 80, 81, 82, 505, 506, 507, 508, 509, 510, 511, 512] (by decide +kernel) (by decide +kernel)
set_option maxRecDepth 20000 in
theorem gL_law_X2_pass : GoodIn wsL_law (wsV RL 118 RX2 yX2_pass wsX2_pass) := goodIn_app (goodIn_of _ (by decide +kernel)) ggL_law_X2_pass
set_option maxRecDepth 20000 in
theorem ggL_law_L_foresee : GoodIn wsL_law wsL_foresee := goodIn_ca (goodIn_ca (goodIn_r _ [430, 53, 52, 431, 432, 433, 2, 434, 60, 61, 58, 59, 29, 65, 66, 67, 115, 116, 117, 118, 18, 191, 192, 193, 194, 20, 19, 22, 15, 393, 394, 395, 396, 17, 24, 397, 398, 399, 400, 401, 28, 402, 403, 199, 404, 405, 406, 407, 408, 409, 169, 170, 171, 198, 410, 250, 251, 252, 253, 411, 412, 413, 414, 415, 367, 368, 492, 493, 494, 495, 496, 497, 498, 499, 500, 501, 502, 503, 504, 513, 514, 515, 516] (by decide +kernel) (by decide +kernel)) (goodIn_sub (fun _ h => List.mem_append_left _ (List.mem_append_right _ h)) (by decide +kernel))) (goodIn_sub (fun _ h => List.mem_append_left _ (List.mem_append_left _ (List.mem_append_right _ h))) (by decide +kernel))
set_option maxRecDepth 20000 in
theorem gL_law_L_foresee : GoodIn wsL_law (va_wsS RL 119 yL_foresee wsL_foresee) := goodIn_app (goodIn_of _ (by decide +kernel)) ggL_law_L_foresee
set_option maxRecDepth 20000 in
theorem ggL_law_X2_foresee : GoodIn wsL_law wsX2_foresee := goodIn_r _ [438, 72, 76, 77, 5, 78, 79, 80, 81, 82, 439, 440, 441, 442, 443, 45, 444, 445, 446, 447, 448, 46, 47, 420, 421, 422, 423, 424, 425, 426, 427, 44, 43, 168, 169, 170, 171, 381, 367, 368, 156, 157, 158, 159, 172, 173, 174, 175, 262, 263, 264, 265, 320, 321, 322, 323, 449, 450, 451, 452, 164, 165, 166, 167, 505, 506, 507, 508, 509, 510, 511, 512] (by decide +kernel) (by decide +kernel)
set_option maxRecDepth 20000 in
theorem gL_law_X2_foresee : GoodIn wsL_law (wsV RL 121 RX2 yX2_foresee wsX2_foresee) := goodIn_app (goodIn_of _ (by decide +kernel)) ggL_law_X2_foresee
set_option maxRecDepth 20000 in
theorem ggL_law_L_advise : GoodIn wsL_law wsL_advise := goodIn_ca (goodIn_r _ [455, 53, 456, 457, 458, 2, 459, 60, 61, 65, 66, 67, 460, 461, 462, 463, 29, 187, 188, 189, 190, 19, 115, 116, 117, 118, 18, 119, 120, 121, 122, 23, 123, 124, 125, 191, 192, 193, 194, 20, 22, 15, 393, 394, 395, 396, 17, 24, 397, 398, 399, 400, 401, 28, 402, 403, 199, 404, 405, 406, 407, 408, 409, 169, 170, 171, 198, 410, 250, 251, 252, 253, 411, 412, 413, 414, 415, 367, 368, 195, 196, 197, 130, 131, 132, 492, 493, 494, 495, 496, 497, 498, 499, 500, 501, 502, 503, 504, 513, 514, 515, 516] (by decide +kernel) (by decide +kernel)) (goodIn_sub (fun _ h => List.mem_append_left _ (List.mem_append_right _ h)) (by decide +kernel))
set_option maxRecDepth 20000 in
theorem gL_law_L_advise : GoodIn wsL_law (va_wsS RL 122 yL_advise wsL_advise) := goodIn_app (goodIn_of _ (by decide +kernel)) ggL_law_L_advise
set_option maxRecDepth 20000 in
theorem ggL_law_X2_advise : GoodIn wsL_law wsX2_advise := goodIn_r _ [467, 72, 76, 77, 5, 78, 79, 80, 81, 82, 439, 440, 441, 442, 443, 45, 444, 445, 446, 447, 448, 46, 47, 420, 421, 422, 423, 424, 425, 426, 427, 44, 43, 168, 169, 170, 171, 381, 367, 368, 156, 157, 158, 159, 172, 173, 174, 175, 262, 263, 264, 265, 449, 450, 451, 452, 164, 165, 166, 167, 143, 144, 145, 146, 147, 148, 149, 150, 151, 152, 153, 154, 155, 160, 161, 162, 163, 13, 505, 506, 507, 508, 509, 510, 511, 512] (by decide +kernel) (by decide +kernel)
set_option maxRecDepth 20000 in
theorem gL_law_X2_advise : GoodIn wsL_law (wsV RL 124 RX2 yX2_advise wsX2_advise) := goodIn_app (goodIn_of _ (by decide +kernel)) ggL_law_X2_advise
set_option maxRecDepth 20000 in
theorem ggL_law_X1_mean : GoodIn wsL_law wsX1_mean := goodIn_r _ [471, 19, 292, 293, 294, 2, 295, 115, 116, 117, 118, 18, 492, 493, 494, 495, 496, 497, 498, 499, 500, 501, 502, 503, 504] (by decide +kernel) (by decide +kernel)
set_option maxRecDepth 20000 in
theorem gL_law_X1_mean : GoodIn wsL_law (wsV RL 125 RX1 yX1_mean wsX1_mean) := goodIn_app (goodIn_of _ (by decide +kernel)) ggL_law_X1_mean
set_option maxRecDepth 20000 in
theorem ggL_law_X2_mean : GoodIn wsL_law wsX2_mean := goodIn_r _ [475, 72, 320, 321, 322, 5, 323, 156, 157, 158, 159, 45, 505, 506, 507, 508, 509, 510, 511, 512] (by decide +kernel) (by decide +kernel)
set_option maxRecDepth 20000 in
theorem gL_law_X2_mean : GoodIn wsL_law (wsV RL 129 RX2 yX2_mean wsX2_mean) := goodIn_app (goodIn_of _ (by decide +kernel)) ggL_law_X2_mean
set_option maxRecDepth 20000 in
theorem ggL_law_X1_digest : GoodIn wsL_law wsX1_digest := goodIn_ca (goodIn_r _ [479, 480, 481, 17, 482, 289, 290, 2, 291, 58, 59, 24, 23, 65, 66, 67, 292, 293, 294, 295, 115, 116, 117, 118, 18, 296, 297, 298, 299, 22, 300, 301, 302, 303, 16, 304, 305, 306, 307, 14, 308, 309, 310, 311, 19, 108, 109, 110, 130, 131, 132, 483, 270, 271, 272, 15, 62, 63, 64, 273, 274, 275, 276, 484, 243, 244, 245, 20, 105, 106, 107, 246, 247, 248, 249, 29, 191, 192, 193, 194, 250, 28, 251, 252, 198, 253, 199, 485, 351, 352, 353, 25, 492, 493, 494, 495, 496, 497, 498, 499, 500, 501, 502, 503, 504, 513, 514, 515, 516] (by decide +kernel) (by decide +kernel)) (goodIn_sub (fun _ h => List.mem_append_left _ (List.mem_append_left _ (List.mem_append_right _ h))) (by decide +kernel))
set_option maxRecDepth 20000 in
theorem gL_law_X1_digest : GoodIn wsL_law (wsV RL 130 RX1 yX1_digest wsX1_digest) := goodIn_app (goodIn_of _ (by decide +kernel)) ggL_law_X1_digest
set_option maxRecDepth 20000 in
theorem ggL_law_X2_digest : GoodIn wsL_law wsX2_digest := goodIn_r _ [489, 72, 490, 491, 44, 349, 316, 317, 318, 5, 319, 47, 46, 42, 320, 321, 322, 323, 156, 157, 158, 159, 45, 281, 282, 283, 284, 43, 258, 259, 260, 261, 262, 263, 264, 265, 505, 506, 507, 508, 509, 510, 511, 512] (by decide +kernel) (by decide +kernel)
set_option maxRecDepth 20000 in
theorem gL_law_X2_digest : GoodIn wsL_law (wsV RL 134 RX2 yX2_digest wsX2_digest) := goodIn_app (goodIn_of _ (by decide +kernel)) ggL_law_X2_digest
