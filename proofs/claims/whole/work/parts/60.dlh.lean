set_option maxRecDepth 20000 in
theorem ggL_join_X4_join : GoodIn wsL_join wsX4_join := goodIn_ca (goodIn_r _ [6, 7, 8, 9, 10, 5, 11, 12, 13, 14, 15, 16, 17, 18, 19, 20, 21, 22, 23, 24, 25, 26, 27, 28, 29, 30, 31, 32, 33, 34, 35, 36, 37, 38, 39, 40, 41] (by decide +kernel) (by decide +kernel)) (goodIn_sub (fun _ h => List.mem_cons_of_mem _ (List.mem_append_right _ h)) (by decide +kernel))
set_option maxRecDepth 20000 in
theorem gL_join_X4_join : GoodIn wsL_join (wsV RL 7 RX4 yX4_join wsX4_join) := goodIn_app (goodIn_of _ (by decide +kernel)) ggL_join_X4_join
theorem dL_join_0 : decode cL_join 0 = .ok (.aload 6, 2) := by decide +kernel
theorem dL_join_2 : decode cL_join 2 = .ok (.iconst 0, 1) := by decide +kernel
theorem dL_join_3 : decode cL_join 3 = .ok (.aload_n 0, 1) := by decide +kernel
theorem dL_join_4 : decode cL_join 4 = .ok (.iload_n 1, 1) := by decide +kernel
theorem dL_join_5 : decode cL_join 5 = .ok (.iload_n 2, 1) := by decide +kernel
theorem dL_join_6 : decode cL_join 6 = .ok (.iload_n 3, 1) := by decide +kernel
theorem dL_join_7 : decode cL_join 7 = .ok (.iload 4, 2) := by decide +kernel
theorem dL_join_9 : decode cL_join 9 = .ok (.iload 5, 2) := by decide +kernel
theorem dL_join_11 : decode cL_join 11 = .ok (.invokevirtual 7, 3) := by decide +kernel
theorem dL_join_14 : decode cL_join 14 = .ok (.ifCond .eq 7, 3) := by decide +kernel
theorem dL_join_17 : decode cL_join 17 = .ok (.lconst 1, 1) := by decide +kernel
theorem dL_join_18 : decode cL_join 18 = .ok (.goto 4, 3) := by decide +kernel
theorem dL_join_21 : decode cL_join 21 = .ok (.lconst 0, 1) := by decide +kernel
theorem dL_join_22 : decode cL_join 22 = .ok (.lastore, 1) := by decide +kernel
theorem dL_join_23 : decode cL_join 23 = .ok (.goto 7, 3) := by decide +kernel
theorem dL_join_26 : decode cL_join 26 = .ok (.astore 7, 2) := by decide +kernel
theorem dL_join_28 : decode cL_join 28 = .ok (.iconst 1, 1) := by decide +kernel
theorem dL_join_29 : decode cL_join 29 = .ok (.ireturn, 1) := by decide +kernel
theorem dL_join_30 : decode cL_join 30 = .ok (.iconst 0, 1) := by decide +kernel
theorem dL_join_31 : decode cL_join 31 = .ok (.ireturn, 1) := by decide +kernel
set_option maxRecDepth 20000 in
theorem ggL_leads_X4_leads : GoodIn wsL_leads wsX4_leads := goodIn_ca (goodIn_r _ [6, 7, 8, 9, 10, 5, 11, 12, 13, 14, 15, 16, 17, 18, 19, 20, 21, 22, 23, 24, 25, 26, 27, 28, 29, 30, 31, 32, 33, 34, 35] (by decide +kernel) (by decide +kernel)) (goodIn_sub (fun _ h => List.mem_cons_of_mem _ (List.mem_append_right _ h)) (by decide +kernel))
set_option maxRecDepth 20000 in
theorem gL_leads_X4_leads : GoodIn wsL_leads (wsV RL 15 RX4 yX4_leads wsX4_leads) := goodIn_app (goodIn_of _ (by decide +kernel)) ggL_leads_X4_leads
theorem dL_leads_0 : decode cL_leads 0 = .ok (.aload 4, 2) := by decide +kernel
theorem dL_leads_2 : decode cL_leads 2 = .ok (.iconst 0, 1) := by decide +kernel
theorem dL_leads_3 : decode cL_leads 3 = .ok (.aload_n 0, 1) := by decide +kernel
theorem dL_leads_4 : decode cL_leads 4 = .ok (.iload_n 1, 1) := by decide +kernel
theorem dL_leads_5 : decode cL_leads 5 = .ok (.iload_n 2, 1) := by decide +kernel
theorem dL_leads_6 : decode cL_leads 6 = .ok (.iload_n 3, 1) := by decide +kernel
theorem dL_leads_7 : decode cL_leads 7 = .ok (.invokevirtual 15, 3) := by decide +kernel
theorem dL_leads_10 : decode cL_leads 10 = .ok (.i2l, 1) := by decide +kernel
theorem dL_leads_11 : decode cL_leads 11 = .ok (.lastore, 1) := by decide +kernel
theorem dL_leads_12 : decode cL_leads 12 = .ok (.goto 7, 3) := by decide +kernel
theorem dL_leads_15 : decode cL_leads 15 = .ok (.astore 5, 2) := by decide +kernel
theorem dL_leads_17 : decode cL_leads 17 = .ok (.iconst 1, 1) := by decide +kernel
theorem dL_leads_18 : decode cL_leads 18 = .ok (.ireturn, 1) := by decide +kernel
theorem dL_leads_19 : decode cL_leads 19 = .ok (.iconst 0, 1) := by decide +kernel
theorem dL_leads_20 : decode cL_leads 20 = .ok (.ireturn, 1) := by decide +kernel
set_option maxRecDepth 20000 in
theorem ggL_mark_X4_mark : GoodIn wsL_mark wsX4_mark := goodIn_ca (goodIn_r _ [6, 7, 8, 9, 10, 11, 5, 12, 13, 14, 15, 16, 17, 18, 19, 20, 21, 22, 23, 24, 25, 26, 27, 28, 29, 30, 31, 32] (by decide +kernel) (by decide +kernel)) (goodIn_sub (fun _ h => List.mem_cons_of_mem _ (List.mem_append_right _ h)) (by decide +kernel))
set_option maxRecDepth 20000 in
theorem gL_mark_X4_mark : GoodIn wsL_mark (wsV RL 19 RX4 yX4_mark wsX4_mark) := goodIn_app (goodIn_of _ (by decide +kernel)) ggL_mark_X4_mark
theorem dL_mark_0 : decode cL_mark 0 = .ok (.aload 4, 2) := by decide +kernel
theorem dL_mark_2 : decode cL_mark 2 = .ok (.iconst 0, 1) := by decide +kernel
theorem dL_mark_3 : decode cL_mark 3 = .ok (.aload_n 0, 1) := by decide +kernel
theorem dL_mark_4 : decode cL_mark 4 = .ok (.iload_n 1, 1) := by decide +kernel
theorem dL_mark_5 : decode cL_mark 5 = .ok (.iload_n 2, 1) := by decide +kernel
theorem dL_mark_6 : decode cL_mark 6 = .ok (.iload_n 3, 1) := by decide +kernel
theorem dL_mark_7 : decode cL_mark 7 = .ok (.invokevirtual 19, 3) := by decide +kernel
theorem dL_mark_10 : decode cL_mark 10 = .ok (.ifCond .eq 7, 3) := by decide +kernel
theorem dL_mark_13 : decode cL_mark 13 = .ok (.lconst 1, 1) := by decide +kernel
theorem dL_mark_14 : decode cL_mark 14 = .ok (.goto 4, 3) := by decide +kernel
theorem dL_mark_17 : decode cL_mark 17 = .ok (.lconst 0, 1) := by decide +kernel
theorem dL_mark_18 : decode cL_mark 18 = .ok (.lastore, 1) := by decide +kernel
theorem dL_mark_19 : decode cL_mark 19 = .ok (.goto 7, 3) := by decide +kernel
theorem dL_mark_22 : decode cL_mark 22 = .ok (.astore 5, 2) := by decide +kernel
theorem dL_mark_24 : decode cL_mark 24 = .ok (.iconst 1, 1) := by decide +kernel
theorem dL_mark_25 : decode cL_mark 25 = .ok (.ireturn, 1) := by decide +kernel
theorem dL_mark_26 : decode cL_mark 26 = .ok (.iconst 0, 1) := by decide +kernel
theorem dL_mark_27 : decode cL_mark 27 = .ok (.ireturn, 1) := by decide +kernel
set_option maxRecDepth 20000 in
theorem ggL_alike_X4_alike : GoodIn wsL_alike wsX4_alike := goodIn_ca (goodIn_r _ [6, 7, 8, 9, 10, 11, 12, 5, 13, 14, 15, 16, 17, 18, 19, 20, 21, 22, 23, 24, 25, 26, 27, 28, 29, 30, 31, 32, 33, 34, 35, 36, 37, 38, 39, 40, 41, 42, 43, 44, 45, 46, 47, 48, 49, 50, 51, 52, 53, 54, 55, 56] (by decide +kernel) (by decide +kernel)) (goodIn_sub (fun _ h => List.mem_cons_of_mem _ (List.mem_append_right _ h)) (by decide +kernel))
set_option maxRecDepth 20000 in
theorem gL_alike_X4_alike : GoodIn wsL_alike (wsV RL 23 RX4 yX4_alike wsX4_alike) := goodIn_app (goodIn_of _ (by decide +kernel)) ggL_alike_X4_alike
theorem dL_alike_0 : decode cL_alike 0 = .ok (.aload_n 3, 1) := by decide +kernel
theorem dL_alike_1 : decode cL_alike 1 = .ok (.iconst 0, 1) := by decide +kernel
theorem dL_alike_2 : decode cL_alike 2 = .ok (.aload_n 0, 1) := by decide +kernel
theorem dL_alike_3 : decode cL_alike 3 = .ok (.iload_n 1, 1) := by decide +kernel
theorem dL_alike_4 : decode cL_alike 4 = .ok (.iload_n 2, 1) := by decide +kernel
theorem dL_alike_5 : decode cL_alike 5 = .ok (.invokevirtual 23, 3) := by decide +kernel
theorem dL_alike_8 : decode cL_alike 8 = .ok (.i2l, 1) := by decide +kernel
theorem dL_alike_9 : decode cL_alike 9 = .ok (.lastore, 1) := by decide +kernel
theorem dL_alike_10 : decode cL_alike 10 = .ok (.goto 7, 3) := by decide +kernel
theorem dL_alike_13 : decode cL_alike 13 = .ok (.astore 4, 2) := by decide +kernel
theorem dL_alike_15 : decode cL_alike 15 = .ok (.iconst 1, 1) := by decide +kernel
theorem dL_alike_16 : decode cL_alike 16 = .ok (.ireturn, 1) := by decide +kernel
theorem dL_alike_17 : decode cL_alike 17 = .ok (.iconst 0, 1) := by decide +kernel
theorem dL_alike_18 : decode cL_alike 18 = .ok (.ireturn, 1) := by decide +kernel
set_option maxRecDepth 20000 in
theorem ggL_walk_X4_walk : GoodIn wsL_walk wsX4_walk := goodIn_ca (goodIn_r _ [6, 7, 8, 9, 10, 11, 12, 13, 14, 15, 5, 16, 17, 18, 19, 20, 21, 22, 23, 24, 25, 26, 27, 28, 29, 30, 31, 32, 33, 34, 35, 36, 37, 38, 39, 40, 41, 42, 43, 44, 45, 46, 47, 48, 49, 50, 51, 52, 53, 54, 55] (by decide +kernel) (by decide +kernel)) (goodIn_sub (fun _ h => List.mem_cons_of_mem _ (List.mem_append_right _ h)) (by decide +kernel))
set_option maxRecDepth 20000 in
theorem gL_walk_X4_walk : GoodIn wsL_walk (wsV RL 27 RX4 yX4_walk wsX4_walk) := goodIn_app (goodIn_of _ (by decide +kernel)) ggL_walk_X4_walk
theorem dL_walk_0 : decode cL_walk 0 = .ok (.aload_n 2, 1) := by decide +kernel
theorem dL_walk_1 : decode cL_walk 1 = .ok (.iconst 0, 1) := by decide +kernel
theorem dL_walk_2 : decode cL_walk 2 = .ok (.aload_n 0, 1) := by decide +kernel
theorem dL_walk_3 : decode cL_walk 3 = .ok (.iload_n 1, 1) := by decide +kernel
theorem dL_walk_4 : decode cL_walk 4 = .ok (.invokevirtual 27, 3) := by decide +kernel
theorem dL_walk_7 : decode cL_walk 7 = .ok (.i2l, 1) := by decide +kernel
theorem dL_walk_8 : decode cL_walk 8 = .ok (.lastore, 1) := by decide +kernel
theorem dL_walk_9 : decode cL_walk 9 = .ok (.goto 6, 3) := by decide +kernel
theorem dL_walk_12 : decode cL_walk 12 = .ok (.astore_n 3, 1) := by decide +kernel
theorem dL_walk_13 : decode cL_walk 13 = .ok (.iconst 1, 1) := by decide +kernel
theorem dL_walk_14 : decode cL_walk 14 = .ok (.ireturn, 1) := by decide +kernel
theorem dL_walk_15 : decode cL_walk 15 = .ok (.iconst 0, 1) := by decide +kernel
theorem dL_walk_16 : decode cL_walk 16 = .ok (.ireturn, 1) := by decide +kernel
set_option maxRecDepth 20000 in
theorem ggL_set_X4_set : GoodIn wsL_set wsX4_set := goodIn_ca (goodIn_ca (goodIn_r _ [7, 8, 9, 10, 11, 12, 13, 14, 6, 15, 16, 17, 18, 19, 20, 21, 22, 23, 24, 25, 26, 27, 28, 29, 30, 31, 32, 33, 34, 35, 36, 37, 38, 39, 40, 41, 42, 43, 44, 45, 46, 47, 48, 49, 50, 51, 52, 53, 54, 55, 56, 57, 58, 59, 60] (by decide +kernel) (by decide +kernel)) (goodIn_sub (fun _ h => List.mem_cons_of_mem _ (List.mem_append_left _ (List.mem_append_right _ h))) (by decide +kernel))) (goodIn_sub (fun _ h => List.mem_cons_of_mem _ (List.mem_append_right _ h)) (by decide +kernel))
set_option maxRecDepth 20000 in
theorem gL_set_X4_set : GoodIn wsL_set (wsV RL 31 RX4 yX4_set wsX4_set) := goodIn_app (goodIn_of _ (by decide +kernel)) ggL_set_X4_set
theorem dL_set_0 : decode cL_set 0 = .ok (.aload 5, 2) := by decide +kernel
theorem dL_set_2 : decode cL_set 2 = .ok (.iconst 0, 1) := by decide +kernel
theorem dL_set_3 : decode cL_set 3 = .ok (.aload_n 0, 1) := by decide +kernel
theorem dL_set_4 : decode cL_set 4 = .ok (.iload_n 1, 1) := by decide +kernel
theorem dL_set_5 : decode cL_set 5 = .ok (.iload_n 2, 1) := by decide +kernel
theorem dL_set_6 : decode cL_set 6 = .ok (.iload_n 3, 1) := by decide +kernel
theorem dL_set_7 : decode cL_set 7 = .ok (.iload 4, 2) := by decide +kernel
theorem dL_set_9 : decode cL_set 9 = .ok (.invokevirtual 31, 3) := by decide +kernel
theorem dL_set_12 : decode cL_set 12 = .ok (.ifCond .eq 7, 3) := by decide +kernel
theorem dL_set_15 : decode cL_set 15 = .ok (.lconst 1, 1) := by decide +kernel
theorem dL_set_16 : decode cL_set 16 = .ok (.goto 4, 3) := by decide +kernel
theorem dL_set_19 : decode cL_set 19 = .ok (.lconst 0, 1) := by decide +kernel
theorem dL_set_20 : decode cL_set 20 = .ok (.lastore, 1) := by decide +kernel
theorem dL_set_21 : decode cL_set 21 = .ok (.goto 11, 3) := by decide +kernel
theorem dL_set_24 : decode cL_set 24 = .ok (.astore 6, 2) := by decide +kernel
theorem dL_set_26 : decode cL_set 26 = .ok (.iconst 1, 1) := by decide +kernel
theorem dL_set_27 : decode cL_set 27 = .ok (.ireturn, 1) := by decide +kernel
theorem dL_set_28 : decode cL_set 28 = .ok (.astore 6, 2) := by decide +kernel
theorem dL_set_30 : decode cL_set 30 = .ok (.iconst 2, 1) := by decide +kernel
theorem dL_set_31 : decode cL_set 31 = .ok (.ireturn, 1) := by decide +kernel
theorem dL_set_32 : decode cL_set 32 = .ok (.iconst 0, 1) := by decide +kernel
theorem dL_set_33 : decode cL_set 33 = .ok (.ireturn, 1) := by decide +kernel
set_option maxRecDepth 20000 in
theorem ggL_spread_X4_spread : GoodIn wsL_spread wsX4_spread := goodIn_ca (goodIn_ca (goodIn_r _ [7, 8, 9, 10, 11, 12, 6, 13, 14, 15, 16, 17, 18, 19, 20, 21, 22, 23, 24, 25, 26, 27, 28, 29, 30, 31, 32, 33, 34, 35, 36, 37, 38, 39, 40, 41, 42, 43, 44, 45, 46, 47, 48, 49, 50, 51, 52, 53] (by decide +kernel) (by decide +kernel)) (goodIn_sub (fun _ h => List.mem_cons_of_mem _ (List.mem_append_left _ (List.mem_append_right _ h))) (by decide +kernel))) (goodIn_sub (fun _ h => List.mem_cons_of_mem _ (List.mem_append_right _ h)) (by decide +kernel))
set_option maxRecDepth 20000 in
theorem gL_spread_X4_spread : GoodIn wsL_spread (wsV RL 37 RX4 yX4_spread wsX4_spread) := goodIn_app (goodIn_of _ (by decide +kernel)) ggL_spread_X4_spread
theorem dL_spread_0 : decode cL_spread 0 = .ok (.aload_n 0, 1) := by decide +kernel
theorem dL_spread_1 : decode cL_spread 1 = .ok (.iload_n 1, 1) := by decide +kernel
theorem dL_spread_2 : decode cL_spread 2 = .ok (.iload_n 2, 1) := by decide +kernel
theorem dL_spread_3 : decode cL_spread 3 = .ok (.invokevirtual 37, 3) := by decide +kernel
theorem dL_spread_6 : decode cL_spread 6 = .ok (.goto 9, 3) := by decide +kernel
theorem dL_spread_9 : decode cL_spread 9 = .ok (.astore_n 3, 1) := by decide +kernel
theorem dL_spread_10 : decode cL_spread 10 = .ok (.iconst 1, 1) := by decide +kernel
theorem dL_spread_11 : decode cL_spread 11 = .ok (.ireturn, 1) := by decide +kernel
theorem dL_spread_12 : decode cL_spread 12 = .ok (.astore_n 3, 1) := by decide +kernel
theorem dL_spread_13 : decode cL_spread 13 = .ok (.iconst 2, 1) := by decide +kernel
theorem dL_spread_14 : decode cL_spread 14 = .ok (.ireturn, 1) := by decide +kernel
theorem dL_spread_15 : decode cL_spread 15 = .ok (.iconst 0, 1) := by decide +kernel
theorem dL_spread_16 : decode cL_spread 16 = .ok (.ireturn, 1) := by decide +kernel
set_option maxRecDepth 20000 in
theorem ggL_step_X4_step : GoodIn wsL_step wsX4_step := goodIn_ca (goodIn_ca (goodIn_r _ [7, 8, 9, 10, 11, 12, 13, 6, 14, 15, 16, 17, 18, 19, 20, 21, 22, 23, 24, 25, 26, 27, 28, 29, 30, 31, 32, 33, 34, 35, 36, 37, 38, 39, 40, 41, 42, 43, 44, 45, 46, 47, 48, 49, 50, 51, 52, 53, 54, 55, 56, 57, 58, 59, 60, 61, 62, 63, 64, 65, 66, 67, 68, 69, 70, 71, 72, 73, 74, 75, 76, 77, 78, 79, 80] (by decide +kernel) (by decide +kernel)) (goodIn_sub (fun _ h => List.mem_cons_of_mem _ (List.mem_append_left _ (List.mem_append_right _ h))) (by decide +kernel))) (goodIn_sub (fun _ h => List.mem_cons_of_mem _ (List.mem_append_right _ h)) (by decide +kernel))
set_option maxRecDepth 20000 in
theorem gL_step_X4_step : GoodIn wsL_step (wsV RL 41 RX4 yX4_step wsX4_step) := goodIn_app (goodIn_of _ (by decide +kernel)) ggL_step_X4_step
theorem dL_step_0 : decode cL_step 0 = .ok (.aload_n 3, 1) := by decide +kernel
theorem dL_step_1 : decode cL_step 1 = .ok (.iconst 0, 1) := by decide +kernel
theorem dL_step_2 : decode cL_step 2 = .ok (.aload_n 0, 1) := by decide +kernel
theorem dL_step_3 : decode cL_step 3 = .ok (.iload_n 1, 1) := by decide +kernel
theorem dL_step_4 : decode cL_step 4 = .ok (.iload_n 2, 1) := by decide +kernel
theorem dL_step_5 : decode cL_step 5 = .ok (.invokevirtual 41, 3) := by decide +kernel
theorem dL_step_8 : decode cL_step 8 = .ok (.i2l, 1) := by decide +kernel
theorem dL_step_9 : decode cL_step 9 = .ok (.lastore, 1) := by decide +kernel
theorem dL_step_10 : decode cL_step 10 = .ok (.goto 11, 3) := by decide +kernel
theorem dL_step_13 : decode cL_step 13 = .ok (.astore 4, 2) := by decide +kernel
theorem dL_step_15 : decode cL_step 15 = .ok (.iconst 1, 1) := by decide +kernel
theorem dL_step_16 : decode cL_step 16 = .ok (.ireturn, 1) := by decide +kernel
theorem dL_step_17 : decode cL_step 17 = .ok (.astore 4, 2) := by decide +kernel
theorem dL_step_19 : decode cL_step 19 = .ok (.iconst 2, 1) := by decide +kernel
theorem dL_step_20 : decode cL_step 20 = .ok (.ireturn, 1) := by decide +kernel
theorem dL_step_21 : decode cL_step 21 = .ok (.iconst 0, 1) := by decide +kernel
theorem dL_step_22 : decode cL_step 22 = .ok (.ireturn, 1) := by decide +kernel
set_option maxRecDepth 20000 in
theorem ggL_back_X4_back : GoodIn wsL_back wsX4_back := goodIn_ca (goodIn_ca (goodIn_r _ [7, 8, 9, 10, 11, 12, 13, 6, 14, 15, 16, 17, 18, 19, 20, 21, 22, 23, 24, 25, 26, 27, 28, 29, 30, 31, 32, 33, 34, 35, 36, 37, 38, 39, 40, 41, 42, 43, 44, 45, 46, 47, 48, 49, 50, 51, 52, 53, 54, 55, 56, 57, 58, 59, 60, 61, 62, 63, 64, 65, 66, 67, 68, 69, 70, 71] (by decide +kernel) (by decide +kernel)) (goodIn_sub (fun _ h => List.mem_cons_of_mem _ (List.mem_append_left _ (List.mem_append_right _ h))) (by decide +kernel))) (goodIn_sub (fun _ h => List.mem_cons_of_mem _ (List.mem_append_right _ h)) (by decide +kernel))
set_option maxRecDepth 20000 in
theorem gL_back_X4_back : GoodIn wsL_back (wsV RL 44 RX4 yX4_back wsX4_back) := goodIn_app (goodIn_of _ (by decide +kernel)) ggL_back_X4_back
theorem dL_back_0 : decode cL_back 0 = .ok (.aload_n 3, 1) := by decide +kernel
theorem dL_back_1 : decode cL_back 1 = .ok (.iconst 0, 1) := by decide +kernel
theorem dL_back_2 : decode cL_back 2 = .ok (.aload_n 0, 1) := by decide +kernel
theorem dL_back_3 : decode cL_back 3 = .ok (.iload_n 1, 1) := by decide +kernel
theorem dL_back_4 : decode cL_back 4 = .ok (.iload_n 2, 1) := by decide +kernel
theorem dL_back_5 : decode cL_back 5 = .ok (.invokevirtual 44, 3) := by decide +kernel
theorem dL_back_8 : decode cL_back 8 = .ok (.i2l, 1) := by decide +kernel
theorem dL_back_9 : decode cL_back 9 = .ok (.lastore, 1) := by decide +kernel
theorem dL_back_10 : decode cL_back 10 = .ok (.goto 11, 3) := by decide +kernel
theorem dL_back_13 : decode cL_back 13 = .ok (.astore 4, 2) := by decide +kernel
theorem dL_back_15 : decode cL_back 15 = .ok (.iconst 1, 1) := by decide +kernel
theorem dL_back_16 : decode cL_back 16 = .ok (.ireturn, 1) := by decide +kernel
theorem dL_back_17 : decode cL_back 17 = .ok (.astore 4, 2) := by decide +kernel
theorem dL_back_19 : decode cL_back 19 = .ok (.iconst 2, 1) := by decide +kernel
theorem dL_back_20 : decode cL_back 20 = .ok (.ireturn, 1) := by decide +kernel
theorem dL_back_21 : decode cL_back 21 = .ok (.iconst 0, 1) := by decide +kernel
theorem dL_back_22 : decode cL_back 22 = .ok (.ireturn, 1) := by decide +kernel
set_option maxRecDepth 20000 in
theorem ggL_at_X4_at : GoodIn wsL_at wsX4_at := goodIn_ca (goodIn_r _ [6, 7, 8, 9, 10, 11, 12, 5, 13, 14, 15, 16, 17, 18, 19, 20, 21, 22, 23, 24, 25, 26, 27, 28, 29, 30, 31, 32, 33, 34, 35, 36, 37, 38, 39, 40, 41, 42] (by decide +kernel) (by decide +kernel)) (goodIn_sub (fun _ h => List.mem_cons_of_mem _ (List.mem_append_right _ h)) (by decide +kernel))
set_option maxRecDepth 20000 in
theorem gL_at_X4_at : GoodIn wsL_at (wsV RL 47 RX4 yX4_at wsX4_at) := goodIn_app (goodIn_of _ (by decide +kernel)) ggL_at_X4_at
theorem dL_at_0 : decode cL_at 0 = .ok (.aload 4, 2) := by decide +kernel
theorem dL_at_2 : decode cL_at 2 = .ok (.iconst 0, 1) := by decide +kernel
theorem dL_at_3 : decode cL_at 3 = .ok (.aload_n 0, 1) := by decide +kernel
theorem dL_at_4 : decode cL_at 4 = .ok (.iload_n 1, 1) := by decide +kernel
theorem dL_at_5 : decode cL_at 5 = .ok (.iload_n 2, 1) := by decide +kernel
theorem dL_at_6 : decode cL_at 6 = .ok (.iload_n 3, 1) := by decide +kernel
theorem dL_at_7 : decode cL_at 7 = .ok (.invokevirtual 47, 3) := by decide +kernel
theorem dL_at_10 : decode cL_at 10 = .ok (.lastore, 1) := by decide +kernel
theorem dL_at_11 : decode cL_at 11 = .ok (.goto 7, 3) := by decide +kernel
theorem dL_at_14 : decode cL_at 14 = .ok (.astore 5, 2) := by decide +kernel
theorem dL_at_16 : decode cL_at 16 = .ok (.iconst 1, 1) := by decide +kernel
theorem dL_at_17 : decode cL_at 17 = .ok (.ireturn, 1) := by decide +kernel
theorem dL_at_18 : decode cL_at 18 = .ok (.iconst 0, 1) := by decide +kernel
theorem dL_at_19 : decode cL_at 19 = .ok (.ireturn, 1) := by decide +kernel
set_option maxRecDepth 20000 in
theorem ggL_share_X4_share : GoodIn wsL_share wsX4_share := goodIn_ca (goodIn_r _ [6, 7, 8, 9, 10, 11, 5, 12, 13, 14, 15, 16, 17, 18, 19, 20, 21, 22, 23, 24, 25, 26, 27, 28, 29, 30, 31, 32, 33, 34, 35, 36, 37, 38, 39, 40, 41, 42, 43, 44, 45, 46, 47, 48] (by decide +kernel) (by decide +kernel)) (goodIn_sub (fun _ h => List.mem_cons_of_mem _ (List.mem_append_right _ h)) (by decide +kernel))
set_option maxRecDepth 20000 in
theorem gL_share_X4_share : GoodIn wsL_share (wsV RL 51 RX4 yX4_share wsX4_share) := goodIn_app (goodIn_of _ (by decide +kernel)) ggL_share_X4_share
theorem dL_share_0 : decode cL_share 0 = .ok (.aload_n 3, 1) := by decide +kernel
theorem dL_share_1 : decode cL_share 1 = .ok (.iconst 0, 1) := by decide +kernel
theorem dL_share_2 : decode cL_share 2 = .ok (.aload_n 0, 1) := by decide +kernel
theorem dL_share_3 : decode cL_share 3 = .ok (.iload_n 1, 1) := by decide +kernel
theorem dL_share_4 : decode cL_share 4 = .ok (.iload_n 2, 1) := by decide +kernel
theorem dL_share_5 : decode cL_share 5 = .ok (.invokevirtual 51, 3) := by decide +kernel
theorem dL_share_8 : decode cL_share 8 = .ok (.lastore, 1) := by decide +kernel
theorem dL_share_9 : decode cL_share 9 = .ok (.goto 7, 3) := by decide +kernel
theorem dL_share_12 : decode cL_share 12 = .ok (.astore 4, 2) := by decide +kernel
theorem dL_share_14 : decode cL_share 14 = .ok (.iconst 1, 1) := by decide +kernel
theorem dL_share_15 : decode cL_share 15 = .ok (.ireturn, 1) := by decide +kernel
theorem dL_share_16 : decode cL_share 16 = .ok (.iconst 0, 1) := by decide +kernel
theorem dL_share_17 : decode cL_share 17 = .ok (.ireturn, 1) := by decide +kernel
set_option maxRecDepth 20000 in
theorem ggL_of_X4_of : GoodIn wsL_of wsX4_of := goodIn_ca (goodIn_r _ [6, 7, 8, 9, 10, 11, 12, 13, 14, 15, 16, 5, 17, 18, 19, 20, 21, 22, 23, 24, 25, 26, 27, 28, 29, 30, 31, 32, 33, 34, 35, 36] (by decide +kernel) (by decide +kernel)) (goodIn_sub (fun _ h => List.mem_cons_of_mem _ (List.mem_append_right _ h)) (by decide +kernel))
set_option maxRecDepth 20000 in
theorem gL_of_X4_of : GoodIn wsL_of (wsV RL 55 RX4 yX4_of wsX4_of) := goodIn_app (goodIn_of _ (by decide +kernel)) ggL_of_X4_of
theorem dL_of_0 : decode cL_of 0 = .ok (.aload_n 3, 1) := by decide +kernel
theorem dL_of_1 : decode cL_of 1 = .ok (.iconst 0, 1) := by decide +kernel
theorem dL_of_2 : decode cL_of 2 = .ok (.aload_n 0, 1) := by decide +kernel
theorem dL_of_3 : decode cL_of 3 = .ok (.iload_n 1, 1) := by decide +kernel
theorem dL_of_4 : decode cL_of 4 = .ok (.iload_n 2, 1) := by decide +kernel
theorem dL_of_5 : decode cL_of 5 = .ok (.invokevirtual 55, 3) := by decide +kernel
theorem dL_of_8 : decode cL_of 8 = .ok (.i2l, 1) := by decide +kernel
theorem dL_of_9 : decode cL_of 9 = .ok (.lastore, 1) := by decide +kernel
theorem dL_of_10 : decode cL_of 10 = .ok (.goto 7, 3) := by decide +kernel
theorem dL_of_13 : decode cL_of 13 = .ok (.astore 4, 2) := by decide +kernel
theorem dL_of_15 : decode cL_of 15 = .ok (.iconst 1, 1) := by decide +kernel
theorem dL_of_16 : decode cL_of 16 = .ok (.ireturn, 1) := by decide +kernel
theorem dL_of_17 : decode cL_of 17 = .ok (.iconst 0, 1) := by decide +kernel
theorem dL_of_18 : decode cL_of 18 = .ok (.ireturn, 1) := by decide +kernel
set_option maxRecDepth 20000 in
theorem ggL_arrives_X4_arrives : GoodIn wsL_arrives wsX4_arrives := goodIn_ca (goodIn_ca (goodIn_r _ [7, 8, 9, 10, 11, 12, 13, 14, 15, 16, 17, 6, 18, 19, 20, 21, 22, 23, 24, 25, 26, 27, 28, 29, 30, 31, 32, 33, 34, 35, 36, 37, 38, 39, 40, 41, 42, 43, 44, 45, 46, 47, 48, 49, 50, 51, 52, 53, 54, 55, 56, 57, 58, 59, 60, 61, 62, 63, 64, 65, 66, 67, 68, 69, 70, 71, 72, 73, 74, 75, 76, 77, 78, 79, 80, 81, 82, 83, 84, 85, 86, 87, 88, 89, 90, 91, 92, 93, 94, 95, 96, 97, 98, 99] (by decide +kernel) (by decide +kernel)) (goodIn_sub (fun _ h => List.mem_cons_of_mem _ (List.mem_append_left _ (List.mem_append_right _ h))) (by decide +kernel))) (goodIn_sub (fun _ h => List.mem_cons_of_mem _ (List.mem_append_right _ h)) (by decide +kernel))
set_option maxRecDepth 20000 in
theorem gL_arrives_X4_arrives : GoodIn wsL_arrives (wsV RL 58 RX4 yX4_arrives wsX4_arrives) := goodIn_app (goodIn_of _ (by decide +kernel)) ggL_arrives_X4_arrives
theorem dL_arrives_0 : decode cL_arrives 0 = .ok (.aload 4, 2) := by decide +kernel
theorem dL_arrives_2 : decode cL_arrives 2 = .ok (.iconst 0, 1) := by decide +kernel
theorem dL_arrives_3 : decode cL_arrives 3 = .ok (.aload_n 0, 1) := by decide +kernel
theorem dL_arrives_4 : decode cL_arrives 4 = .ok (.iload_n 1, 1) := by decide +kernel
theorem dL_arrives_5 : decode cL_arrives 5 = .ok (.iload_n 2, 1) := by decide +kernel
theorem dL_arrives_6 : decode cL_arrives 6 = .ok (.iload_n 3, 1) := by decide +kernel
theorem dL_arrives_7 : decode cL_arrives 7 = .ok (.invokevirtual 58, 3) := by decide +kernel
theorem dL_arrives_10 : decode cL_arrives 10 = .ok (.i2l, 1) := by decide +kernel
theorem dL_arrives_11 : decode cL_arrives 11 = .ok (.lastore, 1) := by decide +kernel
theorem dL_arrives_12 : decode cL_arrives 12 = .ok (.goto 11, 3) := by decide +kernel
theorem dL_arrives_15 : decode cL_arrives 15 = .ok (.astore 5, 2) := by decide +kernel
theorem dL_arrives_17 : decode cL_arrives 17 = .ok (.iconst 1, 1) := by decide +kernel
theorem dL_arrives_18 : decode cL_arrives 18 = .ok (.ireturn, 1) := by decide +kernel
theorem dL_arrives_19 : decode cL_arrives 19 = .ok (.astore 5, 2) := by decide +kernel
theorem dL_arrives_21 : decode cL_arrives 21 = .ok (.iconst 2, 1) := by decide +kernel
theorem dL_arrives_22 : decode cL_arrives 22 = .ok (.ireturn, 1) := by decide +kernel
theorem dL_arrives_23 : decode cL_arrives 23 = .ok (.iconst 0, 1) := by decide +kernel
theorem dL_arrives_24 : decode cL_arrives 24 = .ok (.ireturn, 1) := by decide +kernel
set_option maxRecDepth 20000 in
theorem ggL_returns_X4_returns : GoodIn wsL_returns wsX4_returns := goodIn_ca (goodIn_ca (goodIn_r _ [7, 8, 9, 10, 11, 12, 13, 14, 15, 16, 17, 6, 18, 19, 20, 21, 22, 23, 24, 25, 26, 27, 28, 29, 30, 31, 32, 33, 34, 35, 36, 37, 38, 39, 40, 41, 42, 43, 44, 45, 46, 47, 48, 49, 50, 51, 52, 53, 54, 55, 56, 57, 58, 59, 60, 61, 62, 63, 64, 65, 66, 67, 68, 69, 70, 71, 72, 73, 74, 75, 76, 77, 78, 79, 80, 81, 82, 83, 84, 85, 86, 87, 88, 89, 90, 91, 92, 93, 94, 95] (by decide +kernel) (by decide +kernel)) (goodIn_sub (fun _ h => List.mem_cons_of_mem _ (List.mem_append_left _ (List.mem_append_right _ h))) (by decide +kernel))) (goodIn_sub (fun _ h => List.mem_cons_of_mem _ (List.mem_append_right _ h)) (by decide +kernel))
set_option maxRecDepth 20000 in
theorem gL_returns_X4_returns : GoodIn wsL_returns (wsV RL 61 RX4 yX4_returns wsX4_returns) := goodIn_app (goodIn_of _ (by decide +kernel)) ggL_returns_X4_returns
theorem dL_returns_0 : decode cL_returns 0 = .ok (.aload_n 3, 1) := by decide +kernel
theorem dL_returns_1 : decode cL_returns 1 = .ok (.iconst 0, 1) := by decide +kernel
theorem dL_returns_2 : decode cL_returns 2 = .ok (.aload_n 0, 1) := by decide +kernel
theorem dL_returns_3 : decode cL_returns 3 = .ok (.iload_n 1, 1) := by decide +kernel
theorem dL_returns_4 : decode cL_returns 4 = .ok (.iload_n 2, 1) := by decide +kernel
theorem dL_returns_5 : decode cL_returns 5 = .ok (.invokevirtual 61, 3) := by decide +kernel
theorem dL_returns_8 : decode cL_returns 8 = .ok (.i2l, 1) := by decide +kernel
theorem dL_returns_9 : decode cL_returns 9 = .ok (.lastore, 1) := by decide +kernel
theorem dL_returns_10 : decode cL_returns 10 = .ok (.goto 11, 3) := by decide +kernel
theorem dL_returns_13 : decode cL_returns 13 = .ok (.astore 4, 2) := by decide +kernel
theorem dL_returns_15 : decode cL_returns 15 = .ok (.iconst 1, 1) := by decide +kernel
theorem dL_returns_16 : decode cL_returns 16 = .ok (.ireturn, 1) := by decide +kernel
theorem dL_returns_17 : decode cL_returns 17 = .ok (.astore 4, 2) := by decide +kernel
theorem dL_returns_19 : decode cL_returns 19 = .ok (.iconst 2, 1) := by decide +kernel
theorem dL_returns_20 : decode cL_returns 20 = .ok (.ireturn, 1) := by decide +kernel
theorem dL_returns_21 : decode cL_returns 21 = .ok (.iconst 0, 1) := by decide +kernel
theorem dL_returns_22 : decode cL_returns 22 = .ok (.ireturn, 1) := by decide +kernel
set_option maxRecDepth 20000 in
theorem ggL_best_X4_best : GoodIn wsL_best wsX4_best := goodIn_ca (goodIn_ca (goodIn_r _ [7, 8, 9, 10, 11, 12, 13, 14, 15, 16, 17, 18, 6, 19, 20, 21, 22, 23, 24, 25, 26, 27, 28, 29, 30, 31, 32, 33, 34, 35, 36, 37, 38, 39, 40, 41, 42, 43, 44, 45, 46, 47, 48, 49, 50, 51, 52, 53, 54, 55, 56, 57, 58, 59, 60, 61, 62, 63, 64, 65, 66, 67, 68, 69, 70, 71, 72, 73, 74, 75, 76, 77, 78, 79, 80, 81, 82, 83, 84, 85, 86, 87, 88, 89, 90, 91, 92, 93, 94, 95, 96, 97] (by decide +kernel) (by decide +kernel)) (goodIn_sub (fun _ h => List.mem_cons_of_mem _ (List.mem_append_left _ (List.mem_append_right _ h))) (by decide +kernel))) (goodIn_sub (fun _ h => List.mem_cons_of_mem _ (List.mem_append_right _ h)) (by decide +kernel))
set_option maxRecDepth 20000 in
theorem gL_best_X4_best : GoodIn wsL_best (wsV RL 64 RX4 yX4_best wsX4_best) := goodIn_app (goodIn_of _ (by decide +kernel)) ggL_best_X4_best
theorem dL_best_0 : decode cL_best 0 = .ok (.aload_n 3, 1) := by decide +kernel
theorem dL_best_1 : decode cL_best 1 = .ok (.iconst 0, 1) := by decide +kernel
theorem dL_best_2 : decode cL_best 2 = .ok (.aload_n 0, 1) := by decide +kernel
theorem dL_best_3 : decode cL_best 3 = .ok (.iload_n 1, 1) := by decide +kernel
theorem dL_best_4 : decode cL_best 4 = .ok (.iload_n 2, 1) := by decide +kernel
theorem dL_best_5 : decode cL_best 5 = .ok (.invokevirtual 64, 3) := by decide +kernel
theorem dL_best_8 : decode cL_best 8 = .ok (.i2l, 1) := by decide +kernel
theorem dL_best_9 : decode cL_best 9 = .ok (.lastore, 1) := by decide +kernel
theorem dL_best_10 : decode cL_best 10 = .ok (.goto 11, 3) := by decide +kernel
theorem dL_best_13 : decode cL_best 13 = .ok (.astore 4, 2) := by decide +kernel
theorem dL_best_15 : decode cL_best 15 = .ok (.iconst 1, 1) := by decide +kernel
theorem dL_best_16 : decode cL_best 16 = .ok (.ireturn, 1) := by decide +kernel
theorem dL_best_17 : decode cL_best 17 = .ok (.astore 4, 2) := by decide +kernel
theorem dL_best_19 : decode cL_best 19 = .ok (.iconst 2, 1) := by decide +kernel
theorem dL_best_20 : decode cL_best 20 = .ok (.ireturn, 1) := by decide +kernel
theorem dL_best_21 : decode cL_best 21 = .ok (.iconst 0, 1) := by decide +kernel
theorem dL_best_22 : decode cL_best 22 = .ok (.ireturn, 1) := by decide +kernel
set_option maxRecDepth 20000 in
theorem ggL_mean_X4_mean : GoodIn wsL_mean wsX4_mean := goodIn_ca (goodIn_ca (goodIn_r _ [7, 8, 9, 10, 11, 12, 13, 14, 15, 16, 17, 6, 18, 19, 20, 21, 22, 23, 24, 25, 26, 27, 28, 29, 30, 31, 32, 33, 34, 35, 36, 37, 38, 39, 40, 41, 42, 43, 44, 45, 46, 47, 48, 49, 50, 51, 52, 53, 54, 55, 56, 57, 58, 59, 60, 61, 62, 63, 64, 65, 66, 67, 68, 69, 70, 71, 72, 73, 74, 75, 76, 77, 78, 79, 80, 81, 82, 83, 84, 85, 86, 87, 88, 89, 90, 91, 92, 93, 94, 95, 96] (by decide +kernel) (by decide +kernel)) (goodIn_sub (fun _ h => List.mem_cons_of_mem _ (List.mem_append_left _ (List.mem_append_right _ h))) (by decide +kernel))) (goodIn_sub (fun _ h => List.mem_cons_of_mem _ (List.mem_append_right _ h)) (by decide +kernel))
set_option maxRecDepth 20000 in
theorem gL_mean_X4_mean : GoodIn wsL_mean (wsV RL 67 RX4 yX4_mean wsX4_mean) := goodIn_app (goodIn_of _ (by decide +kernel)) ggL_mean_X4_mean
theorem dL_mean_0 : decode cL_mean 0 = .ok (.aload 4, 2) := by decide +kernel
theorem dL_mean_2 : decode cL_mean 2 = .ok (.iconst 0, 1) := by decide +kernel
theorem dL_mean_3 : decode cL_mean 3 = .ok (.aload_n 0, 1) := by decide +kernel
theorem dL_mean_4 : decode cL_mean 4 = .ok (.iload_n 1, 1) := by decide +kernel
theorem dL_mean_5 : decode cL_mean 5 = .ok (.iload_n 2, 1) := by decide +kernel
theorem dL_mean_6 : decode cL_mean 6 = .ok (.iload_n 3, 1) := by decide +kernel
theorem dL_mean_7 : decode cL_mean 7 = .ok (.invokevirtual 67, 3) := by decide +kernel
theorem dL_mean_10 : decode cL_mean 10 = .ok (.lastore, 1) := by decide +kernel
theorem dL_mean_11 : decode cL_mean 11 = .ok (.goto 11, 3) := by decide +kernel
theorem dL_mean_14 : decode cL_mean 14 = .ok (.astore 5, 2) := by decide +kernel
theorem dL_mean_16 : decode cL_mean 16 = .ok (.iconst 1, 1) := by decide +kernel
theorem dL_mean_17 : decode cL_mean 17 = .ok (.ireturn, 1) := by decide +kernel
theorem dL_mean_18 : decode cL_mean 18 = .ok (.astore 5, 2) := by decide +kernel
theorem dL_mean_20 : decode cL_mean 20 = .ok (.iconst 2, 1) := by decide +kernel
theorem dL_mean_21 : decode cL_mean 21 = .ok (.ireturn, 1) := by decide +kernel
theorem dL_mean_22 : decode cL_mean 22 = .ok (.iconst 0, 1) := by decide +kernel
theorem dL_mean_23 : decode cL_mean 23 = .ok (.ireturn, 1) := by decide +kernel
set_option maxRecDepth 20000 in
theorem ggL_copy_X4_copy : GoodIn wsL_copy wsX4_copy := goodIn_ca (goodIn_ca (goodIn_r _ [7, 8, 9, 10, 11, 12, 13, 14, 6, 15, 16, 17, 18, 19, 20, 21, 22, 23, 24, 25, 26, 27, 28, 29, 30, 31, 32, 33, 34, 35, 36, 37, 38, 39, 40] (by decide +kernel) (by decide +kernel)) (goodIn_sub (fun _ h => List.mem_cons_of_mem _ (List.mem_append_left _ (List.mem_append_right _ h))) (by decide +kernel))) (goodIn_sub (fun _ h => List.mem_cons_of_mem _ (List.mem_append_right _ h)) (by decide +kernel))
set_option maxRecDepth 20000 in
theorem gL_copy_X4_copy : GoodIn wsL_copy (wsV RL 70 RX4 yX4_copy wsX4_copy) := goodIn_app (goodIn_of _ (by decide +kernel)) ggL_copy_X4_copy
theorem dL_copy_0 : decode cL_copy 0 = .ok (.aload_n 0, 1) := by decide +kernel
theorem dL_copy_1 : decode cL_copy 1 = .ok (.iload_n 1, 1) := by decide +kernel
theorem dL_copy_2 : decode cL_copy 2 = .ok (.iload_n 2, 1) := by decide +kernel
theorem dL_copy_3 : decode cL_copy 3 = .ok (.invokevirtual 70, 3) := by decide +kernel
theorem dL_copy_6 : decode cL_copy 6 = .ok (.goto 9, 3) := by decide +kernel
theorem dL_copy_9 : decode cL_copy 9 = .ok (.astore_n 3, 1) := by decide +kernel
theorem dL_copy_10 : decode cL_copy 10 = .ok (.iconst 1, 1) := by decide +kernel
theorem dL_copy_11 : decode cL_copy 11 = .ok (.ireturn, 1) := by decide +kernel
theorem dL_copy_12 : decode cL_copy 12 = .ok (.astore_n 3, 1) := by decide +kernel
theorem dL_copy_13 : decode cL_copy 13 = .ok (.iconst 2, 1) := by decide +kernel
theorem dL_copy_14 : decode cL_copy 14 = .ok (.ireturn, 1) := by decide +kernel
theorem dL_copy_15 : decode cL_copy 15 = .ok (.iconst 0, 1) := by decide +kernel
theorem dL_copy_16 : decode cL_copy 16 = .ok (.ireturn, 1) := by decide +kernel
set_option maxRecDepth 20000 in
theorem ggL_count_X4_count : GoodIn wsL_count wsX4_count := goodIn_ca (goodIn_r _ [6, 7, 8, 9, 10, 11, 12, 13, 14, 15, 16] (by decide +kernel) (by decide +kernel)) (goodIn_sub (fun _ h => List.mem_cons_of_mem _ (List.mem_append_right _ h)) (by decide +kernel))
set_option maxRecDepth 20000 in
theorem gL_count_X4_count : GoodIn wsL_count (wsV RL 73 RX4 yX4_count wsX4_count) := goodIn_app (goodIn_of _ (by decide +kernel)) ggL_count_X4_count
theorem dL_count_0 : decode cL_count 0 = .ok (.aload_n 2, 1) := by decide +kernel
theorem dL_count_1 : decode cL_count 1 = .ok (.iconst 0, 1) := by decide +kernel
theorem dL_count_2 : decode cL_count 2 = .ok (.aload_n 0, 1) := by decide +kernel
theorem dL_count_3 : decode cL_count 3 = .ok (.iload_n 1, 1) := by decide +kernel
theorem dL_count_4 : decode cL_count 4 = .ok (.invokevirtual 73, 3) := by decide +kernel
theorem dL_count_7 : decode cL_count 7 = .ok (.i2l, 1) := by decide +kernel
theorem dL_count_8 : decode cL_count 8 = .ok (.lastore, 1) := by decide +kernel
theorem dL_count_9 : decode cL_count 9 = .ok (.goto 6, 3) := by decide +kernel
theorem dL_count_12 : decode cL_count 12 = .ok (.astore_n 3, 1) := by decide +kernel
theorem dL_count_13 : decode cL_count 13 = .ok (.iconst 1, 1) := by decide +kernel
theorem dL_count_14 : decode cL_count 14 = .ok (.ireturn, 1) := by decide +kernel
theorem dL_count_15 : decode cL_count 15 = .ok (.iconst 0, 1) := by decide +kernel
theorem dL_count_16 : decode cL_count 16 = .ok (.ireturn, 1) := by decide +kernel
