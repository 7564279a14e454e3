set_option maxRecDepth 20000 in
theorem ggL_fit_X6_fit : GoodIn wsL_fit wsX6_fit := goodIn_ca (goodIn_ca (goodIn_ca (goodIn_r _ [8, 9, 10, 11, 12, 13, 14, 7, 15, 16, 17, 18, 19, 20, 21, 22, 23, 24, 25, 26, 27, 28, 29, 30, 31, 32, 33, 34, 35, 36, 37, 38, 39, 40, 41, 42, 43, 44, 45, 46, 47, 48, 49, 50, 51, 52, 53, 54, 55, 56, 57, 58, 59, 60, 61, 62, 63, 64, 65, 66] (by decide +kernel) (by decide +kernel)) (goodIn_sub (fun _ h => List.mem_cons_of_mem _ (List.mem_append_left _ (List.mem_append_left _ (List.mem_append_right _ h)))) (by decide +kernel))) (goodIn_sub (fun _ h => List.mem_cons_of_mem _ (List.mem_append_left _ (List.mem_append_right _ h))) (by decide +kernel))) (goodIn_sub (fun _ h => List.mem_cons_of_mem _ (List.mem_append_right _ h)) (by decide +kernel))
set_option maxRecDepth 20000 in
theorem gL_fit_X6_fit : GoodIn wsL_fit (wsV RL 7 RX6 yX6_fit wsX6_fit) := goodIn_app (goodIn_of _ (by decide +kernel)) ggL_fit_X6_fit
theorem dL_fit_0 : decode cL_fit 0 = .ok (.aload_n 0, 1) := by decide +kernel
theorem dL_fit_1 : decode cL_fit 1 = .ok (.iload_n 1, 1) := by decide +kernel
theorem dL_fit_2 : decode cL_fit 2 = .ok (.iload_n 2, 1) := by decide +kernel
theorem dL_fit_3 : decode cL_fit 3 = .ok (.iload_n 3, 1) := by decide +kernel
theorem dL_fit_4 : decode cL_fit 4 = .ok (.fload 4, 2) := by decide +kernel
theorem dL_fit_6 : decode cL_fit 6 = .ok (.invokevirtual 7, 3) := by decide +kernel
theorem dL_fit_9 : decode cL_fit 9 = .ok (.goto 15, 3) := by decide +kernel
theorem dL_fit_12 : decode cL_fit 12 = .ok (.astore 5, 2) := by decide +kernel
theorem dL_fit_14 : decode cL_fit 14 = .ok (.iconst 1, 1) := by decide +kernel
theorem dL_fit_15 : decode cL_fit 15 = .ok (.ireturn, 1) := by decide +kernel
theorem dL_fit_16 : decode cL_fit 16 = .ok (.astore 5, 2) := by decide +kernel
theorem dL_fit_18 : decode cL_fit 18 = .ok (.iconst 2, 1) := by decide +kernel
theorem dL_fit_19 : decode cL_fit 19 = .ok (.ireturn, 1) := by decide +kernel
theorem dL_fit_20 : decode cL_fit 20 = .ok (.astore 5, 2) := by decide +kernel
theorem dL_fit_22 : decode cL_fit 22 = .ok (.iconst 3, 1) := by decide +kernel
theorem dL_fit_23 : decode cL_fit 23 = .ok (.ireturn, 1) := by decide +kernel
theorem dL_fit_24 : decode cL_fit 24 = .ok (.iconst 0, 1) := by decide +kernel
theorem dL_fit_25 : decode cL_fit 25 = .ok (.ireturn, 1) := by decide +kernel
set_option maxRecDepth 20000 in
theorem ggL_need_X6_need : GoodIn wsL_need wsX6_need := goodIn_ca (goodIn_ca (goodIn_ca (goodIn_r _ [8, 9, 10, 11, 12, 7, 13, 14, 15, 16, 17, 18, 19, 20, 21, 22, 23, 24, 25, 26, 27, 28, 29, 30, 31, 32, 33, 34, 35, 36, 37, 38, 39, 40] (by decide +kernel) (by decide +kernel)) (goodIn_sub (fun _ h => List.mem_cons_of_mem _ (List.mem_append_left _ (List.mem_append_left _ (List.mem_append_right _ h)))) (by decide +kernel))) (goodIn_sub (fun _ h => List.mem_cons_of_mem _ (List.mem_append_left _ (List.mem_append_right _ h))) (by decide +kernel))) (goodIn_sub (fun _ h => List.mem_cons_of_mem _ (List.mem_append_right _ h)) (by decide +kernel))
set_option maxRecDepth 20000 in
theorem gL_need_X6_need : GoodIn wsL_need (wsV RL 19 RX6 yX6_need wsX6_need) := goodIn_app (goodIn_of _ (by decide +kernel)) ggL_need_X6_need
theorem dL_need_0 : decode cL_need 0 = .ok (.aload_n 0, 1) := by decide +kernel
theorem dL_need_1 : decode cL_need 1 = .ok (.iload_n 1, 1) := by decide +kernel
theorem dL_need_2 : decode cL_need 2 = .ok (.iload_n 2, 1) := by decide +kernel
theorem dL_need_3 : decode cL_need 3 = .ok (.invokevirtual 19, 3) := by decide +kernel
theorem dL_need_6 : decode cL_need 6 = .ok (.goto 12, 3) := by decide +kernel
theorem dL_need_9 : decode cL_need 9 = .ok (.astore_n 3, 1) := by decide +kernel
theorem dL_need_10 : decode cL_need 10 = .ok (.iconst 1, 1) := by decide +kernel
theorem dL_need_11 : decode cL_need 11 = .ok (.ireturn, 1) := by decide +kernel
theorem dL_need_12 : decode cL_need 12 = .ok (.astore_n 3, 1) := by decide +kernel
theorem dL_need_13 : decode cL_need 13 = .ok (.iconst 2, 1) := by decide +kernel
theorem dL_need_14 : decode cL_need 14 = .ok (.ireturn, 1) := by decide +kernel
theorem dL_need_15 : decode cL_need 15 = .ok (.astore_n 3, 1) := by decide +kernel
theorem dL_need_16 : decode cL_need 16 = .ok (.iconst 3, 1) := by decide +kernel
theorem dL_need_17 : decode cL_need 17 = .ok (.ireturn, 1) := by decide +kernel
theorem dL_need_18 : decode cL_need 18 = .ok (.iconst 0, 1) := by decide +kernel
theorem dL_need_19 : decode cL_need 19 = .ok (.ireturn, 1) := by decide +kernel
set_option maxRecDepth 20000 in
theorem ggL_wire_X6_wire : GoodIn wsL_wire wsX6_wire := goodIn_ca (goodIn_ca (goodIn_r _ [7, 8, 9, 10, 11, 6, 12, 13, 14, 15, 16, 17, 18, 19, 20, 21, 22, 23, 24, 25, 26, 27, 28, 29, 30, 31] (by decide +kernel) (by decide +kernel)) (goodIn_sub (fun _ h => List.mem_cons_of_mem _ (List.mem_append_left _ (List.mem_append_right _ h))) (by decide +kernel))) (goodIn_sub (fun _ h => List.mem_cons_of_mem _ (List.mem_append_right _ h)) (by decide +kernel))
set_option maxRecDepth 20000 in
theorem gL_wire_X6_wire : GoodIn wsL_wire (wsV RL 23 RX6 yX6_wire wsX6_wire) := goodIn_app (goodIn_of _ (by decide +kernel)) ggL_wire_X6_wire
theorem dL_wire_0 : decode cL_wire 0 = .ok (.aload_n 0, 1) := by decide +kernel
theorem dL_wire_1 : decode cL_wire 1 = .ok (.iload_n 1, 1) := by decide +kernel
theorem dL_wire_2 : decode cL_wire 2 = .ok (.iload_n 2, 1) := by decide +kernel
theorem dL_wire_3 : decode cL_wire 3 = .ok (.invokevirtual 23, 3) := by decide +kernel
theorem dL_wire_6 : decode cL_wire 6 = .ok (.goto 9, 3) := by decide +kernel
theorem dL_wire_9 : decode cL_wire 9 = .ok (.astore_n 3, 1) := by decide +kernel
theorem dL_wire_10 : decode cL_wire 10 = .ok (.iconst 1, 1) := by decide +kernel
theorem dL_wire_11 : decode cL_wire 11 = .ok (.ireturn, 1) := by decide +kernel
theorem dL_wire_12 : decode cL_wire 12 = .ok (.astore_n 3, 1) := by decide +kernel
theorem dL_wire_13 : decode cL_wire 13 = .ok (.iconst 2, 1) := by decide +kernel
theorem dL_wire_14 : decode cL_wire 14 = .ok (.ireturn, 1) := by decide +kernel
theorem dL_wire_15 : decode cL_wire 15 = .ok (.iconst 0, 1) := by decide +kernel
theorem dL_wire_16 : decode cL_wire 16 = .ok (.ireturn, 1) := by decide +kernel
set_option maxRecDepth 20000 in
theorem ggL_reading_X6_reading : GoodIn wsL_reading wsX6_reading := goodIn_ca (goodIn_ca (goodIn_r _ [7, 8, 9, 10, 11, 12, 13, 14, 6, 15, 16, 17, 18, 19, 20, 21, 22, 23, 24, 25, 26, 27, 28, 29, 30, 31, 32, 33, 34, 35, 36, 37, 38, 39, 40, 41, 42, 43, 44, 45] (by decide +kernel) (by decide +kernel)) (goodIn_sub (fun _ h => List.mem_cons_of_mem _ (List.mem_append_left _ (List.mem_append_right _ h))) (by decide +kernel))) (goodIn_sub (fun _ h => List.mem_cons_of_mem _ (List.mem_append_right _ h)) (by decide +kernel))
set_option maxRecDepth 20000 in
theorem gL_reading_X6_reading : GoodIn wsL_reading (wsV RL 26 RX6 yX6_reading wsX6_reading) := goodIn_app (goodIn_of _ (by decide +kernel)) ggL_reading_X6_reading
theorem dL_reading_0 : decode cL_reading 0 = .ok (.aload_n 0, 1) := by decide +kernel
theorem dL_reading_1 : decode cL_reading 1 = .ok (.iload_n 1, 1) := by decide +kernel
theorem dL_reading_2 : decode cL_reading 2 = .ok (.fload_n 2, 1) := by decide +kernel
theorem dL_reading_3 : decode cL_reading 3 = .ok (.invokevirtual 26, 3) := by decide +kernel
theorem dL_reading_6 : decode cL_reading 6 = .ok (.goto 9, 3) := by decide +kernel
theorem dL_reading_9 : decode cL_reading 9 = .ok (.astore_n 3, 1) := by decide +kernel
theorem dL_reading_10 : decode cL_reading 10 = .ok (.iconst 1, 1) := by decide +kernel
theorem dL_reading_11 : decode cL_reading 11 = .ok (.ireturn, 1) := by decide +kernel
theorem dL_reading_12 : decode cL_reading 12 = .ok (.astore_n 3, 1) := by decide +kernel
theorem dL_reading_13 : decode cL_reading 13 = .ok (.iconst 2, 1) := by decide +kernel
theorem dL_reading_14 : decode cL_reading 14 = .ok (.ireturn, 1) := by decide +kernel
theorem dL_reading_15 : decode cL_reading 15 = .ok (.iconst 0, 1) := by decide +kernel
theorem dL_reading_16 : decode cL_reading 16 = .ok (.ireturn, 1) := by decide +kernel
set_option maxRecDepth 20000 in
theorem ggL_rule_X6_rule : GoodIn wsL_rule wsX6_rule := goodIn_ca (goodIn_r _ [6, 7, 8, 9, 10, 11, 12, 13, 14, 15, 5, 16, 17, 18, 19, 20, 21, 22, 23, 24, 25, 26, 27, 28, 29, 30, 31, 32, 33, 34, 35, 36, 37, 38, 39, 40, 41, 42, 43, 44, 45, 46, 47, 48, 49, 50, 51, 52, 53, 54, 55, 56, 57, 58, 59, 60, 61, 62, 63, 64, 65, 66, 67, 68, 69, 70, 71, 72, 73, 74, 75, 76, 77, 78, 79, 80, 81, 82, 83, 84, 85, 86, 87] (by decide +kernel) (by decide +kernel)) (goodIn_sub (fun _ h => List.mem_cons_of_mem _ (List.mem_append_right _ h)) (by decide +kernel))
set_option maxRecDepth 20000 in
theorem gL_rule_X6_rule : GoodIn wsL_rule (wsV RL 30 RX6 yX6_rule wsX6_rule) := goodIn_app (goodIn_of _ (by decide +kernel)) ggL_rule_X6_rule
theorem dL_rule_0 : decode cL_rule 0 = .ok (.aload_n 1, 1) := by decide +kernel
theorem dL_rule_1 : decode cL_rule 1 = .ok (.iconst 0, 1) := by decide +kernel
theorem dL_rule_2 : decode cL_rule 2 = .ok (.aload_n 0, 1) := by decide +kernel
theorem dL_rule_3 : decode cL_rule 3 = .ok (.invokevirtual 30, 3) := by decide +kernel
theorem dL_rule_6 : decode cL_rule 6 = .ok (.i2l, 1) := by decide +kernel
theorem dL_rule_7 : decode cL_rule 7 = .ok (.lastore, 1) := by decide +kernel
theorem dL_rule_8 : decode cL_rule 8 = .ok (.goto 6, 3) := by decide +kernel
theorem dL_rule_11 : decode cL_rule 11 = .ok (.astore_n 2, 1) := by decide +kernel
theorem dL_rule_12 : decode cL_rule 12 = .ok (.iconst 1, 1) := by decide +kernel
theorem dL_rule_13 : decode cL_rule 13 = .ok (.ireturn, 1) := by decide +kernel
theorem dL_rule_14 : decode cL_rule 14 = .ok (.iconst 0, 1) := by decide +kernel
theorem dL_rule_15 : decode cL_rule 15 = .ok (.ireturn, 1) := by decide +kernel
set_option maxRecDepth 20000 in
theorem ggL_forget_X6_forget : GoodIn wsL_forget wsX6_forget := goodIn_ca (goodIn_r _ [6, 7, 8, 9, 10, 5, 11, 12, 13, 14, 15, 16, 17, 18, 19, 20, 21, 22, 23, 24, 25, 26, 27, 28, 29] (by decide +kernel) (by decide +kernel)) (goodIn_sub (fun _ h => List.mem_cons_of_mem _ (List.mem_append_right _ h)) (by decide +kernel))
set_option maxRecDepth 20000 in
theorem gL_forget_X6_forget : GoodIn wsL_forget (wsV RL 34 RX6 yX6_forget wsX6_forget) := goodIn_app (goodIn_of _ (by decide +kernel)) ggL_forget_X6_forget
theorem dL_forget_0 : decode cL_forget 0 = .ok (.aload_n 1, 1) := by decide +kernel
theorem dL_forget_1 : decode cL_forget 1 = .ok (.iconst 0, 1) := by decide +kernel
theorem dL_forget_2 : decode cL_forget 2 = .ok (.aload_n 0, 1) := by decide +kernel
theorem dL_forget_3 : decode cL_forget 3 = .ok (.invokevirtual 34, 3) := by decide +kernel
theorem dL_forget_6 : decode cL_forget 6 = .ok (.i2l, 1) := by decide +kernel
theorem dL_forget_7 : decode cL_forget 7 = .ok (.lastore, 1) := by decide +kernel
theorem dL_forget_8 : decode cL_forget 8 = .ok (.goto 6, 3) := by decide +kernel
theorem dL_forget_11 : decode cL_forget 11 = .ok (.astore_n 2, 1) := by decide +kernel
theorem dL_forget_12 : decode cL_forget 12 = .ok (.iconst 1, 1) := by decide +kernel
theorem dL_forget_13 : decode cL_forget 13 = .ok (.ireturn, 1) := by decide +kernel
theorem dL_forget_14 : decode cL_forget 14 = .ok (.iconst 0, 1) := by decide +kernel
theorem dL_forget_15 : decode cL_forget 15 = .ok (.ireturn, 1) := by decide +kernel
set_option maxRecDepth 20000 in
theorem ggL_silence_X6_silence : GoodIn wsL_silence wsX6_silence := goodIn_ca (goodIn_r _ [6, 7, 8, 9, 10, 11, 12, 5, 13, 14, 15, 16, 17, 18, 19, 20, 21, 22, 23, 24, 25, 26, 27, 28, 29, 30, 31, 32, 33, 34, 35, 36, 37, 38, 39, 40, 41, 42, 43] (by decide +kernel) (by decide +kernel)) (goodIn_sub (fun _ h => List.mem_cons_of_mem _ (List.mem_append_right _ h)) (by decide +kernel))
set_option maxRecDepth 20000 in
theorem gL_silence_X6_silence : GoodIn wsL_silence (wsV RL 37 RX6 yX6_silence wsX6_silence) := goodIn_app (goodIn_of _ (by decide +kernel)) ggL_silence_X6_silence
theorem dL_silence_0 : decode cL_silence 0 = .ok (.aload_n 1, 1) := by decide +kernel
theorem dL_silence_1 : decode cL_silence 1 = .ok (.iconst 0, 1) := by decide +kernel
theorem dL_silence_2 : decode cL_silence 2 = .ok (.aload_n 0, 1) := by decide +kernel
theorem dL_silence_3 : decode cL_silence 3 = .ok (.invokevirtual 37, 3) := by decide +kernel
theorem dL_silence_6 : decode cL_silence 6 = .ok (.ifCond .eq 7, 3) := by decide +kernel
theorem dL_silence_9 : decode cL_silence 9 = .ok (.lconst 1, 1) := by decide +kernel
theorem dL_silence_10 : decode cL_silence 10 = .ok (.goto 4, 3) := by decide +kernel
theorem dL_silence_13 : decode cL_silence 13 = .ok (.lconst 0, 1) := by decide +kernel
theorem dL_silence_14 : decode cL_silence 14 = .ok (.lastore, 1) := by decide +kernel
theorem dL_silence_15 : decode cL_silence 15 = .ok (.goto 6, 3) := by decide +kernel
theorem dL_silence_18 : decode cL_silence 18 = .ok (.astore_n 2, 1) := by decide +kernel
theorem dL_silence_19 : decode cL_silence 19 = .ok (.iconst 1, 1) := by decide +kernel
theorem dL_silence_20 : decode cL_silence 20 = .ok (.ireturn, 1) := by decide +kernel
theorem dL_silence_21 : decode cL_silence 21 = .ok (.iconst 0, 1) := by decide +kernel
theorem dL_silence_22 : decode cL_silence 22 = .ok (.ireturn, 1) := by decide +kernel
set_option maxRecDepth 20000 in
theorem ggL_reset_X6_reset : GoodIn wsL_reset wsX6_reset := goodIn_ca (goodIn_r _ [6, 7, 8, 9, 10, 11, 12, 13, 14, 15, 16, 17, 18, 5, 19, 20, 21, 22, 23, 24, 25, 26, 27, 28, 29, 30, 31, 32, 33, 34, 35, 36, 37, 38, 39, 40, 41, 42, 43, 44, 45, 46, 47, 48, 49, 50, 51, 52, 53, 54, 55, 56, 57, 58, 59, 60, 61, 62, 63, 64, 65, 66, 67, 68, 69, 70, 71, 72, 73, 74, 75, 76, 77, 78, 79, 80, 81, 82] (by decide +kernel) (by decide +kernel)) (goodIn_sub (fun _ h => List.mem_cons_of_mem _ (List.mem_append_right _ h)) (by decide +kernel))
set_option maxRecDepth 20000 in
theorem gL_reset_X6_reset : GoodIn wsL_reset (wsV RL 41 RX6 yX6_reset wsX6_reset) := goodIn_app (goodIn_of _ (by decide +kernel)) ggL_reset_X6_reset
theorem dL_reset_0 : decode cL_reset 0 = .ok (.aload_n 1, 1) := by decide +kernel
theorem dL_reset_1 : decode cL_reset 1 = .ok (.iconst 0, 1) := by decide +kernel
theorem dL_reset_2 : decode cL_reset 2 = .ok (.aload_n 0, 1) := by decide +kernel
theorem dL_reset_3 : decode cL_reset 3 = .ok (.invokevirtual 41, 3) := by decide +kernel
theorem dL_reset_6 : decode cL_reset 6 = .ok (.i2l, 1) := by decide +kernel
theorem dL_reset_7 : decode cL_reset 7 = .ok (.lastore, 1) := by decide +kernel
theorem dL_reset_8 : decode cL_reset 8 = .ok (.goto 6, 3) := by decide +kernel
theorem dL_reset_11 : decode cL_reset 11 = .ok (.astore_n 2, 1) := by decide +kernel
theorem dL_reset_12 : decode cL_reset 12 = .ok (.iconst 1, 1) := by decide +kernel
theorem dL_reset_13 : decode cL_reset 13 = .ok (.ireturn, 1) := by decide +kernel
theorem dL_reset_14 : decode cL_reset 14 = .ok (.iconst 0, 1) := by decide +kernel
theorem dL_reset_15 : decode cL_reset 15 = .ok (.ireturn, 1) := by decide +kernel
set_option maxRecDepth 20000 in
theorem ggL_off_X6_off : GoodIn wsL_off wsX6_off := goodIn_ca (goodIn_ca (goodIn_r _ [7, 8, 9, 10, 11, 12, 13, 14, 15, 16, 6, 17, 18, 19, 20, 21, 22, 23, 24, 25, 26, 27, 28, 29, 30, 31, 32, 33, 34, 35, 36, 37, 38, 39, 40, 41, 42, 43, 44, 45, 46, 47, 48, 49, 50, 51, 52, 53, 54, 55, 56, 57, 58, 59, 60, 61, 62, 63, 64, 65, 66, 67, 68, 69] (by decide +kernel) (by decide +kernel)) (goodIn_sub (fun _ h => List.mem_cons_of_mem _ (List.mem_append_left _ (List.mem_append_right _ h))) (by decide +kernel))) (goodIn_sub (fun _ h => List.mem_cons_of_mem _ (List.mem_append_right _ h)) (by decide +kernel))
set_option maxRecDepth 20000 in
theorem gL_off_X6_off : GoodIn wsL_off (wsV RL 44 RX6 yX6_off wsX6_off) := goodIn_app (goodIn_of _ (by decide +kernel)) ggL_off_X6_off
theorem dL_off_0 : decode cL_off 0 = .ok (.aload 4, 2) := by decide +kernel
theorem dL_off_2 : decode cL_off 2 = .ok (.iconst 0, 1) := by decide +kernel
theorem dL_off_3 : decode cL_off 3 = .ok (.aload_n 0, 1) := by decide +kernel
theorem dL_off_4 : decode cL_off 4 = .ok (.iload_n 1, 1) := by decide +kernel
theorem dL_off_5 : decode cL_off 5 = .ok (.iload_n 2, 1) := by decide +kernel
theorem dL_off_6 : decode cL_off 6 = .ok (.iload_n 3, 1) := by decide +kernel
theorem dL_off_7 : decode cL_off 7 = .ok (.invokevirtual 44, 3) := by decide +kernel
theorem dL_off_10 : decode cL_off 10 = .ok (.ifCond .eq 7, 3) := by decide +kernel
theorem dL_off_13 : decode cL_off 13 = .ok (.lconst 1, 1) := by decide +kernel
theorem dL_off_14 : decode cL_off 14 = .ok (.goto 4, 3) := by decide +kernel
theorem dL_off_17 : decode cL_off 17 = .ok (.lconst 0, 1) := by decide +kernel
theorem dL_off_18 : decode cL_off 18 = .ok (.lastore, 1) := by decide +kernel
theorem dL_off_19 : decode cL_off 19 = .ok (.goto 11, 3) := by decide +kernel
theorem dL_off_22 : decode cL_off 22 = .ok (.astore 5, 2) := by decide +kernel
theorem dL_off_24 : decode cL_off 24 = .ok (.iconst 1, 1) := by decide +kernel
theorem dL_off_25 : decode cL_off 25 = .ok (.ireturn, 1) := by decide +kernel
theorem dL_off_26 : decode cL_off 26 = .ok (.astore 5, 2) := by decide +kernel
theorem dL_off_28 : decode cL_off 28 = .ok (.iconst 2, 1) := by decide +kernel
theorem dL_off_29 : decode cL_off 29 = .ok (.ireturn, 1) := by decide +kernel
theorem dL_off_30 : decode cL_off 30 = .ok (.iconst 0, 1) := by decide +kernel
theorem dL_off_31 : decode cL_off 31 = .ok (.ireturn, 1) := by decide +kernel
set_option maxRecDepth 20000 in
theorem ggL_level_X6_level : GoodIn wsL_level wsX6_level := goodIn_ca (goodIn_r _ [6, 7, 8, 9, 10, 11, 5, 12, 13, 14, 15, 16, 17, 18, 19, 20, 21, 22, 23, 24, 25, 26, 27, 28, 29, 30, 31, 32, 33, 34, 35, 36, 37] (by decide +kernel) (by decide +kernel)) (goodIn_sub (fun _ h => List.mem_cons_of_mem _ (List.mem_append_right _ h)) (by decide +kernel))
set_option maxRecDepth 20000 in
theorem gL_level_X6_level : GoodIn wsL_level (wsV RL 48 RX6 yX6_level wsX6_level) := goodIn_app (goodIn_of _ (by decide +kernel)) ggL_level_X6_level
theorem dL_level_0 : decode cL_level 0 = .ok (.aload_n 2, 1) := by decide +kernel
theorem dL_level_1 : decode cL_level 1 = .ok (.iconst 0, 1) := by decide +kernel
theorem dL_level_2 : decode cL_level 2 = .ok (.aload_n 0, 1) := by decide +kernel
theorem dL_level_3 : decode cL_level 3 = .ok (.iload_n 1, 1) := by decide +kernel
theorem dL_level_4 : decode cL_level 4 = .ok (.invokevirtual 48, 3) := by decide +kernel
theorem dL_level_7 : decode cL_level 7 = .ok (.f2d, 1) := by decide +kernel
theorem dL_level_8 : decode cL_level 8 = .ok (.dastore, 1) := by decide +kernel
theorem dL_level_9 : decode cL_level 9 = .ok (.goto 6, 3) := by decide +kernel
theorem dL_level_12 : decode cL_level 12 = .ok (.astore_n 3, 1) := by decide +kernel
theorem dL_level_13 : decode cL_level 13 = .ok (.iconst 1, 1) := by decide +kernel
theorem dL_level_14 : decode cL_level 14 = .ok (.ireturn, 1) := by decide +kernel
theorem dL_level_15 : decode cL_level 15 = .ok (.iconst 0, 1) := by decide +kernel
theorem dL_level_16 : decode cL_level 16 = .ok (.ireturn, 1) := by decide +kernel
set_option maxRecDepth 20000 in
theorem ggL_base_X6_base : GoodIn wsL_base wsX6_base := goodIn_ca (goodIn_r _ [6, 7, 8, 9, 10, 11, 5, 12, 13, 14, 15, 16, 17, 18, 19, 20, 21, 22, 23, 24, 25, 26, 27, 28, 29, 30, 31, 32, 33, 34, 35, 36, 37] (by decide +kernel) (by decide +kernel)) (goodIn_sub (fun _ h => List.mem_cons_of_mem _ (List.mem_append_right _ h)) (by decide +kernel))
set_option maxRecDepth 20000 in
theorem gL_base_X6_base : GoodIn wsL_base (wsV RL 52 RX6 yX6_base wsX6_base) := goodIn_app (goodIn_of _ (by decide +kernel)) ggL_base_X6_base
theorem dL_base_0 : decode cL_base 0 = .ok (.aload_n 2, 1) := by decide +kernel
theorem dL_base_1 : decode cL_base 1 = .ok (.iconst 0, 1) := by decide +kernel
theorem dL_base_2 : decode cL_base 2 = .ok (.aload_n 0, 1) := by decide +kernel
theorem dL_base_3 : decode cL_base 3 = .ok (.iload_n 1, 1) := by decide +kernel
theorem dL_base_4 : decode cL_base 4 = .ok (.invokevirtual 52, 3) := by decide +kernel
theorem dL_base_7 : decode cL_base 7 = .ok (.f2d, 1) := by decide +kernel
theorem dL_base_8 : decode cL_base 8 = .ok (.dastore, 1) := by decide +kernel
theorem dL_base_9 : decode cL_base 9 = .ok (.goto 6, 3) := by decide +kernel
theorem dL_base_12 : decode cL_base 12 = .ok (.astore_n 3, 1) := by decide +kernel
theorem dL_base_13 : decode cL_base 13 = .ok (.iconst 1, 1) := by decide +kernel
theorem dL_base_14 : decode cL_base 14 = .ok (.ireturn, 1) := by decide +kernel
theorem dL_base_15 : decode cL_base 15 = .ok (.iconst 0, 1) := by decide +kernel
theorem dL_base_16 : decode cL_base 16 = .ok (.ireturn, 1) := by decide +kernel
set_option maxRecDepth 20000 in
theorem ggL_place_X6_place : GoodIn wsL_place wsX6_place := goodIn_ca (goodIn_r _ [6, 7, 8, 9, 10, 11, 12, 13, 14, 5, 15, 16, 17, 18, 19, 20, 21, 22, 23, 24, 25, 26, 27, 28, 29, 30, 31, 32, 33, 34, 35, 36, 37, 38, 39, 40, 41, 42, 43, 44, 45, 46, 47, 48, 49, 50, 51, 52, 53, 54, 55, 56] (by decide +kernel) (by decide +kernel)) (goodIn_sub (fun _ h => List.mem_cons_of_mem _ (List.mem_append_right _ h)) (by decide +kernel))
set_option maxRecDepth 20000 in
theorem gL_place_X6_place : GoodIn wsL_place (wsV RL 55 RX6 yX6_place wsX6_place) := goodIn_app (goodIn_of _ (by decide +kernel)) ggL_place_X6_place
theorem dL_place_0 : decode cL_place 0 = .ok (.aload_n 2, 1) := by decide +kernel
theorem dL_place_1 : decode cL_place 1 = .ok (.iconst 0, 1) := by decide +kernel
theorem dL_place_2 : decode cL_place 2 = .ok (.aload_n 0, 1) := by decide +kernel
theorem dL_place_3 : decode cL_place 3 = .ok (.iload_n 1, 1) := by decide +kernel
theorem dL_place_4 : decode cL_place 4 = .ok (.invokevirtual 55, 3) := by decide +kernel
theorem dL_place_7 : decode cL_place 7 = .ok (.i2l, 1) := by decide +kernel
theorem dL_place_8 : decode cL_place 8 = .ok (.lastore, 1) := by decide +kernel
theorem dL_place_9 : decode cL_place 9 = .ok (.goto 6, 3) := by decide +kernel
theorem dL_place_12 : decode cL_place 12 = .ok (.astore_n 3, 1) := by decide +kernel
theorem dL_place_13 : decode cL_place 13 = .ok (.iconst 1, 1) := by decide +kernel
theorem dL_place_14 : decode cL_place 14 = .ok (.ireturn, 1) := by decide +kernel
theorem dL_place_15 : decode cL_place 15 = .ok (.iconst 0, 1) := by decide +kernel
theorem dL_place_16 : decode cL_place 16 = .ok (.ireturn, 1) := by decide +kernel
set_option maxRecDepth 20000 in
theorem ggL_zone_X6_zone : GoodIn wsL_zone wsX6_zone := goodIn_ca (goodIn_r _ [6, 7, 8, 9, 10, 11, 5, 12, 13, 14, 15, 16, 17, 18, 19, 20, 21, 22, 23, 24, 25, 26, 27, 28, 29, 30, 31, 32, 33, 34, 35, 36, 37, 38, 39, 40, 41, 42, 43, 44, 45, 46, 47, 48, 49, 50, 51, 52, 53, 54, 55, 56, 57, 58, 59, 60, 61, 62, 63, 64, 65, 66] (by decide +kernel) (by decide +kernel)) (goodIn_sub (fun _ h => List.mem_cons_of_mem _ (List.mem_append_right _ h)) (by decide +kernel))
set_option maxRecDepth 20000 in
theorem gL_zone_X6_zone : GoodIn wsL_zone (wsV RL 59 RX6 yX6_zone wsX6_zone) := goodIn_app (goodIn_of _ (by decide +kernel)) ggL_zone_X6_zone
theorem dL_zone_0 : decode cL_zone 0 = .ok (.aload_n 2, 1) := by decide +kernel
theorem dL_zone_1 : decode cL_zone 1 = .ok (.iconst 0, 1) := by decide +kernel
theorem dL_zone_2 : decode cL_zone 2 = .ok (.aload_n 0, 1) := by decide +kernel
theorem dL_zone_3 : decode cL_zone 3 = .ok (.iload_n 1, 1) := by decide +kernel
theorem dL_zone_4 : decode cL_zone 4 = .ok (.invokevirtual 59, 3) := by decide +kernel
theorem dL_zone_7 : decode cL_zone 7 = .ok (.i2l, 1) := by decide +kernel
theorem dL_zone_8 : decode cL_zone 8 = .ok (.lastore, 1) := by decide +kernel
theorem dL_zone_9 : decode cL_zone 9 = .ok (.goto 6, 3) := by decide +kernel
theorem dL_zone_12 : decode cL_zone 12 = .ok (.astore_n 3, 1) := by decide +kernel
theorem dL_zone_13 : decode cL_zone 13 = .ok (.iconst 1, 1) := by decide +kernel
theorem dL_zone_14 : decode cL_zone 14 = .ok (.ireturn, 1) := by decide +kernel
theorem dL_zone_15 : decode cL_zone 15 = .ok (.iconst 0, 1) := by decide +kernel
theorem dL_zone_16 : decode cL_zone 16 = .ok (.ireturn, 1) := by decide +kernel
set_option maxRecDepth 20000 in
theorem ggL_output_X6_output : GoodIn wsL_output wsX6_output := goodIn_ca (goodIn_r _ [6, 7, 8, 9, 10, 5, 11, 12, 13, 14, 15, 16, 17, 18, 19, 20, 21, 22, 23] (by decide +kernel) (by decide +kernel)) (goodIn_sub (fun _ h => List.mem_cons_of_mem _ (List.mem_append_right _ h)) (by decide +kernel))
set_option maxRecDepth 20000 in
theorem gL_output_X6_output : GoodIn wsL_output (wsV RL 62 RX6 yX6_output wsX6_output) := goodIn_app (goodIn_of _ (by decide +kernel)) ggL_output_X6_output
theorem dL_output_0 : decode cL_output 0 = .ok (.aload_n 2, 1) := by decide +kernel
theorem dL_output_1 : decode cL_output 1 = .ok (.iconst 0, 1) := by decide +kernel
theorem dL_output_2 : decode cL_output 2 = .ok (.aload_n 0, 1) := by decide +kernel
theorem dL_output_3 : decode cL_output 3 = .ok (.iload_n 1, 1) := by decide +kernel
theorem dL_output_4 : decode cL_output 4 = .ok (.invokevirtual 62, 3) := by decide +kernel
theorem dL_output_7 : decode cL_output 7 = .ok (.i2l, 1) := by decide +kernel
theorem dL_output_8 : decode cL_output 8 = .ok (.lastore, 1) := by decide +kernel
theorem dL_output_9 : decode cL_output 9 = .ok (.goto 6, 3) := by decide +kernel
theorem dL_output_12 : decode cL_output 12 = .ok (.astore_n 3, 1) := by decide +kernel
theorem dL_output_13 : decode cL_output 13 = .ok (.iconst 1, 1) := by decide +kernel
theorem dL_output_14 : decode cL_output 14 = .ok (.ireturn, 1) := by decide +kernel
theorem dL_output_15 : decode cL_output 15 = .ok (.iconst 0, 1) := by decide +kernel
theorem dL_output_16 : decode cL_output 16 = .ok (.ireturn, 1) := by decide +kernel
set_option maxRecDepth 20000 in
theorem ggL_held_X6_held : GoodIn wsL_held wsX6_held := goodIn_ca (goodIn_r _ [6, 7, 8, 9, 10, 11, 12, 13, 14, 15, 5, 16, 17, 18, 19, 20, 21, 22, 23, 24, 25, 26, 27, 28, 29, 30, 31, 32, 33] (by decide +kernel) (by decide +kernel)) (goodIn_sub (fun _ h => List.mem_cons_of_mem _ (List.mem_append_right _ h)) (by decide +kernel))
set_option maxRecDepth 20000 in
theorem gL_held_X6_held : GoodIn wsL_held (wsV RL 65 RX6 yX6_held wsX6_held) := goodIn_app (goodIn_of _ (by decide +kernel)) ggL_held_X6_held
theorem dL_held_0 : decode cL_held 0 = .ok (.aload_n 2, 1) := by decide +kernel
theorem dL_held_1 : decode cL_held 1 = .ok (.iconst 0, 1) := by decide +kernel
theorem dL_held_2 : decode cL_held 2 = .ok (.aload_n 0, 1) := by decide +kernel
theorem dL_held_3 : decode cL_held 3 = .ok (.iload_n 1, 1) := by decide +kernel
theorem dL_held_4 : decode cL_held 4 = .ok (.invokevirtual 65, 3) := by decide +kernel
theorem dL_held_7 : decode cL_held 7 = .ok (.i2l, 1) := by decide +kernel
theorem dL_held_8 : decode cL_held 8 = .ok (.lastore, 1) := by decide +kernel
theorem dL_held_9 : decode cL_held 9 = .ok (.goto 6, 3) := by decide +kernel
theorem dL_held_12 : decode cL_held 12 = .ok (.astore_n 3, 1) := by decide +kernel
theorem dL_held_13 : decode cL_held 13 = .ok (.iconst 1, 1) := by decide +kernel
theorem dL_held_14 : decode cL_held 14 = .ok (.ireturn, 1) := by decide +kernel
theorem dL_held_15 : decode cL_held 15 = .ok (.iconst 0, 1) := by decide +kernel
theorem dL_held_16 : decode cL_held 16 = .ok (.ireturn, 1) := by decide +kernel
set_option maxRecDepth 20000 in
theorem ggL_log_X6_log : GoodIn wsL_log wsX6_log := goodIn_ca (goodIn_r _ [6, 7, 8, 9, 10, 11, 12, 13, 14, 15, 5, 16, 17, 18, 19, 20, 21, 22, 23, 24, 25, 26, 27, 28, 29, 30] (by decide +kernel) (by decide +kernel)) (goodIn_sub (fun _ h => List.mem_cons_of_mem _ (List.mem_append_right _ h)) (by decide +kernel))
set_option maxRecDepth 20000 in
theorem gL_log_X6_log : GoodIn wsL_log (wsV RL 68 RX6 yX6_log wsX6_log) := goodIn_app (goodIn_of _ (by decide +kernel)) ggL_log_X6_log
theorem dL_log_0 : decode cL_log 0 = .ok (.aload_n 3, 1) := by decide +kernel
theorem dL_log_1 : decode cL_log 1 = .ok (.iconst 0, 1) := by decide +kernel
theorem dL_log_2 : decode cL_log 2 = .ok (.aload_n 0, 1) := by decide +kernel
theorem dL_log_3 : decode cL_log 3 = .ok (.iload_n 1, 1) := by decide +kernel
theorem dL_log_4 : decode cL_log 4 = .ok (.iload_n 2, 1) := by decide +kernel
theorem dL_log_5 : decode cL_log 5 = .ok (.invokevirtual 68, 3) := by decide +kernel
theorem dL_log_8 : decode cL_log 8 = .ok (.i2l, 1) := by decide +kernel
theorem dL_log_9 : decode cL_log 9 = .ok (.lastore, 1) := by decide +kernel
theorem dL_log_10 : decode cL_log 10 = .ok (.goto 7, 3) := by decide +kernel
theorem dL_log_13 : decode cL_log 13 = .ok (.astore 4, 2) := by decide +kernel
theorem dL_log_15 : decode cL_log 15 = .ok (.iconst 1, 1) := by decide +kernel
theorem dL_log_16 : decode cL_log 16 = .ok (.ireturn, 1) := by decide +kernel
theorem dL_log_17 : decode cL_log 17 = .ok (.iconst 0, 1) := by decide +kernel
theorem dL_log_18 : decode cL_log 18 = .ok (.ireturn, 1) := by decide +kernel
set_option maxRecDepth 20000 in
theorem ggL_count_X6_count : GoodIn wsL_count wsX6_count := goodIn_ca (goodIn_r _ [6, 7, 8, 9, 10, 11, 12, 13, 14, 15, 16, 17, 5, 18, 19, 20, 21, 22, 23, 24, 25, 26, 27, 28, 29, 30, 31, 32, 33, 34, 35, 36, 37, 38, 39, 40, 41, 42, 43, 44, 45, 46, 47] (by decide +kernel) (by decide +kernel)) (goodIn_sub (fun _ h => List.mem_cons_of_mem _ (List.mem_append_right _ h)) (by decide +kernel))
set_option maxRecDepth 20000 in
theorem gL_count_X6_count : GoodIn wsL_count (wsV RL 72 RX6 yX6_count wsX6_count) := goodIn_app (goodIn_of _ (by decide +kernel)) ggL_count_X6_count
theorem dL_count_0 : decode cL_count 0 = .ok (.aload_n 2, 1) := by decide +kernel
theorem dL_count_1 : decode cL_count 1 = .ok (.iconst 0, 1) := by decide +kernel
theorem dL_count_2 : decode cL_count 2 = .ok (.aload_n 0, 1) := by decide +kernel
theorem dL_count_3 : decode cL_count 3 = .ok (.iload_n 1, 1) := by decide +kernel
theorem dL_count_4 : decode cL_count 4 = .ok (.invokevirtual 72, 3) := by decide +kernel
theorem dL_count_7 : decode cL_count 7 = .ok (.i2l, 1) := by decide +kernel
theorem dL_count_8 : decode cL_count 8 = .ok (.lastore, 1) := by decide +kernel
theorem dL_count_9 : decode cL_count 9 = .ok (.goto 6, 3) := by decide +kernel
theorem dL_count_12 : decode cL_count 12 = .ok (.astore_n 3, 1) := by decide +kernel
theorem dL_count_13 : decode cL_count 13 = .ok (.iconst 1, 1) := by decide +kernel
theorem dL_count_14 : decode cL_count 14 = .ok (.ireturn, 1) := by decide +kernel
theorem dL_count_15 : decode cL_count 15 = .ok (.iconst 0, 1) := by decide +kernel
theorem dL_count_16 : decode cL_count 16 = .ok (.ireturn, 1) := by decide +kernel
