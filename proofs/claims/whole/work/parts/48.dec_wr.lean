theorem dL_setBound_0 : decode cL_setBound 0 = .ok (.aload_n 2, 1) := by decide +kernel
theorem dL_setBound_1 : decode cL_setBound 1 = .ok (.iconst 0, 1) := by decide +kernel
theorem dL_setBound_2 : decode cL_setBound 2 = .ok (.aload_n 0, 1) := by decide +kernel
theorem dL_setBound_3 : decode cL_setBound 3 = .ok (.iload_n 1, 1) := by decide +kernel
theorem dL_setBound_4 : decode cL_setBound 4 = .ok (.invokevirtual 7, 3) := by decide +kernel
theorem dL_setBound_7 : decode cL_setBound 7 = .ok (.i2l, 1) := by decide +kernel
theorem dL_setBound_8 : decode cL_setBound 8 = .ok (.lastore, 1) := by decide +kernel
theorem dL_setBound_9 : decode cL_setBound 9 = .ok (.goto 6, 3) := by decide +kernel
theorem dL_setBound_12 : decode cL_setBound 12 = .ok (.astore_n 3, 1) := by decide +kernel
theorem dL_setBound_13 : decode cL_setBound 13 = .ok (.iconst 1, 1) := by decide +kernel
theorem dL_setBound_14 : decode cL_setBound 14 = .ok (.ireturn, 1) := by decide +kernel
theorem dL_setBound_15 : decode cL_setBound 15 = .ok (.iconst 0, 1) := by decide +kernel
theorem dL_setBound_16 : decode cL_setBound 16 = .ok (.ireturn, 1) := by decide +kernel
set_option maxRecDepth 20000 in
theorem ggL_record_X4_record : GoodIn wsL_record wsX4_record := goodIn_ca (goodIn_ca (goodIn_r _ [7, 8, 9, 10, 11, 12, 13, 14, 15, 16, 17, 6, 18, 19, 20, 21, 22, 23, 24, 25, 26, 27, 28, 29, 30, 31, 32, 33, 34, 35, 36, 37, 38, 39, 40, 41, 42, 43, 44, 45, 46, 47, 48, 49, 50, 51, 52, 53, 54, 55, 56, 57, 58, 59, 60, 61, 62, 63, 64, 65, 66, 67, 68, 69, 70, 71, 72, 73, 74, 75, 76, 77, 78, 79, 80, 81, 82, 83, 84, 85, 86, 87, 88, 89, 90, 91, 92, 93, 94, 95, 96, 97, 98, 99, 100, 101, 102, 103, 104, 105, 106, 107, 108, 109, 110, 111, 112, 113, 114] (by decide +kernel) (by decide +kernel)) (goodIn_sub (fun _ h => List.mem_cons_of_mem _ (List.mem_append_left _ (List.mem_append_right _ h))) (by decide +kernel))) (goodIn_sub (fun _ h => List.mem_cons_of_mem _ (List.mem_append_right _ h)) (by decide +kernel))
set_option maxRecDepth 20000 in
theorem gL_record_X4_record : GoodIn wsL_record (wsV RL 15 RX4 yX4_record wsX4_record) := goodIn_app (goodIn_of _ (by decide +kernel)) ggL_record_X4_record
theorem dL_record_0 : decode cL_record 0 = .ok (.aload 6, 2) := by decide +kernel
theorem dL_record_2 : decode cL_record 2 = .ok (.iconst 0, 1) := by decide +kernel
theorem dL_record_3 : decode cL_record 3 = .ok (.aload_n 0, 1) := by decide +kernel
theorem dL_record_4 : decode cL_record 4 = .ok (.iload_n 1, 1) := by decide +kernel
theorem dL_record_5 : decode cL_record 5 = .ok (.iload_n 2, 1) := by decide +kernel
theorem dL_record_6 : decode cL_record 6 = .ok (.iload_n 3, 1) := by decide +kernel
theorem dL_record_7 : decode cL_record 7 = .ok (.iload 4, 2) := by decide +kernel
theorem dL_record_9 : decode cL_record 9 = .ok (.iload 5, 2) := by decide +kernel
theorem dL_record_11 : decode cL_record 11 = .ok (.invokevirtual 15, 3) := by decide +kernel
theorem dL_record_14 : decode cL_record 14 = .ok (.i2l, 1) := by decide +kernel
theorem dL_record_15 : decode cL_record 15 = .ok (.lastore, 1) := by decide +kernel
theorem dL_record_16 : decode cL_record 16 = .ok (.goto 11, 3) := by decide +kernel
theorem dL_record_19 : decode cL_record 19 = .ok (.astore 7, 2) := by decide +kernel
theorem dL_record_21 : decode cL_record 21 = .ok (.iconst 1, 1) := by decide +kernel
theorem dL_record_22 : decode cL_record 22 = .ok (.ireturn, 1) := by decide +kernel
theorem dL_record_23 : decode cL_record 23 = .ok (.astore 7, 2) := by decide +kernel
theorem dL_record_25 : decode cL_record 25 = .ok (.iconst 2, 1) := by decide +kernel
theorem dL_record_26 : decode cL_record 26 = .ok (.ireturn, 1) := by decide +kernel
theorem dL_record_27 : decode cL_record 27 = .ok (.iconst 0, 1) := by decide +kernel
theorem dL_record_28 : decode cL_record 28 = .ok (.ireturn, 1) := by decide +kernel
set_option maxRecDepth 20000 in
theorem ggL_gaps_X4_gaps : GoodIn wsL_gaps wsX4_gaps := goodIn_ca (goodIn_r _ [6, 7, 8, 9, 10, 11, 5, 12, 13, 14, 15, 16, 17, 18, 19, 20, 21, 22, 23, 24, 25, 26, 27, 28, 29, 30, 31, 32, 33, 34] (by decide +kernel) (by decide +kernel)) (goodIn_sub (fun _ h => List.mem_cons_of_mem _ (List.mem_append_right _ h)) (by decide +kernel))
set_option maxRecDepth 20000 in
theorem gL_gaps_X4_gaps : GoodIn wsL_gaps (wsV RL 21 RX4 yX4_gaps wsX4_gaps) := goodIn_app (goodIn_of _ (by decide +kernel)) ggL_gaps_X4_gaps
theorem dL_gaps_0 : decode cL_gaps 0 = .ok (.aload_n 2, 1) := by decide +kernel
theorem dL_gaps_1 : decode cL_gaps 1 = .ok (.iconst 0, 1) := by decide +kernel
theorem dL_gaps_2 : decode cL_gaps 2 = .ok (.aload_n 0, 1) := by decide +kernel
theorem dL_gaps_3 : decode cL_gaps 3 = .ok (.iload_n 1, 1) := by decide +kernel
theorem dL_gaps_4 : decode cL_gaps 4 = .ok (.invokevirtual 21, 3) := by decide +kernel
theorem dL_gaps_7 : decode cL_gaps 7 = .ok (.i2l, 1) := by decide +kernel
theorem dL_gaps_8 : decode cL_gaps 8 = .ok (.lastore, 1) := by decide +kernel
theorem dL_gaps_9 : decode cL_gaps 9 = .ok (.goto 6, 3) := by decide +kernel
theorem dL_gaps_12 : decode cL_gaps 12 = .ok (.astore_n 3, 1) := by decide +kernel
theorem dL_gaps_13 : decode cL_gaps 13 = .ok (.iconst 1, 1) := by decide +kernel
theorem dL_gaps_14 : decode cL_gaps 14 = .ok (.ireturn, 1) := by decide +kernel
theorem dL_gaps_15 : decode cL_gaps 15 = .ok (.iconst 0, 1) := by decide +kernel
theorem dL_gaps_16 : decode cL_gaps 16 = .ok (.ireturn, 1) := by decide +kernel
set_option maxRecDepth 20000 in
theorem ggL_doubles_X4_doubles : GoodIn wsL_doubles wsX4_doubles := goodIn_ca (goodIn_r _ [6, 7, 8, 9, 10, 11, 12, 5, 13, 14, 15, 16, 17, 18, 19, 20, 21, 22, 23, 24, 25, 26, 27] (by decide +kernel) (by decide +kernel)) (goodIn_sub (fun _ h => List.mem_cons_of_mem _ (List.mem_append_right _ h)) (by decide +kernel))
set_option maxRecDepth 20000 in
theorem gL_doubles_X4_doubles : GoodIn wsL_doubles (wsV RL 24 RX4 yX4_doubles wsX4_doubles) := goodIn_app (goodIn_of _ (by decide +kernel)) ggL_doubles_X4_doubles
theorem dL_doubles_0 : decode cL_doubles 0 = .ok (.aload_n 2, 1) := by decide +kernel
theorem dL_doubles_1 : decode cL_doubles 1 = .ok (.iconst 0, 1) := by decide +kernel
theorem dL_doubles_2 : decode cL_doubles 2 = .ok (.aload_n 0, 1) := by decide +kernel
theorem dL_doubles_3 : decode cL_doubles 3 = .ok (.iload_n 1, 1) := by decide +kernel
theorem dL_doubles_4 : decode cL_doubles 4 = .ok (.invokevirtual 24, 3) := by decide +kernel
theorem dL_doubles_7 : decode cL_doubles 7 = .ok (.i2l, 1) := by decide +kernel
theorem dL_doubles_8 : decode cL_doubles 8 = .ok (.lastore, 1) := by decide +kernel
theorem dL_doubles_9 : decode cL_doubles 9 = .ok (.goto 6, 3) := by decide +kernel
theorem dL_doubles_12 : decode cL_doubles 12 = .ok (.astore_n 3, 1) := by decide +kernel
theorem dL_doubles_13 : decode cL_doubles 13 = .ok (.iconst 1, 1) := by decide +kernel
theorem dL_doubles_14 : decode cL_doubles 14 = .ok (.ireturn, 1) := by decide +kernel
theorem dL_doubles_15 : decode cL_doubles 15 = .ok (.iconst 0, 1) := by decide +kernel
theorem dL_doubles_16 : decode cL_doubles 16 = .ok (.ireturn, 1) := by decide +kernel
set_option maxRecDepth 20000 in
theorem ggL_legs_X4_legs : GoodIn wsL_legs wsX4_legs := goodIn_ca (goodIn_r _ [6, 7, 8, 9, 10, 11, 12, 5, 13, 14, 15, 16, 17, 18, 19, 20, 21, 22, 23, 24, 25, 26, 27, 28, 29, 30] (by decide +kernel) (by decide +kernel)) (goodIn_sub (fun _ h => List.mem_cons_of_mem _ (List.mem_append_right _ h)) (by decide +kernel))
set_option maxRecDepth 20000 in
theorem gL_legs_X4_legs : GoodIn wsL_legs (wsV RL 27 RX4 yX4_legs wsX4_legs) := goodIn_app (goodIn_of _ (by decide +kernel)) ggL_legs_X4_legs
theorem dL_legs_0 : decode cL_legs 0 = .ok (.aload_n 2, 1) := by decide +kernel
theorem dL_legs_1 : decode cL_legs 1 = .ok (.iconst 0, 1) := by decide +kernel
theorem dL_legs_2 : decode cL_legs 2 = .ok (.aload_n 0, 1) := by decide +kernel
theorem dL_legs_3 : decode cL_legs 3 = .ok (.iload_n 1, 1) := by decide +kernel
theorem dL_legs_4 : decode cL_legs 4 = .ok (.invokevirtual 27, 3) := by decide +kernel
theorem dL_legs_7 : decode cL_legs 7 = .ok (.i2l, 1) := by decide +kernel
theorem dL_legs_8 : decode cL_legs 8 = .ok (.lastore, 1) := by decide +kernel
theorem dL_legs_9 : decode cL_legs 9 = .ok (.goto 6, 3) := by decide +kernel
theorem dL_legs_12 : decode cL_legs 12 = .ok (.astore_n 3, 1) := by decide +kernel
theorem dL_legs_13 : decode cL_legs 13 = .ok (.iconst 1, 1) := by decide +kernel
theorem dL_legs_14 : decode cL_legs 14 = .ok (.ireturn, 1) := by decide +kernel
theorem dL_legs_15 : decode cL_legs 15 = .ok (.iconst 0, 1) := by decide +kernel
theorem dL_legs_16 : decode cL_legs 16 = .ok (.ireturn, 1) := by decide +kernel
set_option maxRecDepth 20000 in
theorem ggL_length_X4_length : GoodIn wsL_length wsX4_length := goodIn_ca (goodIn_r _ [6, 7, 8, 9, 10, 11, 12, 5, 13, 14, 15, 16, 17, 18, 19, 20, 21, 22, 23, 24, 25, 26, 27, 28, 29, 30] (by decide +kernel) (by decide +kernel)) (goodIn_sub (fun _ h => List.mem_cons_of_mem _ (List.mem_append_right _ h)) (by decide +kernel))
set_option maxRecDepth 20000 in
theorem gL_length_X4_length : GoodIn wsL_length (wsV RL 32 RX4 yX4_length wsX4_length) := goodIn_app (goodIn_of _ (by decide +kernel)) ggL_length_X4_length
theorem dL_length_0 : decode cL_length 0 = .ok (.aload_n 2, 1) := by decide +kernel
theorem dL_length_1 : decode cL_length 1 = .ok (.iconst 0, 1) := by decide +kernel
theorem dL_length_2 : decode cL_length 2 = .ok (.aload_n 0, 1) := by decide +kernel
theorem dL_length_3 : decode cL_length 3 = .ok (.iload_n 1, 1) := by decide +kernel
theorem dL_length_4 : decode cL_length 4 = .ok (.invokevirtual 32, 3) := by decide +kernel
theorem dL_length_7 : decode cL_length 7 = .ok (.i2l, 1) := by decide +kernel
theorem dL_length_8 : decode cL_length 8 = .ok (.lastore, 1) := by decide +kernel
theorem dL_length_9 : decode cL_length 9 = .ok (.goto 6, 3) := by decide +kernel
theorem dL_length_12 : decode cL_length 12 = .ok (.astore_n 3, 1) := by decide +kernel
theorem dL_length_13 : decode cL_length 13 = .ok (.iconst 1, 1) := by decide +kernel
theorem dL_length_14 : decode cL_length 14 = .ok (.ireturn, 1) := by decide +kernel
theorem dL_length_15 : decode cL_length 15 = .ok (.iconst 0, 1) := by decide +kernel
theorem dL_length_16 : decode cL_length 16 = .ok (.ireturn, 1) := by decide +kernel
set_option maxRecDepth 20000 in
theorem ggL_addRate_X4_addRate : GoodIn wsL_addRate wsX4_addRate := goodIn_ca (goodIn_ca (goodIn_r _ [7, 8, 9, 10, 11, 12, 13, 14, 15, 16, 17, 18, 6, 19, 20, 21, 22, 23, 24, 25, 26, 27, 28, 29, 30, 31, 32, 33, 34, 35, 36, 37, 38, 39, 40, 41, 42, 43, 44, 45, 46, 47, 48, 49, 50, 51, 52, 53, 54] (by decide +kernel) (by decide +kernel)) (goodIn_sub (fun _ h => List.mem_cons_of_mem _ (List.mem_append_left _ (List.mem_append_right _ h))) (by decide +kernel))) (goodIn_sub (fun _ h => List.mem_cons_of_mem _ (List.mem_append_right _ h)) (by decide +kernel))
set_option maxRecDepth 20000 in
theorem gL_addRate_X4_addRate : GoodIn wsL_addRate (wsV RL 35 RX4 yX4_addRate wsX4_addRate) := goodIn_app (goodIn_of _ (by decide +kernel)) ggL_addRate_X4_addRate
theorem dL_addRate_0 : decode cL_addRate 0 = .ok (.aload 7, 2) := by decide +kernel
theorem dL_addRate_2 : decode cL_addRate 2 = .ok (.iconst 0, 1) := by decide +kernel
theorem dL_addRate_3 : decode cL_addRate 3 = .ok (.aload_n 0, 1) := by decide +kernel
theorem dL_addRate_4 : decode cL_addRate 4 = .ok (.iload_n 1, 1) := by decide +kernel
theorem dL_addRate_5 : decode cL_addRate 5 = .ok (.iload_n 2, 1) := by decide +kernel
theorem dL_addRate_6 : decode cL_addRate 6 = .ok (.iload_n 3, 1) := by decide +kernel
theorem dL_addRate_7 : decode cL_addRate 7 = .ok (.iload 4, 2) := by decide +kernel
theorem dL_addRate_9 : decode cL_addRate 9 = .ok (.iload 5, 2) := by decide +kernel
theorem dL_addRate_11 : decode cL_addRate 11 = .ok (.iload 6, 2) := by decide +kernel
theorem dL_addRate_13 : decode cL_addRate 13 = .ok (.invokevirtual 35, 3) := by decide +kernel
theorem dL_addRate_16 : decode cL_addRate 16 = .ok (.i2l, 1) := by decide +kernel
theorem dL_addRate_17 : decode cL_addRate 17 = .ok (.lastore, 1) := by decide +kernel
theorem dL_addRate_18 : decode cL_addRate 18 = .ok (.goto 11, 3) := by decide +kernel
theorem dL_addRate_21 : decode cL_addRate 21 = .ok (.astore 8, 2) := by decide +kernel
theorem dL_addRate_23 : decode cL_addRate 23 = .ok (.iconst 1, 1) := by decide +kernel
theorem dL_addRate_24 : decode cL_addRate 24 = .ok (.ireturn, 1) := by decide +kernel
theorem dL_addRate_25 : decode cL_addRate 25 = .ok (.astore 8, 2) := by decide +kernel
theorem dL_addRate_27 : decode cL_addRate 27 = .ok (.iconst 2, 1) := by decide +kernel
theorem dL_addRate_28 : decode cL_addRate 28 = .ok (.ireturn, 1) := by decide +kernel
theorem dL_addRate_29 : decode cL_addRate 29 = .ok (.iconst 0, 1) := by decide +kernel
theorem dL_addRate_30 : decode cL_addRate 30 = .ok (.ireturn, 1) := by decide +kernel
set_option maxRecDepth 20000 in
theorem ggL_rateFor_X4_rateFor : GoodIn wsL_rateFor wsX4_rateFor := goodIn_ca (goodIn_ca (goodIn_r _ [7, 8, 9, 10, 11, 12, 13, 14, 6, 15, 16, 17, 18, 19, 20, 21, 22, 23, 24, 25, 26, 27, 28, 29, 30, 31, 32, 33, 34, 35, 36, 37, 38, 39, 40, 41, 42, 43, 44, 45, 46, 47, 48, 49, 50, 51, 52, 53, 54, 55] (by decide +kernel) (by decide +kernel)) (goodIn_sub (fun _ h => List.mem_cons_of_mem _ (List.mem_append_left _ (List.mem_append_right _ h))) (by decide +kernel))) (goodIn_sub (fun _ h => List.mem_cons_of_mem _ (List.mem_append_right _ h)) (by decide +kernel))
set_option maxRecDepth 20000 in
theorem gL_rateFor_X4_rateFor : GoodIn wsL_rateFor (wsV RL 39 RX4 yX4_rateFor wsX4_rateFor) := goodIn_app (goodIn_of _ (by decide +kernel)) ggL_rateFor_X4_rateFor
theorem dL_rateFor_0 : decode cL_rateFor 0 = .ok (.aload_n 3, 1) := by decide +kernel
theorem dL_rateFor_1 : decode cL_rateFor 1 = .ok (.iconst 0, 1) := by decide +kernel
theorem dL_rateFor_2 : decode cL_rateFor 2 = .ok (.aload_n 0, 1) := by decide +kernel
theorem dL_rateFor_3 : decode cL_rateFor 3 = .ok (.iload_n 1, 1) := by decide +kernel
theorem dL_rateFor_4 : decode cL_rateFor 4 = .ok (.iload_n 2, 1) := by decide +kernel
theorem dL_rateFor_5 : decode cL_rateFor 5 = .ok (.invokevirtual 39, 3) := by decide +kernel
theorem dL_rateFor_8 : decode cL_rateFor 8 = .ok (.i2l, 1) := by decide +kernel
theorem dL_rateFor_9 : decode cL_rateFor 9 = .ok (.lastore, 1) := by decide +kernel
theorem dL_rateFor_10 : decode cL_rateFor 10 = .ok (.goto 11, 3) := by decide +kernel
theorem dL_rateFor_13 : decode cL_rateFor 13 = .ok (.astore 4, 2) := by decide +kernel
theorem dL_rateFor_15 : decode cL_rateFor 15 = .ok (.iconst 1, 1) := by decide +kernel
theorem dL_rateFor_16 : decode cL_rateFor 16 = .ok (.ireturn, 1) := by decide +kernel
theorem dL_rateFor_17 : decode cL_rateFor 17 = .ok (.astore 4, 2) := by decide +kernel
theorem dL_rateFor_19 : decode cL_rateFor 19 = .ok (.iconst 2, 1) := by decide +kernel
theorem dL_rateFor_20 : decode cL_rateFor 20 = .ok (.ireturn, 1) := by decide +kernel
theorem dL_rateFor_21 : decode cL_rateFor 21 = .ok (.iconst 0, 1) := by decide +kernel
theorem dL_rateFor_22 : decode cL_rateFor 22 = .ok (.ireturn, 1) := by decide +kernel
set_option maxRecDepth 20000 in
theorem ggL_charge_X4_charge : GoodIn wsL_charge wsX4_charge := goodIn_ca (goodIn_ca (goodIn_r _ [7, 8, 9, 10, 11, 12, 13, 14, 6, 15, 16, 17, 18, 19, 20, 21, 22, 23, 24, 25, 26, 27, 28, 29, 30, 31, 32, 33, 34, 35, 36, 37, 38, 39, 40, 41, 42, 43, 44, 45, 46, 47, 48, 49, 50, 51, 52, 53, 54, 55, 56, 57, 58, 59, 60, 61, 62, 63, 64, 65, 66, 67, 68, 69, 70, 71, 72, 73, 74, 75, 76, 77, 78, 79, 80, 81, 82, 83, 84] (by decide +kernel) (by decide +kernel)) (goodIn_sub (fun _ h => List.mem_cons_of_mem _ (List.mem_append_left _ (List.mem_append_right _ h))) (by decide +kernel))) (goodIn_sub (fun _ h => List.mem_cons_of_mem _ (List.mem_append_right _ h)) (by decide +kernel))
set_option maxRecDepth 20000 in
theorem gL_charge_X4_charge : GoodIn wsL_charge (wsV RL 45 RX4 yX4_charge wsX4_charge) := goodIn_app (goodIn_of _ (by decide +kernel)) ggL_charge_X4_charge
theorem dL_charge_0 : decode cL_charge 0 = .ok (.aload_n 2, 1) := by decide +kernel
theorem dL_charge_1 : decode cL_charge 1 = .ok (.iconst 0, 1) := by decide +kernel
theorem dL_charge_2 : decode cL_charge 2 = .ok (.aload_n 0, 1) := by decide +kernel
theorem dL_charge_3 : decode cL_charge 3 = .ok (.iload_n 1, 1) := by decide +kernel
theorem dL_charge_4 : decode cL_charge 4 = .ok (.invokevirtual 45, 3) := by decide +kernel
theorem dL_charge_7 : decode cL_charge 7 = .ok (.i2l, 1) := by decide +kernel
theorem dL_charge_8 : decode cL_charge 8 = .ok (.lastore, 1) := by decide +kernel
theorem dL_charge_9 : decode cL_charge 9 = .ok (.goto 9, 3) := by decide +kernel
theorem dL_charge_12 : decode cL_charge 12 = .ok (.astore_n 3, 1) := by decide +kernel
theorem dL_charge_13 : decode cL_charge 13 = .ok (.iconst 1, 1) := by decide +kernel
theorem dL_charge_14 : decode cL_charge 14 = .ok (.ireturn, 1) := by decide +kernel
theorem dL_charge_15 : decode cL_charge 15 = .ok (.astore_n 3, 1) := by decide +kernel
theorem dL_charge_16 : decode cL_charge 16 = .ok (.iconst 2, 1) := by decide +kernel
theorem dL_charge_17 : decode cL_charge 17 = .ok (.ireturn, 1) := by decide +kernel
theorem dL_charge_18 : decode cL_charge 18 = .ok (.iconst 0, 1) := by decide +kernel
theorem dL_charge_19 : decode cL_charge 19 = .ok (.ireturn, 1) := by decide +kernel
set_option maxRecDepth 20000 in
theorem ggL_booked_X4_booked : GoodIn wsL_booked wsX4_booked := goodIn_ca (goodIn_ca (goodIn_r _ [7, 8, 9, 10, 11, 12, 13, 14, 15, 6, 16, 17, 18, 19, 20, 21, 22, 23, 24, 25, 26, 27, 28, 29, 30, 31, 32, 33, 34, 35, 36, 37, 38, 39] (by decide +kernel) (by decide +kernel)) (goodIn_sub (fun _ h => List.mem_cons_of_mem _ (List.mem_append_left _ (List.mem_append_right _ h))) (by decide +kernel))) (goodIn_sub (fun _ h => List.mem_cons_of_mem _ (List.mem_append_right _ h)) (by decide +kernel))
set_option maxRecDepth 20000 in
theorem gL_booked_X4_booked : GoodIn wsL_booked (wsV RL 48 RX4 yX4_booked wsX4_booked) := goodIn_app (goodIn_of _ (by decide +kernel)) ggL_booked_X4_booked
theorem dL_booked_0 : decode cL_booked 0 = .ok (.aload_n 2, 1) := by decide +kernel
theorem dL_booked_1 : decode cL_booked 1 = .ok (.iconst 0, 1) := by decide +kernel
theorem dL_booked_2 : decode cL_booked 2 = .ok (.aload_n 0, 1) := by decide +kernel
theorem dL_booked_3 : decode cL_booked 3 = .ok (.iload_n 1, 1) := by decide +kernel
theorem dL_booked_4 : decode cL_booked 4 = .ok (.invokevirtual 48, 3) := by decide +kernel
theorem dL_booked_7 : decode cL_booked 7 = .ok (.i2l, 1) := by decide +kernel
theorem dL_booked_8 : decode cL_booked 8 = .ok (.lastore, 1) := by decide +kernel
theorem dL_booked_9 : decode cL_booked 9 = .ok (.goto 9, 3) := by decide +kernel
theorem dL_booked_12 : decode cL_booked 12 = .ok (.astore_n 3, 1) := by decide +kernel
theorem dL_booked_13 : decode cL_booked 13 = .ok (.iconst 1, 1) := by decide +kernel
theorem dL_booked_14 : decode cL_booked 14 = .ok (.ireturn, 1) := by decide +kernel
theorem dL_booked_15 : decode cL_booked 15 = .ok (.astore_n 3, 1) := by decide +kernel
theorem dL_booked_16 : decode cL_booked 16 = .ok (.iconst 2, 1) := by decide +kernel
theorem dL_booked_17 : decode cL_booked 17 = .ok (.ireturn, 1) := by decide +kernel
theorem dL_booked_18 : decode cL_booked 18 = .ok (.iconst 0, 1) := by decide +kernel
theorem dL_booked_19 : decode cL_booked 19 = .ok (.ireturn, 1) := by decide +kernel
set_option maxRecDepth 20000 in
theorem ggL_total_X4_total : GoodIn wsL_total wsX4_total := goodIn_ca (goodIn_r _ [6, 7, 8, 9, 10, 11, 12, 5, 13, 14, 15, 16, 17, 18, 19, 20, 21, 22, 23, 24, 25, 26, 27, 28, 29, 30, 31, 32, 33, 34, 35, 36, 37, 38, 39, 40, 41, 42, 43, 44, 45, 46] (by decide +kernel) (by decide +kernel)) (goodIn_sub (fun _ h => List.mem_cons_of_mem _ (List.mem_append_right _ h)) (by decide +kernel))
set_option maxRecDepth 20000 in
theorem gL_total_X4_total : GoodIn wsL_total (wsV RL 51 RX4 yX4_total wsX4_total) := goodIn_app (goodIn_of _ (by decide +kernel)) ggL_total_X4_total
theorem dL_total_0 : decode cL_total 0 = .ok (.aload_n 2, 1) := by decide +kernel
theorem dL_total_1 : decode cL_total 1 = .ok (.iconst 0, 1) := by decide +kernel
theorem dL_total_2 : decode cL_total 2 = .ok (.aload_n 0, 1) := by decide +kernel
theorem dL_total_3 : decode cL_total 3 = .ok (.iload_n 1, 1) := by decide +kernel
theorem dL_total_4 : decode cL_total 4 = .ok (.invokevirtual 51, 3) := by decide +kernel
theorem dL_total_7 : decode cL_total 7 = .ok (.i2l, 1) := by decide +kernel
theorem dL_total_8 : decode cL_total 8 = .ok (.lastore, 1) := by decide +kernel
theorem dL_total_9 : decode cL_total 9 = .ok (.goto 6, 3) := by decide +kernel
theorem dL_total_12 : decode cL_total 12 = .ok (.astore_n 3, 1) := by decide +kernel
theorem dL_total_13 : decode cL_total 13 = .ok (.iconst 1, 1) := by decide +kernel
theorem dL_total_14 : decode cL_total 14 = .ok (.ireturn, 1) := by decide +kernel
theorem dL_total_15 : decode cL_total 15 = .ok (.iconst 0, 1) := by decide +kernel
theorem dL_total_16 : decode cL_total 16 = .ok (.ireturn, 1) := by decide +kernel
set_option maxRecDepth 20000 in
theorem ggL_offer_X4_offer : GoodIn wsL_offer wsX4_offer := goodIn_ca (goodIn_ca (goodIn_r _ [7, 8, 9, 10, 11, 12, 13, 14, 6, 15, 16, 17, 18, 19, 20, 21, 22, 23, 24, 25, 26, 27, 28, 29, 30, 31, 32, 33, 34, 35, 36, 37, 38, 39, 40, 41, 42, 43, 44, 45, 46, 47, 48] (by decide +kernel) (by decide +kernel)) (goodIn_sub (fun _ h => List.mem_cons_of_mem _ (List.mem_append_left _ (List.mem_append_right _ h))) (by decide +kernel))) (goodIn_sub (fun _ h => List.mem_cons_of_mem _ (List.mem_append_right _ h)) (by decide +kernel))
set_option maxRecDepth 20000 in
theorem gL_offer_X4_offer : GoodIn wsL_offer (wsV RL 54 RX4 yX4_offer wsX4_offer) := goodIn_app (goodIn_of _ (by decide +kernel)) ggL_offer_X4_offer
theorem dL_offer_0 : decode cL_offer 0 = .ok (.aload 4, 2) := by decide +kernel
theorem dL_offer_2 : decode cL_offer 2 = .ok (.iconst 0, 1) := by decide +kernel
theorem dL_offer_3 : decode cL_offer 3 = .ok (.aload_n 0, 1) := by decide +kernel
theorem dL_offer_4 : decode cL_offer 4 = .ok (.iload_n 1, 1) := by decide +kernel
theorem dL_offer_5 : decode cL_offer 5 = .ok (.iload_n 2, 1) := by decide +kernel
theorem dL_offer_6 : decode cL_offer 6 = .ok (.iload_n 3, 1) := by decide +kernel
theorem dL_offer_7 : decode cL_offer 7 = .ok (.invokevirtual 54, 3) := by decide +kernel
theorem dL_offer_10 : decode cL_offer 10 = .ok (.i2l, 1) := by decide +kernel
theorem dL_offer_11 : decode cL_offer 11 = .ok (.lastore, 1) := by decide +kernel
theorem dL_offer_12 : decode cL_offer 12 = .ok (.goto 11, 3) := by decide +kernel
theorem dL_offer_15 : decode cL_offer 15 = .ok (.astore 5, 2) := by decide +kernel
theorem dL_offer_17 : decode cL_offer 17 = .ok (.iconst 1, 1) := by decide +kernel
theorem dL_offer_18 : decode cL_offer 18 = .ok (.ireturn, 1) := by decide +kernel
theorem dL_offer_19 : decode cL_offer 19 = .ok (.astore 5, 2) := by decide +kernel
theorem dL_offer_21 : decode cL_offer 21 = .ok (.iconst 2, 1) := by decide +kernel
theorem dL_offer_22 : decode cL_offer 22 = .ok (.ireturn, 1) := by decide +kernel
theorem dL_offer_23 : decode cL_offer 23 = .ok (.iconst 0, 1) := by decide +kernel
theorem dL_offer_24 : decode cL_offer 24 = .ok (.ireturn, 1) := by decide +kernel
set_option maxRecDepth 20000 in
theorem ggL_offerFor_X4_offerFor : GoodIn wsL_offerFor wsX4_offerFor := goodIn_ca (goodIn_ca (goodIn_r _ [7, 8, 9, 10, 11, 12, 13, 14, 6, 15, 16, 17, 18, 19, 20, 21, 22, 23, 24, 25, 26, 27, 28, 29, 30, 31, 32, 33, 34, 35, 36, 37, 38, 39, 40, 41, 42] (by decide +kernel) (by decide +kernel)) (goodIn_sub (fun _ h => List.mem_cons_of_mem _ (List.mem_append_left _ (List.mem_append_right _ h))) (by decide +kernel))) (goodIn_sub (fun _ h => List.mem_cons_of_mem _ (List.mem_append_right _ h)) (by decide +kernel))
set_option maxRecDepth 20000 in
theorem gL_offerFor_X4_offerFor : GoodIn wsL_offerFor (wsV RL 58 RX4 yX4_offerFor wsX4_offerFor) := goodIn_app (goodIn_of _ (by decide +kernel)) ggL_offerFor_X4_offerFor
theorem dL_offerFor_0 : decode cL_offerFor 0 = .ok (.aload_n 3, 1) := by decide +kernel
theorem dL_offerFor_1 : decode cL_offerFor 1 = .ok (.iconst 0, 1) := by decide +kernel
theorem dL_offerFor_2 : decode cL_offerFor 2 = .ok (.aload_n 0, 1) := by decide +kernel
theorem dL_offerFor_3 : decode cL_offerFor 3 = .ok (.iload_n 1, 1) := by decide +kernel
theorem dL_offerFor_4 : decode cL_offerFor 4 = .ok (.iload_n 2, 1) := by decide +kernel
theorem dL_offerFor_5 : decode cL_offerFor 5 = .ok (.invokevirtual 58, 3) := by decide +kernel
theorem dL_offerFor_8 : decode cL_offerFor 8 = .ok (.i2l, 1) := by decide +kernel
theorem dL_offerFor_9 : decode cL_offerFor 9 = .ok (.lastore, 1) := by decide +kernel
theorem dL_offerFor_10 : decode cL_offerFor 10 = .ok (.goto 11, 3) := by decide +kernel
theorem dL_offerFor_13 : decode cL_offerFor 13 = .ok (.astore 4, 2) := by decide +kernel
theorem dL_offerFor_15 : decode cL_offerFor 15 = .ok (.iconst 1, 1) := by decide +kernel
theorem dL_offerFor_16 : decode cL_offerFor 16 = .ok (.ireturn, 1) := by decide +kernel
theorem dL_offerFor_17 : decode cL_offerFor 17 = .ok (.astore 4, 2) := by decide +kernel
theorem dL_offerFor_19 : decode cL_offerFor 19 = .ok (.iconst 2, 1) := by decide +kernel
theorem dL_offerFor_20 : decode cL_offerFor 20 = .ok (.ireturn, 1) := by decide +kernel
theorem dL_offerFor_21 : decode cL_offerFor 21 = .ok (.iconst 0, 1) := by decide +kernel
theorem dL_offerFor_22 : decode cL_offerFor 22 = .ok (.ireturn, 1) := by decide +kernel
set_option maxRecDepth 20000 in
theorem ggL_route_X4_route : GoodIn wsL_route wsX4_route := goodIn_ca (goodIn_ca (goodIn_r _ [7, 8, 9, 10, 11, 12, 13, 14, 6, 15, 16, 17, 18, 19, 20, 21, 22, 23, 24, 25, 26, 27, 28, 29, 30, 31, 32, 33, 34, 35, 36, 37, 38, 39, 40, 41, 42, 43, 44, 45, 46, 47, 48, 49, 50, 51, 52, 53, 54, 55, 56, 57, 58, 59, 60, 61, 62, 63, 64, 65, 66, 67, 68, 69, 70, 71, 72, 73, 74, 75, 76, 77, 78, 79, 80, 81] (by decide +kernel) (by decide +kernel)) (goodIn_sub (fun _ h => List.mem_cons_of_mem _ (List.mem_append_left _ (List.mem_append_right _ h))) (by decide +kernel))) (goodIn_sub (fun _ h => List.mem_cons_of_mem _ (List.mem_append_right _ h)) (by decide +kernel))
set_option maxRecDepth 20000 in
theorem gL_route_X4_route : GoodIn wsL_route (wsV RL 61 RX4 yX4_route wsX4_route) := goodIn_app (goodIn_of _ (by decide +kernel)) ggL_route_X4_route
theorem dL_route_0 : decode cL_route 0 = .ok (.aload 5, 2) := by decide +kernel
theorem dL_route_2 : decode cL_route 2 = .ok (.iconst 0, 1) := by decide +kernel
theorem dL_route_3 : decode cL_route 3 = .ok (.aload_n 0, 1) := by decide +kernel
theorem dL_route_4 : decode cL_route 4 = .ok (.iload_n 1, 1) := by decide +kernel
theorem dL_route_5 : decode cL_route 5 = .ok (.iload_n 2, 1) := by decide +kernel
theorem dL_route_6 : decode cL_route 6 = .ok (.iload_n 3, 1) := by decide +kernel
theorem dL_route_7 : decode cL_route 7 = .ok (.iload 4, 2) := by decide +kernel
theorem dL_route_9 : decode cL_route 9 = .ok (.invokevirtual 61, 3) := by decide +kernel
theorem dL_route_12 : decode cL_route 12 = .ok (.i2l, 1) := by decide +kernel
theorem dL_route_13 : decode cL_route 13 = .ok (.lastore, 1) := by decide +kernel
theorem dL_route_14 : decode cL_route 14 = .ok (.goto 11, 3) := by decide +kernel
theorem dL_route_17 : decode cL_route 17 = .ok (.astore 6, 2) := by decide +kernel
theorem dL_route_19 : decode cL_route 19 = .ok (.iconst 1, 1) := by decide +kernel
theorem dL_route_20 : decode cL_route 20 = .ok (.ireturn, 1) := by decide +kernel
theorem dL_route_21 : decode cL_route 21 = .ok (.astore 6, 2) := by decide +kernel
theorem dL_route_23 : decode cL_route 23 = .ok (.iconst 2, 1) := by decide +kernel
theorem dL_route_24 : decode cL_route 24 = .ok (.ireturn, 1) := by decide +kernel
theorem dL_route_25 : decode cL_route 25 = .ok (.iconst 0, 1) := by decide +kernel
theorem dL_route_26 : decode cL_route 26 = .ok (.ireturn, 1) := by decide +kernel
set_option maxRecDepth 20000 in
theorem ggL_claim_X4_claim : GoodIn wsL_claim wsX4_claim := goodIn_ca (goodIn_ca (goodIn_r _ [7, 8, 9, 10, 11, 12, 13, 14, 15, 16, 6, 17, 18, 19, 20, 21, 22, 23, 24, 25, 26, 27, 28, 29, 30, 31, 32, 33, 34, 35, 36, 37] (by decide +kernel) (by decide +kernel)) (goodIn_sub (fun _ h => List.mem_cons_of_mem _ (List.mem_append_left _ (List.mem_append_right _ h))) (by decide +kernel))) (goodIn_sub (fun _ h => List.mem_cons_of_mem _ (List.mem_append_right _ h)) (by decide +kernel))
set_option maxRecDepth 20000 in
theorem gL_claim_X4_claim : GoodIn wsL_claim (wsV RL 65 RX4 yX4_claim wsX4_claim) := goodIn_app (goodIn_of _ (by decide +kernel)) ggL_claim_X4_claim
theorem dL_claim_0 : decode cL_claim 0 = .ok (.aload_n 3, 1) := by decide +kernel
theorem dL_claim_1 : decode cL_claim 1 = .ok (.iconst 0, 1) := by decide +kernel
theorem dL_claim_2 : decode cL_claim 2 = .ok (.aload_n 0, 1) := by decide +kernel
theorem dL_claim_3 : decode cL_claim 3 = .ok (.iload_n 1, 1) := by decide +kernel
theorem dL_claim_4 : decode cL_claim 4 = .ok (.iload_n 2, 1) := by decide +kernel
theorem dL_claim_5 : decode cL_claim 5 = .ok (.invokevirtual 65, 3) := by decide +kernel
theorem dL_claim_8 : decode cL_claim 8 = .ok (.i2l, 1) := by decide +kernel
theorem dL_claim_9 : decode cL_claim 9 = .ok (.lastore, 1) := by decide +kernel
theorem dL_claim_10 : decode cL_claim 10 = .ok (.goto 11, 3) := by decide +kernel
theorem dL_claim_13 : decode cL_claim 13 = .ok (.astore 4, 2) := by decide +kernel
theorem dL_claim_15 : decode cL_claim 15 = .ok (.iconst 1, 1) := by decide +kernel
theorem dL_claim_16 : decode cL_claim 16 = .ok (.ireturn, 1) := by decide +kernel
theorem dL_claim_17 : decode cL_claim 17 = .ok (.astore 4, 2) := by decide +kernel
theorem dL_claim_19 : decode cL_claim 19 = .ok (.iconst 2, 1) := by decide +kernel
theorem dL_claim_20 : decode cL_claim 20 = .ok (.ireturn, 1) := by decide +kernel
theorem dL_claim_21 : decode cL_claim 21 = .ok (.iconst 0, 1) := by decide +kernel
theorem dL_claim_22 : decode cL_claim 22 = .ok (.ireturn, 1) := by decide +kernel
set_option maxRecDepth 20000 in
theorem ggL_difference_X4_difference : GoodIn wsL_difference wsX4_difference := goodIn_ca (goodIn_r _ [6, 7, 8, 9, 10, 5, 11, 12, 13, 14, 15, 16, 17, 18, 19, 20, 21, 22, 23, 24, 25, 26, 27, 28, 29, 30, 31, 32, 33, 34, 35, 36, 37, 38, 39, 40, 41, 42, 43, 44, 45, 46, 47, 48, 49, 50, 51, 52, 53, 54, 55] (by decide +kernel) (by decide +kernel)) (goodIn_sub (fun _ h => List.mem_cons_of_mem _ (List.mem_append_right _ h)) (by decide +kernel))
set_option maxRecDepth 20000 in
theorem gL_difference_X4_difference : GoodIn wsL_difference (wsV RL 68 RX4 yX4_difference wsX4_difference) := goodIn_app (goodIn_of _ (by decide +kernel)) ggL_difference_X4_difference
theorem dL_difference_0 : decode cL_difference 0 = .ok (.aload_n 2, 1) := by decide +kernel
theorem dL_difference_1 : decode cL_difference 1 = .ok (.iconst 0, 1) := by decide +kernel
theorem dL_difference_2 : decode cL_difference 2 = .ok (.aload_n 0, 1) := by decide +kernel
theorem dL_difference_3 : decode cL_difference 3 = .ok (.iload_n 1, 1) := by decide +kernel
theorem dL_difference_4 : decode cL_difference 4 = .ok (.invokevirtual 68, 3) := by decide +kernel
theorem dL_difference_7 : decode cL_difference 7 = .ok (.i2l, 1) := by decide +kernel
theorem dL_difference_8 : decode cL_difference 8 = .ok (.lastore, 1) := by decide +kernel
theorem dL_difference_9 : decode cL_difference 9 = .ok (.goto 6, 3) := by decide +kernel
theorem dL_difference_12 : decode cL_difference 12 = .ok (.astore_n 3, 1) := by decide +kernel
theorem dL_difference_13 : decode cL_difference 13 = .ok (.iconst 1, 1) := by decide +kernel
theorem dL_difference_14 : decode cL_difference 14 = .ok (.ireturn, 1) := by decide +kernel
theorem dL_difference_15 : decode cL_difference 15 = .ok (.iconst 0, 1) := by decide +kernel
theorem dL_difference_16 : decode cL_difference 16 = .ok (.ireturn, 1) := by decide +kernel
set_option maxRecDepth 20000 in
theorem ggL_narrow_X4_narrow : GoodIn wsL_narrow wsX4_narrow := goodIn_ca (goodIn_r _ [6, 7, 8, 9, 10, 5, 11, 12, 13, 14, 15, 16, 17, 18, 19, 20, 21, 22, 23, 24, 25, 26, 27, 28, 29, 30, 31, 32, 33, 34, 35, 36, 37, 38, 39, 40, 41, 42, 43, 44, 45, 46, 47, 48, 49, 50, 51, 52, 53, 54, 55, 56, 57, 58, 59] (by decide +kernel) (by decide +kernel)) (goodIn_sub (fun _ h => List.mem_cons_of_mem _ (List.mem_append_right _ h)) (by decide +kernel))
set_option maxRecDepth 20000 in
theorem gL_narrow_X4_narrow : GoodIn wsL_narrow (wsV RL 71 RX4 yX4_narrow wsX4_narrow) := goodIn_app (goodIn_of _ (by decide +kernel)) ggL_narrow_X4_narrow
theorem dL_narrow_0 : decode cL_narrow 0 = .ok (.aload_n 2, 1) := by decide +kernel
theorem dL_narrow_1 : decode cL_narrow 1 = .ok (.iconst 0, 1) := by decide +kernel
theorem dL_narrow_2 : decode cL_narrow 2 = .ok (.aload_n 0, 1) := by decide +kernel
theorem dL_narrow_3 : decode cL_narrow 3 = .ok (.iload_n 1, 1) := by decide +kernel
theorem dL_narrow_4 : decode cL_narrow 4 = .ok (.invokevirtual 71, 3) := by decide +kernel
theorem dL_narrow_7 : decode cL_narrow 7 = .ok (.i2l, 1) := by decide +kernel
theorem dL_narrow_8 : decode cL_narrow 8 = .ok (.lastore, 1) := by decide +kernel
theorem dL_narrow_9 : decode cL_narrow 9 = .ok (.goto 6, 3) := by decide +kernel
theorem dL_narrow_12 : decode cL_narrow 12 = .ok (.astore_n 3, 1) := by decide +kernel
theorem dL_narrow_13 : decode cL_narrow 13 = .ok (.iconst 1, 1) := by decide +kernel
theorem dL_narrow_14 : decode cL_narrow 14 = .ok (.ireturn, 1) := by decide +kernel
theorem dL_narrow_15 : decode cL_narrow 15 = .ok (.iconst 0, 1) := by decide +kernel
theorem dL_narrow_16 : decode cL_narrow 16 = .ok (.ireturn, 1) := by decide +kernel
set_option maxRecDepth 20000 in
theorem ggL_worst_X4_worst : GoodIn wsL_worst wsX4_worst := goodIn_ca (goodIn_r _ [6, 7, 8, 9, 10, 11, 12, 13, 14, 15, 16, 17, 18, 19, 20, 21, 22, 23, 24, 25, 26, 27, 28, 29, 30, 31, 32, 33, 34, 35, 36, 37, 38, 39, 40, 41, 42, 43, 44, 45] (by decide +kernel) (by decide +kernel)) (goodIn_sub (fun _ h => List.mem_cons_of_mem _ (List.mem_append_right _ h)) (by decide +kernel))
set_option maxRecDepth 20000 in
theorem gL_worst_X4_worst : GoodIn wsL_worst (wsV RL 74 RX4 yX4_worst wsX4_worst) := goodIn_app (goodIn_of _ (by decide +kernel)) ggL_worst_X4_worst
theorem dL_worst_0 : decode cL_worst 0 = .ok (.aload_n 1, 1) := by decide +kernel
theorem dL_worst_1 : decode cL_worst 1 = .ok (.iconst 0, 1) := by decide +kernel
theorem dL_worst_2 : decode cL_worst 2 = .ok (.aload_n 0, 1) := by decide +kernel
theorem dL_worst_3 : decode cL_worst 3 = .ok (.invokevirtual 74, 3) := by decide +kernel
theorem dL_worst_6 : decode cL_worst 6 = .ok (.i2l, 1) := by decide +kernel
theorem dL_worst_7 : decode cL_worst 7 = .ok (.lastore, 1) := by decide +kernel
theorem dL_worst_8 : decode cL_worst 8 = .ok (.goto 6, 3) := by decide +kernel
theorem dL_worst_11 : decode cL_worst 11 = .ok (.astore_n 2, 1) := by decide +kernel
theorem dL_worst_12 : decode cL_worst 12 = .ok (.iconst 1, 1) := by decide +kernel
theorem dL_worst_13 : decode cL_worst 13 = .ok (.ireturn, 1) := by decide +kernel
theorem dL_worst_14 : decode cL_worst 14 = .ok (.iconst 0, 1) := by decide +kernel
theorem dL_worst_15 : decode cL_worst 15 = .ok (.ireturn, 1) := by decide +kernel
set_option maxRecDepth 20000 in
theorem ggL_law_X4_init : GoodIn wsL_law wsX4_init := goodIn_r _ [9, 10, 11, 12, 13, 14, 15, 16, 17, 18, 19, 20, 21, 22, 23, 24, 25, 26, 27, 28, 6, 29, 30, 31, 32, 33, 34, 35, 36, 568, 569, 570, 571, 572, 573, 574, 575, 602, 603, 604, 605, 606, 607, 608] (by decide +kernel) (by decide +kernel)
set_option maxRecDepth 20000 in
theorem gL_law_X4_init : GoodIn wsL_law (wsX4_init) := ggL_law_X4_init
set_option maxRecDepth 20000 in
theorem ggL_law_X5_init : GoodIn wsL_law wsX5_init := goodIn_r _ [39, 40, 11, 12, 41, 6, 42, 34, 43, 44, 45, 46, 47, 48, 49, 50, 51, 52, 53, 54, 55, 56, 57, 58, 59, 60, 61, 62, 576, 577, 578, 579, 580, 581, 582, 583, 584, 585, 586, 587, 588, 589, 590, 591, 592, 593, 594, 595, 596, 597, 598, 599, 600, 601] (by decide +kernel) (by decide +kernel)
set_option maxRecDepth 20000 in
theorem gL_law_X5_init : GoodIn wsL_law (wsX5_init) := ggL_law_X5_init
set_option maxRecDepth 20000 in
theorem ggL_law_L_setBound : GoodIn wsL_law wsL_setBound := goodIn_ca (goodIn_r _ [66, 67, 68, 69, 70, 2, 71, 72, 73, 17, 74, 75, 76, 568, 569, 570, 571, 572, 573, 574, 575] (by decide +kernel) (by decide +kernel)) (goodIn_sub (fun _ h => List.mem_append_left _ (List.mem_append_left _ (List.mem_append_left _ (List.mem_append_right _ h)))) (by decide +kernel))
set_option maxRecDepth 20000 in
theorem gL_law_L_setBound : GoodIn wsL_law (va_wsS RL 82 yL_setBound wsL_setBound) := goodIn_app (goodIn_of _ (by decide +kernel)) ggL_law_L_setBound
set_option maxRecDepth 20000 in
theorem ggL_law_X5_setBound : GoodIn wsL_law wsX5_setBound := goodIn_r _ [80, 41, 81, 82, 5, 83, 84, 85, 86, 87, 88, 576, 577, 578, 579, 580, 581, 582, 583, 584, 585, 586, 587, 588, 589, 590, 591, 592, 593, 594, 595, 596, 597, 598, 599, 600, 601] (by decide +kernel) (by decide +kernel)
set_option maxRecDepth 20000 in
theorem gL_law_X5_setBound : GoodIn wsL_law (wsV RL 87 RX5 yX5_setBound wsX5_setBound) := goodIn_app (goodIn_of _ (by decide +kernel)) ggL_law_X5_setBound
set_option maxRecDepth 20000 in
theorem ggL_law_X5_thrown : GoodIn wsL_law wsX5_thrown := goodIn_r _ [92, 88, 576, 577, 578, 579, 580, 581, 582, 583, 584, 585, 586, 587, 588, 589, 590, 591, 592, 593, 594, 595, 596, 597, 598, 599, 600, 601] (by decide +kernel) (by decide +kernel)
set_option maxRecDepth 20000 in
theorem gL_law_X5_thrown : GoodIn wsL_law (wsV RL 88 RX5 yX5_thrown wsX5_thrown) := goodIn_app (goodIn_of _ (by decide +kernel)) ggL_law_X5_thrown
set_option maxRecDepth 20000 in
theorem ggL_law_L_record : GoodIn wsL_law wsL_record := goodIn_ca (goodIn_ca (goodIn_r _ [95, 67, 96, 97, 98, 99, 2, 100, 72, 73, 101, 102, 103, 104, 105, 106, 107, 108, 109, 14, 74, 75, 76, 110, 111, 112, 113, 114, 115, 116, 23, 117, 29, 118, 119, 120, 121, 122, 123, 124, 16, 125, 17, 126, 127, 128, 129, 130, 131, 132, 133, 134, 135, 136, 137, 138, 139, 140, 141, 142, 143, 144, 145, 146, 15, 147, 148, 149, 150, 151, 11, 12, 152, 153, 154, 155, 156, 157, 158, 159, 30, 160, 161, 162, 163, 164, 165, 166, 167, 168, 169, 170, 171, 172, 602, 603, 604, 605, 606, 609, 610, 611, 612, 613, 614, 615, 616, 568, 569, 570, 571, 572, 573, 574, 575] (by decide +kernel) (by decide +kernel)) (goodIn_sub (fun _ h => List.mem_append_left _ (List.mem_append_left _ (List.mem_append_left _ (List.mem_append_right _ h)))) (by decide +kernel))) (goodIn_sub (fun _ h => List.mem_append_left _ (List.mem_append_left _ (List.mem_append_right _ h))) (by decide +kernel))
set_option maxRecDepth 20000 in
theorem gL_law_L_record : GoodIn wsL_law (va_wsS RL 91 yL_record wsL_record) := goodIn_app (goodIn_of _ (by decide +kernel)) ggL_law_L_record
set_option maxRecDepth 20000 in
theorem ggL_law_X5_record : GoodIn wsL_law wsX5_record := goodIn_r _ [176, 177, 42, 46, 44, 43, 45, 178, 47, 48, 49, 51, 50, 81, 82, 5, 83, 179, 180, 181, 182, 84, 85, 86, 87, 88, 183, 184, 185, 186, 41, 187, 188, 189, 190, 191, 192, 193, 576, 577, 578, 579, 580, 581, 582, 583, 584, 585, 586, 587, 588, 589, 590, 591, 592, 593, 594, 595, 596, 597, 598, 599, 600, 601] (by decide +kernel) (by decide +kernel)
set_option maxRecDepth 20000 in
theorem gL_law_X5_record : GoodIn wsL_law (wsV RL 94 RX5 yX5_record wsX5_record) := goodIn_app (goodIn_of _ (by decide +kernel)) ggL_law_X5_record
set_option maxRecDepth 20000 in
theorem ggL_law_L_gaps : GoodIn wsL_law wsL_gaps := goodIn_ca (goodIn_r _ [196, 67, 197, 198, 199, 2, 200, 72, 73, 106, 107, 108, 109, 14, 201, 202, 203, 23, 204, 159, 163, 30, 568, 569, 570, 571, 572, 573, 574, 575, 602, 603, 604, 605, 606] (by decide +kernel) (by decide +kernel)) (goodIn_sub (fun _ h => List.mem_append_left _ (List.mem_append_left _ (List.mem_append_left _ (List.mem_append_right _ h)))) (by decide +kernel))
set_option maxRecDepth 20000 in
theorem gL_law_L_gaps : GoodIn wsL_law (va_wsS RL 95 yL_gaps wsL_gaps) := goodIn_app (goodIn_of _ (by decide +kernel)) ggL_law_L_gaps
set_option maxRecDepth 20000 in
theorem ggL_law_X5_gaps : GoodIn wsL_law wsX5_gaps := goodIn_r _ [208, 43, 45, 44, 81, 82, 5, 83, 84, 85, 86, 87, 88, 576, 577, 578, 579, 580, 581, 582, 583, 584, 585, 586, 587, 588, 589, 590, 591, 592, 593, 594, 595, 596, 597, 598, 599, 600, 601] (by decide +kernel) (by decide +kernel)
set_option maxRecDepth 20000 in
theorem gL_law_X5_gaps : GoodIn wsL_law (wsV RL 97 RX5 yX5_gaps wsX5_gaps) := goodIn_app (goodIn_of _ (by decide +kernel)) ggL_law_X5_gaps
set_option maxRecDepth 20000 in
theorem ggL_law_L_doubles : GoodIn wsL_law wsL_doubles := goodIn_ca (goodIn_r _ [211, 67, 212, 213, 214, 2, 215, 72, 73, 104, 106, 107, 108, 109, 14, 602, 603, 604, 605, 606, 568, 569, 570, 571, 572, 573, 574, 575] (by decide +kernel) (by decide +kernel)) (goodIn_sub (fun _ h => List.mem_append_left _ (List.mem_append_left _ (List.mem_append_left _ (List.mem_append_right _ h)))) (by decide +kernel))
set_option maxRecDepth 20000 in
theorem gL_law_L_doubles : GoodIn wsL_law (va_wsS RL 98 yL_doubles wsL_doubles) := goodIn_app (goodIn_of _ (by decide +kernel)) ggL_law_L_doubles
set_option maxRecDepth 20000 in
theorem ggL_law_X5_doubles : GoodIn wsL_law wsX5_doubles := goodIn_r _ [219, 46, 81, 82, 5, 83, 84, 85, 86, 87, 88, 576, 577, 578, 579, 580, 581, 582, 583, 584, 585, 586, 587, 588, 589, 590, 591, 592, 593, 594, 595, 596, 597, 598, 599, 600, 601] (by decide +kernel) (by decide +kernel)
set_option maxRecDepth 20000 in
theorem gL_law_X5_doubles : GoodIn wsL_law (wsV RL 100 RX5 yX5_doubles wsX5_doubles) := goodIn_app (goodIn_of _ (by decide +kernel)) ggL_law_X5_doubles
set_option maxRecDepth 20000 in
theorem ggL_law_X4_calls : GoodIn wsL_law wsX4_calls := goodIn_r _ [223, 146, 568, 569, 570, 571, 572, 573, 574, 575] (by decide +kernel) (by decide +kernel)
set_option maxRecDepth 20000 in
theorem gL_law_X4_calls : GoodIn wsL_law (wsV RL 101 RX4 yX4_calls wsX4_calls) := goodIn_app (goodIn_of _ (by decide +kernel)) ggL_law_X4_calls
set_option maxRecDepth 20000 in
theorem ggL_law_X5_calls : GoodIn wsL_law wsX5_calls := goodIn_r _ [227, 88, 178, 576, 577, 578, 579, 580, 581, 582, 583, 584, 585, 586, 587, 588, 589, 590, 591, 592, 593, 594, 595, 596, 597, 598, 599, 600, 601] (by decide +kernel) (by decide +kernel)
set_option maxRecDepth 20000 in
theorem gL_law_X5_calls : GoodIn wsL_law (wsV RL 104 RX5 yX5_calls wsX5_calls) := goodIn_app (goodIn_of _ (by decide +kernel)) ggL_law_X5_calls
set_option maxRecDepth 20000 in
theorem ggL_law_L_legs : GoodIn wsL_law wsL_legs := goodIn_ca (goodIn_r _ [230, 231, 232, 233, 234, 2, 235, 236, 237, 238, 239, 240, 241, 242, 16, 609, 610, 611, 612, 613, 614, 615, 616, 568, 569, 570, 571, 572, 573, 574, 575] (by decide +kernel) (by decide +kernel)) (goodIn_sub (fun _ h => List.mem_append_left _ (List.mem_append_right _ h)) (by decide +kernel))
set_option maxRecDepth 20000 in
theorem gL_law_L_legs : GoodIn wsL_law (va_wsS RL 105 yL_legs wsL_legs) := goodIn_app (goodIn_of _ (by decide +kernel)) ggL_law_L_legs
set_option maxRecDepth 20000 in
theorem ggL_law_X5_legs : GoodIn wsL_law wsX5_legs := goodIn_r _ [246, 51, 247, 248, 249, 5, 250, 178, 84, 85, 86, 87, 88, 576, 577, 578, 579, 580, 581, 582, 583, 584, 585, 586, 587, 588, 589, 590, 591, 592, 593, 594, 595, 596, 597, 598, 599, 600, 601] (by decide +kernel) (by decide +kernel)
set_option maxRecDepth 20000 in
theorem gL_law_X5_legs : GoodIn wsL_law (wsV RL 107 RX5 yX5_legs wsX5_legs) := goodIn_app (goodIn_of _ (by decide +kernel)) ggL_law_X5_legs
set_option maxRecDepth 20000 in
theorem ggL_law_L_length : GoodIn wsL_law wsL_length := goodIn_ca (goodIn_r _ [253, 231, 254, 255, 256, 2, 257, 236, 237, 258, 239, 240, 241, 242, 16, 609, 610, 611, 612, 613, 614, 615, 616, 568, 569, 570, 571, 572, 573, 574, 575] (by decide +kernel) (by decide +kernel)) (goodIn_sub (fun _ h => List.mem_append_left _ (List.mem_append_right _ h)) (by decide +kernel))
set_option maxRecDepth 20000 in
theorem gL_law_L_length : GoodIn wsL_law (va_wsS RL 108 yL_length wsL_length) := goodIn_app (goodIn_of _ (by decide +kernel)) ggL_law_L_length
set_option maxRecDepth 20000 in
theorem ggL_law_X5_length : GoodIn wsL_law wsX5_length := goodIn_r _ [262, 50, 247, 248, 249, 5, 250, 178, 84, 85, 86, 87, 88, 576, 577, 578, 579, 580, 581, 582, 583, 584, 585, 586, 587, 588, 589, 590, 591, 592, 593, 594, 595, 596, 597, 598, 599, 600, 601] (by decide +kernel) (by decide +kernel)
set_option maxRecDepth 20000 in
theorem gL_law_X5_length : GoodIn wsL_law (wsV RL 110 RX5 yX5_length wsX5_length) := goodIn_app (goodIn_of _ (by decide +kernel)) ggL_law_X5_length
set_option maxRecDepth 20000 in
theorem ggL_law_L_addRate : GoodIn wsL_law wsL_addRate := goodIn_ca (goodIn_ca (goodIn_r _ [265, 67, 96, 266, 267, 268, 2, 269, 72, 73, 101, 102, 270, 19, 18, 271, 272, 273, 274, 275, 276, 74, 75, 76, 277, 278, 279, 280, 281, 282, 283, 11, 12, 284, 285, 286, 287, 288, 289, 290, 568, 569, 570, 571, 572, 573, 574, 575, 617, 618, 619, 620, 621, 622, 623] (by decide +kernel) (by decide +kernel)) (goodIn_sub (fun _ h => List.mem_append_left _ (List.mem_append_left _ (List.mem_append_left _ (List.mem_append_right _ h)))) (by decide +kernel))) (goodIn_sub (fun _ h => List.mem_append_left _ (List.mem_append_left _ (List.mem_append_right _ h))) (by decide +kernel))
set_option maxRecDepth 20000 in
theorem gL_law_L_addRate : GoodIn wsL_law (va_wsS RL 111 yL_addRate wsL_addRate) := goodIn_app (goodIn_of _ (by decide +kernel)) ggL_law_L_addRate
set_option maxRecDepth 20000 in
theorem ggL_law_X5_addRate : GoodIn wsL_law wsX5_addRate := goodIn_r _ [294, 295, 54, 55, 56, 57, 58, 59, 296, 297, 5, 298, 299, 81, 82, 83, 84, 85, 86, 87, 88, 190, 191, 192, 193, 576, 577, 578, 579, 580, 581, 582, 583, 584, 585, 586, 587, 588, 589, 590, 591, 592, 593, 594, 595, 596, 597, 598, 599, 600, 601] (by decide +kernel) (by decide +kernel)
set_option maxRecDepth 20000 in
theorem gL_law_X5_addRate : GoodIn wsL_law (wsV RL 114 RX5 yX5_addRate wsX5_addRate) := goodIn_app (goodIn_of _ (by decide +kernel)) ggL_law_X5_addRate
set_option maxRecDepth 20000 in
theorem ggL_law_L_rateFor : GoodIn wsL_law wsL_rateFor := goodIn_ca (goodIn_ca (goodIn_r _ [302, 67, 303, 304, 305, 306, 2, 307, 72, 73, 308, 309, 310, 110, 111, 112, 113, 74, 75, 76, 277, 278, 279, 311, 312, 313, 314, 19, 315, 316, 317, 318, 319, 320, 321, 322, 272, 323, 285, 286, 284, 617, 618, 619, 620, 621, 622, 623, 568, 569, 570, 571, 572, 573, 574, 575] (by decide +kernel) (by decide +kernel)) (goodIn_sub (fun _ h => List.mem_append_left _ (List.mem_append_left _ (List.mem_append_left _ (List.mem_append_right _ h)))) (by decide +kernel))) (goodIn_sub (fun _ h => List.mem_append_right _ h) (by decide +kernel))
set_option maxRecDepth 20000 in
theorem gL_law_L_rateFor : GoodIn wsL_law (va_wsS RL 115 yL_rateFor wsL_rateFor) := goodIn_app (goodIn_of _ (by decide +kernel)) ggL_law_L_rateFor
set_option maxRecDepth 20000 in
theorem ggL_law_X5_rateFor : GoodIn wsL_law wsX5_rateFor := goodIn_r _ [327, 179, 180, 5, 181, 182, 81, 82, 83, 84, 85, 86, 87, 88, 328, 329, 330, 331, 295, 54, 55, 332, 333, 334, 190, 191, 192, 193, 576, 577, 578, 579, 580, 581, 582, 583, 584, 585, 586, 587, 588, 589, 590, 591, 592, 593, 594, 595, 596, 597, 598, 599, 600, 601] (by decide +kernel) (by decide +kernel)
set_option maxRecDepth 20000 in
theorem gL_law_X5_rateFor : GoodIn wsL_law (wsV RL 118 RX5 yX5_rateFor wsX5_rateFor) := goodIn_app (goodIn_of _ (by decide +kernel)) ggL_law_X5_rateFor
set_option maxRecDepth 20000 in
theorem ggL_law_L_charge : GoodIn wsL_law wsL_charge := goodIn_ca (goodIn_ca (goodIn_r _ [337, 231, 303, 338, 339, 340, 2, 341, 236, 237, 308, 309, 239, 240, 241, 242, 16, 342, 343, 344, 345, 125, 258, 346, 347, 348, 129, 349, 136, 311, 312, 313, 314, 19, 315, 316, 317, 318, 319, 320, 321, 322, 272, 323, 285, 286, 284, 350, 351, 352, 353, 288, 289, 354, 165, 139, 166, 290, 287, 355, 356, 357, 568, 569, 570, 571, 572, 573, 574, 575, 609, 610, 611, 612, 613, 614, 615, 616, 617, 618, 619, 620, 621, 622, 623] (by decide +kernel) (by decide +kernel)) (goodIn_sub (fun _ h => List.mem_append_left _ (List.mem_append_right _ h)) (by decide +kernel))) (goodIn_sub (fun _ h => List.mem_append_right _ h) (by decide +kernel))
set_option maxRecDepth 20000 in
theorem gL_law_L_charge : GoodIn wsL_law (va_wsS RL 119 yL_charge wsL_charge) := goodIn_app (goodIn_of _ (by decide +kernel)) ggL_law_L_charge
set_option maxRecDepth 20000 in
theorem ggL_law_X5_charge : GoodIn wsL_law wsX5_charge := goodIn_r _ [361, 247, 248, 249, 5, 250, 178, 84, 85, 86, 87, 88, 362, 363, 364, 365, 47, 48, 50, 57, 58, 59, 56, 328, 329, 330, 331, 295, 54, 55, 332, 333, 334, 190, 191, 192, 193, 576, 577, 578, 579, 580, 581, 582, 583, 584, 585, 586, 587, 588, 589, 590, 591, 592, 593, 594, 595, 596, 597, 598, 599, 600, 601] (by decide +kernel) (by decide +kernel)
set_option maxRecDepth 20000 in
theorem gL_law_X5_charge : GoodIn wsL_law (wsV RL 121 RX5 yX5_charge wsX5_charge) := goodIn_app (goodIn_of _ (by decide +kernel)) ggL_law_X5_charge
set_option maxRecDepth 20000 in
theorem ggL_law_X4_book : GoodIn wsL_law wsX4_book := goodIn_r _ [369, 16, 370, 371, 372, 373, 129, 374, 152, 342, 343, 344, 2, 345, 125, 258, 346, 347, 348, 349, 136, 311, 312, 313, 314, 19, 315, 316, 317, 318, 319, 320, 321, 322, 272, 323, 285, 286, 284, 350, 351, 352, 353, 288, 289, 354, 165, 139, 166, 290, 287, 355, 356, 357, 568, 569, 570, 571, 572, 573, 574, 575, 609, 610, 611, 612, 613, 614, 615, 616, 617, 618, 619, 620, 621, 622, 623] (by decide +kernel) (by decide +kernel)
set_option maxRecDepth 20000 in
theorem gL_law_X4_book : GoodIn wsL_law (wsV RL 122 RX4 yX4_book wsX4_book) := goodIn_app (goodIn_of _ (by decide +kernel)) ggL_law_X4_book
set_option maxRecDepth 20000 in
theorem ggL_law_X5_book : GoodIn wsL_law wsX5_book := goodIn_r _ [378, 88, 178, 52, 362, 363, 364, 5, 365, 47, 48, 50, 57, 58, 59, 56, 328, 329, 330, 331, 295, 54, 55, 332, 333, 334, 576, 577, 578, 579, 580, 581, 582, 583, 584, 585, 586, 587, 588, 589, 590, 591, 592, 593, 594, 595, 596, 597, 598, 599, 600, 601] (by decide +kernel) (by decide +kernel)
set_option maxRecDepth 20000 in
theorem gL_law_X5_book : GoodIn wsL_law (wsV RL 125 RX5 yX5_book wsX5_book) := goodIn_app (goodIn_of _ (by decide +kernel)) ggL_law_X5_book
set_option maxRecDepth 20000 in
theorem ggL_law_L_booked : GoodIn wsL_law wsL_booked := goodIn_ca (goodIn_ca (goodIn_r _ [381, 231, 303, 382, 383, 384, 2, 385, 236, 237, 308, 309, 370, 239, 240, 241, 242, 16, 371, 372, 373, 129, 374, 152, 609, 610, 611, 612, 613, 614, 615, 616, 568, 569, 570, 571, 572, 573, 574, 575] (by decide +kernel) (by decide +kernel)) (goodIn_sub (fun _ h => List.mem_append_left _ (List.mem_append_right _ h)) (by decide +kernel))) (goodIn_sub (fun _ h => List.mem_append_right _ h) (by decide +kernel))
set_option maxRecDepth 20000 in
theorem gL_law_L_booked : GoodIn wsL_law (va_wsS RL 126 yL_booked wsL_booked) := goodIn_app (goodIn_of _ (by decide +kernel)) ggL_law_L_booked
set_option maxRecDepth 20000 in
theorem ggL_law_X5_booked : GoodIn wsL_law wsX5_booked := goodIn_r _ [389, 52, 247, 248, 249, 5, 250, 178, 84, 85, 86, 87, 88, 190, 191, 192, 193, 576, 577, 578, 579, 580, 581, 582, 583, 584, 585, 586, 587, 588, 589, 590, 591, 592, 593, 594, 595, 596, 597, 598, 599, 600, 601] (by decide +kernel) (by decide +kernel)
set_option maxRecDepth 20000 in
theorem gL_law_X5_booked : GoodIn wsL_law (wsV RL 128 RX5 yX5_booked wsX5_booked) := goodIn_app (goodIn_of _ (by decide +kernel)) ggL_law_X5_booked
set_option maxRecDepth 20000 in
theorem ggL_law_X4_correct : GoodIn wsL_law wsX4_correct := goodIn_r _ [393, 16, 371, 372, 373, 129, 374, 152, 394, 395, 396, 2, 397, 370, 398, 342, 343, 344, 345, 125, 258, 346, 347, 348, 349, 136, 311, 312, 313, 314, 19, 315, 316, 317, 318, 319, 320, 321, 322, 272, 323, 285, 286, 284, 350, 351, 352, 353, 288, 289, 354, 165, 139, 166, 290, 287, 355, 356, 357, 568, 569, 570, 571, 572, 573, 574, 575, 609, 610, 611, 612, 613, 614, 615, 616, 617, 618, 619, 620, 621, 622, 623] (by decide +kernel) (by decide +kernel)
set_option maxRecDepth 20000 in
theorem gL_law_X4_correct : GoodIn wsL_law (wsV RL 129 RX4 yX4_correct wsX4_correct) := goodIn_app (goodIn_of _ (by decide +kernel)) ggL_law_X4_correct
set_option maxRecDepth 20000 in
theorem ggL_law_X5_correct : GoodIn wsL_law wsX5_correct := goodIn_r _ [402, 88, 178, 52, 403, 362, 363, 364, 5, 365, 47, 48, 50, 57, 58, 59, 56, 328, 329, 330, 331, 295, 54, 55, 332, 333, 334, 576, 577, 578, 579, 580, 581, 582, 583, 584, 585, 586, 587, 588, 589, 590, 591, 592, 593, 594, 595, 596, 597, 598, 599, 600, 601] (by decide +kernel) (by decide +kernel)
set_option maxRecDepth 20000 in
theorem gL_law_X5_correct : GoodIn wsL_law (wsV RL 132 RX5 yX5_correct wsX5_correct) := goodIn_app (goodIn_of _ (by decide +kernel)) ggL_law_X5_correct
set_option maxRecDepth 20000 in
theorem ggL_law_X4_corrections : GoodIn wsL_law wsX4_corrections := goodIn_r _ [407, 398, 568, 569, 570, 571, 572, 573, 574, 575] (by decide +kernel) (by decide +kernel)
set_option maxRecDepth 20000 in
theorem gL_law_X4_corrections : GoodIn wsL_law (wsV RL 133 RX4 yX4_corrections wsX4_corrections) := goodIn_app (goodIn_of _ (by decide +kernel)) ggL_law_X4_corrections
set_option maxRecDepth 20000 in
theorem ggL_law_X5_corrections : GoodIn wsL_law wsX5_corrections := goodIn_r _ [411, 88, 403, 576, 577, 578, 579, 580, 581, 582, 583, 584, 585, 586, 587, 588, 589, 590, 591, 592, 593, 594, 595, 596, 597, 598, 599, 600, 601] (by decide +kernel) (by decide +kernel)
set_option maxRecDepth 20000 in
theorem gL_law_X5_corrections : GoodIn wsL_law (wsV RL 136 RX5 yX5_corrections wsX5_corrections) := goodIn_app (goodIn_of _ (by decide +kernel)) ggL_law_X5_corrections
set_option maxRecDepth 20000 in
theorem ggL_law_L_total : GoodIn wsL_law wsL_total := goodIn_ca (goodIn_r _ [414, 67, 415, 416, 417, 2, 418, 72, 73, 16, 125, 273, 274, 275, 276, 74, 75, 76, 317, 318, 319, 419, 420, 421, 129, 422, 152, 423, 372, 373, 374, 568, 569, 570, 571, 572, 573, 574, 575, 609, 610, 611, 612, 613, 614, 615, 616] (by decide +kernel) (by decide +kernel)) (goodIn_sub (fun _ h => List.mem_append_left _ (List.mem_append_left _ (List.mem_append_left _ (List.mem_append_right _ h)))) (by decide +kernel))
set_option maxRecDepth 20000 in
theorem gL_law_L_total : GoodIn wsL_law (va_wsS RL 137 yL_total wsL_total) := goodIn_app (goodIn_of _ (by decide +kernel)) ggL_law_L_total
set_option maxRecDepth 20000 in
theorem ggL_law_X5_total : GoodIn wsL_law wsX5_total := goodIn_r _ [427, 178, 47, 296, 297, 5, 298, 299, 81, 82, 83, 84, 85, 86, 87, 88, 332, 333, 334, 428, 429, 430, 431, 52, 576, 577, 578, 579, 580, 581, 582, 583, 584, 585, 586, 587, 588, 589, 590, 591, 592, 593, 594, 595, 596, 597, 598, 599, 600, 601] (by decide +kernel) (by decide +kernel)
set_option maxRecDepth 20000 in
theorem gL_law_X5_total : GoodIn wsL_law (wsV RL 139 RX5 yX5_total wsX5_total) := goodIn_app (goodIn_of _ (by decide +kernel)) ggL_law_X5_total
set_option maxRecDepth 20000 in
theorem ggL_law_L_offer : GoodIn wsL_law wsL_offer := goodIn_ca (goodIn_ca (goodIn_r _ [434, 67, 96, 435, 436, 437, 2, 438, 72, 73, 101, 102, 439, 440, 441, 442, 21, 273, 274, 275, 276, 74, 75, 76, 443, 444, 445, 25, 446, 447, 448, 449, 450, 35, 451, 452, 453, 454, 36, 568, 569, 570, 571, 572, 573, 574, 575, 607, 608] (by decide +kernel) (by decide +kernel)) (goodIn_sub (fun _ h => List.mem_append_left _ (List.mem_append_left _ (List.mem_append_left _ (List.mem_append_right _ h)))) (by decide +kernel))) (goodIn_sub (fun _ h => List.mem_append_left _ (List.mem_append_left _ (List.mem_append_right _ h))) (by decide +kernel))
set_option maxRecDepth 20000 in
theorem gL_law_L_offer : GoodIn wsL_law (va_wsS RL 140 yL_offer wsL_offer) := goodIn_app (goodIn_of _ (by decide +kernel)) ggL_law_L_offer
set_option maxRecDepth 20000 in
theorem ggL_law_X5_offer : GoodIn wsL_law wsX5_offer := goodIn_r _ [458, 60, 61, 62, 81, 82, 5, 83, 296, 297, 298, 299, 84, 85, 86, 87, 88, 190, 191, 192, 193, 576, 577, 578, 579, 580, 581, 582, 583, 584, 585, 586, 587, 588, 589, 590, 591, 592, 593, 594, 595, 596, 597, 598, 599, 600, 601] (by decide +kernel) (by decide +kernel)
set_option maxRecDepth 20000 in
theorem gL_law_X5_offer : GoodIn wsL_law (wsV RL 143 RX5 yX5_offer wsX5_offer) := goodIn_app (goodIn_of _ (by decide +kernel)) ggL_law_X5_offer
set_option maxRecDepth 20000 in
theorem ggL_law_L_offerFor : GoodIn wsL_law wsL_offerFor := goodIn_ca (goodIn_ca (goodIn_r _ [461, 67, 303, 462, 463, 464, 2, 465, 72, 73, 308, 309, 439, 440, 441, 442, 21, 110, 111, 112, 113, 74, 75, 76, 466, 467, 468, 25, 469, 35, 36, 318, 319, 568, 569, 570, 571, 572, 573, 574, 575, 607, 608] (by decide +kernel) (by decide +kernel)) (goodIn_sub (fun _ h => List.mem_append_left _ (List.mem_append_left _ (List.mem_append_left _ (List.mem_append_right _ h)))) (by decide +kernel))) (goodIn_sub (fun _ h => List.mem_append_right _ h) (by decide +kernel))
set_option maxRecDepth 20000 in
theorem gL_law_L_offerFor : GoodIn wsL_law (va_wsS RL 144 yL_offerFor wsL_offerFor) := goodIn_app (goodIn_of _ (by decide +kernel)) ggL_law_L_offerFor
set_option maxRecDepth 20000 in
theorem ggL_law_X5_offerFor : GoodIn wsL_law wsX5_offerFor := goodIn_r _ [473, 81, 82, 5, 83, 179, 180, 181, 182, 84, 85, 86, 87, 88, 474, 475, 476, 477, 60, 61, 62, 332, 333, 334, 190, 191, 192, 193, 576, 577, 578, 579, 580, 581, 582, 583, 584, 585, 586, 587, 588, 589, 590, 591, 592, 593, 594, 595, 596, 597, 598, 599, 600, 601] (by decide +kernel) (by decide +kernel)
set_option maxRecDepth 20000 in
theorem gL_law_X5_offerFor : GoodIn wsL_law (wsV RL 146 RX5 yX5_offerFor wsX5_offerFor) := goodIn_app (goodIn_of _ (by decide +kernel)) ggL_law_X5_offerFor
set_option maxRecDepth 20000 in
theorem ggL_law_L_route : GoodIn wsL_law wsL_route := goodIn_ca (goodIn_ca (goodIn_r _ [480, 67, 303, 481, 482, 483, 2, 484, 72, 73, 308, 309, 485, 110, 111, 112, 113, 74, 75, 76, 277, 278, 279, 311, 312, 313, 314, 19, 315, 316, 317, 318, 319, 320, 321, 322, 272, 323, 285, 286, 284, 486, 487, 488, 489, 21, 490, 491, 492, 493, 439, 440, 441, 442, 466, 467, 468, 25, 469, 35, 36, 494, 495, 496, 497, 617, 618, 619, 620, 621, 622, 623, 568, 569, 570, 571, 572, 573, 574, 575, 607, 608] (by decide +kernel) (by decide +kernel)) (goodIn_sub (fun _ h => List.mem_append_left _ (List.mem_append_left _ (List.mem_append_left _ (List.mem_append_right _ h)))) (by decide +kernel))) (goodIn_sub (fun _ h => List.mem_append_right _ h) (by decide +kernel))
set_option maxRecDepth 20000 in
theorem gL_law_L_route : GoodIn wsL_law (va_wsS RL 147 yL_route wsL_route) := goodIn_app (goodIn_of _ (by decide +kernel)) ggL_law_L_route
set_option maxRecDepth 20000 in
theorem ggL_law_X5_route : GoodIn wsL_law wsX5_route := goodIn_r _ [501, 56, 179, 180, 5, 181, 182, 81, 82, 83, 84, 85, 86, 87, 88, 328, 329, 330, 331, 295, 54, 55, 332, 333, 334, 474, 475, 476, 477, 60, 61, 62, 190, 191, 192, 193, 576, 577, 578, 579, 580, 581, 582, 583, 584, 585, 586, 587, 588, 589, 590, 591, 592, 593, 594, 595, 596, 597, 598, 599, 600, 601] (by decide +kernel) (by decide +kernel)
set_option maxRecDepth 20000 in
theorem gL_law_X5_route : GoodIn wsL_law (wsV RL 150 RX5 yX5_route wsX5_route) := goodIn_app (goodIn_of _ (by decide +kernel)) ggL_law_X5_route
set_option maxRecDepth 20000 in
theorem ggL_law_L_claim : GoodIn wsL_law wsL_claim := goodIn_ca (goodIn_ca (goodIn_r _ [504, 231, 67, 505, 506, 507, 2, 508, 236, 237, 72, 73, 509, 510, 239, 240, 241, 242, 16, 74, 75, 76, 609, 610, 611, 612, 613, 614, 615, 616, 568, 569, 570, 571, 572, 573, 574, 575] (by decide +kernel) (by decide +kernel)) (goodIn_sub (fun _ h => List.mem_append_left _ (List.mem_append_right _ h)) (by decide +kernel))) (goodIn_sub (fun _ h => List.mem_append_left _ (List.mem_append_left _ (List.mem_append_left _ (List.mem_append_right _ h)))) (by decide +kernel))
set_option maxRecDepth 20000 in
theorem gL_law_L_claim : GoodIn wsL_law (va_wsS RL 151 yL_claim wsL_claim) := goodIn_app (goodIn_of _ (by decide +kernel)) ggL_law_L_claim
set_option maxRecDepth 20000 in
theorem ggL_law_X5_claim : GoodIn wsL_law wsX5_claim := goodIn_r _ [514, 515, 53, 247, 248, 249, 5, 250, 178, 84, 85, 86, 87, 88, 81, 82, 83, 190, 191, 192, 193, 576, 577, 578, 579, 580, 581, 582, 583, 584, 585, 586, 587, 588, 589, 590, 591, 592, 593, 594, 595, 596, 597, 598, 599, 600, 601] (by decide +kernel) (by decide +kernel)
set_option maxRecDepth 20000 in
theorem gL_law_X5_claim : GoodIn wsL_law (wsV RL 153 RX5 yX5_claim wsX5_claim) := goodIn_app (goodIn_of _ (by decide +kernel)) ggL_law_X5_claim
set_option maxRecDepth 20000 in
theorem ggL_law_L_difference : GoodIn wsL_law wsL_difference := goodIn_ca (goodIn_r _ [518, 67, 519, 520, 521, 2, 522, 72, 73, 273, 274, 275, 276, 74, 75, 76, 523, 524, 525, 526, 16, 125, 317, 318, 319, 527, 528, 529, 129, 530, 531, 532, 420, 421, 422, 152, 423, 372, 373, 374, 568, 569, 570, 571, 572, 573, 574, 575, 609, 610, 611, 612, 613, 614, 615, 616] (by decide +kernel) (by decide +kernel)) (goodIn_sub (fun _ h => List.mem_append_left _ (List.mem_append_left _ (List.mem_append_left _ (List.mem_append_right _ h)))) (by decide +kernel))
set_option maxRecDepth 20000 in
theorem gL_law_L_difference : GoodIn wsL_law (va_wsS RL 154 yL_difference wsL_difference) := goodIn_app (goodIn_of _ (by decide +kernel)) ggL_law_L_difference
set_option maxRecDepth 20000 in
theorem ggL_law_X5_difference : GoodIn wsL_law wsX5_difference := goodIn_r _ [536, 296, 297, 5, 298, 299, 81, 82, 83, 84, 85, 86, 87, 88, 537, 538, 539, 540, 178, 47, 53, 332, 333, 334, 428, 429, 430, 431, 52, 576, 577, 578, 579, 580, 581, 582, 583, 584, 585, 586, 587, 588, 589, 590, 591, 592, 593, 594, 595, 596, 597, 598, 599, 600, 601] (by decide +kernel) (by decide +kernel)
set_option maxRecDepth 20000 in
theorem gL_law_X5_difference : GoodIn wsL_law (wsV RL 156 RX5 yX5_difference wsX5_difference) := goodIn_app (goodIn_of _ (by decide +kernel)) ggL_law_X5_difference
set_option maxRecDepth 20000 in
theorem ggL_law_L_narrow : GoodIn wsL_law wsL_narrow := goodIn_ca (goodIn_r _ [543, 67, 544, 545, 546, 2, 547, 72, 73, 74, 75, 76, 548, 549, 550, 551, 552, 138, 139, 140, 523, 524, 525, 526, 16, 125, 317, 318, 319, 527, 528, 529, 129, 530, 531, 532, 420, 421, 422, 152, 423, 372, 373, 374, 568, 569, 570, 571, 572, 573, 574, 575, 609, 610, 611, 612, 613, 614, 615, 616] (by decide +kernel) (by decide +kernel)) (goodIn_sub (fun _ h => List.mem_append_left _ (List.mem_append_left _ (List.mem_append_left _ (List.mem_append_right _ h)))) (by decide +kernel))
set_option maxRecDepth 20000 in
theorem gL_law_L_narrow : GoodIn wsL_law (va_wsS RL 157 yL_narrow wsL_narrow) := goodIn_app (goodIn_of _ (by decide +kernel)) ggL_law_L_narrow
set_option maxRecDepth 20000 in
theorem ggL_law_X5_narrow : GoodIn wsL_law wsX5_narrow := goodIn_r _ [556, 81, 82, 5, 83, 84, 85, 86, 87, 88, 537, 538, 539, 540, 178, 47, 53, 332, 333, 334, 428, 429, 430, 431, 52, 187, 188, 189, 576, 577, 578, 579, 580, 581, 582, 583, 584, 585, 586, 587, 588, 589, 590, 591, 592, 593, 594, 595, 596, 597, 598, 599, 600, 601] (by decide +kernel) (by decide +kernel)
set_option maxRecDepth 20000 in
theorem gL_law_X5_narrow : GoodIn wsL_law (wsV RL 159 RX5 yX5_narrow wsX5_narrow) := goodIn_app (goodIn_of _ (by decide +kernel)) ggL_law_X5_narrow
set_option maxRecDepth 20000 in
theorem ggL_law_L_worst : GoodIn wsL_law wsL_worst := goodIn_ca (goodIn_r _ [559, 303, 560, 561, 562, 2, 563, 308, 309, 16, 552, 138, 139, 140, 105, 527, 528, 529, 129, 530, 531, 532, 420, 421, 422, 152, 423, 372, 373, 374, 568, 569, 570, 571, 572, 573, 574, 575, 609, 610, 611, 612, 613, 614, 615, 616] (by decide +kernel) (by decide +kernel)) (goodIn_sub (fun _ h => List.mem_append_right _ h) (by decide +kernel))
set_option maxRecDepth 20000 in
theorem gL_law_L_worst : GoodIn wsL_law (va_wsS RL 160 yL_worst wsL_worst) := goodIn_app (goodIn_of _ (by decide +kernel)) ggL_law_L_worst
set_option maxRecDepth 20000 in
theorem ggL_law_X5_worst : GoodIn wsL_law wsX5_worst := goodIn_r _ [567, 178, 53, 428, 429, 430, 5, 431, 52, 187, 188, 189, 84, 85, 86, 87, 88, 576, 577, 578, 579, 580, 581, 582, 583, 584, 585, 586, 587, 588, 589, 590, 591, 592, 593, 594, 595, 596, 597, 598, 599, 600, 601] (by decide +kernel) (by decide +kernel)
set_option maxRecDepth 20000 in
theorem gL_law_X5_worst : GoodIn wsL_law (wsV RL 163 RX5 yX5_worst wsX5_worst) := goodIn_app (goodIn_of _ (by decide +kernel)) ggL_law_X5_worst
