set_option maxRecDepth 20000 in
theorem ggL_drift_X3_drift : GoodIn wsL_drift wsX3_drift := goodIn_ca (goodIn_ca (goodIn_ca (goodIn_r _ [8, 9, 10, 11, 12, 13, 14, 15, 16, 17, 18, 19, 20, 7, 21, 22, 23, 24, 25, 26, 27, 28, 29, 30, 31, 32, 33, 34, 35, 36, 37, 38, 39, 40, 41, 42, 43, 44, 45, 46, 47, 48] (by decide +kernel) (by decide +kernel)) (goodIn_sub (fun _ h => List.mem_cons_of_mem _ (List.mem_append_left _ (List.mem_append_left _ (List.mem_append_right _ h)))) (by decide +kernel))) (goodIn_sub (fun _ h => List.mem_cons_of_mem _ (List.mem_append_left _ (List.mem_append_right _ h))) (by decide +kernel))) (goodIn_sub (fun _ h => List.mem_cons_of_mem _ (List.mem_append_right _ h)) (by decide +kernel))
set_option maxRecDepth 20000 in
theorem gL_drift_X3_drift : GoodIn wsL_drift (wsV RL 7 RX3 yX3_drift wsX3_drift) := goodIn_app (goodIn_of _ (by decide +kernel)) ggL_drift_X3_drift
theorem dL_drift_0 : decode cL_drift 0 = .ok (.aload 4, 2) := by decide +kernel
theorem dL_drift_2 : decode cL_drift 2 = .ok (.iconst 0, 1) := by decide +kernel
theorem dL_drift_3 : decode cL_drift 3 = .ok (.aload_n 0, 1) := by decide +kernel
theorem dL_drift_4 : decode cL_drift 4 = .ok (.iload_n 1, 1) := by decide +kernel
theorem dL_drift_5 : decode cL_drift 5 = .ok (.iload_n 2, 1) := by decide +kernel
theorem dL_drift_6 : decode cL_drift 6 = .ok (.fload_n 3, 1) := by decide +kernel
theorem dL_drift_7 : decode cL_drift 7 = .ok (.invokevirtual 7, 3) := by decide +kernel
theorem dL_drift_10 : decode cL_drift 10 = .ok (.i2l, 1) := by decide +kernel
theorem dL_drift_11 : decode cL_drift 11 = .ok (.lastore, 1) := by decide +kernel
theorem dL_drift_12 : decode cL_drift 12 = .ok (.goto 15, 3) := by decide +kernel
theorem dL_drift_15 : decode cL_drift 15 = .ok (.astore 5, 2) := by decide +kernel
theorem dL_drift_17 : decode cL_drift 17 = .ok (.iconst 1, 1) := by decide +kernel
theorem dL_drift_18 : decode cL_drift 18 = .ok (.ireturn, 1) := by decide +kernel
theorem dL_drift_19 : decode cL_drift 19 = .ok (.astore 5, 2) := by decide +kernel
theorem dL_drift_21 : decode cL_drift 21 = .ok (.iconst 2, 1) := by decide +kernel
theorem dL_drift_22 : decode cL_drift 22 = .ok (.ireturn, 1) := by decide +kernel
theorem dL_drift_23 : decode cL_drift 23 = .ok (.astore 5, 2) := by decide +kernel
theorem dL_drift_25 : decode cL_drift 25 = .ok (.iconst 3, 1) := by decide +kernel
theorem dL_drift_26 : decode cL_drift 26 = .ok (.ireturn, 1) := by decide +kernel
theorem dL_drift_27 : decode cL_drift 27 = .ok (.iconst 0, 1) := by decide +kernel
theorem dL_drift_28 : decode cL_drift 28 = .ok (.ireturn, 1) := by decide +kernel
set_option maxRecDepth 20000 in
theorem ggL_every_X3_every : GoodIn wsL_every wsX3_every := goodIn_ca (goodIn_r _ [6, 7, 8, 9, 10, 11, 12, 13, 14, 15, 16] (by decide +kernel) (by decide +kernel)) (goodIn_sub (fun _ h => List.mem_cons_of_mem _ (List.mem_append_right _ h)) (by decide +kernel))
set_option maxRecDepth 20000 in
theorem gL_every_X3_every : GoodIn wsL_every (wsV RL 19 RX3 yX3_every wsX3_every) := goodIn_app (goodIn_of _ (by decide +kernel)) ggL_every_X3_every
theorem dL_every_0 : decode cL_every 0 = .ok (.aload_n 2, 1) := by decide +kernel
theorem dL_every_1 : decode cL_every 1 = .ok (.iconst 0, 1) := by decide +kernel
theorem dL_every_2 : decode cL_every 2 = .ok (.aload_n 0, 1) := by decide +kernel
theorem dL_every_3 : decode cL_every 3 = .ok (.iload_n 1, 1) := by decide +kernel
theorem dL_every_4 : decode cL_every 4 = .ok (.invokevirtual 19, 3) := by decide +kernel
theorem dL_every_7 : decode cL_every 7 = .ok (.i2l, 1) := by decide +kernel
theorem dL_every_8 : decode cL_every 8 = .ok (.lastore, 1) := by decide +kernel
theorem dL_every_9 : decode cL_every 9 = .ok (.goto 6, 3) := by decide +kernel
theorem dL_every_12 : decode cL_every 12 = .ok (.astore_n 3, 1) := by decide +kernel
theorem dL_every_13 : decode cL_every 13 = .ok (.iconst 1, 1) := by decide +kernel
theorem dL_every_14 : decode cL_every 14 = .ok (.ireturn, 1) := by decide +kernel
theorem dL_every_15 : decode cL_every 15 = .ok (.iconst 0, 1) := by decide +kernel
theorem dL_every_16 : decode cL_every 16 = .ok (.ireturn, 1) := by decide +kernel
set_option maxRecDepth 20000 in
theorem ggL_input_X3_input : GoodIn wsL_input wsX3_input := goodIn_ca (goodIn_ca (goodIn_ca (goodIn_r _ [8, 9, 10, 11, 12, 13, 7, 14, 15, 16, 17, 18, 19, 20, 21, 22, 23, 24, 25, 26, 27, 28, 29, 30, 31, 32, 33, 34, 35, 36, 37, 38, 39, 40, 41, 42, 43, 44, 45, 46, 47, 48, 49, 50, 51, 52, 53, 54, 55, 56, 57, 58, 59, 60, 61, 62, 63, 64, 65, 66] (by decide +kernel) (by decide +kernel)) (goodIn_sub (fun _ h => List.mem_cons_of_mem _ (List.mem_append_left _ (List.mem_append_left _ (List.mem_append_right _ h)))) (by decide +kernel))) (goodIn_sub (fun _ h => List.mem_cons_of_mem _ (List.mem_append_left _ (List.mem_append_right _ h))) (by decide +kernel))) (goodIn_sub (fun _ h => List.mem_cons_of_mem _ (List.mem_append_right _ h)) (by decide +kernel))
set_option maxRecDepth 20000 in
theorem gL_input_X3_input : GoodIn wsL_input (wsV RL 23 RX3 yX3_input wsX3_input) := goodIn_app (goodIn_of _ (by decide +kernel)) ggL_input_X3_input
theorem dL_input_0 : decode cL_input 0 = .ok (.aload 4, 2) := by decide +kernel
theorem dL_input_2 : decode cL_input 2 = .ok (.iconst 0, 1) := by decide +kernel
theorem dL_input_3 : decode cL_input 3 = .ok (.aload_n 0, 1) := by decide +kernel
theorem dL_input_4 : decode cL_input 4 = .ok (.iload_n 1, 1) := by decide +kernel
theorem dL_input_5 : decode cL_input 5 = .ok (.iload_n 2, 1) := by decide +kernel
theorem dL_input_6 : decode cL_input 6 = .ok (.fload_n 3, 1) := by decide +kernel
theorem dL_input_7 : decode cL_input 7 = .ok (.invokevirtual 23, 3) := by decide +kernel
theorem dL_input_10 : decode cL_input 10 = .ok (.i2l, 1) := by decide +kernel
theorem dL_input_11 : decode cL_input 11 = .ok (.lastore, 1) := by decide +kernel
theorem dL_input_12 : decode cL_input 12 = .ok (.goto 15, 3) := by decide +kernel
theorem dL_input_15 : decode cL_input 15 = .ok (.astore 5, 2) := by decide +kernel
theorem dL_input_17 : decode cL_input 17 = .ok (.iconst 1, 1) := by decide +kernel
theorem dL_input_18 : decode cL_input 18 = .ok (.ireturn, 1) := by decide +kernel
theorem dL_input_19 : decode cL_input 19 = .ok (.astore 5, 2) := by decide +kernel
theorem dL_input_21 : decode cL_input 21 = .ok (.iconst 2, 1) := by decide +kernel
theorem dL_input_22 : decode cL_input 22 = .ok (.ireturn, 1) := by decide +kernel
theorem dL_input_23 : decode cL_input 23 = .ok (.astore 5, 2) := by decide +kernel
theorem dL_input_25 : decode cL_input 25 = .ok (.iconst 3, 1) := by decide +kernel
theorem dL_input_26 : decode cL_input 26 = .ok (.ireturn, 1) := by decide +kernel
theorem dL_input_27 : decode cL_input 27 = .ok (.iconst 0, 1) := by decide +kernel
theorem dL_input_28 : decode cL_input 28 = .ok (.ireturn, 1) := by decide +kernel
set_option maxRecDepth 20000 in
theorem ggL_inputs_X3_inputs : GoodIn wsL_inputs wsX3_inputs := goodIn_ca (goodIn_ca (goodIn_ca (goodIn_r _ [8, 9, 10, 11, 12, 13, 14, 15, 7, 16, 17, 18, 19, 20, 21, 22, 23, 24, 25, 26, 27, 28, 29, 30, 31, 32, 33, 34, 35, 36, 37, 38, 39, 40, 41, 42, 43, 44, 45, 46, 47, 48, 49, 50, 51, 52, 53, 54, 55, 56, 57, 58, 59, 60, 61, 62, 63, 64, 65, 66, 67, 68, 69, 70] (by decide +kernel) (by decide +kernel)) (goodIn_sub (fun _ h => List.mem_cons_of_mem _ (List.mem_append_left _ (List.mem_append_left _ (List.mem_append_right _ h)))) (by decide +kernel))) (goodIn_sub (fun _ h => List.mem_cons_of_mem _ (List.mem_append_left _ (List.mem_append_right _ h))) (by decide +kernel))) (goodIn_sub (fun _ h => List.mem_cons_of_mem _ (List.mem_append_right _ h)) (by decide +kernel))
set_option maxRecDepth 20000 in
theorem gL_inputs_X3_inputs : GoodIn wsL_inputs (wsV RL 26 RX3 yX3_inputs wsX3_inputs) := goodIn_app (goodIn_of _ (by decide +kernel)) ggL_inputs_X3_inputs
theorem dL_inputs_0 : decode cL_inputs 0 = .ok (.aload 6, 2) := by decide +kernel
theorem dL_inputs_2 : decode cL_inputs 2 = .ok (.iconst 0, 1) := by decide +kernel
theorem dL_inputs_3 : decode cL_inputs 3 = .ok (.aload_n 0, 1) := by decide +kernel
theorem dL_inputs_4 : decode cL_inputs 4 = .ok (.iload_n 1, 1) := by decide +kernel
theorem dL_inputs_5 : decode cL_inputs 5 = .ok (.iload_n 2, 1) := by decide +kernel
theorem dL_inputs_6 : decode cL_inputs 6 = .ok (.iload_n 3, 1) := by decide +kernel
theorem dL_inputs_7 : decode cL_inputs 7 = .ok (.iload 4, 2) := by decide +kernel
theorem dL_inputs_9 : decode cL_inputs 9 = .ok (.fload 5, 2) := by decide +kernel
theorem dL_inputs_11 : decode cL_inputs 11 = .ok (.invokevirtual 26, 3) := by decide +kernel
theorem dL_inputs_14 : decode cL_inputs 14 = .ok (.i2l, 1) := by decide +kernel
theorem dL_inputs_15 : decode cL_inputs 15 = .ok (.lastore, 1) := by decide +kernel
theorem dL_inputs_16 : decode cL_inputs 16 = .ok (.goto 15, 3) := by decide +kernel
theorem dL_inputs_19 : decode cL_inputs 19 = .ok (.astore 7, 2) := by decide +kernel
theorem dL_inputs_21 : decode cL_inputs 21 = .ok (.iconst 1, 1) := by decide +kernel
theorem dL_inputs_22 : decode cL_inputs 22 = .ok (.ireturn, 1) := by decide +kernel
theorem dL_inputs_23 : decode cL_inputs 23 = .ok (.astore 7, 2) := by decide +kernel
theorem dL_inputs_25 : decode cL_inputs 25 = .ok (.iconst 2, 1) := by decide +kernel
theorem dL_inputs_26 : decode cL_inputs 26 = .ok (.ireturn, 1) := by decide +kernel
theorem dL_inputs_27 : decode cL_inputs 27 = .ok (.astore 7, 2) := by decide +kernel
theorem dL_inputs_29 : decode cL_inputs 29 = .ok (.iconst 3, 1) := by decide +kernel
theorem dL_inputs_30 : decode cL_inputs 30 = .ok (.ireturn, 1) := by decide +kernel
theorem dL_inputs_31 : decode cL_inputs 31 = .ok (.iconst 0, 1) := by decide +kernel
theorem dL_inputs_32 : decode cL_inputs 32 = .ok (.ireturn, 1) := by decide +kernel
set_option maxRecDepth 20000 in
theorem ggL_step_X3_step : GoodIn wsL_step wsX3_step := goodIn_ca (goodIn_r _ [6, 7, 8, 9, 10, 11, 12, 5, 13, 14, 15, 16, 17, 18, 19, 20, 21, 22, 23, 24, 25, 26, 27, 28, 29, 30, 31, 32, 33, 34, 35, 36, 37, 38, 39, 40, 41, 42, 43, 44, 45, 46, 47, 48, 49, 50, 51, 52, 53, 54, 55, 56, 57, 58, 59, 60, 61, 62, 63, 64, 65, 66, 67, 68, 69, 70, 71, 72, 73, 74, 75, 76, 77, 78, 79, 80, 81, 82, 83, 84, 85, 86, 87, 88, 89, 90, 91, 92, 93, 94, 95, 96, 97, 98, 99] (by decide +kernel) (by decide +kernel)) (goodIn_sub (fun _ h => List.mem_cons_of_mem _ (List.mem_append_right _ h)) (by decide +kernel))
set_option maxRecDepth 20000 in
theorem gL_step_X3_step : GoodIn wsL_step (wsV RL 30 RX3 yX3_step wsX3_step) := goodIn_app (goodIn_of _ (by decide +kernel)) ggL_step_X3_step
theorem dL_step_0 : decode cL_step 0 = .ok (.aload_n 2, 1) := by decide +kernel
theorem dL_step_1 : decode cL_step 1 = .ok (.iconst 0, 1) := by decide +kernel
theorem dL_step_2 : decode cL_step 2 = .ok (.aload_n 0, 1) := by decide +kernel
theorem dL_step_3 : decode cL_step 3 = .ok (.iload_n 1, 1) := by decide +kernel
theorem dL_step_4 : decode cL_step 4 = .ok (.invokevirtual 30, 3) := by decide +kernel
theorem dL_step_7 : decode cL_step 7 = .ok (.i2l, 1) := by decide +kernel
theorem dL_step_8 : decode cL_step 8 = .ok (.lastore, 1) := by decide +kernel
theorem dL_step_9 : decode cL_step 9 = .ok (.goto 6, 3) := by decide +kernel
theorem dL_step_12 : decode cL_step 12 = .ok (.astore_n 3, 1) := by decide +kernel
theorem dL_step_13 : decode cL_step 13 = .ok (.iconst 1, 1) := by decide +kernel
theorem dL_step_14 : decode cL_step 14 = .ok (.ireturn, 1) := by decide +kernel
theorem dL_step_15 : decode cL_step 15 = .ok (.iconst 0, 1) := by decide +kernel
theorem dL_step_16 : decode cL_step 16 = .ok (.ireturn, 1) := by decide +kernel
set_option maxRecDepth 20000 in
theorem ggL_back_X3_back : GoodIn wsL_back wsX3_back := goodIn_ca (goodIn_r _ [6, 7, 8, 9, 5, 10, 11, 12, 13, 14, 15, 16, 17, 18, 19, 20, 21, 22, 23, 24, 25, 26, 27, 28, 29, 30, 31, 32, 33, 34, 35, 36, 37, 38, 39, 40, 41, 42, 43, 44, 45, 46, 47, 48, 49, 50, 51, 52, 53, 54, 55, 56, 57, 58, 59, 60] (by decide +kernel) (by decide +kernel)) (goodIn_sub (fun _ h => List.mem_cons_of_mem _ (List.mem_append_right _ h)) (by decide +kernel))
set_option maxRecDepth 20000 in
theorem gL_back_X3_back : GoodIn wsL_back (wsV RL 33 RX3 yX3_back wsX3_back) := goodIn_app (goodIn_of _ (by decide +kernel)) ggL_back_X3_back
theorem dL_back_0 : decode cL_back 0 = .ok (.aload_n 2, 1) := by decide +kernel
theorem dL_back_1 : decode cL_back 1 = .ok (.iconst 0, 1) := by decide +kernel
theorem dL_back_2 : decode cL_back 2 = .ok (.aload_n 0, 1) := by decide +kernel
theorem dL_back_3 : decode cL_back 3 = .ok (.iload_n 1, 1) := by decide +kernel
theorem dL_back_4 : decode cL_back 4 = .ok (.invokevirtual 33, 3) := by decide +kernel
theorem dL_back_7 : decode cL_back 7 = .ok (.i2l, 1) := by decide +kernel
theorem dL_back_8 : decode cL_back 8 = .ok (.lastore, 1) := by decide +kernel
theorem dL_back_9 : decode cL_back 9 = .ok (.goto 6, 3) := by decide +kernel
theorem dL_back_12 : decode cL_back 12 = .ok (.astore_n 3, 1) := by decide +kernel
theorem dL_back_13 : decode cL_back 13 = .ok (.iconst 1, 1) := by decide +kernel
theorem dL_back_14 : decode cL_back 14 = .ok (.ireturn, 1) := by decide +kernel
theorem dL_back_15 : decode cL_back 15 = .ok (.iconst 0, 1) := by decide +kernel
theorem dL_back_16 : decode cL_back 16 = .ok (.ireturn, 1) := by decide +kernel
set_option maxRecDepth 20000 in
theorem ggL_forget_X3_forget : GoodIn wsL_forget wsX3_forget := goodIn_ca (goodIn_r _ [6, 7, 8, 9, 10, 11, 12, 13, 14, 15, 16, 17, 18, 19, 20, 21, 22, 23, 24, 25, 26, 27, 28, 29, 30, 31, 32] (by decide +kernel) (by decide +kernel)) (goodIn_sub (fun _ h => List.mem_cons_of_mem _ (List.mem_append_right _ h)) (by decide +kernel))
set_option maxRecDepth 20000 in
theorem gL_forget_X3_forget : GoodIn wsL_forget (wsV RL 36 RX3 yX3_forget wsX3_forget) := goodIn_app (goodIn_of _ (by decide +kernel)) ggL_forget_X3_forget
theorem dL_forget_0 : decode cL_forget 0 = .ok (.aload_n 2, 1) := by decide +kernel
theorem dL_forget_1 : decode cL_forget 1 = .ok (.iconst 0, 1) := by decide +kernel
theorem dL_forget_2 : decode cL_forget 2 = .ok (.aload_n 0, 1) := by decide +kernel
theorem dL_forget_3 : decode cL_forget 3 = .ok (.iload_n 1, 1) := by decide +kernel
theorem dL_forget_4 : decode cL_forget 4 = .ok (.invokevirtual 36, 3) := by decide +kernel
theorem dL_forget_7 : decode cL_forget 7 = .ok (.i2l, 1) := by decide +kernel
theorem dL_forget_8 : decode cL_forget 8 = .ok (.lastore, 1) := by decide +kernel
theorem dL_forget_9 : decode cL_forget 9 = .ok (.goto 6, 3) := by decide +kernel
theorem dL_forget_12 : decode cL_forget 12 = .ok (.astore_n 3, 1) := by decide +kernel
theorem dL_forget_13 : decode cL_forget 13 = .ok (.iconst 1, 1) := by decide +kernel
theorem dL_forget_14 : decode cL_forget 14 = .ok (.ireturn, 1) := by decide +kernel
theorem dL_forget_15 : decode cL_forget 15 = .ok (.iconst 0, 1) := by decide +kernel
theorem dL_forget_16 : decode cL_forget 16 = .ok (.ireturn, 1) := by decide +kernel
set_option maxRecDepth 20000 in
theorem ggL_late_X3_late : GoodIn wsL_late wsX3_late := goodIn_ca (goodIn_ca (goodIn_ca (goodIn_r _ [8, 9, 10, 11, 12, 13, 14, 15, 16, 17, 18, 7, 19, 20, 21, 22, 23, 24, 25, 26, 27, 28, 29, 30, 31, 32, 33, 34, 35, 36, 37, 38, 39, 40, 41, 42, 43, 44, 45, 46, 47, 48, 49, 50, 51, 52, 53, 54, 55, 56, 57, 58, 59, 60, 61, 62, 63, 64, 65, 66, 67, 68, 69, 70, 71, 72, 73, 74, 75, 76, 77, 78, 79, 80, 81, 82, 83, 84, 85, 86, 87, 88, 89, 90, 91, 92, 93, 94, 95, 96, 97, 98, 99, 100, 101, 102, 103, 104, 105, 106, 107, 108, 109, 110, 111, 112, 113, 114, 115, 116, 117, 118, 119, 120, 121, 122, 123, 124, 125, 126, 127, 128, 129, 130, 131, 132, 133, 134, 135, 136, 137] (by decide +kernel) (by decide +kernel)) (goodIn_sub (fun _ h => List.mem_cons_of_mem _ (List.mem_append_left _ (List.mem_append_left _ (List.mem_append_right _ h)))) (by decide +kernel))) (goodIn_sub (fun _ h => List.mem_cons_of_mem _ (List.mem_append_left _ (List.mem_append_right _ h))) (by decide +kernel))) (goodIn_sub (fun _ h => List.mem_cons_of_mem _ (List.mem_append_right _ h)) (by decide +kernel))
set_option maxRecDepth 20000 in
theorem gL_late_X3_late : GoodIn wsL_late (wsV RL 39 RX3 yX3_late wsX3_late) := goodIn_app (goodIn_of _ (by decide +kernel)) ggL_late_X3_late
theorem dL_late_0 : decode cL_late 0 = .ok (.aload 5, 2) := by decide +kernel
theorem dL_late_2 : decode cL_late 2 = .ok (.iconst 0, 1) := by decide +kernel
theorem dL_late_3 : decode cL_late 3 = .ok (.aload_n 0, 1) := by decide +kernel
theorem dL_late_4 : decode cL_late 4 = .ok (.iload_n 1, 1) := by decide +kernel
theorem dL_late_5 : decode cL_late 5 = .ok (.iload_n 2, 1) := by decide +kernel
theorem dL_late_6 : decode cL_late 6 = .ok (.iload_n 3, 1) := by decide +kernel
theorem dL_late_7 : decode cL_late 7 = .ok (.fload 4, 2) := by decide +kernel
theorem dL_late_9 : decode cL_late 9 = .ok (.invokevirtual 39, 3) := by decide +kernel
theorem dL_late_12 : decode cL_late 12 = .ok (.i2l, 1) := by decide +kernel
theorem dL_late_13 : decode cL_late 13 = .ok (.lastore, 1) := by decide +kernel
theorem dL_late_14 : decode cL_late 14 = .ok (.goto 15, 3) := by decide +kernel
theorem dL_late_17 : decode cL_late 17 = .ok (.astore 6, 2) := by decide +kernel
theorem dL_late_19 : decode cL_late 19 = .ok (.iconst 1, 1) := by decide +kernel
theorem dL_late_20 : decode cL_late 20 = .ok (.ireturn, 1) := by decide +kernel
theorem dL_late_21 : decode cL_late 21 = .ok (.astore 6, 2) := by decide +kernel
theorem dL_late_23 : decode cL_late 23 = .ok (.iconst 2, 1) := by decide +kernel
theorem dL_late_24 : decode cL_late 24 = .ok (.ireturn, 1) := by decide +kernel
theorem dL_late_25 : decode cL_late 25 = .ok (.astore 6, 2) := by decide +kernel
theorem dL_late_27 : decode cL_late 27 = .ok (.iconst 3, 1) := by decide +kernel
theorem dL_late_28 : decode cL_late 28 = .ok (.ireturn, 1) := by decide +kernel
theorem dL_late_29 : decode cL_late 29 = .ok (.iconst 0, 1) := by decide +kernel
theorem dL_late_30 : decode cL_late 30 = .ok (.ireturn, 1) := by decide +kernel
set_option maxRecDepth 20000 in
theorem ggL_cell__X3_cell : GoodIn wsL_cell_ wsX3_cell := goodIn_ca (goodIn_r _ [6, 7, 8, 9, 10, 5, 11, 12, 13, 14, 15, 16, 17, 18, 19, 20] (by decide +kernel) (by decide +kernel)) (goodIn_sub (fun _ h => List.mem_cons_of_mem _ (List.mem_append_right _ h)) (by decide +kernel))
set_option maxRecDepth 20000 in
theorem gL_cell__X3_cell : GoodIn wsL_cell_ (wsV RL 43 RX3 yX3_cell wsX3_cell) := goodIn_app (goodIn_of _ (by decide +kernel)) ggL_cell__X3_cell
theorem dL_cell__0 : decode cL_cell_ 0 = .ok (.aload_n 2, 1) := by decide +kernel
theorem dL_cell__1 : decode cL_cell_ 1 = .ok (.iconst 0, 1) := by decide +kernel
theorem dL_cell__2 : decode cL_cell_ 2 = .ok (.aload_n 0, 1) := by decide +kernel
theorem dL_cell__3 : decode cL_cell_ 3 = .ok (.iload_n 1, 1) := by decide +kernel
theorem dL_cell__4 : decode cL_cell_ 4 = .ok (.invokevirtual 43, 3) := by decide +kernel
theorem dL_cell__7 : decode cL_cell_ 7 = .ok (.f2d, 1) := by decide +kernel
theorem dL_cell__8 : decode cL_cell_ 8 = .ok (.dastore, 1) := by decide +kernel
theorem dL_cell__9 : decode cL_cell_ 9 = .ok (.goto 6, 3) := by decide +kernel
theorem dL_cell__12 : decode cL_cell_ 12 = .ok (.astore_n 3, 1) := by decide +kernel
theorem dL_cell__13 : decode cL_cell_ 13 = .ok (.iconst 1, 1) := by decide +kernel
theorem dL_cell__14 : decode cL_cell_ 14 = .ok (.ireturn, 1) := by decide +kernel
theorem dL_cell__15 : decode cL_cell_ 15 = .ok (.iconst 0, 1) := by decide +kernel
theorem dL_cell__16 : decode cL_cell_ 16 = .ok (.ireturn, 1) := by decide +kernel
set_option maxRecDepth 20000 in
theorem ggL_kept_X3_kept : GoodIn wsL_kept wsX3_kept := goodIn_ca (goodIn_r _ [6, 7, 8, 9, 10, 5, 11, 12, 13, 14, 15, 16, 17, 18, 19, 20, 21, 22, 23, 24, 25, 26, 27, 28, 29, 30, 31, 32, 33, 34, 35, 36, 37, 38, 39, 40, 41, 42, 43, 44, 45, 46, 47, 48, 49, 50, 51, 52] (by decide +kernel) (by decide +kernel)) (goodIn_sub (fun _ h => List.mem_cons_of_mem _ (List.mem_append_right _ h)) (by decide +kernel))
set_option maxRecDepth 20000 in
theorem gL_kept_X3_kept : GoodIn wsL_kept (wsV RL 47 RX3 yX3_kept wsX3_kept) := goodIn_app (goodIn_of _ (by decide +kernel)) ggL_kept_X3_kept
theorem dL_kept_0 : decode cL_kept 0 = .ok (.aload_n 3, 1) := by decide +kernel
theorem dL_kept_1 : decode cL_kept 1 = .ok (.iconst 0, 1) := by decide +kernel
theorem dL_kept_2 : decode cL_kept 2 = .ok (.aload_n 0, 1) := by decide +kernel
theorem dL_kept_3 : decode cL_kept 3 = .ok (.iload_n 1, 1) := by decide +kernel
theorem dL_kept_4 : decode cL_kept 4 = .ok (.iload_n 2, 1) := by decide +kernel
theorem dL_kept_5 : decode cL_kept 5 = .ok (.invokevirtual 47, 3) := by decide +kernel
theorem dL_kept_8 : decode cL_kept 8 = .ok (.f2d, 1) := by decide +kernel
theorem dL_kept_9 : decode cL_kept 9 = .ok (.dastore, 1) := by decide +kernel
theorem dL_kept_10 : decode cL_kept 10 = .ok (.goto 7, 3) := by decide +kernel
theorem dL_kept_13 : decode cL_kept 13 = .ok (.astore 4, 2) := by decide +kernel
theorem dL_kept_15 : decode cL_kept 15 = .ok (.iconst 1, 1) := by decide +kernel
theorem dL_kept_16 : decode cL_kept 16 = .ok (.ireturn, 1) := by decide +kernel
theorem dL_kept_17 : decode cL_kept 17 = .ok (.iconst 0, 1) := by decide +kernel
theorem dL_kept_18 : decode cL_kept 18 = .ok (.ireturn, 1) := by decide +kernel
set_option maxRecDepth 20000 in
theorem ggL_differs_X3_differs : GoodIn wsL_differs wsX3_differs := goodIn_ca (goodIn_r _ [6, 7, 8, 9, 10, 11, 5, 12, 13, 14, 15, 16, 17, 18, 19, 20, 21, 22, 23, 24, 25, 26, 27, 28, 29, 30, 31, 32, 33, 34, 35, 36, 37, 38, 39, 40, 41, 42, 43, 44, 45, 46, 47, 48] (by decide +kernel) (by decide +kernel)) (goodIn_sub (fun _ h => List.mem_cons_of_mem _ (List.mem_append_right _ h)) (by decide +kernel))
set_option maxRecDepth 20000 in
theorem gL_differs_X3_differs : GoodIn wsL_differs (wsV RL 51 RX3 yX3_differs wsX3_differs) := goodIn_app (goodIn_of _ (by decide +kernel)) ggL_differs_X3_differs
theorem dL_differs_0 : decode cL_differs 0 = .ok (.aload_n 2, 1) := by decide +kernel
theorem dL_differs_1 : decode cL_differs 1 = .ok (.iconst 0, 1) := by decide +kernel
theorem dL_differs_2 : decode cL_differs 2 = .ok (.aload_n 0, 1) := by decide +kernel
theorem dL_differs_3 : decode cL_differs 3 = .ok (.iload_n 1, 1) := by decide +kernel
theorem dL_differs_4 : decode cL_differs 4 = .ok (.invokevirtual 51, 3) := by decide +kernel
theorem dL_differs_7 : decode cL_differs 7 = .ok (.i2l, 1) := by decide +kernel
theorem dL_differs_8 : decode cL_differs 8 = .ok (.lastore, 1) := by decide +kernel
theorem dL_differs_9 : decode cL_differs 9 = .ok (.goto 6, 3) := by decide +kernel
theorem dL_differs_12 : decode cL_differs 12 = .ok (.astore_n 3, 1) := by decide +kernel
theorem dL_differs_13 : decode cL_differs 13 = .ok (.iconst 1, 1) := by decide +kernel
theorem dL_differs_14 : decode cL_differs 14 = .ok (.ireturn, 1) := by decide +kernel
theorem dL_differs_15 : decode cL_differs 15 = .ok (.iconst 0, 1) := by decide +kernel
theorem dL_differs_16 : decode cL_differs 16 = .ok (.ireturn, 1) := by decide +kernel
set_option maxRecDepth 20000 in
theorem ggL_snapshot_X3_snapshot : GoodIn wsL_snapshot wsX3_snapshot := goodIn_ca (goodIn_r _ [6, 7, 8, 9, 10, 11, 12, 13, 14, 15, 16, 17, 18, 19, 20, 21, 22, 23, 24, 25, 26, 27, 28, 29, 30] (by decide +kernel) (by decide +kernel)) (goodIn_sub (fun _ h => List.mem_cons_of_mem _ (List.mem_append_right _ h)) (by decide +kernel))
set_option maxRecDepth 20000 in
theorem gL_snapshot_X3_snapshot : GoodIn wsL_snapshot (wsV RL 54 RX3 yX3_snapshot wsX3_snapshot) := goodIn_app (goodIn_of _ (by decide +kernel)) ggL_snapshot_X3_snapshot
theorem dL_snapshot_0 : decode cL_snapshot 0 = .ok (.aload_n 2, 1) := by decide +kernel
theorem dL_snapshot_1 : decode cL_snapshot 1 = .ok (.iconst 0, 1) := by decide +kernel
theorem dL_snapshot_2 : decode cL_snapshot 2 = .ok (.aload_n 0, 1) := by decide +kernel
theorem dL_snapshot_3 : decode cL_snapshot 3 = .ok (.iload_n 1, 1) := by decide +kernel
theorem dL_snapshot_4 : decode cL_snapshot 4 = .ok (.invokevirtual 54, 3) := by decide +kernel
theorem dL_snapshot_7 : decode cL_snapshot 7 = .ok (.i2l, 1) := by decide +kernel
theorem dL_snapshot_8 : decode cL_snapshot 8 = .ok (.lastore, 1) := by decide +kernel
theorem dL_snapshot_9 : decode cL_snapshot 9 = .ok (.goto 6, 3) := by decide +kernel
theorem dL_snapshot_12 : decode cL_snapshot 12 = .ok (.astore_n 3, 1) := by decide +kernel
theorem dL_snapshot_13 : decode cL_snapshot 13 = .ok (.iconst 1, 1) := by decide +kernel
theorem dL_snapshot_14 : decode cL_snapshot 14 = .ok (.ireturn, 1) := by decide +kernel
theorem dL_snapshot_15 : decode cL_snapshot 15 = .ok (.iconst 0, 1) := by decide +kernel
theorem dL_snapshot_16 : decode cL_snapshot 16 = .ok (.ireturn, 1) := by decide +kernel
set_option maxRecDepth 20000 in
theorem ggL_record_X3_record : GoodIn wsL_record wsX3_record := goodIn_ca (goodIn_r _ [6, 7, 8, 9, 10, 11, 12, 5, 13, 14, 15, 16, 17, 18, 19, 20, 21, 22, 23, 24, 25, 26, 27, 28, 29, 30, 31, 32, 33, 34, 35] (by decide +kernel) (by decide +kernel)) (goodIn_sub (fun _ h => List.mem_cons_of_mem _ (List.mem_append_right _ h)) (by decide +kernel))
set_option maxRecDepth 20000 in
theorem gL_record_X3_record : GoodIn wsL_record (wsV RL 57 RX3 yX3_record wsX3_record) := goodIn_app (goodIn_of _ (by decide +kernel)) ggL_record_X3_record
theorem dL_record_0 : decode cL_record 0 = .ok (.aload 4, 2) := by decide +kernel
theorem dL_record_2 : decode cL_record 2 = .ok (.iconst 0, 1) := by decide +kernel
theorem dL_record_3 : decode cL_record 3 = .ok (.aload_n 0, 1) := by decide +kernel
theorem dL_record_4 : decode cL_record 4 = .ok (.iload_n 1, 1) := by decide +kernel
theorem dL_record_5 : decode cL_record 5 = .ok (.iload_n 2, 1) := by decide +kernel
theorem dL_record_6 : decode cL_record 6 = .ok (.iload_n 3, 1) := by decide +kernel
theorem dL_record_7 : decode cL_record 7 = .ok (.invokevirtual 57, 3) := by decide +kernel
theorem dL_record_10 : decode cL_record 10 = .ok (.i2l, 1) := by decide +kernel
theorem dL_record_11 : decode cL_record 11 = .ok (.lastore, 1) := by decide +kernel
theorem dL_record_12 : decode cL_record 12 = .ok (.goto 7, 3) := by decide +kernel
theorem dL_record_15 : decode cL_record 15 = .ok (.astore 5, 2) := by decide +kernel
theorem dL_record_17 : decode cL_record 17 = .ok (.iconst 1, 1) := by decide +kernel
theorem dL_record_18 : decode cL_record 18 = .ok (.ireturn, 1) := by decide +kernel
theorem dL_record_19 : decode cL_record 19 = .ok (.iconst 0, 1) := by decide +kernel
theorem dL_record_20 : decode cL_record 20 = .ok (.ireturn, 1) := by decide +kernel
set_option maxRecDepth 20000 in
theorem ggL_recorded_X3_recorded : GoodIn wsL_recorded wsX3_recorded := goodIn_ca (goodIn_r _ [6, 7, 8, 9, 10, 5, 11, 12, 13, 14, 15, 16, 17, 18, 19, 20, 21, 22, 23, 24, 25, 26, 27, 28, 29, 30, 31, 32, 33, 34, 35] (by decide +kernel) (by decide +kernel)) (goodIn_sub (fun _ h => List.mem_cons_of_mem _ (List.mem_append_right _ h)) (by decide +kernel))
set_option maxRecDepth 20000 in
theorem gL_recorded_X3_recorded : GoodIn wsL_recorded (wsV RL 61 RX3 yX3_recorded wsX3_recorded) := goodIn_app (goodIn_of _ (by decide +kernel)) ggL_recorded_X3_recorded
theorem dL_recorded_0 : decode cL_recorded 0 = .ok (.aload_n 3, 1) := by decide +kernel
theorem dL_recorded_1 : decode cL_recorded 1 = .ok (.iconst 0, 1) := by decide +kernel
theorem dL_recorded_2 : decode cL_recorded 2 = .ok (.aload_n 0, 1) := by decide +kernel
theorem dL_recorded_3 : decode cL_recorded 3 = .ok (.iload_n 1, 1) := by decide +kernel
theorem dL_recorded_4 : decode cL_recorded 4 = .ok (.iload_n 2, 1) := by decide +kernel
theorem dL_recorded_5 : decode cL_recorded 5 = .ok (.invokevirtual 61, 3) := by decide +kernel
theorem dL_recorded_8 : decode cL_recorded 8 = .ok (.f2d, 1) := by decide +kernel
theorem dL_recorded_9 : decode cL_recorded 9 = .ok (.dastore, 1) := by decide +kernel
theorem dL_recorded_10 : decode cL_recorded 10 = .ok (.goto 7, 3) := by decide +kernel
theorem dL_recorded_13 : decode cL_recorded 13 = .ok (.astore 4, 2) := by decide +kernel
theorem dL_recorded_15 : decode cL_recorded 15 = .ok (.iconst 1, 1) := by decide +kernel
theorem dL_recorded_16 : decode cL_recorded 16 = .ok (.ireturn, 1) := by decide +kernel
theorem dL_recorded_17 : decode cL_recorded 17 = .ok (.iconst 0, 1) := by decide +kernel
theorem dL_recorded_18 : decode cL_recorded 18 = .ok (.ireturn, 1) := by decide +kernel
set_option maxRecDepth 20000 in
theorem ggL_count_X3_count : GoodIn wsL_count wsX3_count := goodIn_ca (goodIn_r _ [6, 7, 8, 9, 10, 11, 12, 13, 14, 15, 16, 17, 18, 19, 20, 21, 22, 23, 24, 25, 26, 27, 5, 28, 29, 30, 31, 32, 33, 34, 35, 36, 37, 38, 39, 40, 41, 42, 43, 44, 45, 46, 47, 48] (by decide +kernel) (by decide +kernel)) (goodIn_sub (fun _ h => List.mem_cons_of_mem _ (List.mem_append_right _ h)) (by decide +kernel))
set_option maxRecDepth 20000 in
theorem gL_count_X3_count : GoodIn wsL_count (wsV RL 64 RX3 yX3_count wsX3_count) := goodIn_app (goodIn_of _ (by decide +kernel)) ggL_count_X3_count
theorem dL_count_0 : decode cL_count 0 = .ok (.aload_n 2, 1) := by decide +kernel
theorem dL_count_1 : decode cL_count 1 = .ok (.iconst 0, 1) := by decide +kernel
theorem dL_count_2 : decode cL_count 2 = .ok (.aload_n 0, 1) := by decide +kernel
theorem dL_count_3 : decode cL_count 3 = .ok (.iload_n 1, 1) := by decide +kernel
theorem dL_count_4 : decode cL_count 4 = .ok (.invokevirtual 64, 3) := by decide +kernel
theorem dL_count_7 : decode cL_count 7 = .ok (.i2l, 1) := by decide +kernel
theorem dL_count_8 : decode cL_count 8 = .ok (.lastore, 1) := by decide +kernel
theorem dL_count_9 : decode cL_count 9 = .ok (.goto 6, 3) := by decide +kernel
theorem dL_count_12 : decode cL_count 12 = .ok (.astore_n 3, 1) := by decide +kernel
theorem dL_count_13 : decode cL_count 13 = .ok (.iconst 1, 1) := by decide +kernel
theorem dL_count_14 : decode cL_count 14 = .ok (.ireturn, 1) := by decide +kernel
theorem dL_count_15 : decode cL_count 15 = .ok (.iconst 0, 1) := by decide +kernel
theorem dL_count_16 : decode cL_count 16 = .ok (.ireturn, 1) := by decide +kernel
set_option maxRecDepth 20000 in
theorem ggL_law_L_cell : GoodIn wsL_law wsL_cell := goodIn_r _ [12] (by decide +kernel) (by decide +kernel)
set_option maxRecDepth 20000 in
theorem gL_law_L_cell : GoodIn wsL_law (va_wsS RL 67 yL_cell wsL_cell) := goodIn_app (goodIn_of _ (by decide +kernel)) ggL_law_L_cell
set_option maxRecDepth 20000 in
theorem ggL_law_X3_init : GoodIn wsL_law wsX3_init := goodIn_r _ [15, 16, 17, 18, 19, 20, 21, 22, 23, 24, 25, 26, 27, 28, 29, 30, 31, 32, 33, 34, 35, 36, 37, 38, 39, 40, 41, 42, 43, 44, 45, 46, 47, 48, 49, 50, 51, 52, 53, 450, 451, 452, 453, 454, 455, 456, 475, 476, 477, 478, 479, 480, 481, 482, 483, 484, 485, 486, 487] (by decide +kernel) (by decide +kernel)
set_option maxRecDepth 20000 in
theorem gL_law_X3_init : GoodIn wsL_law (wsX3_init) := ggL_law_X3_init
set_option maxRecDepth 20000 in
theorem ggL_law_X4_init : GoodIn wsL_law wsX4_init := goodIn_r _ [56, 57, 17, 18, 19, 58, 36, 59, 60, 61, 62, 63, 64, 65, 66, 67, 68, 69, 70, 71, 5, 72, 73, 74, 75, 76, 77, 78, 79, 80, 81, 82, 83, 84, 85, 86, 87, 457, 458, 459, 460, 461, 462, 463, 464, 465, 466, 467, 468, 469, 470, 471, 472, 473, 474] (by decide +kernel) (by decide +kernel)
set_option maxRecDepth 20000 in
theorem gL_law_X4_init : GoodIn wsL_law (wsX4_init) := ggL_law_X4_init
set_option maxRecDepth 20000 in
theorem ggL_law_L_drift : GoodIn wsL_law wsL_drift := goodIn_ca (goodIn_ca (goodIn_ca (goodIn_r _ [90, 91, 92, 93, 94, 95, 96, 2, 97, 98, 99, 100, 101, 102, 103, 24, 104, 28, 105, 106, 107, 108, 109, 110, 20, 111, 23, 112, 113, 37, 114, 38, 39, 450, 451, 452, 453, 454, 455, 456, 475, 476, 477, 478, 479, 480, 481, 482, 483] (by decide +kernel) (by decide +kernel)) (goodIn_sub (fun _ h => List.mem_append_left _ (List.mem_append_left _ (List.mem_append_right _ h))) (by decide +kernel))) (goodIn_sub (fun _ h => List.mem_append_left _ (List.mem_append_right _ h)) (by decide +kernel))) (goodIn_sub (fun _ h => List.mem_append_right _ h) (by decide +kernel))
set_option maxRecDepth 20000 in
theorem gL_law_L_drift : GoodIn wsL_law (va_wsS RL 79 yL_drift wsL_drift) := goodIn_app (goodIn_of _ (by decide +kernel)) ggL_law_L_drift
set_option maxRecDepth 20000 in
theorem ggL_law_X4_drift : GoodIn wsL_law wsX4_drift := goodIn_r _ [118, 119, 120, 121, 73, 87, 59, 60, 61, 122, 123, 124, 5, 125, 68, 126, 127, 128, 129, 130, 457, 458, 459, 460, 461, 462, 463, 464, 465, 466, 467, 468, 469, 470, 471, 472, 473, 474] (by decide +kernel) (by decide +kernel)
set_option maxRecDepth 20000 in
theorem gL_law_X4_drift : GoodIn wsL_law (wsV RL 82 RX4 yX4_drift wsX4_drift) := goodIn_app (goodIn_of _ (by decide +kernel)) ggL_law_X4_drift
set_option maxRecDepth 20000 in
theorem ggL_law_X4_thrown : GoodIn wsL_law wsX4_thrown := goodIn_r _ [134, 130, 457, 458, 459, 460, 461, 462, 463, 464, 465, 466, 467, 468, 469, 470, 471, 472, 473, 474] (by decide +kernel) (by decide +kernel)
set_option maxRecDepth 20000 in
theorem gL_law_X4_thrown : GoodIn wsL_law (wsV RL 83 RX4 yX4_thrown wsX4_thrown) := goodIn_app (goodIn_of _ (by decide +kernel)) ggL_law_X4_thrown
set_option maxRecDepth 20000 in
theorem ggL_law_L_every : GoodIn wsL_law wsL_every := goodIn_ca (goodIn_r _ [137, 92, 138, 139, 140, 2, 141, 98, 99, 142, 450, 451, 452, 453, 454, 455, 456] (by decide +kernel) (by decide +kernel)) (goodIn_sub (fun _ h => List.mem_append_left _ (List.mem_append_left _ (List.mem_append_right _ h))) (by decide +kernel))
set_option maxRecDepth 20000 in
theorem gL_law_L_every : GoodIn wsL_law (va_wsS RL 87 yL_every wsL_every) := goodIn_app (goodIn_of _ (by decide +kernel)) ggL_law_L_every
set_option maxRecDepth 20000 in
theorem ggL_law_X4_every : GoodIn wsL_law wsX4_every := goodIn_r _ [146, 147, 126, 127, 128, 5, 129, 130, 457, 458, 459, 460, 461, 462, 463, 464, 465, 466, 467, 468, 469, 470, 471, 472, 473, 474] (by decide +kernel) (by decide +kernel)
set_option maxRecDepth 20000 in
theorem gL_law_X4_every : GoodIn wsL_law (wsV RL 90 RX4 yX4_every wsX4_every) := goodIn_app (goodIn_of _ (by decide +kernel)) ggL_law_X4_every
set_option maxRecDepth 20000 in
theorem ggL_law_L_input : GoodIn wsL_law wsL_input := goodIn_ca (goodIn_ca (goodIn_ca (goodIn_r _ [150, 91, 92, 93, 151, 152, 153, 2, 154, 28, 104, 105, 106, 107, 108, 109, 110, 20, 155, 156, 157, 98, 99, 158, 159, 160, 161, 162, 163, 100, 101, 164, 27, 165, 166, 43, 44, 45, 46, 167, 168, 169, 170, 171, 172, 173, 174, 175, 176, 177, 178, 179, 180, 181, 182, 450, 451, 452, 453, 454, 455, 456, 479, 480, 481, 482, 483] (by decide +kernel) (by decide +kernel)) (goodIn_sub (fun _ h => List.mem_append_right _ h) (by decide +kernel))) (goodIn_sub (fun _ h => List.mem_append_left _ (List.mem_append_left _ (List.mem_append_right _ h))) (by decide +kernel))) (goodIn_sub (fun _ h => List.mem_append_left _ (List.mem_append_right _ h)) (by decide +kernel))
set_option maxRecDepth 20000 in
theorem gL_law_L_input : GoodIn wsL_law (va_wsS RL 91 yL_input wsL_input) := goodIn_app (goodIn_of _ (by decide +kernel)) ggL_law_L_input
set_option maxRecDepth 20000 in
theorem ggL_law_X4_input : GoodIn wsL_law wsX4_input := goodIn_r _ [186, 87, 73, 122, 123, 124, 5, 125, 68, 187, 188, 189, 190, 191, 126, 127, 128, 129, 130, 192, 193, 194, 195, 62, 63, 64, 65, 196, 197, 198, 199, 457, 458, 459, 460, 461, 462, 463, 464, 465, 466, 467, 468, 469, 470, 471, 472, 473, 474] (by decide +kernel) (by decide +kernel)
set_option maxRecDepth 20000 in
theorem gL_law_X4_input : GoodIn wsL_law (wsV RL 93 RX4 yX4_input wsX4_input) := goodIn_app (goodIn_of _ (by decide +kernel)) ggL_law_X4_input
set_option maxRecDepth 20000 in
theorem ggL_law_L_inputs : GoodIn wsL_law wsL_inputs := goodIn_ca (goodIn_ca (goodIn_ca (goodIn_r _ [202, 91, 92, 93, 203, 204, 205, 2, 206, 98, 99, 28, 104, 105, 106, 107, 108, 109, 110, 20, 207, 208, 209, 210, 155, 156, 157, 158, 159, 160, 161, 162, 163, 100, 101, 164, 27, 165, 166, 43, 44, 45, 46, 167, 168, 169, 170, 171, 172, 173, 174, 175, 176, 177, 178, 179, 180, 181, 182, 450, 451, 452, 453, 454, 455, 456, 479, 480, 481, 482, 483] (by decide +kernel) (by decide +kernel)) (goodIn_sub (fun _ h => List.mem_append_left _ (List.mem_append_left _ (List.mem_append_right _ h))) (by decide +kernel))) (goodIn_sub (fun _ h => List.mem_append_right _ h) (by decide +kernel))) (goodIn_sub (fun _ h => List.mem_append_left _ (List.mem_append_right _ h)) (by decide +kernel))
set_option maxRecDepth 20000 in
theorem gL_law_L_inputs : GoodIn wsL_law (va_wsS RL 94 yL_inputs wsL_inputs) := goodIn_app (goodIn_of _ (by decide +kernel)) ggL_law_L_inputs
set_option maxRecDepth 20000 in
theorem ggL_law_X4_inputs : GoodIn wsL_law wsX4_inputs := goodIn_r _ [214, 68, 87, 73, 122, 123, 124, 5, 125, 187, 188, 189, 190, 191, 126, 127, 128, 129, 130, 192, 193, 194, 195, 62, 63, 64, 65, 196, 197, 198, 199, 457, 458, 459, 460, 461, 462, 463, 464, 465, 466, 467, 468, 469, 470, 471, 472, 473, 474] (by decide +kernel) (by decide +kernel)
set_option maxRecDepth 20000 in
theorem gL_law_X4_inputs : GoodIn wsL_law (wsV RL 97 RX4 yX4_inputs wsX4_inputs) := goodIn_app (goodIn_of _ (by decide +kernel)) ggL_law_X4_inputs
set_option maxRecDepth 20000 in
theorem ggL_law_L_step : GoodIn wsL_law wsL_step := goodIn_ca (goodIn_r _ [217, 92, 218, 219, 220, 2, 221, 98, 99, 104, 222, 223, 224, 225, 28, 20, 24, 226, 142, 227, 27, 228, 229, 44, 45, 46, 168, 169, 170, 171, 167, 43, 230, 231, 232, 233, 234, 158, 159, 235, 23, 236, 237, 114, 38, 37, 39, 238, 239, 240, 241, 32, 242, 31, 243, 244, 53, 245, 50, 52, 246, 177, 178, 179, 247, 248, 249, 250, 251, 252, 253, 254, 255, 256, 257, 172, 173, 174, 175, 176, 450, 451, 452, 453, 454, 455, 456, 479, 480, 481, 482, 483, 475, 476, 477, 478, 484, 485, 486, 487] (by decide +kernel) (by decide +kernel)) (goodIn_sub (fun _ h => List.mem_append_left _ (List.mem_append_left _ (List.mem_append_right _ h))) (by decide +kernel))
set_option maxRecDepth 20000 in
theorem gL_law_L_step : GoodIn wsL_law (va_wsS RL 98 yL_step wsL_step) := goodIn_app (goodIn_of _ (by decide +kernel)) ggL_law_L_step
set_option maxRecDepth 20000 in
theorem ggL_law_X4_step : GoodIn wsL_law wsX4_step := goodIn_r _ [261, 73, 126, 127, 128, 5, 129, 130, 262, 263, 264, 265, 87, 62, 121, 58, 60, 59, 61, 266, 147, 267, 268, 269, 270, 63, 64, 65, 271, 272, 273, 190, 191, 69, 70, 71, 72, 74, 66, 68, 67, 75, 76, 77, 78, 79, 80, 81, 82, 83, 84, 85, 86, 457, 458, 459, 460, 461, 462, 463, 464, 465, 466, 467, 468, 469, 470, 471, 472, 473, 474] (by decide +kernel) (by decide +kernel)
set_option maxRecDepth 20000 in
theorem gL_law_X4_step : GoodIn wsL_law (wsV RL 100 RX4 yX4_step wsX4_step) := goodIn_app (goodIn_of _ (by decide +kernel)) ggL_law_X4_step
set_option maxRecDepth 20000 in
theorem ggL_law_X3_keep : GoodIn wsL_law wsX3_keep := goodIn_r _ [277, 32, 238, 239, 240, 2, 241, 104, 20, 28, 242, 31, 243, 244, 53, 245, 50, 52, 246, 177, 178, 179, 247, 248, 249, 250, 251, 252, 253, 254, 255, 27, 256, 257, 167, 168, 169, 170, 171, 43, 172, 173, 174, 175, 176, 44, 45, 46, 450, 451, 452, 453, 454, 455, 456, 484, 485, 486, 487, 479, 480, 481, 482, 483] (by decide +kernel) (by decide +kernel)
set_option maxRecDepth 20000 in
theorem gL_law_X3_keep : GoodIn wsL_law (wsV RL 101 RX3 yX3_keep wsX3_keep) := goodIn_app (goodIn_of _ (by decide +kernel)) ggL_law_X3_keep
set_option maxRecDepth 20000 in
theorem ggL_law_X4_keep : GoodIn wsL_law wsX4_keep := goodIn_r _ [281, 130, 74, 69, 70, 71, 5, 72, 73, 66, 68, 67, 58, 75, 76, 77, 78, 79, 80, 81, 82, 83, 84, 85, 86, 87, 62, 63, 64, 65, 457, 458, 459, 460, 461, 462, 463, 464, 465, 466, 467, 468, 469, 470, 471, 472, 473, 474] (by decide +kernel) (by decide +kernel)
set_option maxRecDepth 20000 in
theorem gL_law_X4_keep : GoodIn wsL_law (wsV RL 104 RX4 yX4_keep wsX4_keep) := goodIn_app (goodIn_of _ (by decide +kernel)) ggL_law_X4_keep
set_option maxRecDepth 20000 in
theorem ggL_law_L_back : GoodIn wsL_law wsL_back := goodIn_ca (goodIn_r _ [284, 91, 285, 286, 287, 2, 288, 289, 290, 291, 292, 109, 110, 32, 293, 31, 294, 295, 296, 297, 298, 299, 53, 247, 248, 249, 250, 50, 251, 252, 253, 254, 245, 300, 301, 302, 303, 20, 304, 177, 178, 179, 104, 305, 306, 307, 52, 308, 309, 310, 450, 451, 452, 453, 454, 455, 456, 484, 485, 486, 487] (by decide +kernel) (by decide +kernel)) (goodIn_sub (fun _ h => List.mem_append_right _ h) (by decide +kernel))
set_option maxRecDepth 20000 in
theorem gL_law_L_back : GoodIn wsL_law (va_wsS RL 105 yL_back wsL_back) := goodIn_app (goodIn_of _ (by decide +kernel)) ggL_law_L_back
set_option maxRecDepth 20000 in
theorem ggL_law_X4_back : GoodIn wsL_law wsX4_back := goodIn_r _ [314, 75, 76, 77, 5, 78, 74, 66, 126, 127, 128, 129, 130, 315, 316, 317, 318, 73, 68, 58, 67, 457, 458, 459, 460, 461, 462, 463, 464, 465, 466, 467, 468, 469, 470, 471, 472, 473, 474] (by decide +kernel) (by decide +kernel)
set_option maxRecDepth 20000 in
theorem gL_law_X4_back : GoodIn wsL_law (wsV RL 107 RX4 yX4_back wsX4_back) := goodIn_app (goodIn_of _ (by decide +kernel)) ggL_law_X4_back
set_option maxRecDepth 20000 in
theorem ggL_law_L_forget : GoodIn wsL_law wsL_forget := goodIn_ca (goodIn_r _ [321, 92, 322, 323, 324, 2, 325, 98, 99, 104, 28, 326, 27, 327, 328, 167, 168, 169, 170, 171, 43, 450, 451, 452, 453, 454, 455, 456, 479, 480, 481, 482, 483] (by decide +kernel) (by decide +kernel)) (goodIn_sub (fun _ h => List.mem_append_left _ (List.mem_append_left _ (List.mem_append_right _ h))) (by decide +kernel))
set_option maxRecDepth 20000 in
theorem gL_law_L_forget : GoodIn wsL_law (va_wsS RL 108 yL_forget wsL_forget) := goodIn_app (goodIn_of _ (by decide +kernel)) ggL_law_L_forget
set_option maxRecDepth 20000 in
theorem ggL_law_X4_forget : GoodIn wsL_law wsX4_forget := goodIn_r _ [332, 73, 333, 126, 127, 128, 5, 129, 130, 83, 84, 85, 86, 87, 62, 63, 64, 65, 457, 458, 459, 460, 461, 462, 463, 464, 465, 466, 467, 468, 469, 470, 471, 472, 473, 474] (by decide +kernel) (by decide +kernel)
set_option maxRecDepth 20000 in
theorem gL_law_X4_forget : GoodIn wsL_law (wsV RL 110 RX4 yX4_forget wsX4_forget) := goodIn_app (goodIn_of _ (by decide +kernel)) ggL_law_X4_forget
set_option maxRecDepth 20000 in
theorem ggL_law_L_late : GoodIn wsL_law wsL_late := goodIn_ca (goodIn_ca (goodIn_ca (goodIn_r _ [336, 91, 92, 93, 337, 338, 339, 2, 340, 98, 99, 100, 101, 104, 32, 28, 105, 106, 107, 108, 109, 110, 20, 155, 156, 157, 158, 159, 160, 161, 162, 163, 297, 31, 298, 299, 53, 247, 248, 249, 250, 50, 251, 252, 253, 254, 245, 164, 27, 165, 166, 43, 44, 45, 46, 167, 168, 169, 170, 171, 172, 173, 174, 175, 176, 177, 178, 179, 341, 342, 343, 344, 300, 301, 302, 303, 304, 305, 306, 307, 52, 308, 309, 310, 222, 223, 224, 225, 24, 226, 142, 227, 228, 229, 230, 231, 232, 233, 234, 235, 23, 236, 237, 114, 38, 37, 39, 238, 239, 240, 241, 242, 243, 244, 246, 255, 256, 257, 450, 451, 452, 453, 454, 455, 456, 479, 480, 481, 482, 483, 484, 485, 486, 487, 475, 476, 477, 478] (by decide +kernel) (by decide +kernel)) (goodIn_sub (fun _ h => List.mem_append_left _ (List.mem_append_left _ (List.mem_append_right _ h))) (by decide +kernel))) (goodIn_sub (fun _ h => List.mem_append_left _ (List.mem_append_right _ h)) (by decide +kernel))) (goodIn_sub (fun _ h => List.mem_append_right _ h) (by decide +kernel))
set_option maxRecDepth 20000 in
theorem gL_law_L_late : GoodIn wsL_law (va_wsS RL 111 yL_late wsL_late) := goodIn_app (goodIn_of _ (by decide +kernel)) ggL_law_L_late
set_option maxRecDepth 20000 in
theorem ggL_law_X4_late : GoodIn wsL_law wsX4_late := goodIn_r _ [348, 73, 87, 349, 350, 351, 5, 352, 74, 66, 122, 123, 124, 125, 68, 187, 188, 189, 190, 191, 126, 127, 128, 129, 130, 192, 193, 194, 195, 62, 63, 64, 65, 315, 316, 317, 318, 58, 67, 262, 263, 264, 265, 121, 60, 59, 61, 266, 147, 267, 268, 269, 270, 271, 272, 273, 69, 70, 71, 72, 75, 76, 77, 78, 79, 80, 81, 82, 83, 84, 85, 86, 457, 458, 459, 460, 461, 462, 463, 464, 465, 466, 467, 468, 469, 470, 471, 472, 473, 474] (by decide +kernel) (by decide +kernel)
set_option maxRecDepth 20000 in
theorem gL_law_X4_late : GoodIn wsL_law (wsV RL 114 RX4 yX4_late wsX4_late) := goodIn_app (goodIn_of _ (by decide +kernel)) ggL_law_X4_late
set_option maxRecDepth 20000 in
theorem ggL_law_L_cell_ : GoodIn wsL_law wsL_cell_ := goodIn_ca (goodIn_r _ [355, 91, 356, 357, 358, 2, 359, 20, 105, 106, 107, 108, 109, 110, 450, 451, 452, 453, 454, 455, 456] (by decide +kernel) (by decide +kernel)) (goodIn_sub (fun _ h => List.mem_append_right _ h) (by decide +kernel))
set_option maxRecDepth 20000 in
theorem gL_law_L_cell_ : GoodIn wsL_law (va_wsS RL 115 yL_cell_ wsL_cell_) := goodIn_app (goodIn_of _ (by decide +kernel)) ggL_law_L_cell_
set_option maxRecDepth 20000 in
theorem ggL_law_X4_cell : GoodIn wsL_law wsX4_cell := goodIn_r _ [363, 58, 122, 123, 124, 5, 125, 68, 126, 127, 128, 129, 130, 457, 458, 459, 460, 461, 462, 463, 464, 465, 466, 467, 468, 469, 470, 471, 472, 473, 474] (by decide +kernel) (by decide +kernel)
set_option maxRecDepth 20000 in
theorem gL_law_X4_cell : GoodIn wsL_law (wsV RL 118 RX4 yX4_cell wsX4_cell) := goodIn_app (goodIn_of _ (by decide +kernel)) ggL_law_X4_cell
set_option maxRecDepth 20000 in
theorem ggL_law_L_kept : GoodIn wsL_law wsL_kept := goodIn_ca (goodIn_r _ [366, 91, 367, 368, 369, 2, 370, 32, 105, 106, 107, 108, 109, 110, 20, 289, 290, 291, 292, 293, 31, 294, 295, 296, 297, 298, 299, 53, 247, 248, 249, 250, 50, 251, 252, 253, 254, 245, 305, 306, 307, 52, 450, 451, 452, 453, 454, 455, 456, 484, 485, 486, 487] (by decide +kernel) (by decide +kernel)) (goodIn_sub (fun _ h => List.mem_append_right _ h) (by decide +kernel))
set_option maxRecDepth 20000 in
theorem gL_law_L_kept : GoodIn wsL_law (va_wsS RL 119 yL_kept wsL_kept) := goodIn_app (goodIn_of _ (by decide +kernel)) ggL_law_L_kept
set_option maxRecDepth 20000 in
theorem ggL_law_X4_kept : GoodIn wsL_law wsX4_kept := goodIn_r _ [374, 67, 75, 76, 77, 5, 78, 74, 66, 122, 123, 124, 125, 68, 126, 127, 128, 129, 130, 457, 458, 459, 460, 461, 462, 463, 464, 465, 466, 467, 468, 469, 470, 471, 472, 473, 474] (by decide +kernel) (by decide +kernel)
set_option maxRecDepth 20000 in
theorem gL_law_X4_kept : GoodIn wsL_law (wsV RL 122 RX4 yX4_kept wsX4_kept) := goodIn_app (goodIn_of _ (by decide +kernel)) ggL_law_X4_kept
set_option maxRecDepth 20000 in
theorem ggL_law_L_differs : GoodIn wsL_law wsL_differs := goodIn_ca (goodIn_r _ [377, 91, 378, 379, 380, 2, 381, 32, 20, 289, 290, 291, 292, 109, 110, 293, 31, 294, 295, 296, 297, 298, 299, 53, 247, 248, 249, 250, 50, 251, 252, 253, 254, 245, 305, 306, 307, 52, 450, 451, 452, 453, 454, 455, 456, 484, 485, 486, 487] (by decide +kernel) (by decide +kernel)) (goodIn_sub (fun _ h => List.mem_append_right _ h) (by decide +kernel))
set_option maxRecDepth 20000 in
theorem gL_law_L_differs : GoodIn wsL_law (va_wsS RL 123 yL_differs wsL_differs) := goodIn_app (goodIn_of _ (by decide +kernel)) ggL_law_L_differs
set_option maxRecDepth 20000 in
theorem ggL_law_X4_differs : GoodIn wsL_law wsX4_differs := goodIn_r _ [385, 68, 58, 67, 75, 76, 77, 5, 78, 74, 66, 126, 127, 128, 129, 130, 457, 458, 459, 460, 461, 462, 463, 464, 465, 466, 467, 468, 469, 470, 471, 472, 473, 474] (by decide +kernel) (by decide +kernel)
set_option maxRecDepth 20000 in
theorem gL_law_X4_differs : GoodIn wsL_law (wsV RL 125 RX4 yX4_differs wsX4_differs) := goodIn_app (goodIn_of _ (by decide +kernel)) ggL_law_X4_differs
set_option maxRecDepth 20000 in
theorem ggL_law_L_snapshot : GoodIn wsL_law wsL_snapshot := goodIn_ca (goodIn_r _ [388, 91, 389, 390, 391, 2, 392, 109, 110, 32, 248, 31, 249, 250, 50, 251, 252, 253, 254, 245, 450, 451, 452, 453, 454, 455, 456, 484, 485, 486, 487] (by decide +kernel) (by decide +kernel)) (goodIn_sub (fun _ h => List.mem_append_right _ h) (by decide +kernel))
set_option maxRecDepth 20000 in
theorem gL_law_L_snapshot : GoodIn wsL_law (va_wsS RL 126 yL_snapshot wsL_snapshot) := goodIn_app (goodIn_of _ (by decide +kernel)) ggL_law_L_snapshot
set_option maxRecDepth 20000 in
theorem ggL_law_X4_snapshot : GoodIn wsL_law wsX4_snapshot := goodIn_r _ [396, 74, 66, 126, 127, 128, 5, 129, 130, 457, 458, 459, 460, 461, 462, 463, 464, 465, 466, 467, 468, 469, 470, 471, 472, 473, 474] (by decide +kernel) (by decide +kernel)
set_option maxRecDepth 20000 in
theorem gL_law_X4_snapshot : GoodIn wsL_law (wsV RL 128 RX4 yX4_snapshot wsX4_snapshot) := goodIn_app (goodIn_of _ (by decide +kernel)) ggL_law_X4_snapshot
set_option maxRecDepth 20000 in
theorem ggL_law_L_record : GoodIn wsL_law wsL_record := goodIn_ca (goodIn_r _ [399, 91, 400, 401, 402, 2, 403, 109, 110, 28, 404, 405, 406, 407, 180, 27, 181, 182, 168, 169, 170, 171, 167, 43, 450, 451, 452, 453, 454, 455, 456, 479, 480, 481, 482, 483] (by decide +kernel) (by decide +kernel)) (goodIn_sub (fun _ h => List.mem_append_right _ h) (by decide +kernel))
set_option maxRecDepth 20000 in
theorem gL_law_L_record : GoodIn wsL_law (va_wsS RL 129 yL_record wsL_record) := goodIn_app (goodIn_of _ (by decide +kernel)) ggL_law_L_record
set_option maxRecDepth 20000 in
theorem ggL_law_X4_record : GoodIn wsL_law wsX4_record := goodIn_r _ [411, 63, 64, 412, 413, 414, 5, 415, 87, 62, 126, 127, 128, 129, 130, 457, 458, 459, 460, 461, 462, 463, 464, 465, 466, 467, 468, 469, 470, 471, 472, 473, 474] (by decide +kernel) (by decide +kernel)
set_option maxRecDepth 20000 in
theorem gL_law_X4_record : GoodIn wsL_law (wsV RL 132 RX4 yX4_record wsX4_record) := goodIn_app (goodIn_of _ (by decide +kernel)) ggL_law_X4_record
set_option maxRecDepth 20000 in
theorem ggL_law_L_recorded : GoodIn wsL_law wsL_recorded := goodIn_ca (goodIn_r _ [418, 91, 419, 420, 421, 2, 422, 28, 404, 405, 406, 407, 109, 110, 180, 27, 181, 182, 168, 169, 170, 171, 167, 43, 450, 451, 452, 453, 454, 455, 456, 479, 480, 481, 482, 483] (by decide +kernel) (by decide +kernel)) (goodIn_sub (fun _ h => List.mem_append_right _ h) (by decide +kernel))
set_option maxRecDepth 20000 in
theorem gL_law_L_recorded : GoodIn wsL_law (va_wsS RL 133 yL_recorded wsL_recorded) := goodIn_app (goodIn_of _ (by decide +kernel)) ggL_law_L_recorded
set_option maxRecDepth 20000 in
theorem ggL_law_X4_recorded : GoodIn wsL_law wsX4_recorded := goodIn_r _ [426, 65, 412, 413, 414, 5, 415, 87, 62, 126, 127, 128, 129, 130, 457, 458, 459, 460, 461, 462, 463, 464, 465, 466, 467, 468, 469, 470, 471, 472, 473, 474] (by decide +kernel) (by decide +kernel)
set_option maxRecDepth 20000 in
theorem gL_law_X4_recorded : GoodIn wsL_law (wsV RL 135 RX4 yX4_recorded wsX4_recorded) := goodIn_app (goodIn_of _ (by decide +kernel)) ggL_law_X4_recorded
set_option maxRecDepth 20000 in
theorem ggL_law_L_count : GoodIn wsL_law wsL_count := goodIn_ca (goodIn_r _ [429, 91, 430, 431, 432, 2, 433, 109, 110, 104, 20, 32, 28, 24, 226, 180, 27, 181, 182, 168, 169, 170, 171, 167, 43, 434, 435, 436, 437, 450, 451, 452, 453, 454, 455, 456, 484, 485, 486, 487, 479, 480, 481, 482, 483, 475, 476, 477, 478] (by decide +kernel) (by decide +kernel)) (goodIn_sub (fun _ h => List.mem_append_right _ h) (by decide +kernel))
set_option maxRecDepth 20000 in
theorem gL_law_L_count : GoodIn wsL_law (va_wsS RL 136 yL_count wsL_count) := goodIn_app (goodIn_of _ (by decide +kernel)) ggL_law_L_count
set_option maxRecDepth 20000 in
theorem ggL_law_X4_count : GoodIn wsL_law wsX4_count := goodIn_r _ [441, 68, 58, 73, 74, 87, 121, 266, 126, 127, 128, 5, 129, 130, 196, 197, 198, 199, 62, 457, 458, 459, 460, 461, 462, 463, 464, 465, 466, 467, 468, 469, 470, 471, 472, 473, 474] (by decide +kernel) (by decide +kernel)
set_option maxRecDepth 20000 in
theorem gL_law_X4_count : GoodIn wsL_law (wsV RL 138 RX4 yX4_count wsX4_count) := goodIn_app (goodIn_of _ (by decide +kernel)) ggL_law_X4_count
set_option maxRecDepth 20000 in
theorem ggL_law_X3_sum : GoodIn wsL_law wsX3_sum := goodIn_r _ [445, 20, 450, 451, 452, 453, 454, 455, 456] (by decide +kernel) (by decide +kernel)
set_option maxRecDepth 20000 in
theorem gL_law_X3_sum : GoodIn wsL_law (wsV RL 139 RX3 yX3_sum wsX3_sum) := goodIn_app (goodIn_of _ (by decide +kernel)) ggL_law_X3_sum
set_option maxRecDepth 20000 in
theorem ggL_law_X4_sum : GoodIn wsL_law wsX4_sum := goodIn_r _ [449, 130, 68, 58, 457, 458, 459, 460, 461, 462, 463, 464, 465, 466, 467, 468, 469, 470, 471, 472, 473, 474] (by decide +kernel) (by decide +kernel)
set_option maxRecDepth 20000 in
theorem gL_law_X4_sum : GoodIn wsL_law (wsV RL 143 RX4 yX4_sum wsX4_sum) := goodIn_app (goodIn_of _ (by decide +kernel)) ggL_law_X4_sum
theorem dL_law_0 : decode cL_law 0 = .ok (.new 8, 3) := by decide +kernel
theorem dL_law_3 : decode cL_law 3 = .ok (.dup, 1) := by decide +kernel
theorem dL_law_4 : decode cL_law 4 = .ok (.aload_n 0, 1) := by decide +kernel
theorem dL_law_5 : decode cL_law 5 = .ok (.iconst 0, 1) := by decide +kernel
theorem dL_law_6 : decode cL_law 6 = .ok (.invokestatic 67, 3) := by decide +kernel
theorem dL_law_9 : decode cL_law 9 = .ok (.invokespecial 72, 3) := by decide +kernel
theorem dL_law_12 : decode cL_law 12 = .ok (.astore_n 1, 1) := by decide +kernel
theorem dL_law_13 : decode cL_law 13 = .ok (.new 75, 3) := by decide +kernel
theorem dL_law_16 : decode cL_law 16 = .ok (.dup, 1) := by decide +kernel
theorem dL_law_17 : decode cL_law 17 = .ok (.aload_n 0, 1) := by decide +kernel
theorem dL_law_18 : decode cL_law 18 = .ok (.iconst 0, 1) := by decide +kernel
theorem dL_law_19 : decode cL_law 19 = .ok (.invokestatic 67, 3) := by decide +kernel
theorem dL_law_22 : decode cL_law 22 = .ok (.invokespecial 77, 3) := by decide +kernel
theorem dL_law_25 : decode cL_law 25 = .ok (.astore_n 2, 1) := by decide +kernel
theorem dL_law_26 : decode cL_law 26 = .ok (.iconst 1, 1) := by decide +kernel
theorem dL_law_27 : decode cL_law 27 = .ok (.newarray .long, 2) := by decide +kernel
theorem dL_law_29 : decode cL_law 29 = .ok (.astore_n 3, 1) := by decide +kernel
theorem dL_law_30 : decode cL_law 30 = .ok (.iconst 1, 1) := by decide +kernel
theorem dL_law_31 : decode cL_law 31 = .ok (.newarray .double, 2) := by decide +kernel
theorem dL_law_33 : decode cL_law 33 = .ok (.astore 4, 2) := by decide +kernel
theorem dL_law_35 : decode cL_law 35 = .ok (.iconst 1, 1) := by decide +kernel
theorem dL_law_36 : decode cL_law 36 = .ok (.istore 5, 2) := by decide +kernel
theorem dL_law_38 : decode cL_law 38 = .ok (.iload 5, 2) := by decide +kernel
theorem dL_law_40 : decode cL_law 40 = .ok (.aload_n 0, 1) := by decide +kernel
theorem dL_law_41 : decode cL_law 41 = .ok (.arraylength, 1) := by decide +kernel
theorem dL_law_42 : decode cL_law 42 = .ok (.bipush 6, 2) := by decide +kernel
theorem dL_law_44 : decode cL_law 44 = .ok (.isub, 1) := by decide +kernel
theorem dL_law_45 : decode cL_law 45 = .ok (.if_icmp .gt 1271, 3) := by decide +kernel
theorem dL_law_48 : decode cL_law 48 = .ok (.aload_n 0, 1) := by decide +kernel
theorem dL_law_49 : decode cL_law 49 = .ok (.iload 5, 2) := by decide +kernel
theorem dL_law_51 : decode cL_law 51 = .ok (.iaload, 1) := by decide +kernel
theorem dL_law_52 : decode cL_law 52 = .ok (.bipush 31, 2) := by decide +kernel
theorem dL_law_54 : decode cL_law 54 = .ok (.iand, 1) := by decide +kernel
theorem dL_law_55 : decode cL_law 55 = .ok (.tableswitch 1255 0 16 #[81, 169, 225, 313, 425, 481, 494, 550, 606, 706, 784, 874, 930, 986, 1066, 1156, 1212], 81) := by decide +kernel
theorem dL_law_136 : decode cL_law 136 = .ok (.aload_n 1, 1) := by decide +kernel
theorem dL_law_137 : decode cL_law 137 = .ok (.aload_n 0, 1) := by decide +kernel
theorem dL_law_138 : decode cL_law 138 = .ok (.iload 5, 2) := by decide +kernel
theorem dL_law_140 : decode cL_law 140 = .ok (.iconst 1, 1) := by decide +kernel
theorem dL_law_141 : decode cL_law 141 = .ok (.iadd, 1) := by decide +kernel
theorem dL_law_142 : decode cL_law 142 = .ok (.iaload, 1) := by decide +kernel
theorem dL_law_143 : decode cL_law 143 = .ok (.aload_n 0, 1) := by decide +kernel
theorem dL_law_144 : decode cL_law 144 = .ok (.iload 5, 2) := by decide +kernel
theorem dL_law_146 : decode cL_law 146 = .ok (.iconst 2, 1) := by decide +kernel
theorem dL_law_147 : decode cL_law 147 = .ok (.iadd, 1) := by decide +kernel
theorem dL_law_148 : decode cL_law 148 = .ok (.iaload, 1) := by decide +kernel
theorem dL_law_149 : decode cL_law 149 = .ok (.aload_n 0, 1) := by decide +kernel
theorem dL_law_150 : decode cL_law 150 = .ok (.iload 5, 2) := by decide +kernel
theorem dL_law_152 : decode cL_law 152 = .ok (.iconst 3, 1) := by decide +kernel
theorem dL_law_153 : decode cL_law 153 = .ok (.iadd, 1) := by decide +kernel
theorem dL_law_154 : decode cL_law 154 = .ok (.iaload, 1) := by decide +kernel
theorem dL_law_155 : decode cL_law 155 = .ok (.i2f, 1) := by decide +kernel
theorem dL_law_156 : decode cL_law 156 = .ok (.ldc 78, 2) := by decide +kernel
theorem dL_law_158 : decode cL_law 158 = .ok (.fmul, 1) := by decide +kernel
theorem dL_law_159 : decode cL_law 159 = .ok (.aload_n 3, 1) := by decide +kernel
theorem dL_law_160 : decode cL_law 160 = .ok (.invokestatic 79, 3) := by decide +kernel
theorem dL_law_163 : decode cL_law 163 = .ok (.istore 6, 2) := by decide +kernel
theorem dL_law_165 : decode cL_law 165 = .ok (.aload_n 2, 1) := by decide +kernel
theorem dL_law_166 : decode cL_law 166 = .ok (.aload_n 0, 1) := by decide +kernel
theorem dL_law_167 : decode cL_law 167 = .ok (.iload 5, 2) := by decide +kernel
theorem dL_law_169 : decode cL_law 169 = .ok (.iconst 1, 1) := by decide +kernel
theorem dL_law_170 : decode cL_law 170 = .ok (.iadd, 1) := by decide +kernel
theorem dL_law_171 : decode cL_law 171 = .ok (.iaload, 1) := by decide +kernel
theorem dL_law_172 : decode cL_law 172 = .ok (.aload_n 0, 1) := by decide +kernel
theorem dL_law_173 : decode cL_law 173 = .ok (.iload 5, 2) := by decide +kernel
theorem dL_law_175 : decode cL_law 175 = .ok (.iconst 2, 1) := by decide +kernel
theorem dL_law_176 : decode cL_law 176 = .ok (.iadd, 1) := by decide +kernel
