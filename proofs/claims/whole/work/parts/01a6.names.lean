theorem dX3_late_33 : decode cX3_late 33 = .ok (.aload_n 0, 1) := by decide +kernel
theorem dX3_late_34 : decode cX3_late 34 = .ok (.iconst 1, 1) := by decide +kernel
theorem dX3_late_35 : decode cX3_late 35 = .ok (.invokevirtual 76, 3) := by decide +kernel
theorem dX3_late_38 : decode cX3_late 38 = .ok (.aload_n 0, 1) := by decide +kernel
theorem dX3_late_39 : decode cX3_late 39 = .ok (.getfield 32, 3) := by decide +kernel
theorem dX3_late_42 : decode cX3_late 42 = .ok (.iload_n 1, 1) := by decide +kernel
theorem dX3_late_43 : decode cX3_late 43 = .ok (.invokevirtual 114, 3) := by decide +kernel
theorem dX3_late_46 : decode cX3_late 46 = .ok (.istore 5, 2) := by decide +kernel
theorem dX3_late_48 : decode cX3_late 48 = .ok (.iload 5, 2) := by decide +kernel
theorem dX3_late_50 : decode cX3_late 50 = .ok (.iconst (-1), 1) := by decide +kernel
theorem dX3_late_51 : decode cX3_late 51 = .ok (.if_icmp .ne 13, 3) := by decide +kernel
theorem dX3_late_54 : decode cX3_late 54 = .ok (.new 52, 3) := by decide +kernel
theorem dX3_late_57 : decode cX3_late 57 = .ok (.dup, 1) := by decide +kernel
theorem dX3_late_58 : decode cX3_late 58 = .ok (.ldc 117, 2) := by decide +kernel
theorem dX3_late_60 : decode cX3_late 60 = .ok (.invokespecial 56, 3) := by decide +kernel
theorem dX3_late_63 : decode cX3_late 63 = .ok (.athrow, 1) := by decide +kernel
theorem dX3_late_64 : decode cX3_late 64 = .ok (.aload_n 0, 1) := by decide +kernel
theorem dX3_late_65 : decode cX3_late 65 = .ok (.getfield 23, 3) := by decide +kernel
theorem dX3_late_68 : decode cX3_late 68 = .ok (.iload_n 1, 1) := by decide +kernel
theorem dX3_late_69 : decode cX3_late 69 = .ok (.iload_n 2, 1) := by decide +kernel
theorem dX3_late_70 : decode cX3_late 70 = .ok (.iload_n 3, 1) := by decide +kernel
theorem dX3_late_71 : decode cX3_late 71 = .ok (.fload 4, 2) := by decide +kernel
theorem dX3_late_73 : decode cX3_late 73 = .ok (.invokevirtual 79, 3) := by decide +kernel
theorem dX3_late_76 : decode cX3_late 76 = .ok (.iload_n 1, 1) := by decide +kernel
theorem dX3_late_77 : decode cX3_late 77 = .ok (.aload_n 0, 1) := by decide +kernel
theorem dX3_late_78 : decode cX3_late 78 = .ok (.getfield 57, 3) := by decide +kernel
theorem dX3_late_81 : decode cX3_late 81 = .ok (.if_icmp .ge 12, 3) := by decide +kernel
theorem dX3_late_84 : decode cX3_late 84 = .ok (.aload_n 0, 1) := by decide +kernel
theorem dX3_late_85 : decode cX3_late 85 = .ok (.iload 5, 2) := by decide +kernel
theorem dX3_late_87 : decode cX3_late 87 = .ok (.invokevirtual 119, 3) := by decide +kernel
theorem dX3_late_90 : decode cX3_late 90 = .ok (.goto 4, 3) := by decide +kernel
theorem dX3_late_93 : decode cX3_late 93 = .ok (.iconst 0, 1) := by decide +kernel
theorem dX3_late_94 : decode cX3_late 94 = .ok (.ireturn, 1) := by decide +kernel
set_option maxRecDepth 20000 in
theorem ggX3_cell_X3_needCell : GoodIn wsX3_cell wsX3_needCell := goodIn_ca (goodIn_r _ [6, 7, 8, 1, 9, 10, 11, 12, 13, 14, 15] (by decide +kernel) (by decide +kernel)) (goodIn_sub (fun _ h => List.mem_cons_of_mem _ (List.mem_append_right _ h)) (by decide +kernel))
set_option maxRecDepth 20000 in
theorem gX3_cell_X3_needCell : GoodIn wsX3_cell (wsV RX3 36 RX3 yX3_needCell wsX3_needCell) := goodIn_app (goodIn_of _ (by decide +kernel)) ggX3_cell_X3_needCell
theorem dX3_cell_0 : decode cX3_cell 0 = .ok (.aload_n 0, 1) := by decide +kernel
theorem dX3_cell_1 : decode cX3_cell 1 = .ok (.iload_n 1, 1) := by decide +kernel
theorem dX3_cell_2 : decode cX3_cell 2 = .ok (.invokevirtual 36, 3) := by decide +kernel
theorem dX3_cell_5 : decode cX3_cell 5 = .ok (.aload_n 0, 1) := by decide +kernel
theorem dX3_cell_6 : decode cX3_cell 6 = .ok (.getfield 9, 3) := by decide +kernel
theorem dX3_cell_9 : decode cX3_cell 9 = .ok (.iload_n 1, 1) := by decide +kernel
theorem dX3_cell_10 : decode cX3_cell 10 = .ok (.faload, 1) := by decide +kernel
theorem dX3_cell_11 : decode cX3_cell 11 = .ok (.freturn, 1) := by decide +kernel
set_option maxRecDepth 20000 in
theorem ggX3_kept_X3_needCell : GoodIn wsX3_kept wsX3_needCell := goodIn_ca (goodIn_r _ [6, 7, 8, 9, 37, 38, 39, 40, 41, 42, 43] (by decide +kernel) (by decide +kernel)) (goodIn_sub (fun _ h => List.mem_cons_of_mem _ (List.mem_append_right _ h)) (by decide +kernel))
set_option maxRecDepth 20000 in
theorem gX3_kept_X3_needCell : GoodIn wsX3_kept (wsV RX3 36 RX3 yX3_needCell wsX3_needCell) := goodIn_app (goodIn_of _ (by decide +kernel)) ggX3_kept_X3_needCell
set_option maxRecDepth 20000 in
theorem ggX3_kept_X3_neededSnapshot : GoodIn wsX3_kept wsX3_neededSnapshot := goodIn_ca (goodIn_r _ [13, 7, 8, 1, 14, 15, 16, 17, 18, 19, 20, 21, 22, 23, 24, 25, 26, 27, 28, 29, 30, 31, 32, 37, 38, 39, 40, 41, 42, 43, 44, 45, 46, 47] (by decide +kernel) (by decide +kernel)) (goodIn_sub (fun _ h => List.mem_cons_of_mem _ (List.mem_append_right _ h)) (by decide +kernel))
set_option maxRecDepth 20000 in
theorem gX3_kept_X3_neededSnapshot : GoodIn wsX3_kept (wsV RX3 101 RX3 yX3_neededSnapshot wsX3_neededSnapshot) := goodIn_app (goodIn_of _ (by decide +kernel)) ggX3_kept_X3_neededSnapshot
set_option maxRecDepth 20000 in
theorem ggX3_kept_X2_row : GoodIn wsX3_kept wsX2_row := goodIn_r _ [35, 36, 28, 29, 30, 15, 31, 32, 44, 45, 46, 47] (by decide +kernel) (by decide +kernel)
set_option maxRecDepth 20000 in
theorem gX3_kept_X2_row_n122 : GoodIn wsX3_kept (wsX2_row) := ggX3_kept_X2_row
theorem dX3_kept_0 : decode cX3_kept 0 = .ok (.aload_n 0, 1) := by decide +kernel
theorem dX3_kept_1 : decode cX3_kept 1 = .ok (.iload_n 2, 1) := by decide +kernel
theorem dX3_kept_2 : decode cX3_kept 2 = .ok (.invokevirtual 36, 3) := by decide +kernel
theorem dX3_kept_5 : decode cX3_kept 5 = .ok (.aload_n 0, 1) := by decide +kernel
theorem dX3_kept_6 : decode cX3_kept 6 = .ok (.getfield 32, 3) := by decide +kernel
theorem dX3_kept_9 : decode cX3_kept 9 = .ok (.aload_n 0, 1) := by decide +kernel
theorem dX3_kept_10 : decode cX3_kept 10 = .ok (.iload_n 1, 1) := by decide +kernel
theorem dX3_kept_11 : decode cX3_kept 11 = .ok (.invokevirtual 101, 3) := by decide +kernel
theorem dX3_kept_14 : decode cX3_kept 14 = .ok (.invokevirtual 122, 3) := by decide +kernel
theorem dX3_kept_17 : decode cX3_kept 17 = .ok (.iload_n 2, 1) := by decide +kernel
theorem dX3_kept_18 : decode cX3_kept 18 = .ok (.faload, 1) := by decide +kernel
theorem dX3_kept_19 : decode cX3_kept 19 = .ok (.freturn, 1) := by decide +kernel
set_option maxRecDepth 20000 in
theorem ggX3_differs_X3_neededSnapshot : GoodIn wsX3_differs wsX3_neededSnapshot := goodIn_ca (goodIn_r _ [7, 8, 9, 1, 10, 11, 12, 13, 14, 15, 16, 17, 18, 19, 20, 21, 22, 23, 24, 25, 26, 27, 28, 33, 34, 35, 36, 37, 38, 39, 40, 41, 42, 43] (by decide +kernel) (by decide +kernel)) (goodIn_sub (fun _ h => List.mem_cons_of_mem _ (List.mem_append_right _ h)) (by decide +kernel))
set_option maxRecDepth 20000 in
theorem gX3_differs_X3_neededSnapshot : GoodIn wsX3_differs (wsV RX3 101 RX3 yX3_neededSnapshot wsX3_neededSnapshot) := goodIn_app (goodIn_of _ (by decide +kernel)) ggX3_differs_X3_neededSnapshot
set_option maxRecDepth 20000 in
theorem ggX3_differs_X2_row : GoodIn wsX3_differs wsX2_row := goodIn_r _ [31, 32, 24, 25, 26, 11, 27, 28, 40, 41, 42, 43] (by decide +kernel) (by decide +kernel)
set_option maxRecDepth 20000 in
theorem gX3_differs_X2_row_n122 : GoodIn wsX3_differs (wsX2_row) := ggX3_differs_X2_row
theorem dX3_differs_0 : decode cX3_differs 0 = .ok (.aload_n 0, 1) := by decide +kernel
theorem dX3_differs_1 : decode cX3_differs 1 = .ok (.getfield 32, 3) := by decide +kernel
theorem dX3_differs_4 : decode cX3_differs 4 = .ok (.aload_n 0, 1) := by decide +kernel
theorem dX3_differs_5 : decode cX3_differs 5 = .ok (.iload_n 1, 1) := by decide +kernel
theorem dX3_differs_6 : decode cX3_differs 6 = .ok (.invokevirtual 101, 3) := by decide +kernel
theorem dX3_differs_9 : decode cX3_differs 9 = .ok (.invokevirtual 122, 3) := by decide +kernel
theorem dX3_differs_12 : decode cX3_differs 12 = .ok (.astore_n 2, 1) := by decide +kernel
theorem dX3_differs_13 : decode cX3_differs 13 = .ok (.iconst 0, 1) := by decide +kernel
theorem dX3_differs_14 : decode cX3_differs 14 = .ok (.istore_n 3, 1) := by decide +kernel
theorem dX3_differs_15 : decode cX3_differs 15 = .ok (.iload_n 3, 1) := by decide +kernel
theorem dX3_differs_16 : decode cX3_differs 16 = .ok (.aload_n 0, 1) := by decide +kernel
theorem dX3_differs_17 : decode cX3_differs 17 = .ok (.getfield 9, 3) := by decide +kernel
theorem dX3_differs_20 : decode cX3_differs 20 = .ok (.arraylength, 1) := by decide +kernel
theorem dX3_differs_21 : decode cX3_differs 21 = .ok (.if_icmp .ge 24, 3) := by decide +kernel
theorem dX3_differs_24 : decode cX3_differs 24 = .ok (.aload_n 0, 1) := by decide +kernel
theorem dX3_differs_25 : decode cX3_differs 25 = .ok (.getfield 9, 3) := by decide +kernel
theorem dX3_differs_28 : decode cX3_differs 28 = .ok (.iload_n 3, 1) := by decide +kernel
theorem dX3_differs_29 : decode cX3_differs 29 = .ok (.faload, 1) := by decide +kernel
theorem dX3_differs_30 : decode cX3_differs 30 = .ok (.aload_n 2, 1) := by decide +kernel
theorem dX3_differs_31 : decode cX3_differs 31 = .ok (.iload_n 3, 1) := by decide +kernel
theorem dX3_differs_32 : decode cX3_differs 32 = .ok (.faload, 1) := by decide +kernel
theorem dX3_differs_33 : decode cX3_differs 33 = .ok (.fcmp .l, 1) := by decide +kernel
theorem dX3_differs_34 : decode cX3_differs 34 = .ok (.ifCond .eq 5, 3) := by decide +kernel
theorem dX3_differs_37 : decode cX3_differs 37 = .ok (.iload_n 3, 1) := by decide +kernel
theorem dX3_differs_38 : decode cX3_differs 38 = .ok (.ireturn, 1) := by decide +kernel
theorem dX3_differs_39 : decode cX3_differs 39 = .ok (.iinc 3 1, 3) := by decide +kernel
theorem dX3_differs_42 : decode cX3_differs 42 = .ok (.goto (-27), 3) := by decide +kernel
theorem dX3_differs_45 : decode cX3_differs 45 = .ok (.iconst (-1), 1) := by decide +kernel
theorem dX3_differs_46 : decode cX3_differs 46 = .ok (.ireturn, 1) := by decide +kernel
set_option maxRecDepth 20000 in
theorem ggX3_snapshot_X2_stepOf : GoodIn wsX3_snapshot wsX2_stepOf := goodIn_r _ [7, 8, 9, 10, 11, 5, 12, 13, 21, 22, 23, 24] (by decide +kernel) (by decide +kernel)
set_option maxRecDepth 20000 in
theorem gX3_snapshot_X2_stepOf_n131 : GoodIn wsX3_snapshot (wsX2_stepOf) := ggX3_snapshot_X2_stepOf
theorem dX3_snapshot_0 : decode cX3_snapshot 0 = .ok (.iload_n 1, 1) := by decide +kernel
theorem dX3_snapshot_1 : decode cX3_snapshot 1 = .ok (.ifCond .lt 14, 3) := by decide +kernel
theorem dX3_snapshot_4 : decode cX3_snapshot 4 = .ok (.iload_n 1, 1) := by decide +kernel
theorem dX3_snapshot_5 : decode cX3_snapshot 5 = .ok (.aload_n 0, 1) := by decide +kernel
theorem dX3_snapshot_6 : decode cX3_snapshot 6 = .ok (.getfield 32, 3) := by decide +kernel
theorem dX3_snapshot_9 : decode cX3_snapshot 9 = .ok (.getfield 100, 3) := by decide +kernel
theorem dX3_snapshot_12 : decode cX3_snapshot 12 = .ok (.if_icmp .lt 13, 3) := by decide +kernel
theorem dX3_snapshot_15 : decode cX3_snapshot 15 = .ok (.new 126, 3) := by decide +kernel
theorem dX3_snapshot_18 : decode cX3_snapshot 18 = .ok (.dup, 1) := by decide +kernel
theorem dX3_snapshot_19 : decode cX3_snapshot 19 = .ok (.ldc 128, 2) := by decide +kernel
theorem dX3_snapshot_21 : decode cX3_snapshot 21 = .ok (.invokespecial 130, 3) := by decide +kernel
theorem dX3_snapshot_24 : decode cX3_snapshot 24 = .ok (.athrow, 1) := by decide +kernel
theorem dX3_snapshot_25 : decode cX3_snapshot 25 = .ok (.aload_n 0, 1) := by decide +kernel
theorem dX3_snapshot_26 : decode cX3_snapshot 26 = .ok (.getfield 32, 3) := by decide +kernel
theorem dX3_snapshot_29 : decode cX3_snapshot 29 = .ok (.iload_n 1, 1) := by decide +kernel
theorem dX3_snapshot_30 : decode cX3_snapshot 30 = .ok (.invokevirtual 131, 3) := by decide +kernel
theorem dX3_snapshot_33 : decode cX3_snapshot 33 = .ok (.ireturn, 1) := by decide +kernel
set_option maxRecDepth 20000 in
theorem ggX3_record_X3_neededPlace : GoodIn wsX3_record wsX3_neededPlace := goodIn_ca (goodIn_r _ [8, 1, 2, 3, 9, 10, 11, 12, 13, 14, 15, 16, 17, 18, 19, 20, 21, 22, 23, 24, 25, 26, 27, 28, 29, 30] (by decide +kernel) (by decide +kernel)) (goodIn_sub (fun _ h => List.mem_cons_of_mem _ (List.mem_append_right _ h)) (by decide +kernel))
set_option maxRecDepth 20000 in
theorem gX3_record_X3_neededPlace : GoodIn wsX3_record (wsV RX3 134 RX3 yX3_neededPlace wsX3_neededPlace) := goodIn_app (goodIn_of _ (by decide +kernel)) ggX3_record_X3_neededPlace
theorem dX3_record_0 : decode cX3_record 0 = .ok (.aload_n 0, 1) := by decide +kernel
theorem dX3_record_1 : decode cX3_record 1 = .ok (.iload_n 1, 1) := by decide +kernel
theorem dX3_record_2 : decode cX3_record 2 = .ok (.iload_n 2, 1) := by decide +kernel
theorem dX3_record_3 : decode cX3_record 3 = .ok (.invokevirtual 134, 3) := by decide +kernel
theorem dX3_record_6 : decode cX3_record 6 = .ok (.istore 4, 2) := by decide +kernel
theorem dX3_record_8 : decode cX3_record 8 = .ok (.iload_n 3, 1) := by decide +kernel
theorem dX3_record_9 : decode cX3_record 9 = .ok (.lookupswitch 49 #[(0, 27), (1, 38)], 27) := by decide +kernel
theorem dX3_record_36 : decode cX3_record 36 = .ok (.aload_n 0, 1) := by decide +kernel
theorem dX3_record_37 : decode cX3_record 37 = .ok (.getfield 23, 3) := by decide +kernel
theorem dX3_record_40 : decode cX3_record 40 = .ok (.getfield 138, 3) := by decide +kernel
theorem dX3_record_43 : decode cX3_record 43 = .ok (.iload 4, 2) := by decide +kernel
theorem dX3_record_45 : decode cX3_record 45 = .ok (.iaload, 1) := by decide +kernel
theorem dX3_record_46 : decode cX3_record 46 = .ok (.ireturn, 1) := by decide +kernel
theorem dX3_record_47 : decode cX3_record 47 = .ok (.aload_n 0, 1) := by decide +kernel
theorem dX3_record_48 : decode cX3_record 48 = .ok (.getfield 23, 3) := by decide +kernel
theorem dX3_record_51 : decode cX3_record 51 = .ok (.getfield 142, 3) := by decide +kernel
theorem dX3_record_54 : decode cX3_record 54 = .ok (.iload 4, 2) := by decide +kernel
theorem dX3_record_56 : decode cX3_record 56 = .ok (.iaload, 1) := by decide +kernel
theorem dX3_record_57 : decode cX3_record 57 = .ok (.ireturn, 1) := by decide +kernel
theorem dX3_record_58 : decode cX3_record 58 = .ok (.new 126, 3) := by decide +kernel
theorem dX3_record_61 : decode cX3_record 61 = .ok (.dup, 1) := by decide +kernel
theorem dX3_record_62 : decode cX3_record 62 = .ok (.ldc 145, 2) := by decide +kernel
theorem dX3_record_64 : decode cX3_record 64 = .ok (.invokespecial 130, 3) := by decide +kernel
theorem dX3_record_67 : decode cX3_record 67 = .ok (.athrow, 1) := by decide +kernel
set_option maxRecDepth 20000 in
theorem ggX3_recorded_X3_neededPlace : GoodIn wsX3_recorded wsX3_neededPlace := goodIn_ca (goodIn_r _ [6, 7, 8, 1, 9, 10, 11, 12, 13, 14, 15, 16, 17, 18, 19, 20, 21, 22, 23, 24, 25, 26, 27, 28, 29, 30] (by decide +kernel) (by decide +kernel)) (goodIn_sub (fun _ h => List.mem_cons_of_mem _ (List.mem_append_right _ h)) (by decide +kernel))
set_option maxRecDepth 20000 in
theorem gX3_recorded_X3_neededPlace : GoodIn wsX3_recorded (wsV RX3 134 RX3 yX3_neededPlace wsX3_neededPlace) := goodIn_app (goodIn_of _ (by decide +kernel)) ggX3_recorded_X3_neededPlace
theorem dX3_recorded_0 : decode cX3_recorded 0 = .ok (.aload_n 0, 1) := by decide +kernel
theorem dX3_recorded_1 : decode cX3_recorded 1 = .ok (.getfield 23, 3) := by decide +kernel
theorem dX3_recorded_4 : decode cX3_recorded 4 = .ok (.getfield 147, 3) := by decide +kernel
theorem dX3_recorded_7 : decode cX3_recorded 7 = .ok (.aload_n 0, 1) := by decide +kernel
theorem dX3_recorded_8 : decode cX3_recorded 8 = .ok (.iload_n 1, 1) := by decide +kernel
theorem dX3_recorded_9 : decode cX3_recorded 9 = .ok (.iload_n 2, 1) := by decide +kernel
theorem dX3_recorded_10 : decode cX3_recorded 10 = .ok (.invokevirtual 134, 3) := by decide +kernel
theorem dX3_recorded_13 : decode cX3_recorded 13 = .ok (.faload, 1) := by decide +kernel
theorem dX3_recorded_14 : decode cX3_recorded 14 = .ok (.freturn, 1) := by decide +kernel
set_option maxRecDepth 20000 in
theorem ggX3_count_X1_sizeOf : GoodIn wsX3_count wsX1_sizeOf := goodIn_r _ [12, 13, 14, 15, 10, 16, 17, 18, 35, 36, 37, 38, 39] (by decide +kernel) (by decide +kernel)
set_option maxRecDepth 20000 in
theorem gX3_count_X1_sizeOf_n82 : GoodIn wsX3_count (wsX1_sizeOf) := ggX3_count_X1_sizeOf
set_option maxRecDepth 20000 in
theorem ggX3_count_X3_cellsNotZero : GoodIn wsX3_count wsX3_cellsNotZero := goodIn_r _ [23, 4, 24, 25, 26, 27, 28, 29, 30] (by decide +kernel) (by decide +kernel)
set_option maxRecDepth 20000 in
theorem gX3_count_X3_cellsNotZero : GoodIn wsX3_count (wsV RX3 153 RX3 yX3_cellsNotZero wsX3_cellsNotZero) := goodIn_app (goodIn_of _ (by decide +kernel)) ggX3_count_X3_cellsNotZero
theorem dX3_count_0 : decode cX3_count 0 = .ok (.iload_n 1, 1) := by decide +kernel
theorem dX3_count_1 : decode cX3_count 1 = .ok (.tableswitch 104 0 7 #[47, 52, 58, 66, 74, 86, 94, 99], 47) := by decide +kernel
theorem dX3_count_48 : decode cX3_count 48 = .ok (.aload_n 0, 1) := by decide +kernel
theorem dX3_count_49 : decode cX3_count 49 = .ok (.getfield 57, 3) := by decide +kernel
theorem dX3_count_52 : decode cX3_count 52 = .ok (.ireturn, 1) := by decide +kernel
theorem dX3_count_53 : decode cX3_count 53 = .ok (.aload_n 0, 1) := by decide +kernel
theorem dX3_count_54 : decode cX3_count 54 = .ok (.getfield 9, 3) := by decide +kernel
theorem dX3_count_57 : decode cX3_count 57 = .ok (.arraylength, 1) := by decide +kernel
theorem dX3_count_58 : decode cX3_count 58 = .ok (.ireturn, 1) := by decide +kernel
theorem dX3_count_59 : decode cX3_count 59 = .ok (.aload_n 0, 1) := by decide +kernel
theorem dX3_count_60 : decode cX3_count 60 = .ok (.getfield 32, 3) := by decide +kernel
theorem dX3_count_63 : decode cX3_count 63 = .ok (.getfield 100, 3) := by decide +kernel
theorem dX3_count_66 : decode cX3_count 66 = .ok (.ireturn, 1) := by decide +kernel
theorem dX3_count_67 : decode cX3_count 67 = .ok (.aload_n 0, 1) := by decide +kernel
theorem dX3_count_68 : decode cX3_count 68 = .ok (.getfield 23, 3) := by decide +kernel
theorem dX3_count_71 : decode cX3_count 71 = .ok (.getfield 60, 3) := by decide +kernel
theorem dX3_count_74 : decode cX3_count 74 = .ok (.ireturn, 1) := by decide +kernel
theorem dX3_count_75 : decode cX3_count 75 = .ok (.aload_n 0, 1) := by decide +kernel
theorem dX3_count_76 : decode cX3_count 76 = .ok (.getfield 23, 3) := by decide +kernel
theorem dX3_count_79 : decode cX3_count 79 = .ok (.aload_n 0, 1) := by decide +kernel
theorem dX3_count_80 : decode cX3_count 80 = .ok (.getfield 57, 3) := by decide +kernel
theorem dX3_count_83 : decode cX3_count 83 = .ok (.invokevirtual 82, 3) := by decide +kernel
theorem dX3_count_86 : decode cX3_count 86 = .ok (.ireturn, 1) := by decide +kernel
theorem dX3_count_87 : decode cX3_count 87 = .ok (.aload_n 0, 1) := by decide +kernel
theorem dX3_count_88 : decode cX3_count 88 = .ok (.getfield 16, 3) := by decide +kernel
theorem dX3_count_91 : decode cX3_count 91 = .ok (.getfield 48, 3) := by decide +kernel
theorem dX3_count_94 : decode cX3_count 94 = .ok (.ireturn, 1) := by decide +kernel
theorem dX3_count_95 : decode cX3_count 95 = .ok (.aload_n 0, 1) := by decide +kernel
theorem dX3_count_96 : decode cX3_count 96 = .ok (.getfield 150, 3) := by decide +kernel
theorem dX3_count_99 : decode cX3_count 99 = .ok (.ireturn, 1) := by decide +kernel
theorem dX3_count_100 : decode cX3_count 100 = .ok (.aload_n 0, 1) := by decide +kernel
theorem dX3_count_101 : decode cX3_count 101 = .ok (.invokevirtual 153, 3) := by decide +kernel
theorem dX3_count_104 : decode cX3_count 104 = .ok (.ireturn, 1) := by decide +kernel
theorem dX3_count_105 : decode cX3_count 105 = .ok (.new 126, 3) := by decide +kernel
theorem dX3_count_108 : decode cX3_count 108 = .ok (.dup, 1) := by decide +kernel
theorem dX3_count_109 : decode cX3_count 109 = .ok (.ldc 157, 2) := by decide +kernel
theorem dX3_count_111 : decode cX3_count 111 = .ok (.invokespecial 130, 3) := by decide +kernel
theorem dX3_count_114 : decode cX3_count 114 = .ok (.athrow, 1) := by decide +kernel
theorem dX3_sum_0 : decode cX3_sum 0 = .ok (.fconst 0, 1) := by decide +kernel
theorem dX3_sum_1 : decode cX3_sum 1 = .ok (.fstore_n 1, 1) := by decide +kernel
theorem dX3_sum_2 : decode cX3_sum 2 = .ok (.iconst 0, 1) := by decide +kernel
theorem dX3_sum_3 : decode cX3_sum 3 = .ok (.istore_n 2, 1) := by decide +kernel
theorem dX3_sum_4 : decode cX3_sum 4 = .ok (.iload_n 2, 1) := by decide +kernel
theorem dX3_sum_5 : decode cX3_sum 5 = .ok (.aload_n 0, 1) := by decide +kernel
theorem dX3_sum_6 : decode cX3_sum 6 = .ok (.getfield 9, 3) := by decide +kernel
theorem dX3_sum_9 : decode cX3_sum 9 = .ok (.arraylength, 1) := by decide +kernel
theorem dX3_sum_10 : decode cX3_sum 10 = .ok (.if_icmp .ge 18, 3) := by decide +kernel
theorem dX3_sum_13 : decode cX3_sum 13 = .ok (.fload_n 1, 1) := by decide +kernel
theorem dX3_sum_14 : decode cX3_sum 14 = .ok (.aload_n 0, 1) := by decide +kernel
theorem dX3_sum_15 : decode cX3_sum 15 = .ok (.getfield 9, 3) := by decide +kernel
theorem dX3_sum_18 : decode cX3_sum 18 = .ok (.iload_n 2, 1) := by decide +kernel
theorem dX3_sum_19 : decode cX3_sum 19 = .ok (.faload, 1) := by decide +kernel
theorem dX3_sum_20 : decode cX3_sum 20 = .ok (.fadd, 1) := by decide +kernel
theorem dX3_sum_21 : decode cX3_sum 21 = .ok (.fstore_n 1, 1) := by decide +kernel
theorem dX3_sum_22 : decode cX3_sum 22 = .ok (.iinc 2 1, 3) := by decide +kernel
theorem dX3_sum_25 : decode cX3_sum 25 = .ok (.goto (-21), 3) := by decide +kernel
theorem dX3_sum_28 : decode cX3_sum 28 = .ok (.fload_n 1, 1) := by decide +kernel
theorem dX3_sum_29 : decode cX3_sum 29 = .ok (.freturn, 1) := by decide +kernel
theorem dX3_cellsNotZero_0 : decode cX3_cellsNotZero 0 = .ok (.iconst 0, 1) := by decide +kernel
theorem dX3_cellsNotZero_1 : decode cX3_cellsNotZero 1 = .ok (.istore_n 1, 1) := by decide +kernel
theorem dX3_cellsNotZero_2 : decode cX3_cellsNotZero 2 = .ok (.iconst 0, 1) := by decide +kernel
theorem dX3_cellsNotZero_3 : decode cX3_cellsNotZero 3 = .ok (.istore_n 2, 1) := by decide +kernel
theorem dX3_cellsNotZero_4 : decode cX3_cellsNotZero 4 = .ok (.iload_n 2, 1) := by decide +kernel
theorem dX3_cellsNotZero_5 : decode cX3_cellsNotZero 5 = .ok (.aload_n 0, 1) := by decide +kernel
theorem dX3_cellsNotZero_6 : decode cX3_cellsNotZero 6 = .ok (.getfield 9, 3) := by decide +kernel
theorem dX3_cellsNotZero_9 : decode cX3_cellsNotZero 9 = .ok (.arraylength, 1) := by decide +kernel
theorem dX3_cellsNotZero_10 : decode cX3_cellsNotZero 10 = .ok (.if_icmp .ge 23, 3) := by decide +kernel
theorem dX3_cellsNotZero_13 : decode cX3_cellsNotZero 13 = .ok (.aload_n 0, 1) := by decide +kernel
theorem dX3_cellsNotZero_14 : decode cX3_cellsNotZero 14 = .ok (.getfield 9, 3) := by decide +kernel
theorem dX3_cellsNotZero_17 : decode cX3_cellsNotZero 17 = .ok (.iload_n 2, 1) := by decide +kernel
theorem dX3_cellsNotZero_18 : decode cX3_cellsNotZero 18 = .ok (.faload, 1) := by decide +kernel
theorem dX3_cellsNotZero_19 : decode cX3_cellsNotZero 19 = .ok (.fconst 0, 1) := by decide +kernel
theorem dX3_cellsNotZero_20 : decode cX3_cellsNotZero 20 = .ok (.fcmp .l, 1) := by decide +kernel
theorem dX3_cellsNotZero_21 : decode cX3_cellsNotZero 21 = .ok (.ifCond .eq 6, 3) := by decide +kernel
theorem dX3_cellsNotZero_24 : decode cX3_cellsNotZero 24 = .ok (.iinc 1 1, 3) := by decide +kernel
theorem dX3_cellsNotZero_27 : decode cX3_cellsNotZero 27 = .ok (.iinc 2 1, 3) := by decide +kernel
theorem dX3_cellsNotZero_30 : decode cX3_cellsNotZero 30 = .ok (.goto (-26), 3) := by decide +kernel
theorem dX3_cellsNotZero_33 : decode cX3_cellsNotZero 33 = .ok (.iload_n 1, 1) := by decide +kernel
theorem dX3_cellsNotZero_34 : decode cX3_cellsNotZero 34 = .ok (.ireturn, 1) := by decide +kernel
set_option maxRecDepth 20000 in
theorem ggX3_doSteps_X1_putIn : GoodIn wsX3_doSteps wsX1_putIn := goodIn_r _ [10, 11, 12, 13, 14, 15, 16, 8, 17, 18, 19, 20, 21, 22, 23, 24, 25, 26, 27, 76, 77, 78, 79, 80] (by decide +kernel) (by decide +kernel)
set_option maxRecDepth 20000 in
theorem gX3_doSteps_X1_putIn_n159 : GoodIn wsX3_doSteps (wsX1_putIn) := ggX3_doSteps_X1_putIn
set_option maxRecDepth 20000 in
theorem ggX3_doSteps_X0_flow : GoodIn wsX3_doSteps wsX0_flow := goodIn_r _ [31, 32, 33, 34, 35, 23, 24, 25, 26, 27, 81, 82, 83, 84] (by decide +kernel) (by decide +kernel)
set_option maxRecDepth 20000 in
theorem gX3_doSteps_X0_flow_n163 : GoodIn wsX3_doSteps (wsX0_flow) := ggX3_doSteps_X0_flow
set_option maxRecDepth 20000 in
theorem ggX3_doSteps_X3_keepPresent : GoodIn wsX3_doSteps wsX3_keepPresent := goodIn_r _ [39, 40, 2, 3, 1, 41, 42, 43, 44, 45, 46, 47, 48, 49, 50, 51, 52, 53, 54, 55, 56, 57, 58, 59, 60, 61, 8, 62, 63, 18, 14, 15, 16, 17, 19, 64, 65, 66, 67, 68, 11, 12, 13, 69, 70, 71, 72, 73, 74, 75, 85, 86, 87, 88, 76, 77, 78, 79, 80] (by decide +kernel) (by decide +kernel)
set_option maxRecDepth 20000 in
theorem gX3_doSteps_X3_keepPresent : GoodIn wsX3_doSteps (wsV RX3 97 RX3 yX3_keepPresent wsX3_keepPresent) := goodIn_app (goodIn_of _ (by decide +kernel)) ggX3_doSteps_X3_keepPresent
theorem dX3_doSteps_0 : decode cX3_doSteps 0 = .ok (.iconst 0, 1) := by decide +kernel
theorem dX3_doSteps_1 : decode cX3_doSteps 1 = .ok (.istore_n 2, 1) := by decide +kernel
theorem dX3_doSteps_2 : decode cX3_doSteps 2 = .ok (.iload_n 2, 1) := by decide +kernel
theorem dX3_doSteps_3 : decode cX3_doSteps 3 = .ok (.iload_n 1, 1) := by decide +kernel
theorem dX3_doSteps_4 : decode cX3_doSteps 4 = .ok (.if_icmp .ge 78, 3) := by decide +kernel
theorem dX3_doSteps_7 : decode cX3_doSteps 7 = .ok (.aload_n 0, 1) := by decide +kernel
theorem dX3_doSteps_8 : decode cX3_doSteps 8 = .ok (.getfield 23, 3) := by decide +kernel
theorem dX3_doSteps_11 : decode cX3_doSteps 11 = .ok (.aload_n 0, 1) := by decide +kernel
theorem dX3_doSteps_12 : decode cX3_doSteps 12 = .ok (.getfield 57, 3) := by decide +kernel
theorem dX3_doSteps_15 : decode cX3_doSteps 15 = .ok (.aload_n 0, 1) := by decide +kernel
theorem dX3_doSteps_16 : decode cX3_doSteps 16 = .ok (.getfield 9, 3) := by decide +kernel
theorem dX3_doSteps_19 : decode cX3_doSteps 19 = .ok (.invokevirtual 159, 3) := by decide +kernel
theorem dX3_doSteps_22 : decode cX3_doSteps 22 = .ok (.aload_n 0, 1) := by decide +kernel
theorem dX3_doSteps_23 : decode cX3_doSteps 23 = .ok (.getfield 16, 3) := by decide +kernel
theorem dX3_doSteps_26 : decode cX3_doSteps 26 = .ok (.aload_n 0, 1) := by decide +kernel
theorem dX3_doSteps_27 : decode cX3_doSteps 27 = .ok (.getfield 9, 3) := by decide +kernel
theorem dX3_doSteps_30 : decode cX3_doSteps 30 = .ok (.invokevirtual 163, 3) := by decide +kernel
theorem dX3_doSteps_33 : decode cX3_doSteps 33 = .ok (.aload_n 0, 1) := by decide +kernel
theorem dX3_doSteps_34 : decode cX3_doSteps 34 = .ok (.dup, 1) := by decide +kernel
theorem dX3_doSteps_35 : decode cX3_doSteps 35 = .ok (.getfield 57, 3) := by decide +kernel
theorem dX3_doSteps_38 : decode cX3_doSteps 38 = .ok (.iconst 1, 1) := by decide +kernel
theorem dX3_doSteps_39 : decode cX3_doSteps 39 = .ok (.iadd, 1) := by decide +kernel
theorem dX3_doSteps_40 : decode cX3_doSteps 40 = .ok (.putfield 57, 3) := by decide +kernel
theorem dX3_doSteps_43 : decode cX3_doSteps 43 = .ok (.aload_n 0, 1) := by decide +kernel
theorem dX3_doSteps_44 : decode cX3_doSteps 44 = .ok (.dup, 1) := by decide +kernel
theorem dX3_doSteps_45 : decode cX3_doSteps 45 = .ok (.getfield 150, 3) := by decide +kernel
theorem dX3_doSteps_48 : decode cX3_doSteps 48 = .ok (.iconst 1, 1) := by decide +kernel
theorem dX3_doSteps_49 : decode cX3_doSteps 49 = .ok (.iadd, 1) := by decide +kernel
theorem dX3_doSteps_50 : decode cX3_doSteps 50 = .ok (.putfield 150, 3) := by decide +kernel
theorem dX3_doSteps_53 : decode cX3_doSteps 53 = .ok (.aload_n 0, 1) := by decide +kernel
theorem dX3_doSteps_54 : decode cX3_doSteps 54 = .ok (.getfield 69, 3) := by decide +kernel
theorem dX3_doSteps_57 : decode cX3_doSteps 57 = .ok (.ifCond .le 19, 3) := by decide +kernel
theorem dX3_doSteps_60 : decode cX3_doSteps 60 = .ok (.aload_n 0, 1) := by decide +kernel
theorem dX3_doSteps_61 : decode cX3_doSteps 61 = .ok (.getfield 57, 3) := by decide +kernel
theorem dX3_doSteps_64 : decode cX3_doSteps 64 = .ok (.aload_n 0, 1) := by decide +kernel
theorem dX3_doSteps_65 : decode cX3_doSteps 65 = .ok (.getfield 69, 3) := by decide +kernel
theorem dX3_doSteps_68 : decode cX3_doSteps 68 = .ok (.irem, 1) := by decide +kernel
theorem dX3_doSteps_69 : decode cX3_doSteps 69 = .ok (.ifCond .ne 7, 3) := by decide +kernel
theorem dX3_doSteps_72 : decode cX3_doSteps 72 = .ok (.aload_n 0, 1) := by decide +kernel
theorem dX3_doSteps_73 : decode cX3_doSteps 73 = .ok (.invokevirtual 97, 3) := by decide +kernel
theorem dX3_doSteps_76 : decode cX3_doSteps 76 = .ok (.iinc 2 1, 3) := by decide +kernel
theorem dX3_doSteps_79 : decode cX3_doSteps 79 = .ok (.goto (-77), 3) := by decide +kernel
theorem dX3_doSteps_82 : decode cX3_doSteps 82 = .ok (.return_, 1) := by decide +kernel
set_option maxRecDepth 20000 in
theorem ggX3_keepPresent_X2_take : GoodIn wsX3_keepPresent wsX2_take := goodIn_r _ [8, 9, 10, 11, 12, 13, 14, 15, 16, 17, 18, 19, 6, 20, 21, 22, 23, 24, 50, 51, 52, 53] (by decide +kernel) (by decide +kernel)
set_option maxRecDepth 20000 in
theorem gX3_keepPresent_X2_take_n167 : GoodIn wsX3_keepPresent (wsX2_take) := ggX3_keepPresent_X2_take
set_option maxRecDepth 20000 in
theorem ggX3_keepPresent_X2_stepOf : GoodIn wsX3_keepPresent wsX2_stepOf := goodIn_r _ [20, 11, 21, 22, 23, 6, 24, 10, 50, 51, 52, 53] (by decide +kernel) (by decide +kernel)
set_option maxRecDepth 20000 in
theorem gX3_keepPresent_X2_stepOf_n131 : GoodIn wsX3_keepPresent (wsX2_stepOf) := ggX3_keepPresent_X2_stepOf
set_option maxRecDepth 20000 in
theorem ggX3_keepPresent_X1_dropBelow : GoodIn wsX3_keepPresent wsX1_dropBelow := goodIn_r _ [28, 29, 30, 31, 32, 26, 33, 34, 35, 36, 37, 38, 39, 14, 15, 16, 40, 41, 42, 54, 55, 56, 57, 58] (by decide +kernel) (by decide +kernel)
set_option maxRecDepth 20000 in
theorem gX3_keepPresent_X1_dropBelow_n171 : GoodIn wsX3_keepPresent (wsX1_dropBelow) := ggX3_keepPresent_X1_dropBelow
theorem dX3_keepPresent_0 : decode cX3_keepPresent 0 = .ok (.aload_n 0, 1) := by decide +kernel
theorem dX3_keepPresent_1 : decode cX3_keepPresent 1 = .ok (.getfield 32, 3) := by decide +kernel
theorem dX3_keepPresent_4 : decode cX3_keepPresent 4 = .ok (.aload_n 0, 1) := by decide +kernel
theorem dX3_keepPresent_5 : decode cX3_keepPresent 5 = .ok (.getfield 57, 3) := by decide +kernel
theorem dX3_keepPresent_8 : decode cX3_keepPresent 8 = .ok (.aload_n 0, 1) := by decide +kernel
theorem dX3_keepPresent_9 : decode cX3_keepPresent 9 = .ok (.getfield 9, 3) := by decide +kernel
theorem dX3_keepPresent_12 : decode cX3_keepPresent 12 = .ok (.invokevirtual 167, 3) := by decide +kernel
theorem dX3_keepPresent_15 : decode cX3_keepPresent 15 = .ok (.istore_n 1, 1) := by decide +kernel
theorem dX3_keepPresent_16 : decode cX3_keepPresent 16 = .ok (.iload_n 1, 1) := by decide +kernel
theorem dX3_keepPresent_17 : decode cX3_keepPresent 17 = .ok (.ifCond .eq 18, 3) := by decide +kernel
theorem dX3_keepPresent_20 : decode cX3_keepPresent 20 = .ok (.aload_n 0, 1) := by decide +kernel
theorem dX3_keepPresent_21 : decode cX3_keepPresent 21 = .ok (.getfield 23, 3) := by decide +kernel
theorem dX3_keepPresent_24 : decode cX3_keepPresent 24 = .ok (.aload_n 0, 1) := by decide +kernel
theorem dX3_keepPresent_25 : decode cX3_keepPresent 25 = .ok (.getfield 32, 3) := by decide +kernel
theorem dX3_keepPresent_28 : decode cX3_keepPresent 28 = .ok (.iconst 0, 1) := by decide +kernel
theorem dX3_keepPresent_29 : decode cX3_keepPresent 29 = .ok (.invokevirtual 131, 3) := by decide +kernel
theorem dX3_keepPresent_32 : decode cX3_keepPresent 32 = .ok (.invokevirtual 171, 3) := by decide +kernel
theorem dX3_keepPresent_35 : decode cX3_keepPresent 35 = .ok (.return_, 1) := by decide +kernel
set_option maxRecDepth 20000 in
theorem ggX3_goBackTo_X2_row : GoodIn wsX3_goBackTo wsX2_row := goodIn_r _ [11, 12, 13, 14, 15, 9, 16, 17, 33, 34, 35, 36] (by decide +kernel) (by decide +kernel)
set_option maxRecDepth 20000 in
theorem gX3_goBackTo_X2_row_n122 : GoodIn wsX3_goBackTo (wsX2_row) := ggX3_goBackTo_X2_row
set_option maxRecDepth 20000 in
theorem ggX3_goBackTo_X2_stepOf : GoodIn wsX3_goBackTo wsX2_stepOf := goodIn_r _ [20, 21, 13, 14, 15, 9, 16, 17, 33, 34, 35, 36] (by decide +kernel) (by decide +kernel)
set_option maxRecDepth 20000 in
theorem gX3_goBackTo_X2_stepOf_n131 : GoodIn wsX3_goBackTo (wsX2_stepOf) := ggX3_goBackTo_X2_stepOf
set_option maxRecDepth 20000 in
theorem ggX3_goBackTo_X2_dropBehind : GoodIn wsX3_goBackTo wsX2_dropBehind := goodIn_r _ [24, 25, 33, 34, 35, 36] (by decide +kernel) (by decide +kernel)
set_option maxRecDepth 20000 in
theorem gX3_goBackTo_X2_dropBehind_n180 : GoodIn wsX3_goBackTo (wsX2_dropBehind) := ggX3_goBackTo_X2_dropBehind
theorem dX3_goBackTo_0 : decode cX3_goBackTo 0 = .ok (.aload_n 0, 1) := by decide +kernel
theorem dX3_goBackTo_1 : decode cX3_goBackTo 1 = .ok (.getfield 32, 3) := by decide +kernel
theorem dX3_goBackTo_4 : decode cX3_goBackTo 4 = .ok (.iload_n 1, 1) := by decide +kernel
theorem dX3_goBackTo_5 : decode cX3_goBackTo 5 = .ok (.invokevirtual 122, 3) := by decide +kernel
theorem dX3_goBackTo_8 : decode cX3_goBackTo 8 = .ok (.iconst 0, 1) := by decide +kernel
theorem dX3_goBackTo_9 : decode cX3_goBackTo 9 = .ok (.aload_n 0, 1) := by decide +kernel
theorem dX3_goBackTo_10 : decode cX3_goBackTo 10 = .ok (.getfield 9, 3) := by decide +kernel
theorem dX3_goBackTo_13 : decode cX3_goBackTo 13 = .ok (.iconst 0, 1) := by decide +kernel
theorem dX3_goBackTo_14 : decode cX3_goBackTo 14 = .ok (.aload_n 0, 1) := by decide +kernel
theorem dX3_goBackTo_15 : decode cX3_goBackTo 15 = .ok (.getfield 9, 3) := by decide +kernel
theorem dX3_goBackTo_18 : decode cX3_goBackTo 18 = .ok (.arraylength, 1) := by decide +kernel
theorem dX3_goBackTo_19 : decode cX3_goBackTo 19 = .ok (.invokestatic 174, 3) := by decide +kernel
theorem dX3_goBackTo_22 : decode cX3_goBackTo 22 = .ok (.aload_n 0, 1) := by decide +kernel
theorem dX3_goBackTo_23 : decode cX3_goBackTo 23 = .ok (.aload_n 0, 1) := by decide +kernel
theorem dX3_goBackTo_24 : decode cX3_goBackTo 24 = .ok (.getfield 32, 3) := by decide +kernel
theorem dX3_goBackTo_27 : decode cX3_goBackTo 27 = .ok (.iload_n 1, 1) := by decide +kernel
theorem dX3_goBackTo_28 : decode cX3_goBackTo 28 = .ok (.invokevirtual 131, 3) := by decide +kernel
theorem dX3_goBackTo_31 : decode cX3_goBackTo 31 = .ok (.putfield 57, 3) := by decide +kernel
theorem dX3_goBackTo_34 : decode cX3_goBackTo 34 = .ok (.aload_n 0, 1) := by decide +kernel
theorem dX3_goBackTo_35 : decode cX3_goBackTo 35 = .ok (.getfield 32, 3) := by decide +kernel
theorem dX3_goBackTo_38 : decode cX3_goBackTo 38 = .ok (.iload_n 1, 1) := by decide +kernel
theorem dX3_goBackTo_39 : decode cX3_goBackTo 39 = .ok (.invokevirtual 180, 3) := by decide +kernel
theorem dX3_goBackTo_42 : decode cX3_goBackTo 42 = .ok (.ireturn, 1) := by decide +kernel
set_option maxRecDepth 20000 in
theorem ggX3_stepAgainFrom_X3_goBackTo : GoodIn wsX3_stepAgainFrom wsX3_goBackTo := goodIn_r _ [6, 7, 8, 9, 10, 11, 12, 1, 13, 14, 15, 16, 17, 18, 19, 20, 21, 22, 23, 24, 25, 26, 27, 28, 29, 30, 84, 85, 86, 87, 88, 89, 90, 91, 92, 93, 94] (by decide +kernel) (by decide +kernel)
set_option maxRecDepth 20000 in
theorem gX3_stepAgainFrom_X3_goBackTo : GoodIn wsX3_stepAgainFrom (wsV RX3 104 RX3 yX3_goBackTo wsX3_goBackTo) := goodIn_app (goodIn_of _ (by decide +kernel)) ggX3_stepAgainFrom_X3_goBackTo
set_option maxRecDepth 20000 in
theorem ggX3_stepAgainFrom_X3_doSteps : GoodIn wsX3_stepAgainFrom wsX3_doSteps := goodIn_r _ [34, 35, 1, 8, 36, 37, 38, 39, 40, 41, 42, 43, 44, 45, 46, 47, 48, 49, 50, 51, 52, 53, 54, 55, 5, 56, 57, 58, 59, 60, 61, 62, 63, 64, 65, 66, 67, 68, 69, 70, 7, 71, 14, 72, 73, 30, 22, 26, 17, 74, 10, 11, 12, 75, 23, 24, 25, 18, 19, 20, 21, 76, 77, 78, 79, 80, 81, 82, 83, 84, 85, 86, 87, 88, 89, 90, 95, 96, 97, 98, 99, 100, 101, 102, 103, 91, 92, 93, 94] (by decide +kernel) (by decide +kernel)
set_option maxRecDepth 20000 in
theorem gX3_stepAgainFrom_X3_doSteps : GoodIn wsX3_stepAgainFrom (wsV RX3 94 RX3 yX3_doSteps wsX3_doSteps) := goodIn_app (goodIn_of _ (by decide +kernel)) ggX3_stepAgainFrom_X3_doSteps
theorem dX3_stepAgainFrom_0 : decode cX3_stepAgainFrom 0 = .ok (.aload_n 0, 1) := by decide +kernel
theorem dX3_stepAgainFrom_1 : decode cX3_stepAgainFrom 1 = .ok (.getfield 57, 3) := by decide +kernel
theorem dX3_stepAgainFrom_4 : decode cX3_stepAgainFrom 4 = .ok (.istore_n 2, 1) := by decide +kernel
theorem dX3_stepAgainFrom_5 : decode cX3_stepAgainFrom 5 = .ok (.aload_n 0, 1) := by decide +kernel
theorem dX3_stepAgainFrom_6 : decode cX3_stepAgainFrom 6 = .ok (.iload_n 1, 1) := by decide +kernel
theorem dX3_stepAgainFrom_7 : decode cX3_stepAgainFrom 7 = .ok (.invokevirtual 104, 3) := by decide +kernel
theorem dX3_stepAgainFrom_10 : decode cX3_stepAgainFrom 10 = .ok (.pop, 1) := by decide +kernel
theorem dX3_stepAgainFrom_11 : decode cX3_stepAgainFrom 11 = .ok (.iload_n 2, 1) := by decide +kernel
theorem dX3_stepAgainFrom_12 : decode cX3_stepAgainFrom 12 = .ok (.aload_n 0, 1) := by decide +kernel
theorem dX3_stepAgainFrom_13 : decode cX3_stepAgainFrom 13 = .ok (.getfield 57, 3) := by decide +kernel
theorem dX3_stepAgainFrom_16 : decode cX3_stepAgainFrom 16 = .ok (.isub, 1) := by decide +kernel
theorem dX3_stepAgainFrom_17 : decode cX3_stepAgainFrom 17 = .ok (.istore_n 3, 1) := by decide +kernel
theorem dX3_stepAgainFrom_18 : decode cX3_stepAgainFrom 18 = .ok (.aload_n 0, 1) := by decide +kernel
theorem dX3_stepAgainFrom_19 : decode cX3_stepAgainFrom 19 = .ok (.iload_n 3, 1) := by decide +kernel
theorem dX3_stepAgainFrom_20 : decode cX3_stepAgainFrom 20 = .ok (.invokevirtual 94, 3) := by decide +kernel
theorem dX3_stepAgainFrom_23 : decode cX3_stepAgainFrom 23 = .ok (.iload_n 3, 1) := by decide +kernel
theorem dX3_stepAgainFrom_24 : decode cX3_stepAgainFrom 24 = .ok (.ireturn, 1) := by decide +kernel
theorem dX3_needCell_0 : decode cX3_needCell 0 = .ok (.iload_n 1, 1) := by decide +kernel
theorem dX3_needCell_1 : decode cX3_needCell 1 = .ok (.ifCond .lt 12, 3) := by decide +kernel
theorem dX3_needCell_4 : decode cX3_needCell 4 = .ok (.iload_n 1, 1) := by decide +kernel
theorem dX3_needCell_5 : decode cX3_needCell 5 = .ok (.aload_n 0, 1) := by decide +kernel
theorem dX3_needCell_6 : decode cX3_needCell 6 = .ok (.getfield 9, 3) := by decide +kernel
theorem dX3_needCell_9 : decode cX3_needCell 9 = .ok (.arraylength, 1) := by decide +kernel
theorem dX3_needCell_10 : decode cX3_needCell 10 = .ok (.if_icmp .lt 13, 3) := by decide +kernel
theorem dX3_needCell_13 : decode cX3_needCell 13 = .ok (.new 126, 3) := by decide +kernel
theorem dX3_needCell_16 : decode cX3_needCell 16 = .ok (.dup, 1) := by decide +kernel
theorem dX3_needCell_17 : decode cX3_needCell 17 = .ok (.ldc 183, 2) := by decide +kernel
theorem dX3_needCell_19 : decode cX3_needCell 19 = .ok (.invokespecial 130, 3) := by decide +kernel
theorem dX3_needCell_22 : decode cX3_needCell 22 = .ok (.athrow, 1) := by decide +kernel
theorem dX3_needCell_23 : decode cX3_needCell 23 = .ok (.return_, 1) := by decide +kernel
theorem dX3_needLastCell_0 : decode cX3_needLastCell 0 = .ok (.iload_n 1, 1) := by decide +kernel
theorem dX3_needLastCell_1 : decode cX3_needLastCell 1 = .ok (.i2l, 1) := by decide +kernel
theorem dX3_needLastCell_2 : decode cX3_needLastCell 2 = .ok (.iload_n 3, 1) := by decide +kernel
theorem dX3_needLastCell_3 : decode cX3_needLastCell 3 = .ok (.i2l, 1) := by decide +kernel
theorem dX3_needLastCell_4 : decode cX3_needLastCell 4 = .ok (.lconst 1, 1) := by decide +kernel
theorem dX3_needLastCell_5 : decode cX3_needLastCell 5 = .ok (.lsub, 1) := by decide +kernel
theorem dX3_needLastCell_6 : decode cX3_needLastCell 6 = .ok (.iload_n 2, 1) := by decide +kernel
theorem dX3_needLastCell_7 : decode cX3_needLastCell 7 = .ok (.i2l, 1) := by decide +kernel
theorem dX3_needLastCell_8 : decode cX3_needLastCell 8 = .ok (.lmul, 1) := by decide +kernel
theorem dX3_needLastCell_9 : decode cX3_needLastCell 9 = .ok (.ladd, 1) := by decide +kernel
theorem dX3_needLastCell_10 : decode cX3_needLastCell 10 = .ok (.lstore 4, 2) := by decide +kernel
theorem dX3_needLastCell_12 : decode cX3_needLastCell 12 = .ok (.lload 4, 2) := by decide +kernel
theorem dX3_needLastCell_14 : decode cX3_needLastCell 14 = .ok (.lconst 0, 1) := by decide +kernel
theorem dX3_needLastCell_15 : decode cX3_needLastCell 15 = .ok (.lcmp, 1) := by decide +kernel
theorem dX3_needLastCell_16 : decode cX3_needLastCell 16 = .ok (.ifCond .lt 15, 3) := by decide +kernel
theorem dX3_needLastCell_19 : decode cX3_needLastCell 19 = .ok (.lload 4, 2) := by decide +kernel
theorem dX3_needLastCell_21 : decode cX3_needLastCell 21 = .ok (.aload_n 0, 1) := by decide +kernel
theorem dX3_needLastCell_22 : decode cX3_needLastCell 22 = .ok (.getfield 9, 3) := by decide +kernel
theorem dX3_needLastCell_25 : decode cX3_needLastCell 25 = .ok (.arraylength, 1) := by decide +kernel
theorem dX3_needLastCell_26 : decode cX3_needLastCell 26 = .ok (.i2l, 1) := by decide +kernel
theorem dX3_needLastCell_27 : decode cX3_needLastCell 27 = .ok (.lcmp, 1) := by decide +kernel
theorem dX3_needLastCell_28 : decode cX3_needLastCell 28 = .ok (.ifCond .lt 13, 3) := by decide +kernel
theorem dX3_needLastCell_31 : decode cX3_needLastCell 31 = .ok (.new 126, 3) := by decide +kernel
theorem dX3_needLastCell_34 : decode cX3_needLastCell 34 = .ok (.dup, 1) := by decide +kernel
theorem dX3_needLastCell_35 : decode cX3_needLastCell 35 = .ok (.ldc 185, 2) := by decide +kernel
theorem dX3_needLastCell_37 : decode cX3_needLastCell 37 = .ok (.invokespecial 130, 3) := by decide +kernel
theorem dX3_needLastCell_40 : decode cX3_needLastCell 40 = .ok (.athrow, 1) := by decide +kernel
theorem dX3_needLastCell_41 : decode cX3_needLastCell 41 = .ok (.return_, 1) := by decide +kernel
theorem dX3_needWayAndNumber_0 : decode cX3_needWayAndNumber 0 = .ok (.iload_n 0, 1) := by decide +kernel
theorem dX3_needWayAndNumber_1 : decode cX3_needWayAndNumber 1 = .ok (.ifCond .lt 8, 3) := by decide +kernel
theorem dX3_needWayAndNumber_4 : decode cX3_needWayAndNumber 4 = .ok (.iload_n 0, 1) := by decide +kernel
theorem dX3_needWayAndNumber_5 : decode cX3_needWayAndNumber 5 = .ok (.iconst 2, 1) := by decide +kernel
theorem dX3_needWayAndNumber_6 : decode cX3_needWayAndNumber 6 = .ok (.if_icmp .le 13, 3) := by decide +kernel
theorem dX3_needWayAndNumber_9 : decode cX3_needWayAndNumber 9 = .ok (.new 41, 3) := by decide +kernel
theorem dX3_needWayAndNumber_12 : decode cX3_needWayAndNumber 12 = .ok (.dup, 1) := by decide +kernel
theorem dX3_needWayAndNumber_13 : decode cX3_needWayAndNumber 13 = .ok (.ldc 187, 2) := by decide +kernel
theorem dX3_needWayAndNumber_15 : decode cX3_needWayAndNumber 15 = .ok (.invokespecial 45, 3) := by decide +kernel
theorem dX3_needWayAndNumber_18 : decode cX3_needWayAndNumber 18 = .ok (.athrow, 1) := by decide +kernel
theorem dX3_needWayAndNumber_19 : decode cX3_needWayAndNumber 19 = .ok (.fload_n 1, 1) := by decide +kernel
theorem dX3_needWayAndNumber_20 : decode cX3_needWayAndNumber 20 = .ok (.ldc 189, 2) := by decide +kernel
theorem dX3_needWayAndNumber_22 : decode cX3_needWayAndNumber 22 = .ok (.fcmp .l, 1) := by decide +kernel
theorem dX3_needWayAndNumber_23 : decode cX3_needWayAndNumber 23 = .ok (.ifCond .lt 10, 3) := by decide +kernel
theorem dX3_needWayAndNumber_26 : decode cX3_needWayAndNumber 26 = .ok (.fload_n 1, 1) := by decide +kernel
theorem dX3_needWayAndNumber_27 : decode cX3_needWayAndNumber 27 = .ok (.ldc 190, 2) := by decide +kernel
theorem dX3_needWayAndNumber_29 : decode cX3_needWayAndNumber 29 = .ok (.fcmp .g, 1) := by decide +kernel
theorem dX3_needWayAndNumber_30 : decode cX3_needWayAndNumber 30 = .ok (.ifCond .le 13, 3) := by decide +kernel
theorem dX3_needWayAndNumber_33 : decode cX3_needWayAndNumber 33 = .ok (.new 41, 3) := by decide +kernel
theorem dX3_needWayAndNumber_36 : decode cX3_needWayAndNumber 36 = .ok (.dup, 1) := by decide +kernel
theorem dX3_needWayAndNumber_37 : decode cX3_needWayAndNumber 37 = .ok (.ldc 191, 2) := by decide +kernel
theorem dX3_needWayAndNumber_39 : decode cX3_needWayAndNumber 39 = .ok (.invokespecial 45, 3) := by decide +kernel
theorem dX3_needWayAndNumber_42 : decode cX3_needWayAndNumber 42 = .ok (.athrow, 1) := by decide +kernel
theorem dX3_needWayAndNumber_43 : decode cX3_needWayAndNumber 43 = .ok (.return_, 1) := by decide +kernel
theorem dX3_needRoom_0 : decode cX3_needRoom 0 = .ok (.iload_n 1, 1) := by decide +kernel
theorem dX3_needRoom_1 : decode cX3_needRoom 1 = .ok (.sipush 512, 3) := by decide +kernel
theorem dX3_needRoom_4 : decode cX3_needRoom 4 = .ok (.aload_n 0, 1) := by decide +kernel
theorem dX3_needRoom_5 : decode cX3_needRoom 5 = .ok (.getfield 23, 3) := by decide +kernel
theorem dX3_needRoom_8 : decode cX3_needRoom 8 = .ok (.getfield 60, 3) := by decide +kernel
theorem dX3_needRoom_11 : decode cX3_needRoom 11 = .ok (.isub, 1) := by decide +kernel
theorem dX3_needRoom_12 : decode cX3_needRoom 12 = .ok (.if_icmp .le 13, 3) := by decide +kernel
theorem dX3_needRoom_15 : decode cX3_needRoom 15 = .ok (.new 52, 3) := by decide +kernel
theorem dX3_needRoom_18 : decode cX3_needRoom 18 = .ok (.dup, 1) := by decide +kernel
theorem dX3_needRoom_19 : decode cX3_needRoom 19 = .ok (.ldc 193, 2) := by decide +kernel
theorem dX3_needRoom_21 : decode cX3_needRoom 21 = .ok (.invokespecial 56, 3) := by decide +kernel
theorem dX3_needRoom_24 : decode cX3_needRoom 24 = .ok (.athrow, 1) := by decide +kernel
theorem dX3_needRoom_25 : decode cX3_needRoom 25 = .ok (.return_, 1) := by decide +kernel
set_option maxRecDepth 20000 in
theorem ggX3_neededSnapshot_X2_find : GoodIn wsX3_neededSnapshot wsX2_find := goodIn_r _ [7, 8, 9, 10, 5, 11, 12, 13, 14, 15, 16, 17, 18, 19, 20, 21, 22, 30, 31, 32, 33] (by decide +kernel) (by decide +kernel)
set_option maxRecDepth 20000 in
theorem gX3_neededSnapshot_X2_find_n195 : GoodIn wsX3_neededSnapshot (wsX2_find) := ggX3_neededSnapshot_X2_find
theorem dX3_neededSnapshot_0 : decode cX3_neededSnapshot 0 = .ok (.aload_n 0, 1) := by decide +kernel
theorem dX3_neededSnapshot_1 : decode cX3_neededSnapshot 1 = .ok (.getfield 32, 3) := by decide +kernel
theorem dX3_neededSnapshot_4 : decode cX3_neededSnapshot 4 = .ok (.iload_n 1, 1) := by decide +kernel
theorem dX3_neededSnapshot_5 : decode cX3_neededSnapshot 5 = .ok (.invokevirtual 195, 3) := by decide +kernel
theorem dX3_neededSnapshot_8 : decode cX3_neededSnapshot 8 = .ok (.istore_n 2, 1) := by decide +kernel
theorem dX3_neededSnapshot_9 : decode cX3_neededSnapshot 9 = .ok (.iload_n 2, 1) := by decide +kernel
theorem dX3_neededSnapshot_10 : decode cX3_neededSnapshot 10 = .ok (.iconst (-1), 1) := by decide +kernel
theorem dX3_neededSnapshot_11 : decode cX3_neededSnapshot 11 = .ok (.if_icmp .ne 13, 3) := by decide +kernel
theorem dX3_neededSnapshot_14 : decode cX3_neededSnapshot 14 = .ok (.new 126, 3) := by decide +kernel
theorem dX3_neededSnapshot_17 : decode cX3_neededSnapshot 17 = .ok (.dup, 1) := by decide +kernel
theorem dX3_neededSnapshot_18 : decode cX3_neededSnapshot 18 = .ok (.ldc 198, 2) := by decide +kernel
theorem dX3_neededSnapshot_20 : decode cX3_neededSnapshot 20 = .ok (.invokespecial 130, 3) := by decide +kernel
theorem dX3_neededSnapshot_23 : decode cX3_neededSnapshot 23 = .ok (.athrow, 1) := by decide +kernel
theorem dX3_neededSnapshot_24 : decode cX3_neededSnapshot 24 = .ok (.iload_n 2, 1) := by decide +kernel
theorem dX3_neededSnapshot_25 : decode cX3_neededSnapshot 25 = .ok (.ireturn, 1) := by decide +kernel
set_option maxRecDepth 20000 in
theorem ggX3_neededPlace_X1_sizeOf : GoodIn wsX3_neededPlace wsX1_sizeOf := goodIn_r _ [7, 8, 9, 10, 5, 11, 12, 13, 21, 22, 23, 24, 25] (by decide +kernel) (by decide +kernel)
set_option maxRecDepth 20000 in
theorem gX3_neededPlace_X1_sizeOf_n82 : GoodIn wsX3_neededPlace (wsX1_sizeOf) := ggX3_neededPlace_X1_sizeOf
set_option maxRecDepth 20000 in
theorem ggX3_neededPlace_X1_sizeBelow : GoodIn wsX3_neededPlace wsX1_sizeBelow := goodIn_r _ [11, 12, 13, 21, 22, 23, 24, 25] (by decide +kernel) (by decide +kernel)
set_option maxRecDepth 20000 in
theorem gX3_neededPlace_X1_sizeBelow_n202 : GoodIn wsX3_neededPlace (wsX1_sizeBelow) := ggX3_neededPlace_X1_sizeBelow
theorem dX3_neededPlace_0 : decode cX3_neededPlace 0 = .ok (.iload_n 2, 1) := by decide +kernel
theorem dX3_neededPlace_1 : decode cX3_neededPlace 1 = .ok (.ifCond .lt 15, 3) := by decide +kernel
theorem dX3_neededPlace_4 : decode cX3_neededPlace 4 = .ok (.iload_n 2, 1) := by decide +kernel
theorem dX3_neededPlace_5 : decode cX3_neededPlace 5 = .ok (.aload_n 0, 1) := by decide +kernel
theorem dX3_neededPlace_6 : decode cX3_neededPlace 6 = .ok (.getfield 23, 3) := by decide +kernel
theorem dX3_neededPlace_9 : decode cX3_neededPlace 9 = .ok (.iload_n 1, 1) := by decide +kernel
theorem dX3_neededPlace_10 : decode cX3_neededPlace 10 = .ok (.invokevirtual 82, 3) := by decide +kernel
theorem dX3_neededPlace_13 : decode cX3_neededPlace 13 = .ok (.if_icmp .lt 13, 3) := by decide +kernel
theorem dX3_neededPlace_16 : decode cX3_neededPlace 16 = .ok (.new 126, 3) := by decide +kernel
theorem dX3_neededPlace_19 : decode cX3_neededPlace 19 = .ok (.dup, 1) := by decide +kernel
theorem dX3_neededPlace_20 : decode cX3_neededPlace 20 = .ok (.ldc 200, 2) := by decide +kernel
theorem dX3_neededPlace_22 : decode cX3_neededPlace 22 = .ok (.invokespecial 130, 3) := by decide +kernel
theorem dX3_neededPlace_25 : decode cX3_neededPlace 25 = .ok (.athrow, 1) := by decide +kernel
theorem dX3_neededPlace_26 : decode cX3_neededPlace 26 = .ok (.aload_n 0, 1) := by decide +kernel
theorem dX3_neededPlace_27 : decode cX3_neededPlace 27 = .ok (.getfield 23, 3) := by decide +kernel
theorem dX3_neededPlace_30 : decode cX3_neededPlace 30 = .ok (.iload_n 1, 1) := by decide +kernel
theorem dX3_neededPlace_31 : decode cX3_neededPlace 31 = .ok (.i2l, 1) := by decide +kernel
theorem dX3_neededPlace_32 : decode cX3_neededPlace 32 = .ok (.invokevirtual 202, 3) := by decide +kernel
theorem dX3_neededPlace_35 : decode cX3_neededPlace 35 = .ok (.iload_n 2, 1) := by decide +kernel
theorem dX3_neededPlace_36 : decode cX3_neededPlace 36 = .ok (.iadd, 1) := by decide +kernel
theorem dX3_neededPlace_37 : decode cX3_neededPlace 37 = .ok (.ireturn, 1) := by decide +kernel
theorem dX3_held_0 : decode cX3_held 0 = .ok (.fload_n 0, 1) := by decide +kernel
theorem dX3_held_1 : decode cX3_held 1 = .ok (.ldc 189, 2) := by decide +kernel
theorem dX3_held_3 : decode cX3_held 3 = .ok (.fcmp .g, 1) := by decide +kernel
theorem dX3_held_4 : decode cX3_held 4 = .ok (.ifCond .ge 6, 3) := by decide +kernel
theorem dX3_held_7 : decode cX3_held 7 = .ok (.ldc 189, 2) := by decide +kernel
theorem dX3_held_9 : decode cX3_held 9 = .ok (.freturn, 1) := by decide +kernel
theorem dX3_held_10 : decode cX3_held 10 = .ok (.fload_n 0, 1) := by decide +kernel
theorem dX3_held_11 : decode cX3_held 11 = .ok (.ldc 190, 2) := by decide +kernel
theorem dX3_held_13 : decode cX3_held 13 = .ok (.fcmp .l, 1) := by decide +kernel
theorem dX3_held_14 : decode cX3_held 14 = .ok (.ifCond .le 6, 3) := by decide +kernel
theorem dX3_held_17 : decode cX3_held 17 = .ok (.ldc 190, 2) := by decide +kernel
theorem dX3_held_19 : decode cX3_held 19 = .ok (.freturn, 1) := by decide +kernel
theorem dX3_held_20 : decode cX3_held 20 = .ok (.fload_n 0, 1) := by decide +kernel
theorem dX3_held_21 : decode cX3_held 21 = .ok (.fconst 0, 1) := by decide +kernel
theorem dX3_held_22 : decode cX3_held 22 = .ok (.fadd, 1) := by decide +kernel
theorem dX3_held_23 : decode cX3_held 23 = .ok (.freturn, 1) := by decide +kernel
set_option maxRecDepth 20000 in
theorem ggX4_init_X4_keepNow : GoodIn wsX4_init wsX4_keepNow := goodIn_r _ [21, 22, 23, 14, 16, 15, 5, 24, 25, 26, 20, 27, 28, 29, 30, 31, 32, 33, 34, 35, 36, 10, 11, 12, 13, 37, 38, 39, 40, 41, 42, 43, 44, 45, 46, 47, 48, 49, 50, 51, 52, 53, 54] (by decide +kernel) (by decide +kernel)
set_option maxRecDepth 20000 in
theorem gX4_init_X4_keepNow : GoodIn wsX4_init (wsV RX4 45 RX4 yX4_keepNow wsX4_keepNow) := goodIn_app (goodIn_of _ (by decide +kernel)) ggX4_init_X4_keepNow
theorem dX4_init_0 : decode cX4_init 0 = .ok (.aload_n 0, 1) := by decide +kernel
theorem dX4_init_1 : decode cX4_init 1 = .ok (.invokespecial 1, 3) := by decide +kernel
theorem dX4_init_4 : decode cX4_init 4 = .ok (.aload_n 0, 1) := by decide +kernel
theorem dX4_init_5 : decode cX4_init 5 = .ok (.sipush 256, 3) := by decide +kernel
theorem dX4_init_8 : decode cX4_init 8 = .ok (.newarray .float, 2) := by decide +kernel
theorem dX4_init_10 : decode cX4_init 10 = .ok (.putfield 7, 3) := by decide +kernel
theorem dX4_init_13 : decode cX4_init 13 = .ok (.aload_n 0, 1) := by decide +kernel
theorem dX4_init_14 : decode cX4_init 14 = .ok (.bipush 64, 2) := by decide +kernel
theorem dX4_init_16 : decode cX4_init 16 = .ok (.newarray .int, 2) := by decide +kernel
theorem dX4_init_18 : decode cX4_init 18 = .ok (.putfield 13, 3) := by decide +kernel
theorem dX4_init_21 : decode cX4_init 21 = .ok (.aload_n 0, 1) := by decide +kernel
theorem dX4_init_22 : decode cX4_init 22 = .ok (.bipush 64, 2) := by decide +kernel
theorem dX4_init_24 : decode cX4_init 24 = .ok (.newarray .int, 2) := by decide +kernel
theorem dX4_init_26 : decode cX4_init 26 = .ok (.putfield 17, 3) := by decide +kernel
theorem dX4_init_29 : decode cX4_init 29 = .ok (.aload_n 0, 1) := by decide +kernel
theorem dX4_init_30 : decode cX4_init 30 = .ok (.bipush 64, 2) := by decide +kernel
theorem dX4_init_32 : decode cX4_init 32 = .ok (.newarray .float, 2) := by decide +kernel
theorem dX4_init_34 : decode cX4_init 34 = .ok (.putfield 20, 3) := by decide +kernel
theorem dX4_init_37 : decode cX4_init 37 = .ok (.aload_n 0, 1) := by decide +kernel
theorem dX4_init_38 : decode cX4_init 38 = .ok (.sipush 512, 3) := by decide +kernel
theorem dX4_init_41 : decode cX4_init 41 = .ok (.newarray .int, 2) := by decide +kernel
theorem dX4_init_43 : decode cX4_init 43 = .ok (.putfield 23, 3) := by decide +kernel
theorem dX4_init_46 : decode cX4_init 46 = .ok (.aload_n 0, 1) := by decide +kernel
theorem dX4_init_47 : decode cX4_init 47 = .ok (.sipush 512, 3) := by decide +kernel
theorem dX4_init_50 : decode cX4_init 50 = .ok (.newarray .int, 2) := by decide +kernel
theorem dX4_init_52 : decode cX4_init 52 = .ok (.putfield 26, 3) := by decide +kernel
theorem dX4_init_55 : decode cX4_init 55 = .ok (.aload_n 0, 1) := by decide +kernel
theorem dX4_init_56 : decode cX4_init 56 = .ok (.sipush 512, 3) := by decide +kernel
theorem dX4_init_59 : decode cX4_init 59 = .ok (.newarray .int, 2) := by decide +kernel
theorem dX4_init_61 : decode cX4_init 61 = .ok (.putfield 29, 3) := by decide +kernel
theorem dX4_init_64 : decode cX4_init 64 = .ok (.aload_n 0, 1) := by decide +kernel
theorem dX4_init_65 : decode cX4_init 65 = .ok (.sipush 512, 3) := by decide +kernel
theorem dX4_init_68 : decode cX4_init 68 = .ok (.newarray .float, 2) := by decide +kernel
theorem dX4_init_70 : decode cX4_init 70 = .ok (.putfield 32, 3) := by decide +kernel
theorem dX4_init_73 : decode cX4_init 73 = .ok (.aload_n 0, 1) := by decide +kernel
theorem dX4_init_74 : decode cX4_init 74 = .ok (.bipush 16, 2) := by decide +kernel
theorem dX4_init_76 : decode cX4_init 76 = .ok (.newarray .int, 2) := by decide +kernel
theorem dX4_init_78 : decode cX4_init 78 = .ok (.putfield 35, 3) := by decide +kernel
theorem dX4_init_81 : decode cX4_init 81 = .ok (.aload_n 0, 1) := by decide +kernel
theorem dX4_init_82 : decode cX4_init 82 = .ok (.sipush 4096, 3) := by decide +kernel
theorem dX4_init_85 : decode cX4_init 85 = .ok (.newarray .float, 2) := by decide +kernel
theorem dX4_init_87 : decode cX4_init 87 = .ok (.putfield 38, 3) := by decide +kernel
theorem dX4_init_90 : decode cX4_init 90 = .ok (.aload_n 0, 1) := by decide +kernel
theorem dX4_init_91 : decode cX4_init 91 = .ok (.iload_n 1, 1) := by decide +kernel
theorem dX4_init_92 : decode cX4_init 92 = .ok (.iconst 1, 1) := by decide +kernel
theorem dX4_init_93 : decode cX4_init 93 = .ok (.if_icmp .lt 14, 3) := by decide +kernel
theorem dX4_init_96 : decode cX4_init 96 = .ok (.iload_n 1, 1) := by decide +kernel
theorem dX4_init_97 : decode cX4_init 97 = .ok (.sipush 256, 3) := by decide +kernel
theorem dX4_init_100 : decode cX4_init 100 = .ok (.if_icmp .gt 7, 3) := by decide +kernel
theorem dX4_init_103 : decode cX4_init 103 = .ok (.iload_n 1, 1) := by decide +kernel
theorem dX4_init_104 : decode cX4_init 104 = .ok (.goto 5, 3) := by decide +kernel
theorem dX4_init_107 : decode cX4_init 107 = .ok (.bipush 64, 2) := by decide +kernel
theorem dX4_init_109 : decode cX4_init 109 = .ok (.putfield 41, 3) := by decide +kernel
theorem dX4_init_112 : decode cX4_init 112 = .ok (.aload_n 0, 1) := by decide +kernel
theorem dX4_init_113 : decode cX4_init 113 = .ok (.invokevirtual 45, 3) := by decide +kernel
theorem dX4_init_116 : decode cX4_init 116 = .ok (.return_, 1) := by decide +kernel
theorem dX4_thrown_0 : decode cX4_thrown 0 = .ok (.aload_n 0, 1) := by decide +kernel
theorem dX4_thrown_1 : decode cX4_thrown 1 = .ok (.getfield 48, 3) := by decide +kernel
theorem dX4_thrown_4 : decode cX4_thrown 4 = .ok (.ireturn, 1) := by decide +kernel
theorem dX4_goes_0 : decode cX4_goes 0 = .ok (.aload_n 0, 1) := by decide +kernel
theorem dX4_goes_1 : decode cX4_goes 1 = .ok (.iload_n 1, 1) := by decide +kernel
theorem dX4_goes_2 : decode cX4_goes 2 = .ok (.ifCond .ne 7, 3) := by decide +kernel
theorem dX4_goes_5 : decode cX4_goes 5 = .ok (.iconst 1, 1) := by decide +kernel
theorem dX4_goes_6 : decode cX4_goes 6 = .ok (.goto 20, 3) := by decide +kernel
theorem dX4_goes_9 : decode cX4_goes 9 = .ok (.iload_n 2, 1) := by decide +kernel
theorem dX4_goes_10 : decode cX4_goes 10 = .ok (.ifCond .ne 7, 3) := by decide +kernel
theorem dX4_goes_13 : decode cX4_goes 13 = .ok (.iconst 2, 1) := by decide +kernel
theorem dX4_goes_14 : decode cX4_goes 14 = .ok (.goto 12, 3) := by decide +kernel
theorem dX4_goes_17 : decode cX4_goes 17 = .ok (.iload_n 3, 1) := by decide +kernel
theorem dX4_goes_18 : decode cX4_goes 18 = .ok (.ifCond .ne 7, 3) := by decide +kernel
theorem dX4_goes_21 : decode cX4_goes 21 = .ok (.iconst 3, 1) := by decide +kernel
theorem dX4_goes_22 : decode cX4_goes 22 = .ok (.goto 4, 3) := by decide +kernel
theorem dX4_goes_25 : decode cX4_goes 25 = .ok (.iconst 0, 1) := by decide +kernel
theorem dX4_goes_26 : decode cX4_goes 26 = .ok (.putfield 48, 3) := by decide +kernel
theorem dX4_goes_29 : decode cX4_goes 29 = .ok (.aload_n 0, 1) := by decide +kernel
theorem dX4_goes_30 : decode cX4_goes 30 = .ok (.getfield 48, 3) := by decide +kernel
theorem dX4_goes_33 : decode cX4_goes 33 = .ok (.ifCond .ne 7, 3) := by decide +kernel
theorem dX4_goes_36 : decode cX4_goes 36 = .ok (.iconst 1, 1) := by decide +kernel
theorem dX4_goes_37 : decode cX4_goes 37 = .ok (.goto 4, 3) := by decide +kernel
theorem dX4_goes_40 : decode cX4_goes 40 = .ok (.iconst 0, 1) := by decide +kernel
theorem dX4_goes_41 : decode cX4_goes 41 = .ok (.ireturn, 1) := by decide +kernel
theorem dX4_known_0 : decode cX4_known 0 = .ok (.iload_n 1, 1) := by decide +kernel
theorem dX4_known_1 : decode cX4_known 1 = .ok (.ifCond .lt 15, 3) := by decide +kernel
theorem dX4_known_4 : decode cX4_known 4 = .ok (.iload_n 1, 1) := by decide +kernel
theorem dX4_known_5 : decode cX4_known 5 = .ok (.aload_n 0, 1) := by decide +kernel
theorem dX4_known_6 : decode cX4_known 6 = .ok (.getfield 41, 3) := by decide +kernel
theorem dX4_known_9 : decode cX4_known 9 = .ok (.if_icmp .ge 7, 3) := by decide +kernel
theorem dX4_known_12 : decode cX4_known 12 = .ok (.iconst 1, 1) := by decide +kernel
theorem dX4_known_13 : decode cX4_known 13 = .ok (.goto 4, 3) := by decide +kernel
theorem dX4_known_16 : decode cX4_known 16 = .ok (.iconst 0, 1) := by decide +kernel
theorem dX4_known_17 : decode cX4_known 17 = .ok (.ireturn, 1) := by decide +kernel
