theorem dX4_held_0 : decode cX4_held 0 = .ok (.fload_n 0, 1) := by decide +kernel
theorem dX4_held_1 : decode cX4_held 1 = .ok (.ldc 51, 2) := by decide +kernel
theorem dX4_held_3 : decode cX4_held 3 = .ok (.fcmp .g, 1) := by decide +kernel
theorem dX4_held_4 : decode cX4_held 4 = .ok (.ifCond .ge 8, 3) := by decide +kernel
theorem dX4_held_7 : decode cX4_held 7 = .ok (.ldc 51, 2) := by decide +kernel
theorem dX4_held_9 : decode cX4_held 9 = .ok (.goto 18, 3) := by decide +kernel
theorem dX4_held_12 : decode cX4_held 12 = .ok (.fload_n 0, 1) := by decide +kernel
theorem dX4_held_13 : decode cX4_held 13 = .ok (.ldc 52, 2) := by decide +kernel
theorem dX4_held_15 : decode cX4_held 15 = .ok (.fcmp .l, 1) := by decide +kernel
theorem dX4_held_16 : decode cX4_held 16 = .ok (.ifCond .le 8, 3) := by decide +kernel
theorem dX4_held_19 : decode cX4_held 19 = .ok (.ldc 52, 2) := by decide +kernel
theorem dX4_held_21 : decode cX4_held 21 = .ok (.goto 6, 3) := by decide +kernel
theorem dX4_held_24 : decode cX4_held 24 = .ok (.fload_n 0, 1) := by decide +kernel
theorem dX4_held_25 : decode cX4_held 25 = .ok (.fconst 0, 1) := by decide +kernel
theorem dX4_held_26 : decode cX4_held 26 = .ok (.fadd, 1) := by decide +kernel
theorem dX4_held_27 : decode cX4_held 27 = .ok (.freturn, 1) := by decide +kernel
theorem dX4_within_0 : decode cX4_within 0 = .ok (.fload_n 0, 1) := by decide +kernel
theorem dX4_within_1 : decode cX4_within 1 = .ok (.ldc 51, 2) := by decide +kernel
theorem dX4_within_3 : decode cX4_within 3 = .ok (.fcmp .l, 1) := by decide +kernel
theorem dX4_within_4 : decode cX4_within 4 = .ok (.ifCond .lt 14, 3) := by decide +kernel
theorem dX4_within_7 : decode cX4_within 7 = .ok (.fload_n 0, 1) := by decide +kernel
theorem dX4_within_8 : decode cX4_within 8 = .ok (.ldc 52, 2) := by decide +kernel
theorem dX4_within_10 : decode cX4_within 10 = .ok (.fcmp .g, 1) := by decide +kernel
theorem dX4_within_11 : decode cX4_within 11 = .ok (.ifCond .gt 7, 3) := by decide +kernel
theorem dX4_within_14 : decode cX4_within 14 = .ok (.iconst 1, 1) := by decide +kernel
theorem dX4_within_15 : decode cX4_within 15 = .ok (.goto 4, 3) := by decide +kernel
theorem dX4_within_18 : decode cX4_within 18 = .ok (.iconst 0, 1) := by decide +kernel
theorem dX4_within_19 : decode cX4_within 19 = .ok (.ireturn, 1) := by decide +kernel
set_option maxRecDepth 20000 in
theorem ggX4_drift_X4_known : GoodIn wsX4_drift wsX4_known := goodIn_r _ [13, 14, 20, 21, 22, 23, 24, 25, 26, 27, 28, 29, 30, 31, 32, 33, 34, 35, 36, 37] (by decide +kernel) (by decide +kernel)
set_option maxRecDepth 20000 in
theorem gX4_drift_X4_known : GoodIn wsX4_drift (wsV RX4 53 RX4 yX4_known wsX4_known) := goodIn_app (goodIn_of _ (by decide +kernel)) ggX4_drift_X4_known
set_option maxRecDepth 20000 in
theorem ggX4_drift_X4_goes : GoodIn wsX4_drift wsX4_goes := goodIn_r _ [18, 19, 20, 21, 22, 23, 24, 25, 26, 27, 28, 29, 30, 31, 32, 33, 34, 35, 36, 37] (by decide +kernel) (by decide +kernel)
set_option maxRecDepth 20000 in
theorem gX4_drift_X4_goes : GoodIn wsX4_drift (wsV RX4 68 RX4 yX4_goes wsX4_goes) := goodIn_app (goodIn_of _ (by decide +kernel)) ggX4_drift_X4_goes
theorem dX4_drift_0 : decode cX4_drift 0 = .ok (.aload_n 0, 1) := by decide +kernel
theorem dX4_drift_1 : decode cX4_drift 1 = .ok (.aload_n 0, 1) := by decide +kernel
theorem dX4_drift_2 : decode cX4_drift 2 = .ok (.iload_n 1, 1) := by decide +kernel
theorem dX4_drift_3 : decode cX4_drift 3 = .ok (.invokevirtual 53, 3) := by decide +kernel
theorem dX4_drift_6 : decode cX4_drift 6 = .ok (.ifCond .eq 15, 3) := by decide +kernel
theorem dX4_drift_9 : decode cX4_drift 9 = .ok (.aload_n 0, 1) := by decide +kernel
theorem dX4_drift_10 : decode cX4_drift 10 = .ok (.iload_n 2, 1) := by decide +kernel
theorem dX4_drift_11 : decode cX4_drift 11 = .ok (.invokevirtual 53, 3) := by decide +kernel
theorem dX4_drift_14 : decode cX4_drift 14 = .ok (.ifCond .eq 7, 3) := by decide +kernel
theorem dX4_drift_17 : decode cX4_drift 17 = .ok (.iconst 1, 1) := by decide +kernel
theorem dX4_drift_18 : decode cX4_drift 18 = .ok (.goto 4, 3) := by decide +kernel
theorem dX4_drift_21 : decode cX4_drift 21 = .ok (.iconst 0, 1) := by decide +kernel
theorem dX4_drift_22 : decode cX4_drift 22 = .ok (.fload_n 3, 1) := by decide +kernel
theorem dX4_drift_23 : decode cX4_drift 23 = .ok (.ldc 57, 2) := by decide +kernel
theorem dX4_drift_25 : decode cX4_drift 25 = .ok (.fcmp .l, 1) := by decide +kernel
theorem dX4_drift_26 : decode cX4_drift 26 = .ok (.ifCond .lt 14, 3) := by decide +kernel
theorem dX4_drift_29 : decode cX4_drift 29 = .ok (.fload_n 3, 1) := by decide +kernel
theorem dX4_drift_30 : decode cX4_drift 30 = .ok (.ldc 58, 2) := by decide +kernel
theorem dX4_drift_32 : decode cX4_drift 32 = .ok (.fcmp .g, 1) := by decide +kernel
theorem dX4_drift_33 : decode cX4_drift 33 = .ok (.ifCond .gt 7, 3) := by decide +kernel
theorem dX4_drift_36 : decode cX4_drift 36 = .ok (.iconst 1, 1) := by decide +kernel
theorem dX4_drift_37 : decode cX4_drift 37 = .ok (.goto 4, 3) := by decide +kernel
theorem dX4_drift_40 : decode cX4_drift 40 = .ok (.iconst 0, 1) := by decide +kernel
theorem dX4_drift_41 : decode cX4_drift 41 = .ok (.aload_n 0, 1) := by decide +kernel
theorem dX4_drift_42 : decode cX4_drift 42 = .ok (.getfield 59, 3) := by decide +kernel
theorem dX4_drift_45 : decode cX4_drift 45 = .ok (.bipush 64, 2) := by decide +kernel
theorem dX4_drift_47 : decode cX4_drift 47 = .ok (.if_icmp .ge 21, 3) := by decide +kernel
theorem dX4_drift_50 : decode cX4_drift 50 = .ok (.aload_n 0, 1) := by decide +kernel
theorem dX4_drift_51 : decode cX4_drift 51 = .ok (.getfield 62, 3) := by decide +kernel
theorem dX4_drift_54 : decode cX4_drift 54 = .ok (.ifCond .ne 14, 3) := by decide +kernel
theorem dX4_drift_57 : decode cX4_drift 57 = .ok (.aload_n 0, 1) := by decide +kernel
theorem dX4_drift_58 : decode cX4_drift 58 = .ok (.getfield 65, 3) := by decide +kernel
theorem dX4_drift_61 : decode cX4_drift 61 = .ok (.ifCond .ne 7, 3) := by decide +kernel
theorem dX4_drift_64 : decode cX4_drift 64 = .ok (.iconst 1, 1) := by decide +kernel
theorem dX4_drift_65 : decode cX4_drift 65 = .ok (.goto 4, 3) := by decide +kernel
theorem dX4_drift_68 : decode cX4_drift 68 = .ok (.iconst 0, 1) := by decide +kernel
theorem dX4_drift_69 : decode cX4_drift 69 = .ok (.invokevirtual 68, 3) := by decide +kernel
theorem dX4_drift_72 : decode cX4_drift 72 = .ok (.ifCond .ne 5, 3) := by decide +kernel
theorem dX4_drift_75 : decode cX4_drift 75 = .ok (.iconst 0, 1) := by decide +kernel
theorem dX4_drift_76 : decode cX4_drift 76 = .ok (.ireturn, 1) := by decide +kernel
theorem dX4_drift_77 : decode cX4_drift 77 = .ok (.aload_n 0, 1) := by decide +kernel
theorem dX4_drift_78 : decode cX4_drift 78 = .ok (.getfield 13, 3) := by decide +kernel
theorem dX4_drift_81 : decode cX4_drift 81 = .ok (.aload_n 0, 1) := by decide +kernel
theorem dX4_drift_82 : decode cX4_drift 82 = .ok (.getfield 59, 3) := by decide +kernel
theorem dX4_drift_85 : decode cX4_drift 85 = .ok (.iload_n 1, 1) := by decide +kernel
theorem dX4_drift_86 : decode cX4_drift 86 = .ok (.iastore, 1) := by decide +kernel
theorem dX4_drift_87 : decode cX4_drift 87 = .ok (.aload_n 0, 1) := by decide +kernel
theorem dX4_drift_88 : decode cX4_drift 88 = .ok (.getfield 17, 3) := by decide +kernel
theorem dX4_drift_91 : decode cX4_drift 91 = .ok (.aload_n 0, 1) := by decide +kernel
theorem dX4_drift_92 : decode cX4_drift 92 = .ok (.getfield 59, 3) := by decide +kernel
theorem dX4_drift_95 : decode cX4_drift 95 = .ok (.iload_n 2, 1) := by decide +kernel
theorem dX4_drift_96 : decode cX4_drift 96 = .ok (.iastore, 1) := by decide +kernel
theorem dX4_drift_97 : decode cX4_drift 97 = .ok (.aload_n 0, 1) := by decide +kernel
theorem dX4_drift_98 : decode cX4_drift 98 = .ok (.getfield 20, 3) := by decide +kernel
theorem dX4_drift_101 : decode cX4_drift 101 = .ok (.aload_n 0, 1) := by decide +kernel
theorem dX4_drift_102 : decode cX4_drift 102 = .ok (.getfield 59, 3) := by decide +kernel
theorem dX4_drift_105 : decode cX4_drift 105 = .ok (.fload_n 3, 1) := by decide +kernel
theorem dX4_drift_106 : decode cX4_drift 106 = .ok (.fastore, 1) := by decide +kernel
theorem dX4_drift_107 : decode cX4_drift 107 = .ok (.aload_n 0, 1) := by decide +kernel
theorem dX4_drift_108 : decode cX4_drift 108 = .ok (.dup, 1) := by decide +kernel
theorem dX4_drift_109 : decode cX4_drift 109 = .ok (.getfield 59, 3) := by decide +kernel
theorem dX4_drift_112 : decode cX4_drift 112 = .ok (.iconst 1, 1) := by decide +kernel
theorem dX4_drift_113 : decode cX4_drift 113 = .ok (.iadd, 1) := by decide +kernel
theorem dX4_drift_114 : decode cX4_drift 114 = .ok (.putfield 59, 3) := by decide +kernel
theorem dX4_drift_117 : decode cX4_drift 117 = .ok (.aload_n 0, 1) := by decide +kernel
theorem dX4_drift_118 : decode cX4_drift 118 = .ok (.getfield 59, 3) := by decide +kernel
theorem dX4_drift_121 : decode cX4_drift 121 = .ok (.ireturn, 1) := by decide +kernel
set_option maxRecDepth 20000 in
theorem ggX4_every_X4_goes : GoodIn wsX4_every wsX4_goes := goodIn_r _ [6, 7, 8, 9, 10, 11, 12, 13, 14, 15, 16, 17, 18, 19, 20, 21, 22, 23, 24, 25] (by decide +kernel) (by decide +kernel)
set_option maxRecDepth 20000 in
theorem gX4_every_X4_goes : GoodIn wsX4_every (wsV RX4 68 RX4 yX4_goes wsX4_goes) := goodIn_app (goodIn_of _ (by decide +kernel)) ggX4_every_X4_goes
theorem dX4_every_0 : decode cX4_every 0 = .ok (.aload_n 0, 1) := by decide +kernel
theorem dX4_every_1 : decode cX4_every 1 = .ok (.iload_n 1, 1) := by decide +kernel
theorem dX4_every_2 : decode cX4_every 2 = .ok (.ifCond .lt 13, 3) := by decide +kernel
theorem dX4_every_5 : decode cX4_every 5 = .ok (.iload_n 1, 1) := by decide +kernel
theorem dX4_every_6 : decode cX4_every 6 = .ok (.bipush 100, 2) := by decide +kernel
theorem dX4_every_8 : decode cX4_every 8 = .ok (.if_icmp .gt 7, 3) := by decide +kernel
theorem dX4_every_11 : decode cX4_every 11 = .ok (.iconst 1, 1) := by decide +kernel
theorem dX4_every_12 : decode cX4_every 12 = .ok (.goto 4, 3) := by decide +kernel
theorem dX4_every_15 : decode cX4_every 15 = .ok (.iconst 0, 1) := by decide +kernel
theorem dX4_every_16 : decode cX4_every 16 = .ok (.iconst 1, 1) := by decide +kernel
theorem dX4_every_17 : decode cX4_every 17 = .ok (.iconst 1, 1) := by decide +kernel
theorem dX4_every_18 : decode cX4_every 18 = .ok (.invokevirtual 68, 3) := by decide +kernel
theorem dX4_every_21 : decode cX4_every 21 = .ok (.ifCond .ne 5, 3) := by decide +kernel
theorem dX4_every_24 : decode cX4_every 24 = .ok (.iconst 0, 1) := by decide +kernel
theorem dX4_every_25 : decode cX4_every 25 = .ok (.ireturn, 1) := by decide +kernel
theorem dX4_every_26 : decode cX4_every 26 = .ok (.aload_n 0, 1) := by decide +kernel
theorem dX4_every_27 : decode cX4_every 27 = .ok (.getfield 72, 3) := by decide +kernel
theorem dX4_every_30 : decode cX4_every 30 = .ok (.istore_n 2, 1) := by decide +kernel
theorem dX4_every_31 : decode cX4_every 31 = .ok (.aload_n 0, 1) := by decide +kernel
theorem dX4_every_32 : decode cX4_every 32 = .ok (.iload_n 1, 1) := by decide +kernel
theorem dX4_every_33 : decode cX4_every 33 = .ok (.putfield 72, 3) := by decide +kernel
theorem dX4_every_36 : decode cX4_every 36 = .ok (.iload_n 2, 1) := by decide +kernel
theorem dX4_every_37 : decode cX4_every 37 = .ok (.ireturn, 1) := by decide +kernel
theorem dX4_inputsOf_0 : decode cX4_inputsOf 0 = .ok (.iconst 0, 1) := by decide +kernel
theorem dX4_inputsOf_1 : decode cX4_inputsOf 1 = .ok (.istore_n 2, 1) := by decide +kernel
theorem dX4_inputsOf_2 : decode cX4_inputsOf 2 = .ok (.iconst 0, 1) := by decide +kernel
theorem dX4_inputsOf_3 : decode cX4_inputsOf 3 = .ok (.istore_n 3, 1) := by decide +kernel
theorem dX4_inputsOf_4 : decode cX4_inputsOf 4 = .ok (.iload_n 3, 1) := by decide +kernel
theorem dX4_inputsOf_5 : decode cX4_inputsOf 5 = .ok (.aload_n 0, 1) := by decide +kernel
theorem dX4_inputsOf_6 : decode cX4_inputsOf 6 = .ok (.getfield 65, 3) := by decide +kernel
theorem dX4_inputsOf_9 : decode cX4_inputsOf 9 = .ok (.if_icmp .ge 27, 3) := by decide +kernel
theorem dX4_inputsOf_12 : decode cX4_inputsOf 12 = .ok (.aload_n 0, 1) := by decide +kernel
theorem dX4_inputsOf_13 : decode cX4_inputsOf 13 = .ok (.getfield 23, 3) := by decide +kernel
theorem dX4_inputsOf_16 : decode cX4_inputsOf 16 = .ok (.iload_n 3, 1) := by decide +kernel
theorem dX4_inputsOf_17 : decode cX4_inputsOf 17 = .ok (.iaload, 1) := by decide +kernel
theorem dX4_inputsOf_18 : decode cX4_inputsOf 18 = .ok (.iload_n 1, 1) := by decide +kernel
theorem dX4_inputsOf_19 : decode cX4_inputsOf 19 = .ok (.if_icmp .ne 9, 3) := by decide +kernel
theorem dX4_inputsOf_22 : decode cX4_inputsOf 22 = .ok (.iload_n 2, 1) := by decide +kernel
theorem dX4_inputsOf_23 : decode cX4_inputsOf 23 = .ok (.iconst 1, 1) := by decide +kernel
theorem dX4_inputsOf_24 : decode cX4_inputsOf 24 = .ok (.iadd, 1) := by decide +kernel
theorem dX4_inputsOf_25 : decode cX4_inputsOf 25 = .ok (.goto 4, 3) := by decide +kernel
theorem dX4_inputsOf_28 : decode cX4_inputsOf 28 = .ok (.iload_n 2, 1) := by decide +kernel
theorem dX4_inputsOf_29 : decode cX4_inputsOf 29 = .ok (.istore_n 2, 1) := by decide +kernel
theorem dX4_inputsOf_30 : decode cX4_inputsOf 30 = .ok (.iinc 3 1, 3) := by decide +kernel
theorem dX4_inputsOf_33 : decode cX4_inputsOf 33 = .ok (.goto (-29), 3) := by decide +kernel
theorem dX4_inputsOf_36 : decode cX4_inputsOf 36 = .ok (.iload_n 2, 1) := by decide +kernel
theorem dX4_inputsOf_37 : decode cX4_inputsOf 37 = .ok (.ireturn, 1) := by decide +kernel
theorem dX4_put_0 : decode cX4_put 0 = .ok (.aload_n 0, 1) := by decide +kernel
theorem dX4_put_1 : decode cX4_put 1 = .ok (.getfield 23, 3) := by decide +kernel
theorem dX4_put_4 : decode cX4_put 4 = .ok (.aload_n 0, 1) := by decide +kernel
theorem dX4_put_5 : decode cX4_put 5 = .ok (.getfield 65, 3) := by decide +kernel
theorem dX4_put_8 : decode cX4_put 8 = .ok (.iload_n 1, 1) := by decide +kernel
theorem dX4_put_9 : decode cX4_put 9 = .ok (.iastore, 1) := by decide +kernel
theorem dX4_put_10 : decode cX4_put 10 = .ok (.aload_n 0, 1) := by decide +kernel
theorem dX4_put_11 : decode cX4_put 11 = .ok (.getfield 26, 3) := by decide +kernel
theorem dX4_put_14 : decode cX4_put 14 = .ok (.aload_n 0, 1) := by decide +kernel
theorem dX4_put_15 : decode cX4_put 15 = .ok (.getfield 65, 3) := by decide +kernel
theorem dX4_put_18 : decode cX4_put 18 = .ok (.iload_n 2, 1) := by decide +kernel
theorem dX4_put_19 : decode cX4_put 19 = .ok (.iastore, 1) := by decide +kernel
theorem dX4_put_20 : decode cX4_put 20 = .ok (.aload_n 0, 1) := by decide +kernel
theorem dX4_put_21 : decode cX4_put 21 = .ok (.getfield 29, 3) := by decide +kernel
theorem dX4_put_24 : decode cX4_put 24 = .ok (.aload_n 0, 1) := by decide +kernel
theorem dX4_put_25 : decode cX4_put 25 = .ok (.getfield 65, 3) := by decide +kernel
theorem dX4_put_28 : decode cX4_put 28 = .ok (.iload_n 3, 1) := by decide +kernel
theorem dX4_put_29 : decode cX4_put 29 = .ok (.iastore, 1) := by decide +kernel
theorem dX4_put_30 : decode cX4_put 30 = .ok (.aload_n 0, 1) := by decide +kernel
theorem dX4_put_31 : decode cX4_put 31 = .ok (.getfield 32, 3) := by decide +kernel
theorem dX4_put_34 : decode cX4_put 34 = .ok (.aload_n 0, 1) := by decide +kernel
theorem dX4_put_35 : decode cX4_put 35 = .ok (.getfield 65, 3) := by decide +kernel
theorem dX4_put_38 : decode cX4_put 38 = .ok (.fload 4, 2) := by decide +kernel
theorem dX4_put_40 : decode cX4_put 40 = .ok (.fastore, 1) := by decide +kernel
theorem dX4_put_41 : decode cX4_put 41 = .ok (.aload_n 0, 1) := by decide +kernel
theorem dX4_put_42 : decode cX4_put 42 = .ok (.dup, 1) := by decide +kernel
theorem dX4_put_43 : decode cX4_put 43 = .ok (.getfield 65, 3) := by decide +kernel
theorem dX4_put_46 : decode cX4_put 46 = .ok (.iconst 1, 1) := by decide +kernel
theorem dX4_put_47 : decode cX4_put 47 = .ok (.iadd, 1) := by decide +kernel
theorem dX4_put_48 : decode cX4_put 48 = .ok (.putfield 65, 3) := by decide +kernel
theorem dX4_put_51 : decode cX4_put 51 = .ok (.return_, 1) := by decide +kernel
set_option maxRecDepth 20000 in
theorem ggX4_input_X4_known : GoodIn wsX4_input wsX4_known := goodIn_r _ [7, 8, 31, 32, 33, 34, 35, 36, 37, 38, 39, 40, 41, 42, 43, 44, 45, 46, 47, 48] (by decide +kernel) (by decide +kernel)
set_option maxRecDepth 20000 in
theorem gX4_input_X4_known : GoodIn wsX4_input (wsV RX4 53 RX4 yX4_known wsX4_known) := goodIn_app (goodIn_of _ (by decide +kernel)) ggX4_input_X4_known
set_option maxRecDepth 20000 in
theorem ggX4_input_X4_within : GoodIn wsX4_input wsX4_within := goodIn_r _ [11, 12, 13] (by decide +kernel) (by decide +kernel)
set_option maxRecDepth 20000 in
theorem gX4_input_X4_within : GoodIn wsX4_input (va_wsS RX4 75 yX4_within wsX4_within) := goodIn_app (goodIn_of _ (by decide +kernel)) ggX4_input_X4_within
set_option maxRecDepth 20000 in
theorem ggX4_input_X4_goes : GoodIn wsX4_input wsX4_goes := goodIn_r _ [17, 18, 31, 32, 33, 34, 35, 36, 37, 38, 39, 40, 41, 42, 43, 44, 45, 46, 47, 48] (by decide +kernel) (by decide +kernel)
set_option maxRecDepth 20000 in
theorem gX4_input_X4_goes : GoodIn wsX4_input (wsV RX4 68 RX4 yX4_goes wsX4_goes) := goodIn_app (goodIn_of _ (by decide +kernel)) ggX4_input_X4_goes
set_option maxRecDepth 20000 in
theorem ggX4_input_X4_put : GoodIn wsX4_input wsX4_put := goodIn_r _ [22, 23, 1, 24, 25, 26, 31, 32, 33, 34, 35, 36, 37, 38, 39, 40, 41, 42, 43, 44, 45, 46, 47, 48] (by decide +kernel) (by decide +kernel)
set_option maxRecDepth 20000 in
theorem gX4_input_X4_put : GoodIn wsX4_input (wsV RX4 79 RX4 yX4_put wsX4_put) := goodIn_app (goodIn_of _ (by decide +kernel)) ggX4_input_X4_put
set_option maxRecDepth 20000 in
theorem ggX4_input_X4_inputsOf : GoodIn wsX4_input wsX4_inputsOf := goodIn_r _ [30, 1, 23, 31, 32, 33, 34, 35, 36, 37, 38, 39, 40, 41, 42, 43, 44, 45, 46, 47, 48] (by decide +kernel) (by decide +kernel)
set_option maxRecDepth 20000 in
theorem gX4_input_X4_inputsOf : GoodIn wsX4_input (wsV RX4 83 RX4 yX4_inputsOf wsX4_inputsOf) := goodIn_app (goodIn_of _ (by decide +kernel)) ggX4_input_X4_inputsOf
theorem dX4_input_0 : decode cX4_input 0 = .ok (.aload_n 0, 1) := by decide +kernel
theorem dX4_input_1 : decode cX4_input 1 = .ok (.aload_n 0, 1) := by decide +kernel
theorem dX4_input_2 : decode cX4_input 2 = .ok (.iload_n 1, 1) := by decide +kernel
theorem dX4_input_3 : decode cX4_input 3 = .ok (.invokevirtual 53, 3) := by decide +kernel
theorem dX4_input_6 : decode cX4_input 6 = .ok (.iload_n 2, 1) := by decide +kernel
theorem dX4_input_7 : decode cX4_input 7 = .ok (.ifCond .lt 19, 3) := by decide +kernel
theorem dX4_input_10 : decode cX4_input 10 = .ok (.iload_n 2, 1) := by decide +kernel
theorem dX4_input_11 : decode cX4_input 11 = .ok (.iconst 2, 1) := by decide +kernel
theorem dX4_input_12 : decode cX4_input 12 = .ok (.if_icmp .gt 14, 3) := by decide +kernel
theorem dX4_input_15 : decode cX4_input 15 = .ok (.fload_n 3, 1) := by decide +kernel
theorem dX4_input_16 : decode cX4_input 16 = .ok (.invokestatic 75, 3) := by decide +kernel
theorem dX4_input_19 : decode cX4_input 19 = .ok (.ifCond .eq 7, 3) := by decide +kernel
theorem dX4_input_22 : decode cX4_input 22 = .ok (.iconst 1, 1) := by decide +kernel
theorem dX4_input_23 : decode cX4_input 23 = .ok (.goto 4, 3) := by decide +kernel
theorem dX4_input_26 : decode cX4_input 26 = .ok (.iconst 0, 1) := by decide +kernel
theorem dX4_input_27 : decode cX4_input 27 = .ok (.aload_n 0, 1) := by decide +kernel
theorem dX4_input_28 : decode cX4_input 28 = .ok (.getfield 65, 3) := by decide +kernel
theorem dX4_input_31 : decode cX4_input 31 = .ok (.sipush 512, 3) := by decide +kernel
theorem dX4_input_34 : decode cX4_input 34 = .ok (.if_icmp .ge 7, 3) := by decide +kernel
theorem dX4_input_37 : decode cX4_input 37 = .ok (.iconst 1, 1) := by decide +kernel
theorem dX4_input_38 : decode cX4_input 38 = .ok (.goto 4, 3) := by decide +kernel
theorem dX4_input_41 : decode cX4_input 41 = .ok (.iconst 0, 1) := by decide +kernel
theorem dX4_input_42 : decode cX4_input 42 = .ok (.invokevirtual 68, 3) := by decide +kernel
theorem dX4_input_45 : decode cX4_input 45 = .ok (.ifCond .ne 5, 3) := by decide +kernel
theorem dX4_input_48 : decode cX4_input 48 = .ok (.iconst 0, 1) := by decide +kernel
theorem dX4_input_49 : decode cX4_input 49 = .ok (.ireturn, 1) := by decide +kernel
theorem dX4_input_50 : decode cX4_input 50 = .ok (.aload_n 0, 1) := by decide +kernel
theorem dX4_input_51 : decode cX4_input 51 = .ok (.aload_n 0, 1) := by decide +kernel
theorem dX4_input_52 : decode cX4_input 52 = .ok (.getfield 62, 3) := by decide +kernel
theorem dX4_input_55 : decode cX4_input 55 = .ok (.iload_n 1, 1) := by decide +kernel
theorem dX4_input_56 : decode cX4_input 56 = .ok (.iload_n 2, 1) := by decide +kernel
theorem dX4_input_57 : decode cX4_input 57 = .ok (.fload_n 3, 1) := by decide +kernel
theorem dX4_input_58 : decode cX4_input 58 = .ok (.invokevirtual 79, 3) := by decide +kernel
theorem dX4_input_61 : decode cX4_input 61 = .ok (.aload_n 0, 1) := by decide +kernel
theorem dX4_input_62 : decode cX4_input 62 = .ok (.aload_n 0, 1) := by decide +kernel
theorem dX4_input_63 : decode cX4_input 63 = .ok (.getfield 62, 3) := by decide +kernel
theorem dX4_input_66 : decode cX4_input 66 = .ok (.invokevirtual 83, 3) := by decide +kernel
theorem dX4_input_69 : decode cX4_input 69 = .ok (.ireturn, 1) := by decide +kernel
set_option maxRecDepth 20000 in
theorem ggX4_inputs_X4_known : GoodIn wsX4_inputs wsX4_known := goodIn_r _ [8, 1, 31, 32, 33, 34, 35, 36, 37, 38, 39, 40, 41, 42, 43, 44, 45, 46, 47, 48] (by decide +kernel) (by decide +kernel)
set_option maxRecDepth 20000 in
theorem gX4_inputs_X4_known : GoodIn wsX4_inputs (wsV RX4 53 RX4 yX4_known wsX4_known) := goodIn_app (goodIn_of _ (by decide +kernel)) ggX4_inputs_X4_known
set_option maxRecDepth 20000 in
theorem ggX4_inputs_X4_within : GoodIn wsX4_inputs wsX4_within := goodIn_r _ [11, 12, 13] (by decide +kernel) (by decide +kernel)
set_option maxRecDepth 20000 in
theorem gX4_inputs_X4_within : GoodIn wsX4_inputs (va_wsS RX4 75 yX4_within wsX4_within) := goodIn_app (goodIn_of _ (by decide +kernel)) ggX4_inputs_X4_within
set_option maxRecDepth 20000 in
theorem ggX4_inputs_X4_goes : GoodIn wsX4_inputs wsX4_goes := goodIn_r _ [17, 18, 31, 32, 33, 34, 35, 36, 37, 38, 39, 40, 41, 42, 43, 44, 45, 46, 47, 48] (by decide +kernel) (by decide +kernel)
set_option maxRecDepth 20000 in
theorem gX4_inputs_X4_goes : GoodIn wsX4_inputs (wsV RX4 68 RX4 yX4_goes wsX4_goes) := goodIn_app (goodIn_of _ (by decide +kernel)) ggX4_inputs_X4_goes
set_option maxRecDepth 20000 in
theorem ggX4_inputs_X4_put : GoodIn wsX4_inputs wsX4_put := goodIn_r _ [22, 23, 2, 24, 25, 26, 31, 32, 33, 34, 35, 36, 37, 38, 39, 40, 41, 42, 43, 44, 45, 46, 47, 48] (by decide +kernel) (by decide +kernel)
set_option maxRecDepth 20000 in
theorem gX4_inputs_X4_put : GoodIn wsX4_inputs (wsV RX4 79 RX4 yX4_put wsX4_put) := goodIn_app (goodIn_of _ (by decide +kernel)) ggX4_inputs_X4_put
set_option maxRecDepth 20000 in
theorem ggX4_inputs_X4_inputsOf : GoodIn wsX4_inputs wsX4_inputsOf := goodIn_r _ [30, 2, 23, 31, 32, 33, 34, 35, 36, 37, 38, 39, 40, 41, 42, 43, 44, 45, 46, 47, 48] (by decide +kernel) (by decide +kernel)
set_option maxRecDepth 20000 in
theorem gX4_inputs_X4_inputsOf : GoodIn wsX4_inputs (wsV RX4 83 RX4 yX4_inputsOf wsX4_inputsOf) := goodIn_app (goodIn_of _ (by decide +kernel)) ggX4_inputs_X4_inputsOf
theorem dX4_inputs_0 : decode cX4_inputs 0 = .ok (.iload_n 3, 1) := by decide +kernel
theorem dX4_inputs_1 : decode cX4_inputs 1 = .ok (.iconst 1, 1) := by decide +kernel
theorem dX4_inputs_2 : decode cX4_inputs 2 = .ok (.if_icmp .lt 14, 3) := by decide +kernel
theorem dX4_inputs_5 : decode cX4_inputs 5 = .ok (.iload_n 3, 1) := by decide +kernel
theorem dX4_inputs_6 : decode cX4_inputs 6 = .ok (.sipush 256, 3) := by decide +kernel
theorem dX4_inputs_9 : decode cX4_inputs 9 = .ok (.if_icmp .gt 7, 3) := by decide +kernel
theorem dX4_inputs_12 : decode cX4_inputs 12 = .ok (.iconst 1, 1) := by decide +kernel
theorem dX4_inputs_13 : decode cX4_inputs 13 = .ok (.goto 4, 3) := by decide +kernel
theorem dX4_inputs_16 : decode cX4_inputs 16 = .ok (.iconst 0, 1) := by decide +kernel
theorem dX4_inputs_17 : decode cX4_inputs 17 = .ok (.istore 6, 2) := by decide +kernel
theorem dX4_inputs_19 : decode cX4_inputs 19 = .ok (.aload_n 0, 1) := by decide +kernel
theorem dX4_inputs_20 : decode cX4_inputs 20 = .ok (.iload_n 1, 1) := by decide +kernel
theorem dX4_inputs_21 : decode cX4_inputs 21 = .ok (.invokevirtual 53, 3) := by decide +kernel
theorem dX4_inputs_24 : decode cX4_inputs 24 = .ok (.istore 7, 2) := by decide +kernel
theorem dX4_inputs_26 : decode cX4_inputs 26 = .ok (.iconst 1, 1) := by decide +kernel
theorem dX4_inputs_27 : decode cX4_inputs 27 = .ok (.istore 8, 2) := by decide +kernel
theorem dX4_inputs_29 : decode cX4_inputs 29 = .ok (.iload 8, 2) := by decide +kernel
theorem dX4_inputs_31 : decode cX4_inputs 31 = .ok (.iload_n 3, 1) := by decide +kernel
theorem dX4_inputs_32 : decode cX4_inputs 32 = .ok (.if_icmp .ge 55, 3) := by decide +kernel
theorem dX4_inputs_35 : decode cX4_inputs 35 = .ok (.iload 6, 2) := by decide +kernel
theorem dX4_inputs_37 : decode cX4_inputs 37 = .ok (.ifCond .eq 50, 3) := by decide +kernel
theorem dX4_inputs_40 : decode cX4_inputs 40 = .ok (.iload 7, 2) := by decide +kernel
theorem dX4_inputs_42 : decode cX4_inputs 42 = .ok (.ifCond .eq 45, 3) := by decide +kernel
theorem dX4_inputs_45 : decode cX4_inputs 45 = .ok (.iload_n 1, 1) := by decide +kernel
theorem dX4_inputs_46 : decode cX4_inputs 46 = .ok (.i2l, 1) := by decide +kernel
theorem dX4_inputs_47 : decode cX4_inputs 47 = .ok (.iload_n 2, 1) := by decide +kernel
theorem dX4_inputs_48 : decode cX4_inputs 48 = .ok (.i2l, 1) := by decide +kernel
theorem dX4_inputs_49 : decode cX4_inputs 49 = .ok (.iload 8, 2) := by decide +kernel
theorem dX4_inputs_51 : decode cX4_inputs 51 = .ok (.i2l, 1) := by decide +kernel
theorem dX4_inputs_52 : decode cX4_inputs 52 = .ok (.lmul, 1) := by decide +kernel
theorem dX4_inputs_53 : decode cX4_inputs 53 = .ok (.ladd, 1) := by decide +kernel
theorem dX4_inputs_54 : decode cX4_inputs 54 = .ok (.lstore 9, 2) := by decide +kernel
theorem dX4_inputs_56 : decode cX4_inputs 56 = .ok (.lload 9, 2) := by decide +kernel
theorem dX4_inputs_58 : decode cX4_inputs 58 = .ok (.lconst 0, 1) := by decide +kernel
theorem dX4_inputs_59 : decode cX4_inputs 59 = .ok (.lcmp, 1) := by decide +kernel
theorem dX4_inputs_60 : decode cX4_inputs 60 = .ok (.ifCond .lt 18, 3) := by decide +kernel
theorem dX4_inputs_63 : decode cX4_inputs 63 = .ok (.lload 9, 2) := by decide +kernel
theorem dX4_inputs_65 : decode cX4_inputs 65 = .ok (.aload_n 0, 1) := by decide +kernel
theorem dX4_inputs_66 : decode cX4_inputs 66 = .ok (.getfield 41, 3) := by decide +kernel
theorem dX4_inputs_69 : decode cX4_inputs 69 = .ok (.i2l, 1) := by decide +kernel
theorem dX4_inputs_70 : decode cX4_inputs 70 = .ok (.lcmp, 1) := by decide +kernel
theorem dX4_inputs_71 : decode cX4_inputs 71 = .ok (.ifCond .ge 7, 3) := by decide +kernel
theorem dX4_inputs_74 : decode cX4_inputs 74 = .ok (.iconst 1, 1) := by decide +kernel
theorem dX4_inputs_75 : decode cX4_inputs 75 = .ok (.goto 4, 3) := by decide +kernel
theorem dX4_inputs_78 : decode cX4_inputs 78 = .ok (.iconst 0, 1) := by decide +kernel
theorem dX4_inputs_79 : decode cX4_inputs 79 = .ok (.istore 7, 2) := by decide +kernel
theorem dX4_inputs_81 : decode cX4_inputs 81 = .ok (.iinc 8 1, 3) := by decide +kernel
theorem dX4_inputs_84 : decode cX4_inputs 84 = .ok (.goto (-55), 3) := by decide +kernel
theorem dX4_inputs_87 : decode cX4_inputs 87 = .ok (.aload_n 0, 1) := by decide +kernel
theorem dX4_inputs_88 : decode cX4_inputs 88 = .ok (.iload 7, 2) := by decide +kernel
theorem dX4_inputs_90 : decode cX4_inputs 90 = .ok (.iload 6, 2) := by decide +kernel
theorem dX4_inputs_92 : decode cX4_inputs 92 = .ok (.ifCond .eq 26, 3) := by decide +kernel
theorem dX4_inputs_95 : decode cX4_inputs 95 = .ok (.iload 4, 2) := by decide +kernel
theorem dX4_inputs_97 : decode cX4_inputs 97 = .ok (.ifCond .lt 21, 3) := by decide +kernel
theorem dX4_inputs_100 : decode cX4_inputs 100 = .ok (.iload 4, 2) := by decide +kernel
theorem dX4_inputs_102 : decode cX4_inputs 102 = .ok (.iconst 2, 1) := by decide +kernel
theorem dX4_inputs_103 : decode cX4_inputs 103 = .ok (.if_icmp .gt 15, 3) := by decide +kernel
theorem dX4_inputs_106 : decode cX4_inputs 106 = .ok (.fload 5, 2) := by decide +kernel
theorem dX4_inputs_108 : decode cX4_inputs 108 = .ok (.invokestatic 75, 3) := by decide +kernel
theorem dX4_inputs_111 : decode cX4_inputs 111 = .ok (.ifCond .eq 7, 3) := by decide +kernel
theorem dX4_inputs_114 : decode cX4_inputs 114 = .ok (.iconst 1, 1) := by decide +kernel
theorem dX4_inputs_115 : decode cX4_inputs 115 = .ok (.goto 4, 3) := by decide +kernel
theorem dX4_inputs_118 : decode cX4_inputs 118 = .ok (.iconst 0, 1) := by decide +kernel
theorem dX4_inputs_119 : decode cX4_inputs 119 = .ok (.aload_n 0, 1) := by decide +kernel
theorem dX4_inputs_120 : decode cX4_inputs 120 = .ok (.getfield 65, 3) := by decide +kernel
theorem dX4_inputs_123 : decode cX4_inputs 123 = .ok (.iload_n 3, 1) := by decide +kernel
theorem dX4_inputs_124 : decode cX4_inputs 124 = .ok (.iadd, 1) := by decide +kernel
theorem dX4_inputs_125 : decode cX4_inputs 125 = .ok (.sipush 512, 3) := by decide +kernel
theorem dX4_inputs_128 : decode cX4_inputs 128 = .ok (.if_icmp .gt 7, 3) := by decide +kernel
theorem dX4_inputs_131 : decode cX4_inputs 131 = .ok (.iconst 1, 1) := by decide +kernel
theorem dX4_inputs_132 : decode cX4_inputs 132 = .ok (.goto 4, 3) := by decide +kernel
theorem dX4_inputs_135 : decode cX4_inputs 135 = .ok (.iconst 0, 1) := by decide +kernel
theorem dX4_inputs_136 : decode cX4_inputs 136 = .ok (.invokevirtual 68, 3) := by decide +kernel
theorem dX4_inputs_139 : decode cX4_inputs 139 = .ok (.ifCond .ne 5, 3) := by decide +kernel
theorem dX4_inputs_142 : decode cX4_inputs 142 = .ok (.iconst 0, 1) := by decide +kernel
theorem dX4_inputs_143 : decode cX4_inputs 143 = .ok (.ireturn, 1) := by decide +kernel
theorem dX4_inputs_144 : decode cX4_inputs 144 = .ok (.iconst 0, 1) := by decide +kernel
theorem dX4_inputs_145 : decode cX4_inputs 145 = .ok (.istore 8, 2) := by decide +kernel
theorem dX4_inputs_147 : decode cX4_inputs 147 = .ok (.iload 8, 2) := by decide +kernel
theorem dX4_inputs_149 : decode cX4_inputs 149 = .ok (.iload_n 3, 1) := by decide +kernel
theorem dX4_inputs_150 : decode cX4_inputs 150 = .ok (.if_icmp .ge 27, 3) := by decide +kernel
theorem dX4_inputs_153 : decode cX4_inputs 153 = .ok (.aload_n 0, 1) := by decide +kernel
theorem dX4_inputs_154 : decode cX4_inputs 154 = .ok (.aload_n 0, 1) := by decide +kernel
theorem dX4_inputs_155 : decode cX4_inputs 155 = .ok (.getfield 62, 3) := by decide +kernel
theorem dX4_inputs_158 : decode cX4_inputs 158 = .ok (.iload_n 1, 1) := by decide +kernel
theorem dX4_inputs_159 : decode cX4_inputs 159 = .ok (.iload_n 2, 1) := by decide +kernel
theorem dX4_inputs_160 : decode cX4_inputs 160 = .ok (.iload 8, 2) := by decide +kernel
theorem dX4_inputs_162 : decode cX4_inputs 162 = .ok (.imul, 1) := by decide +kernel
theorem dX4_inputs_163 : decode cX4_inputs 163 = .ok (.iadd, 1) := by decide +kernel
theorem dX4_inputs_164 : decode cX4_inputs 164 = .ok (.iload 4, 2) := by decide +kernel
theorem dX4_inputs_166 : decode cX4_inputs 166 = .ok (.fload 5, 2) := by decide +kernel
theorem dX4_inputs_168 : decode cX4_inputs 168 = .ok (.invokevirtual 79, 3) := by decide +kernel
theorem dX4_inputs_171 : decode cX4_inputs 171 = .ok (.iinc 8 1, 3) := by decide +kernel
theorem dX4_inputs_174 : decode cX4_inputs 174 = .ok (.goto (-27), 3) := by decide +kernel
theorem dX4_inputs_177 : decode cX4_inputs 177 = .ok (.aload_n 0, 1) := by decide +kernel
theorem dX4_inputs_178 : decode cX4_inputs 178 = .ok (.aload_n 0, 1) := by decide +kernel
theorem dX4_inputs_179 : decode cX4_inputs 179 = .ok (.getfield 62, 3) := by decide +kernel
theorem dX4_inputs_182 : decode cX4_inputs 182 = .ok (.invokevirtual 83, 3) := by decide +kernel
theorem dX4_inputs_185 : decode cX4_inputs 185 = .ok (.ireturn, 1) := by decide +kernel
theorem dX4_drop_0 : decode cX4_drop 0 = .ok (.iconst 0, 1) := by decide +kernel
theorem dX4_drop_1 : decode cX4_drop 1 = .ok (.istore_n 3, 1) := by decide +kernel
theorem dX4_drop_2 : decode cX4_drop 2 = .ok (.iconst 0, 1) := by decide +kernel
theorem dX4_drop_3 : decode cX4_drop 3 = .ok (.istore 4, 2) := by decide +kernel
theorem dX4_drop_5 : decode cX4_drop 5 = .ok (.iload 4, 2) := by decide +kernel
theorem dX4_drop_7 : decode cX4_drop 7 = .ok (.aload_n 0, 1) := by decide +kernel
theorem dX4_drop_8 : decode cX4_drop 8 = .ok (.getfield 65, 3) := by decide +kernel
theorem dX4_drop_11 : decode cX4_drop 11 = .ok (.if_icmp .ge 98, 3) := by decide +kernel
theorem dX4_drop_14 : decode cX4_drop 14 = .ok (.aload_n 0, 1) := by decide +kernel
theorem dX4_drop_15 : decode cX4_drop 15 = .ok (.getfield 23, 3) := by decide +kernel
theorem dX4_drop_18 : decode cX4_drop 18 = .ok (.iload 4, 2) := by decide +kernel
theorem dX4_drop_20 : decode cX4_drop 20 = .ok (.iaload, 1) := by decide +kernel
theorem dX4_drop_21 : decode cX4_drop 21 = .ok (.iload_n 1, 1) := by decide +kernel
theorem dX4_drop_22 : decode cX4_drop 22 = .ok (.if_icmp .lt 18, 3) := by decide +kernel
theorem dX4_drop_25 : decode cX4_drop 25 = .ok (.aload_n 0, 1) := by decide +kernel
theorem dX4_drop_26 : decode cX4_drop 26 = .ok (.getfield 23, 3) := by decide +kernel
theorem dX4_drop_29 : decode cX4_drop 29 = .ok (.iload 4, 2) := by decide +kernel
theorem dX4_drop_31 : decode cX4_drop 31 = .ok (.iaload, 1) := by decide +kernel
theorem dX4_drop_32 : decode cX4_drop 32 = .ok (.iload_n 2, 1) := by decide +kernel
theorem dX4_drop_33 : decode cX4_drop 33 = .ok (.if_icmp .gt 7, 3) := by decide +kernel
theorem dX4_drop_36 : decode cX4_drop 36 = .ok (.iconst 1, 1) := by decide +kernel
theorem dX4_drop_37 : decode cX4_drop 37 = .ok (.goto 4, 3) := by decide +kernel
theorem dX4_drop_40 : decode cX4_drop 40 = .ok (.iconst 0, 1) := by decide +kernel
theorem dX4_drop_41 : decode cX4_drop 41 = .ok (.istore 5, 2) := by decide +kernel
theorem dX4_drop_43 : decode cX4_drop 43 = .ok (.iload 5, 2) := by decide +kernel
theorem dX4_drop_45 : decode cX4_drop 45 = .ok (.ifCond .ne 58, 3) := by decide +kernel
theorem dX4_drop_48 : decode cX4_drop 48 = .ok (.aload_n 0, 1) := by decide +kernel
theorem dX4_drop_49 : decode cX4_drop 49 = .ok (.getfield 23, 3) := by decide +kernel
theorem dX4_drop_52 : decode cX4_drop 52 = .ok (.iload_n 3, 1) := by decide +kernel
theorem dX4_drop_53 : decode cX4_drop 53 = .ok (.aload_n 0, 1) := by decide +kernel
theorem dX4_drop_54 : decode cX4_drop 54 = .ok (.getfield 23, 3) := by decide +kernel
theorem dX4_drop_57 : decode cX4_drop 57 = .ok (.iload 4, 2) := by decide +kernel
theorem dX4_drop_59 : decode cX4_drop 59 = .ok (.iaload, 1) := by decide +kernel
theorem dX4_drop_60 : decode cX4_drop 60 = .ok (.iastore, 1) := by decide +kernel
theorem dX4_drop_61 : decode cX4_drop 61 = .ok (.aload_n 0, 1) := by decide +kernel
theorem dX4_drop_62 : decode cX4_drop 62 = .ok (.getfield 26, 3) := by decide +kernel
theorem dX4_drop_65 : decode cX4_drop 65 = .ok (.iload_n 3, 1) := by decide +kernel
theorem dX4_drop_66 : decode cX4_drop 66 = .ok (.aload_n 0, 1) := by decide +kernel
theorem dX4_drop_67 : decode cX4_drop 67 = .ok (.getfield 26, 3) := by decide +kernel
theorem dX4_drop_70 : decode cX4_drop 70 = .ok (.iload 4, 2) := by decide +kernel
theorem dX4_drop_72 : decode cX4_drop 72 = .ok (.iaload, 1) := by decide +kernel
theorem dX4_drop_73 : decode cX4_drop 73 = .ok (.iastore, 1) := by decide +kernel
theorem dX4_drop_74 : decode cX4_drop 74 = .ok (.aload_n 0, 1) := by decide +kernel
theorem dX4_drop_75 : decode cX4_drop 75 = .ok (.getfield 29, 3) := by decide +kernel
theorem dX4_drop_78 : decode cX4_drop 78 = .ok (.iload_n 3, 1) := by decide +kernel
theorem dX4_drop_79 : decode cX4_drop 79 = .ok (.aload_n 0, 1) := by decide +kernel
theorem dX4_drop_80 : decode cX4_drop 80 = .ok (.getfield 29, 3) := by decide +kernel
theorem dX4_drop_83 : decode cX4_drop 83 = .ok (.iload 4, 2) := by decide +kernel
theorem dX4_drop_85 : decode cX4_drop 85 = .ok (.iaload, 1) := by decide +kernel
theorem dX4_drop_86 : decode cX4_drop 86 = .ok (.iastore, 1) := by decide +kernel
theorem dX4_drop_87 : decode cX4_drop 87 = .ok (.aload_n 0, 1) := by decide +kernel
theorem dX4_drop_88 : decode cX4_drop 88 = .ok (.getfield 32, 3) := by decide +kernel
theorem dX4_drop_91 : decode cX4_drop 91 = .ok (.iload_n 3, 1) := by decide +kernel
theorem dX4_drop_92 : decode cX4_drop 92 = .ok (.aload_n 0, 1) := by decide +kernel
theorem dX4_drop_93 : decode cX4_drop 93 = .ok (.getfield 32, 3) := by decide +kernel
theorem dX4_drop_96 : decode cX4_drop 96 = .ok (.iload 4, 2) := by decide +kernel
theorem dX4_drop_98 : decode cX4_drop 98 = .ok (.faload, 1) := by decide +kernel
theorem dX4_drop_99 : decode cX4_drop 99 = .ok (.fastore, 1) := by decide +kernel
theorem dX4_drop_100 : decode cX4_drop 100 = .ok (.iinc 3 1, 3) := by decide +kernel
theorem dX4_drop_103 : decode cX4_drop 103 = .ok (.iinc 4 1, 3) := by decide +kernel
theorem dX4_drop_106 : decode cX4_drop 106 = .ok (.goto (-101), 3) := by decide +kernel
theorem dX4_drop_109 : decode cX4_drop 109 = .ok (.aload_n 0, 1) := by decide +kernel
theorem dX4_drop_110 : decode cX4_drop 110 = .ok (.getfield 65, 3) := by decide +kernel
theorem dX4_drop_113 : decode cX4_drop 113 = .ok (.iload_n 3, 1) := by decide +kernel
theorem dX4_drop_114 : decode cX4_drop 114 = .ok (.isub, 1) := by decide +kernel
theorem dX4_drop_115 : decode cX4_drop 115 = .ok (.istore 4, 2) := by decide +kernel
theorem dX4_drop_117 : decode cX4_drop 117 = .ok (.aload_n 0, 1) := by decide +kernel
theorem dX4_drop_118 : decode cX4_drop 118 = .ok (.iload_n 3, 1) := by decide +kernel
theorem dX4_drop_119 : decode cX4_drop 119 = .ok (.putfield 65, 3) := by decide +kernel
theorem dX4_drop_122 : decode cX4_drop 122 = .ok (.iload 4, 2) := by decide +kernel
theorem dX4_drop_124 : decode cX4_drop 124 = .ok (.ireturn, 1) := by decide +kernel
set_option maxRecDepth 20000 in
theorem ggX4_act_X4_held : GoodIn wsX4_act wsX4_held := goodIn_r _ [8, 9, 10] (by decide +kernel) (by decide +kernel)
set_option maxRecDepth 20000 in
theorem gX4_act_X4_held : GoodIn wsX4_act (va_wsS RX4 87 yX4_held wsX4_held) := goodIn_app (goodIn_of _ (by decide +kernel)) ggX4_act_X4_held
theorem dX4_act_0 : decode cX4_act 0 = .ok (.aload_n 0, 1) := by decide +kernel
theorem dX4_act_1 : decode cX4_act 1 = .ok (.getfield 26, 3) := by decide +kernel
theorem dX4_act_4 : decode cX4_act 4 = .ok (.iload_n 1, 1) := by decide +kernel
theorem dX4_act_5 : decode cX4_act 5 = .ok (.iaload, 1) := by decide +kernel
theorem dX4_act_6 : decode cX4_act 6 = .ok (.istore_n 2, 1) := by decide +kernel
theorem dX4_act_7 : decode cX4_act 7 = .ok (.aload_n 0, 1) := by decide +kernel
theorem dX4_act_8 : decode cX4_act 8 = .ok (.getfield 7, 3) := by decide +kernel
theorem dX4_act_11 : decode cX4_act 11 = .ok (.iload_n 2, 1) := by decide +kernel
theorem dX4_act_12 : decode cX4_act 12 = .ok (.aload_n 0, 1) := by decide +kernel
theorem dX4_act_13 : decode cX4_act 13 = .ok (.getfield 29, 3) := by decide +kernel
theorem dX4_act_16 : decode cX4_act 16 = .ok (.iload_n 1, 1) := by decide +kernel
theorem dX4_act_17 : decode cX4_act 17 = .ok (.iaload, 1) := by decide +kernel
theorem dX4_act_18 : decode cX4_act 18 = .ok (.ifCond .ne 12, 3) := by decide +kernel
theorem dX4_act_21 : decode cX4_act 21 = .ok (.aload_n 0, 1) := by decide +kernel
theorem dX4_act_22 : decode cX4_act 22 = .ok (.getfield 32, 3) := by decide +kernel
theorem dX4_act_25 : decode cX4_act 25 = .ok (.iload_n 1, 1) := by decide +kernel
theorem dX4_act_26 : decode cX4_act 26 = .ok (.faload, 1) := by decide +kernel
theorem dX4_act_27 : decode cX4_act 27 = .ok (.goto 42, 3) := by decide +kernel
theorem dX4_act_30 : decode cX4_act 30 = .ok (.aload_n 0, 1) := by decide +kernel
theorem dX4_act_31 : decode cX4_act 31 = .ok (.getfield 29, 3) := by decide +kernel
theorem dX4_act_34 : decode cX4_act 34 = .ok (.iload_n 1, 1) := by decide +kernel
theorem dX4_act_35 : decode cX4_act 35 = .ok (.iaload, 1) := by decide +kernel
theorem dX4_act_36 : decode cX4_act 36 = .ok (.iconst 1, 1) := by decide +kernel
theorem dX4_act_37 : decode cX4_act 37 = .ok (.if_icmp .ne 19, 3) := by decide +kernel
theorem dX4_act_40 : decode cX4_act 40 = .ok (.aload_n 0, 1) := by decide +kernel
theorem dX4_act_41 : decode cX4_act 41 = .ok (.getfield 7, 3) := by decide +kernel
theorem dX4_act_44 : decode cX4_act 44 = .ok (.iload_n 2, 1) := by decide +kernel
theorem dX4_act_45 : decode cX4_act 45 = .ok (.faload, 1) := by decide +kernel
theorem dX4_act_46 : decode cX4_act 46 = .ok (.aload_n 0, 1) := by decide +kernel
theorem dX4_act_47 : decode cX4_act 47 = .ok (.getfield 32, 3) := by decide +kernel
theorem dX4_act_50 : decode cX4_act 50 = .ok (.iload_n 1, 1) := by decide +kernel
theorem dX4_act_51 : decode cX4_act 51 = .ok (.faload, 1) := by decide +kernel
theorem dX4_act_52 : decode cX4_act 52 = .ok (.fadd, 1) := by decide +kernel
theorem dX4_act_53 : decode cX4_act 53 = .ok (.goto 16, 3) := by decide +kernel
theorem dX4_act_56 : decode cX4_act 56 = .ok (.aload_n 0, 1) := by decide +kernel
theorem dX4_act_57 : decode cX4_act 57 = .ok (.getfield 7, 3) := by decide +kernel
theorem dX4_act_60 : decode cX4_act 60 = .ok (.iload_n 2, 1) := by decide +kernel
theorem dX4_act_61 : decode cX4_act 61 = .ok (.faload, 1) := by decide +kernel
theorem dX4_act_62 : decode cX4_act 62 = .ok (.aload_n 0, 1) := by decide +kernel
theorem dX4_act_63 : decode cX4_act 63 = .ok (.getfield 32, 3) := by decide +kernel
theorem dX4_act_66 : decode cX4_act 66 = .ok (.iload_n 1, 1) := by decide +kernel
theorem dX4_act_67 : decode cX4_act 67 = .ok (.faload, 1) := by decide +kernel
theorem dX4_act_68 : decode cX4_act 68 = .ok (.fmul, 1) := by decide +kernel
theorem dX4_act_69 : decode cX4_act 69 = .ok (.invokestatic 87, 3) := by decide +kernel
theorem dX4_act_72 : decode cX4_act 72 = .ok (.fastore, 1) := by decide +kernel
theorem dX4_act_73 : decode cX4_act 73 = .ok (.return_, 1) := by decide +kernel
set_option maxRecDepth 20000 in
theorem ggX4_once_X4_act : GoodIn wsX4_once wsX4_act := goodIn_r _ [15, 16, 5, 17, 18, 19, 20, 14, 21, 22, 23, 44, 45, 46, 47, 48, 49, 50, 51, 52, 53, 54, 55, 56, 57, 58, 59, 60, 61] (by decide +kernel) (by decide +kernel)
set_option maxRecDepth 20000 in
theorem gX4_once_X4_act : GoodIn wsX4_once (wsV RX4 91 RX4 yX4_act wsX4_act) := goodIn_app (goodIn_of _ (by decide +kernel)) ggX4_once_X4_act
set_option maxRecDepth 20000 in
theorem ggX4_once_X4_held : GoodIn wsX4_once wsX4_held := goodIn_r _ [21, 22, 23] (by decide +kernel) (by decide +kernel)
set_option maxRecDepth 20000 in
theorem gX4_once_X4_held : GoodIn wsX4_once (va_wsS RX4 87 yX4_held wsX4_held) := goodIn_app (goodIn_of _ (by decide +kernel)) ggX4_once_X4_held
set_option maxRecDepth 20000 in
theorem ggX4_once_X4_keepNow : GoodIn wsX4_once wsX4_keepNow := goodIn_r _ [27, 3, 28, 29, 30, 31, 5, 32, 33, 34, 14, 35, 36, 37, 38, 39, 40, 41, 42, 43, 1, 2, 16, 17, 18, 44, 45, 46, 47, 48, 49, 50, 51, 52, 53, 54, 55, 56, 57, 58, 59, 60, 61] (by decide +kernel) (by decide +kernel)
set_option maxRecDepth 20000 in
theorem gX4_once_X4_keepNow : GoodIn wsX4_once (wsV RX4 45 RX4 yX4_keepNow wsX4_keepNow) := goodIn_app (goodIn_of _ (by decide +kernel)) ggX4_once_X4_keepNow
theorem dX4_once_0 : decode cX4_once 0 = .ok (.iconst 0, 1) := by decide +kernel
theorem dX4_once_1 : decode cX4_once 1 = .ok (.istore_n 1, 1) := by decide +kernel
theorem dX4_once_2 : decode cX4_once 2 = .ok (.iload_n 1, 1) := by decide +kernel
theorem dX4_once_3 : decode cX4_once 3 = .ok (.aload_n 0, 1) := by decide +kernel
theorem dX4_once_4 : decode cX4_once 4 = .ok (.getfield 65, 3) := by decide +kernel
theorem dX4_once_7 : decode cX4_once 7 = .ok (.if_icmp .ge 27, 3) := by decide +kernel
theorem dX4_once_10 : decode cX4_once 10 = .ok (.aload_n 0, 1) := by decide +kernel
theorem dX4_once_11 : decode cX4_once 11 = .ok (.getfield 23, 3) := by decide +kernel
theorem dX4_once_14 : decode cX4_once 14 = .ok (.iload_n 1, 1) := by decide +kernel
theorem dX4_once_15 : decode cX4_once 15 = .ok (.iaload, 1) := by decide +kernel
theorem dX4_once_16 : decode cX4_once 16 = .ok (.aload_n 0, 1) := by decide +kernel
theorem dX4_once_17 : decode cX4_once 17 = .ok (.getfield 62, 3) := by decide +kernel
theorem dX4_once_20 : decode cX4_once 20 = .ok (.if_icmp .ne 8, 3) := by decide +kernel
theorem dX4_once_23 : decode cX4_once 23 = .ok (.aload_n 0, 1) := by decide +kernel
theorem dX4_once_24 : decode cX4_once 24 = .ok (.iload_n 1, 1) := by decide +kernel
theorem dX4_once_25 : decode cX4_once 25 = .ok (.invokevirtual 91, 3) := by decide +kernel
theorem dX4_once_28 : decode cX4_once 28 = .ok (.iinc 1 1, 3) := by decide +kernel
theorem dX4_once_31 : decode cX4_once 31 = .ok (.goto (-29), 3) := by decide +kernel
theorem dX4_once_34 : decode cX4_once 34 = .ok (.iconst 0, 1) := by decide +kernel
theorem dX4_once_35 : decode cX4_once 35 = .ok (.istore_n 1, 1) := by decide +kernel
theorem dX4_once_36 : decode cX4_once 36 = .ok (.iload_n 1, 1) := by decide +kernel
theorem dX4_once_37 : decode cX4_once 37 = .ok (.aload_n 0, 1) := by decide +kernel
theorem dX4_once_38 : decode cX4_once 38 = .ok (.getfield 59, 3) := by decide +kernel
theorem dX4_once_41 : decode cX4_once 41 = .ok (.if_icmp .ge 53, 3) := by decide +kernel
theorem dX4_once_44 : decode cX4_once 44 = .ok (.aload_n 0, 1) := by decide +kernel
theorem dX4_once_45 : decode cX4_once 45 = .ok (.getfield 7, 3) := by decide +kernel
theorem dX4_once_48 : decode cX4_once 48 = .ok (.aload_n 0, 1) := by decide +kernel
theorem dX4_once_49 : decode cX4_once 49 = .ok (.getfield 17, 3) := by decide +kernel
theorem dX4_once_52 : decode cX4_once 52 = .ok (.iload_n 1, 1) := by decide +kernel
theorem dX4_once_53 : decode cX4_once 53 = .ok (.iaload, 1) := by decide +kernel
theorem dX4_once_54 : decode cX4_once 54 = .ok (.aload_n 0, 1) := by decide +kernel
theorem dX4_once_55 : decode cX4_once 55 = .ok (.getfield 7, 3) := by decide +kernel
theorem dX4_once_58 : decode cX4_once 58 = .ok (.aload_n 0, 1) := by decide +kernel
theorem dX4_once_59 : decode cX4_once 59 = .ok (.getfield 17, 3) := by decide +kernel
theorem dX4_once_62 : decode cX4_once 62 = .ok (.iload_n 1, 1) := by decide +kernel
theorem dX4_once_63 : decode cX4_once 63 = .ok (.iaload, 1) := by decide +kernel
theorem dX4_once_64 : decode cX4_once 64 = .ok (.faload, 1) := by decide +kernel
theorem dX4_once_65 : decode cX4_once 65 = .ok (.aload_n 0, 1) := by decide +kernel
theorem dX4_once_66 : decode cX4_once 66 = .ok (.getfield 7, 3) := by decide +kernel
theorem dX4_once_69 : decode cX4_once 69 = .ok (.aload_n 0, 1) := by decide +kernel
theorem dX4_once_70 : decode cX4_once 70 = .ok (.getfield 13, 3) := by decide +kernel
theorem dX4_once_73 : decode cX4_once 73 = .ok (.iload_n 1, 1) := by decide +kernel
theorem dX4_once_74 : decode cX4_once 74 = .ok (.iaload, 1) := by decide +kernel
theorem dX4_once_75 : decode cX4_once 75 = .ok (.faload, 1) := by decide +kernel
theorem dX4_once_76 : decode cX4_once 76 = .ok (.aload_n 0, 1) := by decide +kernel
theorem dX4_once_77 : decode cX4_once 77 = .ok (.getfield 20, 3) := by decide +kernel
theorem dX4_once_80 : decode cX4_once 80 = .ok (.iload_n 1, 1) := by decide +kernel
theorem dX4_once_81 : decode cX4_once 81 = .ok (.faload, 1) := by decide +kernel
theorem dX4_once_82 : decode cX4_once 82 = .ok (.fmul, 1) := by decide +kernel
theorem dX4_once_83 : decode cX4_once 83 = .ok (.fadd, 1) := by decide +kernel
theorem dX4_once_84 : decode cX4_once 84 = .ok (.invokestatic 87, 3) := by decide +kernel
theorem dX4_once_87 : decode cX4_once 87 = .ok (.fastore, 1) := by decide +kernel
theorem dX4_once_88 : decode cX4_once 88 = .ok (.iinc 1 1, 3) := by decide +kernel
theorem dX4_once_91 : decode cX4_once 91 = .ok (.goto (-55), 3) := by decide +kernel
theorem dX4_once_94 : decode cX4_once 94 = .ok (.aload_n 0, 1) := by decide +kernel
theorem dX4_once_95 : decode cX4_once 95 = .ok (.dup, 1) := by decide +kernel
theorem dX4_once_96 : decode cX4_once 96 = .ok (.getfield 62, 3) := by decide +kernel
theorem dX4_once_99 : decode cX4_once 99 = .ok (.iconst 1, 1) := by decide +kernel
theorem dX4_once_100 : decode cX4_once 100 = .ok (.iadd, 1) := by decide +kernel
theorem dX4_once_101 : decode cX4_once 101 = .ok (.putfield 62, 3) := by decide +kernel
theorem dX4_once_104 : decode cX4_once 104 = .ok (.aload_n 0, 1) := by decide +kernel
theorem dX4_once_105 : decode cX4_once 105 = .ok (.dup, 1) := by decide +kernel
theorem dX4_once_106 : decode cX4_once 106 = .ok (.getfield 95, 3) := by decide +kernel
theorem dX4_once_109 : decode cX4_once 109 = .ok (.iconst 1, 1) := by decide +kernel
theorem dX4_once_110 : decode cX4_once 110 = .ok (.iadd, 1) := by decide +kernel
theorem dX4_once_111 : decode cX4_once 111 = .ok (.putfield 95, 3) := by decide +kernel
theorem dX4_once_114 : decode cX4_once 114 = .ok (.aload_n 0, 1) := by decide +kernel
theorem dX4_once_115 : decode cX4_once 115 = .ok (.getfield 72, 3) := by decide +kernel
theorem dX4_once_118 : decode cX4_once 118 = .ok (.ifCond .le 19, 3) := by decide +kernel
theorem dX4_once_121 : decode cX4_once 121 = .ok (.aload_n 0, 1) := by decide +kernel
theorem dX4_once_122 : decode cX4_once 122 = .ok (.getfield 62, 3) := by decide +kernel
theorem dX4_once_125 : decode cX4_once 125 = .ok (.aload_n 0, 1) := by decide +kernel
theorem dX4_once_126 : decode cX4_once 126 = .ok (.getfield 72, 3) := by decide +kernel
theorem dX4_once_129 : decode cX4_once 129 = .ok (.irem, 1) := by decide +kernel
theorem dX4_once_130 : decode cX4_once 130 = .ok (.ifCond .ne 7, 3) := by decide +kernel
theorem dX4_once_133 : decode cX4_once 133 = .ok (.aload_n 0, 1) := by decide +kernel
theorem dX4_once_134 : decode cX4_once 134 = .ok (.invokevirtual 45, 3) := by decide +kernel
theorem dX4_once_137 : decode cX4_once 137 = .ok (.return_, 1) := by decide +kernel
set_option maxRecDepth 20000 in
theorem ggX4_step_X4_goes : GoodIn wsX4_step wsX4_goes := goodIn_r _ [6, 7, 53, 54, 55, 56, 57, 58, 59, 60, 61, 62, 63, 64, 65, 66, 67, 68, 69, 70] (by decide +kernel) (by decide +kernel)
set_option maxRecDepth 20000 in
theorem gX4_step_X4_goes : GoodIn wsX4_step (wsV RX4 68 RX4 yX4_goes wsX4_goes) := goodIn_app (goodIn_of _ (by decide +kernel)) ggX4_step_X4_goes
set_option maxRecDepth 20000 in
theorem ggX4_step_X4_once : GoodIn wsX4_step wsX4_once := goodIn_r _ [11, 12, 13, 1, 14, 15, 16, 17, 18, 19, 20, 21, 22, 23, 5, 24, 25, 26, 27, 28, 29, 30, 31, 32, 33, 34, 35, 36, 37, 38, 39, 40, 41, 42, 43, 44, 45, 46, 47, 48, 49, 50, 51, 52, 53, 54, 55, 56, 57, 58, 59, 60, 61, 62, 63, 64, 65, 66, 67, 68, 69, 70] (by decide +kernel) (by decide +kernel)
set_option maxRecDepth 20000 in
theorem gX4_step_X4_once : GoodIn wsX4_step (wsV RX4 98 RX4 yX4_once wsX4_once) := goodIn_app (goodIn_of _ (by decide +kernel)) ggX4_step_X4_once
theorem dX4_step_0 : decode cX4_step 0 = .ok (.aload_n 0, 1) := by decide +kernel
theorem dX4_step_1 : decode cX4_step 1 = .ok (.iload_n 1, 1) := by decide +kernel
theorem dX4_step_2 : decode cX4_step 2 = .ok (.iconst 1, 1) := by decide +kernel
theorem dX4_step_3 : decode cX4_step 3 = .ok (.if_icmp .lt 13, 3) := by decide +kernel
theorem dX4_step_6 : decode cX4_step 6 = .ok (.iload_n 1, 1) := by decide +kernel
theorem dX4_step_7 : decode cX4_step 7 = .ok (.bipush 64, 2) := by decide +kernel
theorem dX4_step_9 : decode cX4_step 9 = .ok (.if_icmp .gt 7, 3) := by decide +kernel
theorem dX4_step_12 : decode cX4_step 12 = .ok (.iconst 1, 1) := by decide +kernel
theorem dX4_step_13 : decode cX4_step 13 = .ok (.goto 4, 3) := by decide +kernel
theorem dX4_step_16 : decode cX4_step 16 = .ok (.iconst 0, 1) := by decide +kernel
theorem dX4_step_17 : decode cX4_step 17 = .ok (.iconst 1, 1) := by decide +kernel
theorem dX4_step_18 : decode cX4_step 18 = .ok (.iconst 1, 1) := by decide +kernel
theorem dX4_step_19 : decode cX4_step 19 = .ok (.invokevirtual 68, 3) := by decide +kernel
theorem dX4_step_22 : decode cX4_step 22 = .ok (.ifCond .ne 5, 3) := by decide +kernel
theorem dX4_step_25 : decode cX4_step 25 = .ok (.iconst 0, 1) := by decide +kernel
theorem dX4_step_26 : decode cX4_step 26 = .ok (.ireturn, 1) := by decide +kernel
theorem dX4_step_27 : decode cX4_step 27 = .ok (.iconst 0, 1) := by decide +kernel
theorem dX4_step_28 : decode cX4_step 28 = .ok (.istore_n 2, 1) := by decide +kernel
theorem dX4_step_29 : decode cX4_step 29 = .ok (.iload_n 2, 1) := by decide +kernel
theorem dX4_step_30 : decode cX4_step 30 = .ok (.iload_n 1, 1) := by decide +kernel
theorem dX4_step_31 : decode cX4_step 31 = .ok (.if_icmp .ge 13, 3) := by decide +kernel
theorem dX4_step_34 : decode cX4_step 34 = .ok (.aload_n 0, 1) := by decide +kernel
theorem dX4_step_35 : decode cX4_step 35 = .ok (.invokevirtual 98, 3) := by decide +kernel
theorem dX4_step_38 : decode cX4_step 38 = .ok (.iinc 2 1, 3) := by decide +kernel
theorem dX4_step_41 : decode cX4_step 41 = .ok (.goto (-12), 3) := by decide +kernel
theorem dX4_step_44 : decode cX4_step 44 = .ok (.aload_n 0, 1) := by decide +kernel
theorem dX4_step_45 : decode cX4_step 45 = .ok (.getfield 62, 3) := by decide +kernel
theorem dX4_step_48 : decode cX4_step 48 = .ok (.ireturn, 1) := by decide +kernel
theorem dX4_placeOf_0 : decode cX4_placeOf 0 = .ok (.iconst 0, 1) := by decide +kernel
theorem dX4_placeOf_1 : decode cX4_placeOf 1 = .ok (.istore_n 2, 1) := by decide +kernel
theorem dX4_placeOf_2 : decode cX4_placeOf 2 = .ok (.iload_n 2, 1) := by decide +kernel
theorem dX4_placeOf_3 : decode cX4_placeOf 3 = .ok (.aload_n 0, 1) := by decide +kernel
theorem dX4_placeOf_4 : decode cX4_placeOf 4 = .ok (.getfield 101, 3) := by decide +kernel
theorem dX4_placeOf_7 : decode cX4_placeOf 7 = .ok (.if_icmp .ge 21, 3) := by decide +kernel
theorem dX4_placeOf_10 : decode cX4_placeOf 10 = .ok (.aload_n 0, 1) := by decide +kernel
theorem dX4_placeOf_11 : decode cX4_placeOf 11 = .ok (.getfield 35, 3) := by decide +kernel
theorem dX4_placeOf_14 : decode cX4_placeOf 14 = .ok (.iload_n 2, 1) := by decide +kernel
theorem dX4_placeOf_15 : decode cX4_placeOf 15 = .ok (.iaload, 1) := by decide +kernel
theorem dX4_placeOf_16 : decode cX4_placeOf 16 = .ok (.iload_n 1, 1) := by decide +kernel
theorem dX4_placeOf_17 : decode cX4_placeOf 17 = .ok (.if_icmp .ne 5, 3) := by decide +kernel
theorem dX4_placeOf_20 : decode cX4_placeOf 20 = .ok (.iload_n 2, 1) := by decide +kernel
theorem dX4_placeOf_21 : decode cX4_placeOf 21 = .ok (.ireturn, 1) := by decide +kernel
theorem dX4_placeOf_22 : decode cX4_placeOf 22 = .ok (.iinc 2 1, 3) := by decide +kernel
theorem dX4_placeOf_25 : decode cX4_placeOf 25 = .ok (.goto (-23), 3) := by decide +kernel
theorem dX4_placeOf_28 : decode cX4_placeOf 28 = .ok (.iconst (-1), 1) := by decide +kernel
theorem dX4_placeOf_29 : decode cX4_placeOf 29 = .ok (.ireturn, 1) := by decide +kernel
theorem dX4_moveDown_0 : decode cX4_moveDown 0 = .ok (.iconst 0, 1) := by decide +kernel
theorem dX4_moveDown_1 : decode cX4_moveDown 1 = .ok (.istore_n 1, 1) := by decide +kernel
theorem dX4_moveDown_2 : decode cX4_moveDown 2 = .ok (.iload_n 1, 1) := by decide +kernel
theorem dX4_moveDown_3 : decode cX4_moveDown 3 = .ok (.iconst 1, 1) := by decide +kernel
theorem dX4_moveDown_4 : decode cX4_moveDown 4 = .ok (.iadd, 1) := by decide +kernel
theorem dX4_moveDown_5 : decode cX4_moveDown 5 = .ok (.aload_n 0, 1) := by decide +kernel
theorem dX4_moveDown_6 : decode cX4_moveDown 6 = .ok (.getfield 101, 3) := by decide +kernel
theorem dX4_moveDown_9 : decode cX4_moveDown 9 = .ok (.if_icmp .ge 67, 3) := by decide +kernel
theorem dX4_moveDown_12 : decode cX4_moveDown 12 = .ok (.aload_n 0, 1) := by decide +kernel
theorem dX4_moveDown_13 : decode cX4_moveDown 13 = .ok (.getfield 35, 3) := by decide +kernel
theorem dX4_moveDown_16 : decode cX4_moveDown 16 = .ok (.iload_n 1, 1) := by decide +kernel
theorem dX4_moveDown_17 : decode cX4_moveDown 17 = .ok (.aload_n 0, 1) := by decide +kernel
theorem dX4_moveDown_18 : decode cX4_moveDown 18 = .ok (.getfield 35, 3) := by decide +kernel
theorem dX4_moveDown_21 : decode cX4_moveDown 21 = .ok (.iload_n 1, 1) := by decide +kernel
theorem dX4_moveDown_22 : decode cX4_moveDown 22 = .ok (.iconst 1, 1) := by decide +kernel
theorem dX4_moveDown_23 : decode cX4_moveDown 23 = .ok (.iadd, 1) := by decide +kernel
theorem dX4_moveDown_24 : decode cX4_moveDown 24 = .ok (.iaload, 1) := by decide +kernel
theorem dX4_moveDown_25 : decode cX4_moveDown 25 = .ok (.iastore, 1) := by decide +kernel
theorem dX4_moveDown_26 : decode cX4_moveDown 26 = .ok (.iconst 0, 1) := by decide +kernel
theorem dX4_moveDown_27 : decode cX4_moveDown 27 = .ok (.istore_n 2, 1) := by decide +kernel
theorem dX4_moveDown_28 : decode cX4_moveDown 28 = .ok (.iload_n 2, 1) := by decide +kernel
theorem dX4_moveDown_29 : decode cX4_moveDown 29 = .ok (.aload_n 0, 1) := by decide +kernel
theorem dX4_moveDown_30 : decode cX4_moveDown 30 = .ok (.getfield 41, 3) := by decide +kernel
theorem dX4_moveDown_33 : decode cX4_moveDown 33 = .ok (.if_icmp .ge 37, 3) := by decide +kernel
theorem dX4_moveDown_36 : decode cX4_moveDown 36 = .ok (.aload_n 0, 1) := by decide +kernel
theorem dX4_moveDown_37 : decode cX4_moveDown 37 = .ok (.getfield 38, 3) := by decide +kernel
theorem dX4_moveDown_40 : decode cX4_moveDown 40 = .ok (.sipush 256, 3) := by decide +kernel
theorem dX4_moveDown_43 : decode cX4_moveDown 43 = .ok (.iload_n 1, 1) := by decide +kernel
theorem dX4_moveDown_44 : decode cX4_moveDown 44 = .ok (.imul, 1) := by decide +kernel
theorem dX4_moveDown_45 : decode cX4_moveDown 45 = .ok (.iload_n 2, 1) := by decide +kernel
theorem dX4_moveDown_46 : decode cX4_moveDown 46 = .ok (.iadd, 1) := by decide +kernel
theorem dX4_moveDown_47 : decode cX4_moveDown 47 = .ok (.aload_n 0, 1) := by decide +kernel
theorem dX4_moveDown_48 : decode cX4_moveDown 48 = .ok (.getfield 38, 3) := by decide +kernel
theorem dX4_moveDown_51 : decode cX4_moveDown 51 = .ok (.sipush 256, 3) := by decide +kernel
theorem dX4_moveDown_54 : decode cX4_moveDown 54 = .ok (.iload_n 1, 1) := by decide +kernel
theorem dX4_moveDown_55 : decode cX4_moveDown 55 = .ok (.imul, 1) := by decide +kernel
theorem dX4_moveDown_56 : decode cX4_moveDown 56 = .ok (.sipush 256, 3) := by decide +kernel
theorem dX4_moveDown_59 : decode cX4_moveDown 59 = .ok (.iadd, 1) := by decide +kernel
theorem dX4_moveDown_60 : decode cX4_moveDown 60 = .ok (.iload_n 2, 1) := by decide +kernel
theorem dX4_moveDown_61 : decode cX4_moveDown 61 = .ok (.iadd, 1) := by decide +kernel
theorem dX4_moveDown_62 : decode cX4_moveDown 62 = .ok (.faload, 1) := by decide +kernel
theorem dX4_moveDown_63 : decode cX4_moveDown 63 = .ok (.fastore, 1) := by decide +kernel
theorem dX4_moveDown_64 : decode cX4_moveDown 64 = .ok (.iinc 2 1, 3) := by decide +kernel
theorem dX4_moveDown_67 : decode cX4_moveDown 67 = .ok (.goto (-39), 3) := by decide +kernel
theorem dX4_moveDown_70 : decode cX4_moveDown 70 = .ok (.iinc 1 1, 3) := by decide +kernel
theorem dX4_moveDown_73 : decode cX4_moveDown 73 = .ok (.goto (-71), 3) := by decide +kernel
theorem dX4_moveDown_76 : decode cX4_moveDown 76 = .ok (.aload_n 0, 1) := by decide +kernel
theorem dX4_moveDown_77 : decode cX4_moveDown 77 = .ok (.dup, 1) := by decide +kernel
theorem dX4_moveDown_78 : decode cX4_moveDown 78 = .ok (.getfield 101, 3) := by decide +kernel
theorem dX4_moveDown_81 : decode cX4_moveDown 81 = .ok (.iconst 1, 1) := by decide +kernel
theorem dX4_moveDown_82 : decode cX4_moveDown 82 = .ok (.isub, 1) := by decide +kernel
theorem dX4_moveDown_83 : decode cX4_moveDown 83 = .ok (.putfield 101, 3) := by decide +kernel
theorem dX4_moveDown_86 : decode cX4_moveDown 86 = .ok (.return_, 1) := by decide +kernel
