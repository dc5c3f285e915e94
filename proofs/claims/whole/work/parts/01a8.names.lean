set_option maxRecDepth 20000 in
theorem ggX4_keepNow_X4_placeOf : GoodIn wsX4_keepNow wsX4_placeOf := goodIn_r _ [11, 2, 3, 25, 26, 27, 28, 29, 30, 31, 32, 33, 34, 35, 36, 37, 38, 39, 40, 41, 42] (by decide +kernel) (by decide +kernel)
set_option maxRecDepth 20000 in
theorem gX4_keepNow_X4_placeOf : GoodIn wsX4_keepNow (wsV RX4 104 RX4 yX4_placeOf wsX4_placeOf) := goodIn_app (goodIn_of _ (by decide +kernel)) ggX4_keepNow_X4_placeOf
set_option maxRecDepth 20000 in
theorem ggX4_keepNow_X4_moveDown : GoodIn wsX4_keepNow wsX4_moveDown := goodIn_r _ [15, 2, 3, 4, 5, 25, 26, 27, 28, 29, 30, 31, 32, 33, 34, 35, 36, 37, 38, 39, 40, 41, 42] (by decide +kernel) (by decide +kernel)
set_option maxRecDepth 20000 in
theorem gX4_keepNow_X4_moveDown : GoodIn wsX4_keepNow (wsV RX4 107 RX4 yX4_moveDown wsX4_moveDown) := goodIn_app (goodIn_of _ (by decide +kernel)) ggX4_keepNow_X4_moveDown
set_option maxRecDepth 20000 in
theorem ggX4_keepNow_X4_drop : GoodIn wsX4_keepNow wsX4_drop := goodIn_r _ [19, 20, 21, 22, 23, 24, 25, 26, 27, 28, 29, 30, 31, 32, 33, 34, 35, 36, 37, 38, 39, 40, 41, 42] (by decide +kernel) (by decide +kernel)
set_option maxRecDepth 20000 in
theorem gX4_keepNow_X4_drop : GoodIn wsX4_keepNow (wsV RX4 110 RX4 yX4_drop wsX4_drop) := goodIn_app (goodIn_of _ (by decide +kernel)) ggX4_keepNow_X4_drop
theorem dX4_keepNow_0 : decode cX4_keepNow 0 = .ok (.aload_n 0, 1) := by decide +kernel
theorem dX4_keepNow_1 : decode cX4_keepNow 1 = .ok (.aload_n 0, 1) := by decide +kernel
theorem dX4_keepNow_2 : decode cX4_keepNow 2 = .ok (.getfield 62, 3) := by decide +kernel
theorem dX4_keepNow_5 : decode cX4_keepNow 5 = .ok (.invokevirtual 104, 3) := by decide +kernel
theorem dX4_keepNow_8 : decode cX4_keepNow 8 = .ok (.istore_n 1, 1) := by decide +kernel
theorem dX4_keepNow_9 : decode cX4_keepNow 9 = .ok (.iload_n 1, 1) := by decide +kernel
theorem dX4_keepNow_10 : decode cX4_keepNow 10 = .ok (.ifCond .ge 45, 3) := by decide +kernel
theorem dX4_keepNow_13 : decode cX4_keepNow 13 = .ok (.aload_n 0, 1) := by decide +kernel
theorem dX4_keepNow_14 : decode cX4_keepNow 14 = .ok (.getfield 101, 3) := by decide +kernel
theorem dX4_keepNow_17 : decode cX4_keepNow 17 = .ok (.bipush 16, 2) := by decide +kernel
theorem dX4_keepNow_19 : decode cX4_keepNow 19 = .ok (.if_icmp .ne 21, 3) := by decide +kernel
theorem dX4_keepNow_22 : decode cX4_keepNow 22 = .ok (.aload_n 0, 1) := by decide +kernel
theorem dX4_keepNow_23 : decode cX4_keepNow 23 = .ok (.invokevirtual 107, 3) := by decide +kernel
theorem dX4_keepNow_26 : decode cX4_keepNow 26 = .ok (.aload_n 0, 1) := by decide +kernel
theorem dX4_keepNow_27 : decode cX4_keepNow 27 = .ok (.iconst 0, 1) := by decide +kernel
theorem dX4_keepNow_28 : decode cX4_keepNow 28 = .ok (.aload_n 0, 1) := by decide +kernel
theorem dX4_keepNow_29 : decode cX4_keepNow 29 = .ok (.getfield 35, 3) := by decide +kernel
theorem dX4_keepNow_32 : decode cX4_keepNow 32 = .ok (.iconst 0, 1) := by decide +kernel
theorem dX4_keepNow_33 : decode cX4_keepNow 33 = .ok (.iaload, 1) := by decide +kernel
theorem dX4_keepNow_34 : decode cX4_keepNow 34 = .ok (.iconst 1, 1) := by decide +kernel
theorem dX4_keepNow_35 : decode cX4_keepNow 35 = .ok (.isub, 1) := by decide +kernel
theorem dX4_keepNow_36 : decode cX4_keepNow 36 = .ok (.invokevirtual 110, 3) := by decide +kernel
theorem dX4_keepNow_39 : decode cX4_keepNow 39 = .ok (.istore_n 2, 1) := by decide +kernel
theorem dX4_keepNow_40 : decode cX4_keepNow 40 = .ok (.aload_n 0, 1) := by decide +kernel
theorem dX4_keepNow_41 : decode cX4_keepNow 41 = .ok (.getfield 101, 3) := by decide +kernel
theorem dX4_keepNow_44 : decode cX4_keepNow 44 = .ok (.istore_n 1, 1) := by decide +kernel
theorem dX4_keepNow_45 : decode cX4_keepNow 45 = .ok (.aload_n 0, 1) := by decide +kernel
theorem dX4_keepNow_46 : decode cX4_keepNow 46 = .ok (.dup, 1) := by decide +kernel
theorem dX4_keepNow_47 : decode cX4_keepNow 47 = .ok (.getfield 101, 3) := by decide +kernel
theorem dX4_keepNow_50 : decode cX4_keepNow 50 = .ok (.iconst 1, 1) := by decide +kernel
theorem dX4_keepNow_51 : decode cX4_keepNow 51 = .ok (.iadd, 1) := by decide +kernel
theorem dX4_keepNow_52 : decode cX4_keepNow 52 = .ok (.putfield 101, 3) := by decide +kernel
theorem dX4_keepNow_55 : decode cX4_keepNow 55 = .ok (.aload_n 0, 1) := by decide +kernel
theorem dX4_keepNow_56 : decode cX4_keepNow 56 = .ok (.getfield 35, 3) := by decide +kernel
theorem dX4_keepNow_59 : decode cX4_keepNow 59 = .ok (.iload_n 1, 1) := by decide +kernel
theorem dX4_keepNow_60 : decode cX4_keepNow 60 = .ok (.aload_n 0, 1) := by decide +kernel
theorem dX4_keepNow_61 : decode cX4_keepNow 61 = .ok (.getfield 62, 3) := by decide +kernel
theorem dX4_keepNow_64 : decode cX4_keepNow 64 = .ok (.iastore, 1) := by decide +kernel
theorem dX4_keepNow_65 : decode cX4_keepNow 65 = .ok (.iconst 0, 1) := by decide +kernel
theorem dX4_keepNow_66 : decode cX4_keepNow 66 = .ok (.istore_n 2, 1) := by decide +kernel
theorem dX4_keepNow_67 : decode cX4_keepNow 67 = .ok (.iload_n 2, 1) := by decide +kernel
theorem dX4_keepNow_68 : decode cX4_keepNow 68 = .ok (.aload_n 0, 1) := by decide +kernel
theorem dX4_keepNow_69 : decode cX4_keepNow 69 = .ok (.getfield 41, 3) := by decide +kernel
theorem dX4_keepNow_72 : decode cX4_keepNow 72 = .ok (.if_icmp .ge 27, 3) := by decide +kernel
theorem dX4_keepNow_75 : decode cX4_keepNow 75 = .ok (.aload_n 0, 1) := by decide +kernel
theorem dX4_keepNow_76 : decode cX4_keepNow 76 = .ok (.getfield 38, 3) := by decide +kernel
theorem dX4_keepNow_79 : decode cX4_keepNow 79 = .ok (.sipush 256, 3) := by decide +kernel
theorem dX4_keepNow_82 : decode cX4_keepNow 82 = .ok (.iload_n 1, 1) := by decide +kernel
theorem dX4_keepNow_83 : decode cX4_keepNow 83 = .ok (.imul, 1) := by decide +kernel
theorem dX4_keepNow_84 : decode cX4_keepNow 84 = .ok (.iload_n 2, 1) := by decide +kernel
theorem dX4_keepNow_85 : decode cX4_keepNow 85 = .ok (.iadd, 1) := by decide +kernel
theorem dX4_keepNow_86 : decode cX4_keepNow 86 = .ok (.aload_n 0, 1) := by decide +kernel
theorem dX4_keepNow_87 : decode cX4_keepNow 87 = .ok (.getfield 7, 3) := by decide +kernel
theorem dX4_keepNow_90 : decode cX4_keepNow 90 = .ok (.iload_n 2, 1) := by decide +kernel
theorem dX4_keepNow_91 : decode cX4_keepNow 91 = .ok (.faload, 1) := by decide +kernel
theorem dX4_keepNow_92 : decode cX4_keepNow 92 = .ok (.fastore, 1) := by decide +kernel
theorem dX4_keepNow_93 : decode cX4_keepNow 93 = .ok (.iinc 2 1, 3) := by decide +kernel
theorem dX4_keepNow_96 : decode cX4_keepNow 96 = .ok (.goto (-29), 3) := by decide +kernel
theorem dX4_keepNow_99 : decode cX4_keepNow 99 = .ok (.return_, 1) := by decide +kernel
set_option maxRecDepth 20000 in
theorem ggX4_keep_X4_keepNow : GoodIn wsX4_keep wsX4_keepNow := goodIn_r _ [7, 8, 2, 9, 10, 11, 12, 13, 14, 15, 6, 16, 17, 18, 19, 20, 21, 22, 23, 24, 25, 26, 27, 28, 29, 30, 31, 32, 33, 34, 35, 36, 37, 38, 39, 40, 41, 42, 43, 44, 45, 46, 47] (by decide +kernel) (by decide +kernel)
set_option maxRecDepth 20000 in
theorem gX4_keep_X4_keepNow : GoodIn wsX4_keep (wsV RX4 45 RX4 yX4_keepNow wsX4_keepNow) := goodIn_app (goodIn_of _ (by decide +kernel)) ggX4_keep_X4_keepNow
theorem dX4_keep_0 : decode cX4_keep 0 = .ok (.aload_n 0, 1) := by decide +kernel
theorem dX4_keep_1 : decode cX4_keep 1 = .ok (.iconst 0, 1) := by decide +kernel
theorem dX4_keep_2 : decode cX4_keep 2 = .ok (.putfield 48, 3) := by decide +kernel
theorem dX4_keep_5 : decode cX4_keep 5 = .ok (.aload_n 0, 1) := by decide +kernel
theorem dX4_keep_6 : decode cX4_keep 6 = .ok (.invokevirtual 45, 3) := by decide +kernel
theorem dX4_keep_9 : decode cX4_keep 9 = .ok (.aload_n 0, 1) := by decide +kernel
theorem dX4_keep_10 : decode cX4_keep 10 = .ok (.getfield 101, 3) := by decide +kernel
theorem dX4_keep_13 : decode cX4_keep 13 = .ok (.ireturn, 1) := by decide +kernel
theorem dX4_goBack_0 : decode cX4_goBack 0 = .ok (.aload_n 0, 1) := by decide +kernel
theorem dX4_goBack_1 : decode cX4_goBack 1 = .ok (.getfield 101, 3) := by decide +kernel
theorem dX4_goBack_4 : decode cX4_goBack 4 = .ok (.iload_n 1, 1) := by decide +kernel
theorem dX4_goBack_5 : decode cX4_goBack 5 = .ok (.isub, 1) := by decide +kernel
theorem dX4_goBack_6 : decode cX4_goBack 6 = .ok (.iconst 1, 1) := by decide +kernel
theorem dX4_goBack_7 : decode cX4_goBack 7 = .ok (.isub, 1) := by decide +kernel
theorem dX4_goBack_8 : decode cX4_goBack 8 = .ok (.istore_n 2, 1) := by decide +kernel
theorem dX4_goBack_9 : decode cX4_goBack 9 = .ok (.aload_n 0, 1) := by decide +kernel
theorem dX4_goBack_10 : decode cX4_goBack 10 = .ok (.iload_n 1, 1) := by decide +kernel
theorem dX4_goBack_11 : decode cX4_goBack 11 = .ok (.iconst 1, 1) := by decide +kernel
theorem dX4_goBack_12 : decode cX4_goBack 12 = .ok (.iadd, 1) := by decide +kernel
theorem dX4_goBack_13 : decode cX4_goBack 13 = .ok (.putfield 101, 3) := by decide +kernel
theorem dX4_goBack_16 : decode cX4_goBack 16 = .ok (.aload_n 0, 1) := by decide +kernel
theorem dX4_goBack_17 : decode cX4_goBack 17 = .ok (.aload_n 0, 1) := by decide +kernel
theorem dX4_goBack_18 : decode cX4_goBack 18 = .ok (.getfield 35, 3) := by decide +kernel
theorem dX4_goBack_21 : decode cX4_goBack 21 = .ok (.iload_n 1, 1) := by decide +kernel
theorem dX4_goBack_22 : decode cX4_goBack 22 = .ok (.iaload, 1) := by decide +kernel
theorem dX4_goBack_23 : decode cX4_goBack 23 = .ok (.putfield 62, 3) := by decide +kernel
theorem dX4_goBack_26 : decode cX4_goBack 26 = .ok (.iconst 0, 1) := by decide +kernel
theorem dX4_goBack_27 : decode cX4_goBack 27 = .ok (.istore_n 3, 1) := by decide +kernel
theorem dX4_goBack_28 : decode cX4_goBack 28 = .ok (.iload_n 3, 1) := by decide +kernel
theorem dX4_goBack_29 : decode cX4_goBack 29 = .ok (.aload_n 0, 1) := by decide +kernel
theorem dX4_goBack_30 : decode cX4_goBack 30 = .ok (.getfield 41, 3) := by decide +kernel
theorem dX4_goBack_33 : decode cX4_goBack 33 = .ok (.if_icmp .ge 27, 3) := by decide +kernel
theorem dX4_goBack_36 : decode cX4_goBack 36 = .ok (.aload_n 0, 1) := by decide +kernel
theorem dX4_goBack_37 : decode cX4_goBack 37 = .ok (.getfield 7, 3) := by decide +kernel
theorem dX4_goBack_40 : decode cX4_goBack 40 = .ok (.iload_n 3, 1) := by decide +kernel
theorem dX4_goBack_41 : decode cX4_goBack 41 = .ok (.aload_n 0, 1) := by decide +kernel
theorem dX4_goBack_42 : decode cX4_goBack 42 = .ok (.getfield 38, 3) := by decide +kernel
theorem dX4_goBack_45 : decode cX4_goBack 45 = .ok (.sipush 256, 3) := by decide +kernel
theorem dX4_goBack_48 : decode cX4_goBack 48 = .ok (.iload_n 1, 1) := by decide +kernel
theorem dX4_goBack_49 : decode cX4_goBack 49 = .ok (.imul, 1) := by decide +kernel
theorem dX4_goBack_50 : decode cX4_goBack 50 = .ok (.iload_n 3, 1) := by decide +kernel
theorem dX4_goBack_51 : decode cX4_goBack 51 = .ok (.iadd, 1) := by decide +kernel
theorem dX4_goBack_52 : decode cX4_goBack 52 = .ok (.faload, 1) := by decide +kernel
theorem dX4_goBack_53 : decode cX4_goBack 53 = .ok (.fastore, 1) := by decide +kernel
theorem dX4_goBack_54 : decode cX4_goBack 54 = .ok (.iinc 3 1, 3) := by decide +kernel
theorem dX4_goBack_57 : decode cX4_goBack 57 = .ok (.goto (-29), 3) := by decide +kernel
theorem dX4_goBack_60 : decode cX4_goBack 60 = .ok (.iload_n 2, 1) := by decide +kernel
theorem dX4_goBack_61 : decode cX4_goBack 61 = .ok (.ireturn, 1) := by decide +kernel
set_option maxRecDepth 20000 in
theorem ggX4_back_X4_placeOf : GoodIn wsX4_back wsX4_placeOf := goodIn_r _ [5, 6, 7, 21, 22, 23, 24, 25, 26, 27, 28, 29, 30, 31, 32, 33, 34, 35, 36, 37, 38] (by decide +kernel) (by decide +kernel)
set_option maxRecDepth 20000 in
theorem gX4_back_X4_placeOf : GoodIn wsX4_back (wsV RX4 104 RX4 yX4_placeOf wsX4_placeOf) := goodIn_app (goodIn_of _ (by decide +kernel)) ggX4_back_X4_placeOf
set_option maxRecDepth 20000 in
theorem ggX4_back_X4_goes : GoodIn wsX4_back wsX4_goes := goodIn_r _ [11, 12, 21, 22, 23, 24, 25, 26, 27, 28, 29, 30, 31, 32, 33, 34, 35, 36, 37, 38] (by decide +kernel) (by decide +kernel)
set_option maxRecDepth 20000 in
theorem gX4_back_X4_goes : GoodIn wsX4_back (wsV RX4 68 RX4 yX4_goes wsX4_goes) := goodIn_app (goodIn_of _ (by decide +kernel)) ggX4_back_X4_goes
set_option maxRecDepth 20000 in
theorem ggX4_back_X4_goBack : GoodIn wsX4_back wsX4_goBack := goodIn_r _ [16, 6, 7, 17, 18, 19, 20, 21, 22, 23, 24, 25, 26, 27, 28, 29, 30, 31, 32, 33, 34, 35, 36, 37, 38] (by decide +kernel) (by decide +kernel)
set_option maxRecDepth 20000 in
theorem gX4_back_X4_goBack : GoodIn wsX4_back (wsV RX4 114 RX4 yX4_goBack wsX4_goBack) := goodIn_app (goodIn_of _ (by decide +kernel)) ggX4_back_X4_goBack
theorem dX4_back_0 : decode cX4_back 0 = .ok (.aload_n 0, 1) := by decide +kernel
theorem dX4_back_1 : decode cX4_back 1 = .ok (.iload_n 1, 1) := by decide +kernel
theorem dX4_back_2 : decode cX4_back 2 = .ok (.invokevirtual 104, 3) := by decide +kernel
theorem dX4_back_5 : decode cX4_back 5 = .ok (.istore_n 2, 1) := by decide +kernel
theorem dX4_back_6 : decode cX4_back 6 = .ok (.aload_n 0, 1) := by decide +kernel
theorem dX4_back_7 : decode cX4_back 7 = .ok (.iload_n 2, 1) := by decide +kernel
theorem dX4_back_8 : decode cX4_back 8 = .ok (.ifCond .lt 7, 3) := by decide +kernel
theorem dX4_back_11 : decode cX4_back 11 = .ok (.iconst 1, 1) := by decide +kernel
theorem dX4_back_12 : decode cX4_back 12 = .ok (.goto 4, 3) := by decide +kernel
theorem dX4_back_15 : decode cX4_back 15 = .ok (.iconst 0, 1) := by decide +kernel
theorem dX4_back_16 : decode cX4_back 16 = .ok (.iconst 1, 1) := by decide +kernel
theorem dX4_back_17 : decode cX4_back 17 = .ok (.iconst 1, 1) := by decide +kernel
theorem dX4_back_18 : decode cX4_back 18 = .ok (.invokevirtual 68, 3) := by decide +kernel
theorem dX4_back_21 : decode cX4_back 21 = .ok (.ifCond .eq 11, 3) := by decide +kernel
theorem dX4_back_24 : decode cX4_back 24 = .ok (.aload_n 0, 1) := by decide +kernel
theorem dX4_back_25 : decode cX4_back 25 = .ok (.iload_n 2, 1) := by decide +kernel
theorem dX4_back_26 : decode cX4_back 26 = .ok (.invokevirtual 114, 3) := by decide +kernel
theorem dX4_back_29 : decode cX4_back 29 = .ok (.goto 4, 3) := by decide +kernel
theorem dX4_back_32 : decode cX4_back 32 = .ok (.iconst 0, 1) := by decide +kernel
theorem dX4_back_33 : decode cX4_back 33 = .ok (.ireturn, 1) := by decide +kernel
set_option maxRecDepth 20000 in
theorem ggX4_forget_X4_goes : GoodIn wsX4_forget wsX4_goes := goodIn_r _ [7, 8, 18, 19, 20, 21, 22, 23, 24, 25, 26, 27, 28, 29, 30, 31, 32, 33, 34, 35] (by decide +kernel) (by decide +kernel)
set_option maxRecDepth 20000 in
theorem gX4_forget_X4_goes : GoodIn wsX4_forget (wsV RX4 68 RX4 yX4_goes wsX4_goes) := goodIn_app (goodIn_of _ (by decide +kernel)) ggX4_forget_X4_goes
set_option maxRecDepth 20000 in
theorem ggX4_forget_X4_drop : GoodIn wsX4_forget wsX4_drop := goodIn_r _ [12, 13, 14, 15, 16, 17, 18, 19, 20, 21, 22, 23, 24, 25, 26, 27, 28, 29, 30, 31, 32, 33, 34, 35] (by decide +kernel) (by decide +kernel)
set_option maxRecDepth 20000 in
theorem gX4_forget_X4_drop : GoodIn wsX4_forget (wsV RX4 110 RX4 yX4_drop wsX4_drop) := goodIn_app (goodIn_of _ (by decide +kernel)) ggX4_forget_X4_drop
theorem dX4_forget_0 : decode cX4_forget 0 = .ok (.aload_n 0, 1) := by decide +kernel
theorem dX4_forget_1 : decode cX4_forget 1 = .ok (.iload_n 1, 1) := by decide +kernel
theorem dX4_forget_2 : decode cX4_forget 2 = .ok (.aload_n 0, 1) := by decide +kernel
theorem dX4_forget_3 : decode cX4_forget 3 = .ok (.getfield 62, 3) := by decide +kernel
theorem dX4_forget_6 : decode cX4_forget 6 = .ok (.if_icmp .lt 7, 3) := by decide +kernel
theorem dX4_forget_9 : decode cX4_forget 9 = .ok (.iconst 1, 1) := by decide +kernel
theorem dX4_forget_10 : decode cX4_forget 10 = .ok (.goto 4, 3) := by decide +kernel
theorem dX4_forget_13 : decode cX4_forget 13 = .ok (.iconst 0, 1) := by decide +kernel
theorem dX4_forget_14 : decode cX4_forget 14 = .ok (.iconst 1, 1) := by decide +kernel
theorem dX4_forget_15 : decode cX4_forget 15 = .ok (.iconst 1, 1) := by decide +kernel
theorem dX4_forget_16 : decode cX4_forget 16 = .ok (.invokevirtual 68, 3) := by decide +kernel
theorem dX4_forget_19 : decode cX4_forget 19 = .ok (.ifCond .eq 13, 3) := by decide +kernel
theorem dX4_forget_22 : decode cX4_forget 22 = .ok (.aload_n 0, 1) := by decide +kernel
theorem dX4_forget_23 : decode cX4_forget 23 = .ok (.iload_n 1, 1) := by decide +kernel
theorem dX4_forget_24 : decode cX4_forget 24 = .ok (.ldc 117, 2) := by decide +kernel
theorem dX4_forget_26 : decode cX4_forget 26 = .ok (.invokevirtual 110, 3) := by decide +kernel
theorem dX4_forget_29 : decode cX4_forget 29 = .ok (.goto 4, 3) := by decide +kernel
theorem dX4_forget_32 : decode cX4_forget 32 = .ok (.iconst 0, 1) := by decide +kernel
theorem dX4_forget_33 : decode cX4_forget 33 = .ok (.ireturn, 1) := by decide +kernel
theorem dX4_highest_0 : decode cX4_highest 0 = .ok (.iconst (-1), 1) := by decide +kernel
theorem dX4_highest_1 : decode cX4_highest 1 = .ok (.istore_n 2, 1) := by decide +kernel
theorem dX4_highest_2 : decode cX4_highest 2 = .ok (.iconst 0, 1) := by decide +kernel
theorem dX4_highest_3 : decode cX4_highest 3 = .ok (.istore_n 3, 1) := by decide +kernel
theorem dX4_highest_4 : decode cX4_highest 4 = .ok (.iload_n 3, 1) := by decide +kernel
theorem dX4_highest_5 : decode cX4_highest 5 = .ok (.aload_n 0, 1) := by decide +kernel
theorem dX4_highest_6 : decode cX4_highest 6 = .ok (.getfield 101, 3) := by decide +kernel
theorem dX4_highest_9 : decode cX4_highest 9 = .ok (.if_icmp .ge 25, 3) := by decide +kernel
theorem dX4_highest_12 : decode cX4_highest 12 = .ok (.aload_n 0, 1) := by decide +kernel
theorem dX4_highest_13 : decode cX4_highest 13 = .ok (.getfield 35, 3) := by decide +kernel
theorem dX4_highest_16 : decode cX4_highest 16 = .ok (.iload_n 3, 1) := by decide +kernel
theorem dX4_highest_17 : decode cX4_highest 17 = .ok (.iaload, 1) := by decide +kernel
theorem dX4_highest_18 : decode cX4_highest 18 = .ok (.iload_n 1, 1) := by decide +kernel
theorem dX4_highest_19 : decode cX4_highest 19 = .ok (.if_icmp .gt 7, 3) := by decide +kernel
theorem dX4_highest_22 : decode cX4_highest 22 = .ok (.iload_n 3, 1) := by decide +kernel
theorem dX4_highest_23 : decode cX4_highest 23 = .ok (.goto 4, 3) := by decide +kernel
theorem dX4_highest_26 : decode cX4_highest 26 = .ok (.iload_n 2, 1) := by decide +kernel
theorem dX4_highest_27 : decode cX4_highest 27 = .ok (.istore_n 2, 1) := by decide +kernel
theorem dX4_highest_28 : decode cX4_highest 28 = .ok (.iinc 3 1, 3) := by decide +kernel
theorem dX4_highest_31 : decode cX4_highest 31 = .ok (.goto (-27), 3) := by decide +kernel
theorem dX4_highest_34 : decode cX4_highest 34 = .ok (.iload_n 2, 1) := by decide +kernel
theorem dX4_highest_35 : decode cX4_highest 35 = .ok (.ireturn, 1) := by decide +kernel
set_option maxRecDepth 20000 in
theorem ggX4_late_X4_highest : GoodIn wsX4_late wsX4_highest := goodIn_r _ [7, 8, 9, 72, 73, 74, 75, 76, 77, 78, 79, 80, 81, 82, 83, 84, 85, 86, 87, 88, 89] (by decide +kernel) (by decide +kernel)
set_option maxRecDepth 20000 in
theorem gX4_late_X4_highest : GoodIn wsX4_late (wsV RX4 118 RX4 yX4_highest wsX4_highest) := goodIn_app (goodIn_of _ (by decide +kernel)) ggX4_late_X4_highest
set_option maxRecDepth 20000 in
theorem ggX4_late_X4_known : GoodIn wsX4_late wsX4_known := goodIn_r _ [13, 14, 72, 73, 74, 75, 76, 77, 78, 79, 80, 81, 82, 83, 84, 85, 86, 87, 88, 89] (by decide +kernel) (by decide +kernel)
set_option maxRecDepth 20000 in
theorem gX4_late_X4_known : GoodIn wsX4_late (wsV RX4 53 RX4 yX4_known wsX4_known) := goodIn_app (goodIn_of _ (by decide +kernel)) ggX4_late_X4_known
set_option maxRecDepth 20000 in
theorem ggX4_late_X4_within : GoodIn wsX4_late wsX4_within := goodIn_r _ [17, 18, 19] (by decide +kernel) (by decide +kernel)
set_option maxRecDepth 20000 in
theorem gX4_late_X4_within : GoodIn wsX4_late (va_wsS RX4 75 yX4_within wsX4_within) := goodIn_app (goodIn_of _ (by decide +kernel)) ggX4_late_X4_within
set_option maxRecDepth 20000 in
theorem ggX4_late_X4_goes : GoodIn wsX4_late wsX4_goes := goodIn_r _ [23, 24, 72, 73, 74, 75, 76, 77, 78, 79, 80, 81, 82, 83, 84, 85, 86, 87, 88, 89] (by decide +kernel) (by decide +kernel)
set_option maxRecDepth 20000 in
theorem gX4_late_X4_goes : GoodIn wsX4_late (wsV RX4 68 RX4 yX4_goes wsX4_goes) := goodIn_app (goodIn_of _ (by decide +kernel)) ggX4_late_X4_goes
set_option maxRecDepth 20000 in
theorem ggX4_late_X4_put : GoodIn wsX4_late wsX4_put := goodIn_r _ [28, 29, 2, 30, 31, 32, 72, 73, 74, 75, 76, 77, 78, 79, 80, 81, 82, 83, 84, 85, 86, 87, 88, 89] (by decide +kernel) (by decide +kernel)
set_option maxRecDepth 20000 in
theorem gX4_late_X4_put : GoodIn wsX4_late (wsV RX4 79 RX4 yX4_put wsX4_put) := goodIn_app (goodIn_of _ (by decide +kernel)) ggX4_late_X4_put
set_option maxRecDepth 20000 in
theorem ggX4_late_X4_goBack : GoodIn wsX4_late wsX4_goBack := goodIn_r _ [36, 8, 9, 1, 14, 37, 38, 72, 73, 74, 75, 76, 77, 78, 79, 80, 81, 82, 83, 84, 85, 86, 87, 88, 89] (by decide +kernel) (by decide +kernel)
set_option maxRecDepth 20000 in
theorem gX4_late_X4_goBack : GoodIn wsX4_late (wsV RX4 114 RX4 yX4_goBack wsX4_goBack) := goodIn_app (goodIn_of _ (by decide +kernel)) ggX4_late_X4_goBack
set_option maxRecDepth 20000 in
theorem ggX4_late_X4_once : GoodIn wsX4_late wsX4_once := goodIn_r _ [42, 2, 29, 1, 43, 37, 44, 45, 46, 47, 48, 49, 50, 51, 6, 52, 30, 31, 32, 53, 54, 55, 18, 19, 56, 57, 58, 59, 8, 9, 14, 38, 60, 61, 62, 63, 64, 65, 66, 67, 68, 69, 70, 71, 72, 73, 74, 75, 76, 77, 78, 79, 80, 81, 82, 83, 84, 85, 86, 87, 88, 89] (by decide +kernel) (by decide +kernel)
set_option maxRecDepth 20000 in
theorem gX4_late_X4_once : GoodIn wsX4_late (wsV RX4 98 RX4 yX4_once wsX4_once) := goodIn_app (goodIn_of _ (by decide +kernel)) ggX4_late_X4_once
theorem dX4_late_0 : decode cX4_late 0 = .ok (.iload_n 1, 1) := by decide +kernel
theorem dX4_late_1 : decode cX4_late 1 = .ok (.ifCond .lt 15, 3) := by decide +kernel
theorem dX4_late_4 : decode cX4_late 4 = .ok (.iload_n 1, 1) := by decide +kernel
theorem dX4_late_5 : decode cX4_late 5 = .ok (.aload_n 0, 1) := by decide +kernel
theorem dX4_late_6 : decode cX4_late 6 = .ok (.getfield 62, 3) := by decide +kernel
theorem dX4_late_9 : decode cX4_late 9 = .ok (.if_icmp .gt 7, 3) := by decide +kernel
theorem dX4_late_12 : decode cX4_late 12 = .ok (.iconst 1, 1) := by decide +kernel
theorem dX4_late_13 : decode cX4_late 13 = .ok (.goto 4, 3) := by decide +kernel
theorem dX4_late_16 : decode cX4_late 16 = .ok (.iconst 0, 1) := by decide +kernel
theorem dX4_late_17 : decode cX4_late 17 = .ok (.istore 5, 2) := by decide +kernel
theorem dX4_late_19 : decode cX4_late 19 = .ok (.aload_n 0, 1) := by decide +kernel
theorem dX4_late_20 : decode cX4_late 20 = .ok (.iload_n 1, 1) := by decide +kernel
theorem dX4_late_21 : decode cX4_late 21 = .ok (.invokevirtual 118, 3) := by decide +kernel
theorem dX4_late_24 : decode cX4_late 24 = .ok (.istore 6, 2) := by decide +kernel
theorem dX4_late_26 : decode cX4_late 26 = .ok (.aload_n 0, 1) := by decide +kernel
theorem dX4_late_27 : decode cX4_late 27 = .ok (.aload_n 0, 1) := by decide +kernel
theorem dX4_late_28 : decode cX4_late 28 = .ok (.iload_n 2, 1) := by decide +kernel
theorem dX4_late_29 : decode cX4_late 29 = .ok (.invokevirtual 53, 3) := by decide +kernel
theorem dX4_late_32 : decode cX4_late 32 = .ok (.iload_n 3, 1) := by decide +kernel
theorem dX4_late_33 : decode cX4_late 33 = .ok (.ifCond .lt 25, 3) := by decide +kernel
theorem dX4_late_36 : decode cX4_late 36 = .ok (.iload_n 3, 1) := by decide +kernel
theorem dX4_late_37 : decode cX4_late 37 = .ok (.iconst 2, 1) := by decide +kernel
theorem dX4_late_38 : decode cX4_late 38 = .ok (.if_icmp .gt 20, 3) := by decide +kernel
theorem dX4_late_41 : decode cX4_late 41 = .ok (.fload 4, 2) := by decide +kernel
theorem dX4_late_43 : decode cX4_late 43 = .ok (.invokestatic 75, 3) := by decide +kernel
theorem dX4_late_46 : decode cX4_late 46 = .ok (.ifCond .eq 12, 3) := by decide +kernel
theorem dX4_late_49 : decode cX4_late 49 = .ok (.iload 5, 2) := by decide +kernel
theorem dX4_late_51 : decode cX4_late 51 = .ok (.ifCond .eq 7, 3) := by decide +kernel
theorem dX4_late_54 : decode cX4_late 54 = .ok (.iconst 1, 1) := by decide +kernel
theorem dX4_late_55 : decode cX4_late 55 = .ok (.goto 4, 3) := by decide +kernel
theorem dX4_late_58 : decode cX4_late 58 = .ok (.iconst 0, 1) := by decide +kernel
theorem dX4_late_59 : decode cX4_late 59 = .ok (.aload_n 0, 1) := by decide +kernel
theorem dX4_late_60 : decode cX4_late 60 = .ok (.getfield 65, 3) := by decide +kernel
theorem dX4_late_63 : decode cX4_late 63 = .ok (.sipush 512, 3) := by decide +kernel
theorem dX4_late_66 : decode cX4_late 66 = .ok (.if_icmp .ge 20, 3) := by decide +kernel
theorem dX4_late_69 : decode cX4_late 69 = .ok (.iload_n 1, 1) := by decide +kernel
theorem dX4_late_70 : decode cX4_late 70 = .ok (.aload_n 0, 1) := by decide +kernel
theorem dX4_late_71 : decode cX4_late 71 = .ok (.getfield 62, 3) := by decide +kernel
theorem dX4_late_74 : decode cX4_late 74 = .ok (.if_icmp .eq 8, 3) := by decide +kernel
theorem dX4_late_77 : decode cX4_late 77 = .ok (.iload 6, 2) := by decide +kernel
theorem dX4_late_79 : decode cX4_late 79 = .ok (.ifCond .lt 7, 3) := by decide +kernel
theorem dX4_late_82 : decode cX4_late 82 = .ok (.iconst 1, 1) := by decide +kernel
theorem dX4_late_83 : decode cX4_late 83 = .ok (.goto 4, 3) := by decide +kernel
theorem dX4_late_86 : decode cX4_late 86 = .ok (.iconst 0, 1) := by decide +kernel
theorem dX4_late_87 : decode cX4_late 87 = .ok (.invokevirtual 68, 3) := by decide +kernel
theorem dX4_late_90 : decode cX4_late 90 = .ok (.ifCond .ne 5, 3) := by decide +kernel
theorem dX4_late_93 : decode cX4_late 93 = .ok (.iconst 0, 1) := by decide +kernel
theorem dX4_late_94 : decode cX4_late 94 = .ok (.ireturn, 1) := by decide +kernel
theorem dX4_late_95 : decode cX4_late 95 = .ok (.aload_n 0, 1) := by decide +kernel
theorem dX4_late_96 : decode cX4_late 96 = .ok (.iload_n 1, 1) := by decide +kernel
theorem dX4_late_97 : decode cX4_late 97 = .ok (.iload_n 2, 1) := by decide +kernel
theorem dX4_late_98 : decode cX4_late 98 = .ok (.iload_n 3, 1) := by decide +kernel
theorem dX4_late_99 : decode cX4_late 99 = .ok (.fload 4, 2) := by decide +kernel
theorem dX4_late_101 : decode cX4_late 101 = .ok (.invokevirtual 79, 3) := by decide +kernel
theorem dX4_late_104 : decode cX4_late 104 = .ok (.iload_n 1, 1) := by decide +kernel
theorem dX4_late_105 : decode cX4_late 105 = .ok (.aload_n 0, 1) := by decide +kernel
theorem dX4_late_106 : decode cX4_late 106 = .ok (.getfield 62, 3) := by decide +kernel
theorem dX4_late_109 : decode cX4_late 109 = .ok (.if_icmp .ne 5, 3) := by decide +kernel
theorem dX4_late_112 : decode cX4_late 112 = .ok (.iconst 0, 1) := by decide +kernel
theorem dX4_late_113 : decode cX4_late 113 = .ok (.ireturn, 1) := by decide +kernel
theorem dX4_late_114 : decode cX4_late 114 = .ok (.aload_n 0, 1) := by decide +kernel
theorem dX4_late_115 : decode cX4_late 115 = .ok (.getfield 62, 3) := by decide +kernel
theorem dX4_late_118 : decode cX4_late 118 = .ok (.istore 7, 2) := by decide +kernel
theorem dX4_late_120 : decode cX4_late 120 = .ok (.aload_n 0, 1) := by decide +kernel
theorem dX4_late_121 : decode cX4_late 121 = .ok (.iload 6, 2) := by decide +kernel
theorem dX4_late_123 : decode cX4_late 123 = .ok (.invokevirtual 114, 3) := by decide +kernel
theorem dX4_late_126 : decode cX4_late 126 = .ok (.istore 8, 2) := by decide +kernel
theorem dX4_late_128 : decode cX4_late 128 = .ok (.iload 7, 2) := by decide +kernel
theorem dX4_late_130 : decode cX4_late 130 = .ok (.aload_n 0, 1) := by decide +kernel
theorem dX4_late_131 : decode cX4_late 131 = .ok (.getfield 62, 3) := by decide +kernel
theorem dX4_late_134 : decode cX4_late 134 = .ok (.isub, 1) := by decide +kernel
theorem dX4_late_135 : decode cX4_late 135 = .ok (.istore 9, 2) := by decide +kernel
theorem dX4_late_137 : decode cX4_late 137 = .ok (.iconst 0, 1) := by decide +kernel
theorem dX4_late_138 : decode cX4_late 138 = .ok (.istore 10, 2) := by decide +kernel
theorem dX4_late_140 : decode cX4_late 140 = .ok (.iload 10, 2) := by decide +kernel
theorem dX4_late_142 : decode cX4_late 142 = .ok (.iload 9, 2) := by decide +kernel
theorem dX4_late_144 : decode cX4_late 144 = .ok (.if_icmp .ge 13, 3) := by decide +kernel
theorem dX4_late_147 : decode cX4_late 147 = .ok (.aload_n 0, 1) := by decide +kernel
theorem dX4_late_148 : decode cX4_late 148 = .ok (.invokevirtual 98, 3) := by decide +kernel
theorem dX4_late_151 : decode cX4_late 151 = .ok (.iinc 10 1, 3) := by decide +kernel
theorem dX4_late_154 : decode cX4_late 154 = .ok (.goto (-14), 3) := by decide +kernel
theorem dX4_late_157 : decode cX4_late 157 = .ok (.iload 9, 2) := by decide +kernel
theorem dX4_late_159 : decode cX4_late 159 = .ok (.ireturn, 1) := by decide +kernel
set_option maxRecDepth 20000 in
theorem ggX4_cell_X4_known : GoodIn wsX4_cell wsX4_known := goodIn_r _ [6, 7, 13, 14, 15, 16, 17, 18, 19, 20, 21, 22, 23, 24, 25, 26, 27, 28, 29, 30] (by decide +kernel) (by decide +kernel)
set_option maxRecDepth 20000 in
theorem gX4_cell_X4_known : GoodIn wsX4_cell (wsV RX4 53 RX4 yX4_known wsX4_known) := goodIn_app (goodIn_of _ (by decide +kernel)) ggX4_cell_X4_known
set_option maxRecDepth 20000 in
theorem ggX4_cell_X4_goes : GoodIn wsX4_cell wsX4_goes := goodIn_r _ [11, 12, 13, 14, 15, 16, 17, 18, 19, 20, 21, 22, 23, 24, 25, 26, 27, 28, 29, 30] (by decide +kernel) (by decide +kernel)
set_option maxRecDepth 20000 in
theorem gX4_cell_X4_goes : GoodIn wsX4_cell (wsV RX4 68 RX4 yX4_goes wsX4_goes) := goodIn_app (goodIn_of _ (by decide +kernel)) ggX4_cell_X4_goes
theorem dX4_cell_0 : decode cX4_cell 0 = .ok (.aload_n 0, 1) := by decide +kernel
theorem dX4_cell_1 : decode cX4_cell 1 = .ok (.aload_n 0, 1) := by decide +kernel
theorem dX4_cell_2 : decode cX4_cell 2 = .ok (.iload_n 1, 1) := by decide +kernel
theorem dX4_cell_3 : decode cX4_cell 3 = .ok (.invokevirtual 53, 3) := by decide +kernel
theorem dX4_cell_6 : decode cX4_cell 6 = .ok (.iconst 1, 1) := by decide +kernel
theorem dX4_cell_7 : decode cX4_cell 7 = .ok (.iconst 1, 1) := by decide +kernel
theorem dX4_cell_8 : decode cX4_cell 8 = .ok (.invokevirtual 68, 3) := by decide +kernel
theorem dX4_cell_11 : decode cX4_cell 11 = .ok (.ifCond .eq 12, 3) := by decide +kernel
theorem dX4_cell_14 : decode cX4_cell 14 = .ok (.aload_n 0, 1) := by decide +kernel
theorem dX4_cell_15 : decode cX4_cell 15 = .ok (.getfield 7, 3) := by decide +kernel
theorem dX4_cell_18 : decode cX4_cell 18 = .ok (.iload_n 1, 1) := by decide +kernel
theorem dX4_cell_19 : decode cX4_cell 19 = .ok (.faload, 1) := by decide +kernel
theorem dX4_cell_20 : decode cX4_cell 20 = .ok (.goto 4, 3) := by decide +kernel
theorem dX4_cell_23 : decode cX4_cell 23 = .ok (.fconst 0, 1) := by decide +kernel
theorem dX4_cell_24 : decode cX4_cell 24 = .ok (.freturn, 1) := by decide +kernel
set_option maxRecDepth 20000 in
theorem ggX4_kept_X4_placeOf : GoodIn wsX4_kept wsX4_placeOf := goodIn_r _ [6, 7, 8, 19, 20, 21, 22, 23, 24, 25, 26, 27, 28, 29, 30, 31, 32, 33, 34, 35, 36] (by decide +kernel) (by decide +kernel)
set_option maxRecDepth 20000 in
theorem gX4_kept_X4_placeOf : GoodIn wsX4_kept (wsV RX4 104 RX4 yX4_placeOf wsX4_placeOf) := goodIn_app (goodIn_of _ (by decide +kernel)) ggX4_kept_X4_placeOf
set_option maxRecDepth 20000 in
theorem ggX4_kept_X4_known : GoodIn wsX4_kept wsX4_known := goodIn_r _ [12, 13, 19, 20, 21, 22, 23, 24, 25, 26, 27, 28, 29, 30, 31, 32, 33, 34, 35, 36] (by decide +kernel) (by decide +kernel)
set_option maxRecDepth 20000 in
theorem gX4_kept_X4_known : GoodIn wsX4_kept (wsV RX4 53 RX4 yX4_known wsX4_known) := goodIn_app (goodIn_of _ (by decide +kernel)) ggX4_kept_X4_known
set_option maxRecDepth 20000 in
theorem ggX4_kept_X4_goes : GoodIn wsX4_kept wsX4_goes := goodIn_r _ [17, 18, 19, 20, 21, 22, 23, 24, 25, 26, 27, 28, 29, 30, 31, 32, 33, 34, 35, 36] (by decide +kernel) (by decide +kernel)
set_option maxRecDepth 20000 in
theorem gX4_kept_X4_goes : GoodIn wsX4_kept (wsV RX4 68 RX4 yX4_goes wsX4_goes) := goodIn_app (goodIn_of _ (by decide +kernel)) ggX4_kept_X4_goes
theorem dX4_kept_0 : decode cX4_kept 0 = .ok (.aload_n 0, 1) := by decide +kernel
theorem dX4_kept_1 : decode cX4_kept 1 = .ok (.iload_n 1, 1) := by decide +kernel
theorem dX4_kept_2 : decode cX4_kept 2 = .ok (.invokevirtual 104, 3) := by decide +kernel
theorem dX4_kept_5 : decode cX4_kept 5 = .ok (.istore_n 3, 1) := by decide +kernel
theorem dX4_kept_6 : decode cX4_kept 6 = .ok (.aload_n 0, 1) := by decide +kernel
theorem dX4_kept_7 : decode cX4_kept 7 = .ok (.iload_n 3, 1) := by decide +kernel
theorem dX4_kept_8 : decode cX4_kept 8 = .ok (.ifCond .lt 15, 3) := by decide +kernel
theorem dX4_kept_11 : decode cX4_kept 11 = .ok (.aload_n 0, 1) := by decide +kernel
theorem dX4_kept_12 : decode cX4_kept 12 = .ok (.iload_n 2, 1) := by decide +kernel
theorem dX4_kept_13 : decode cX4_kept 13 = .ok (.invokevirtual 53, 3) := by decide +kernel
theorem dX4_kept_16 : decode cX4_kept 16 = .ok (.ifCond .eq 7, 3) := by decide +kernel
theorem dX4_kept_19 : decode cX4_kept 19 = .ok (.iconst 1, 1) := by decide +kernel
theorem dX4_kept_20 : decode cX4_kept 20 = .ok (.goto 4, 3) := by decide +kernel
theorem dX4_kept_23 : decode cX4_kept 23 = .ok (.iconst 0, 1) := by decide +kernel
theorem dX4_kept_24 : decode cX4_kept 24 = .ok (.iconst 1, 1) := by decide +kernel
theorem dX4_kept_25 : decode cX4_kept 25 = .ok (.iconst 1, 1) := by decide +kernel
theorem dX4_kept_26 : decode cX4_kept 26 = .ok (.invokevirtual 68, 3) := by decide +kernel
theorem dX4_kept_29 : decode cX4_kept 29 = .ok (.ifCond .eq 18, 3) := by decide +kernel
theorem dX4_kept_32 : decode cX4_kept 32 = .ok (.aload_n 0, 1) := by decide +kernel
theorem dX4_kept_33 : decode cX4_kept 33 = .ok (.getfield 38, 3) := by decide +kernel
theorem dX4_kept_36 : decode cX4_kept 36 = .ok (.sipush 256, 3) := by decide +kernel
theorem dX4_kept_39 : decode cX4_kept 39 = .ok (.iload_n 3, 1) := by decide +kernel
theorem dX4_kept_40 : decode cX4_kept 40 = .ok (.imul, 1) := by decide +kernel
theorem dX4_kept_41 : decode cX4_kept 41 = .ok (.iload_n 2, 1) := by decide +kernel
theorem dX4_kept_42 : decode cX4_kept 42 = .ok (.iadd, 1) := by decide +kernel
theorem dX4_kept_43 : decode cX4_kept 43 = .ok (.faload, 1) := by decide +kernel
theorem dX4_kept_44 : decode cX4_kept 44 = .ok (.goto 4, 3) := by decide +kernel
theorem dX4_kept_47 : decode cX4_kept 47 = .ok (.fconst 0, 1) := by decide +kernel
theorem dX4_kept_48 : decode cX4_kept 48 = .ok (.freturn, 1) := by decide +kernel
set_option maxRecDepth 20000 in
theorem ggX4_differs_X4_placeOf : GoodIn wsX4_differs wsX4_placeOf := goodIn_r _ [8, 9, 10, 16, 17, 18, 19, 20, 21, 22, 23, 24, 25, 26, 27, 28, 29, 30, 31, 32, 33] (by decide +kernel) (by decide +kernel)
set_option maxRecDepth 20000 in
theorem gX4_differs_X4_placeOf : GoodIn wsX4_differs (wsV RX4 104 RX4 yX4_placeOf wsX4_placeOf) := goodIn_app (goodIn_of _ (by decide +kernel)) ggX4_differs_X4_placeOf
set_option maxRecDepth 20000 in
theorem ggX4_differs_X4_goes : GoodIn wsX4_differs wsX4_goes := goodIn_r _ [14, 15, 16, 17, 18, 19, 20, 21, 22, 23, 24, 25, 26, 27, 28, 29, 30, 31, 32, 33] (by decide +kernel) (by decide +kernel)
set_option maxRecDepth 20000 in
theorem gX4_differs_X4_goes : GoodIn wsX4_differs (wsV RX4 68 RX4 yX4_goes wsX4_goes) := goodIn_app (goodIn_of _ (by decide +kernel)) ggX4_differs_X4_goes
theorem dX4_differs_0 : decode cX4_differs 0 = .ok (.aload_n 0, 1) := by decide +kernel
theorem dX4_differs_1 : decode cX4_differs 1 = .ok (.iload_n 1, 1) := by decide +kernel
theorem dX4_differs_2 : decode cX4_differs 2 = .ok (.invokevirtual 104, 3) := by decide +kernel
theorem dX4_differs_5 : decode cX4_differs 5 = .ok (.istore_n 2, 1) := by decide +kernel
theorem dX4_differs_6 : decode cX4_differs 6 = .ok (.aload_n 0, 1) := by decide +kernel
theorem dX4_differs_7 : decode cX4_differs 7 = .ok (.iload_n 2, 1) := by decide +kernel
theorem dX4_differs_8 : decode cX4_differs 8 = .ok (.ifCond .lt 7, 3) := by decide +kernel
theorem dX4_differs_11 : decode cX4_differs 11 = .ok (.iconst 1, 1) := by decide +kernel
theorem dX4_differs_12 : decode cX4_differs 12 = .ok (.goto 4, 3) := by decide +kernel
theorem dX4_differs_15 : decode cX4_differs 15 = .ok (.iconst 0, 1) := by decide +kernel
theorem dX4_differs_16 : decode cX4_differs 16 = .ok (.iconst 1, 1) := by decide +kernel
theorem dX4_differs_17 : decode cX4_differs 17 = .ok (.iconst 1, 1) := by decide +kernel
theorem dX4_differs_18 : decode cX4_differs 18 = .ok (.invokevirtual 68, 3) := by decide +kernel
theorem dX4_differs_21 : decode cX4_differs 21 = .ok (.ifCond .ne 5, 3) := by decide +kernel
theorem dX4_differs_24 : decode cX4_differs 24 = .ok (.iconst 0, 1) := by decide +kernel
theorem dX4_differs_25 : decode cX4_differs 25 = .ok (.ireturn, 1) := by decide +kernel
theorem dX4_differs_26 : decode cX4_differs 26 = .ok (.iconst 0, 1) := by decide +kernel
theorem dX4_differs_27 : decode cX4_differs 27 = .ok (.istore_n 3, 1) := by decide +kernel
theorem dX4_differs_28 : decode cX4_differs 28 = .ok (.iload_n 3, 1) := by decide +kernel
theorem dX4_differs_29 : decode cX4_differs 29 = .ok (.aload_n 0, 1) := by decide +kernel
theorem dX4_differs_30 : decode cX4_differs 30 = .ok (.getfield 41, 3) := by decide +kernel
theorem dX4_differs_33 : decode cX4_differs 33 = .ok (.if_icmp .ge 33, 3) := by decide +kernel
theorem dX4_differs_36 : decode cX4_differs 36 = .ok (.aload_n 0, 1) := by decide +kernel
theorem dX4_differs_37 : decode cX4_differs 37 = .ok (.getfield 7, 3) := by decide +kernel
theorem dX4_differs_40 : decode cX4_differs 40 = .ok (.iload_n 3, 1) := by decide +kernel
theorem dX4_differs_41 : decode cX4_differs 41 = .ok (.faload, 1) := by decide +kernel
theorem dX4_differs_42 : decode cX4_differs 42 = .ok (.aload_n 0, 1) := by decide +kernel
theorem dX4_differs_43 : decode cX4_differs 43 = .ok (.getfield 38, 3) := by decide +kernel
theorem dX4_differs_46 : decode cX4_differs 46 = .ok (.sipush 256, 3) := by decide +kernel
theorem dX4_differs_49 : decode cX4_differs 49 = .ok (.iload_n 2, 1) := by decide +kernel
theorem dX4_differs_50 : decode cX4_differs 50 = .ok (.imul, 1) := by decide +kernel
theorem dX4_differs_51 : decode cX4_differs 51 = .ok (.iload_n 3, 1) := by decide +kernel
theorem dX4_differs_52 : decode cX4_differs 52 = .ok (.iadd, 1) := by decide +kernel
theorem dX4_differs_53 : decode cX4_differs 53 = .ok (.faload, 1) := by decide +kernel
theorem dX4_differs_54 : decode cX4_differs 54 = .ok (.fcmp .l, 1) := by decide +kernel
theorem dX4_differs_55 : decode cX4_differs 55 = .ok (.ifCond .eq 5, 3) := by decide +kernel
theorem dX4_differs_58 : decode cX4_differs 58 = .ok (.iload_n 3, 1) := by decide +kernel
theorem dX4_differs_59 : decode cX4_differs 59 = .ok (.ireturn, 1) := by decide +kernel
theorem dX4_differs_60 : decode cX4_differs 60 = .ok (.iinc 3 1, 3) := by decide +kernel
theorem dX4_differs_63 : decode cX4_differs 63 = .ok (.goto (-35), 3) := by decide +kernel
theorem dX4_differs_66 : decode cX4_differs 66 = .ok (.iconst (-1), 1) := by decide +kernel
theorem dX4_differs_67 : decode cX4_differs 67 = .ok (.ireturn, 1) := by decide +kernel
set_option maxRecDepth 20000 in
theorem ggX4_snapshot_X4_goes : GoodIn wsX4_snapshot wsX4_goes := goodIn_r _ [7, 8, 9, 10, 11, 12, 13, 14, 15, 16, 17, 18, 19, 20, 21, 22, 23, 24, 25, 26] (by decide +kernel) (by decide +kernel)
set_option maxRecDepth 20000 in
theorem gX4_snapshot_X4_goes : GoodIn wsX4_snapshot (wsV RX4 68 RX4 yX4_goes wsX4_goes) := goodIn_app (goodIn_of _ (by decide +kernel)) ggX4_snapshot_X4_goes
theorem dX4_snapshot_0 : decode cX4_snapshot 0 = .ok (.aload_n 0, 1) := by decide +kernel
theorem dX4_snapshot_1 : decode cX4_snapshot 1 = .ok (.iload_n 1, 1) := by decide +kernel
theorem dX4_snapshot_2 : decode cX4_snapshot 2 = .ok (.ifCond .lt 15, 3) := by decide +kernel
theorem dX4_snapshot_5 : decode cX4_snapshot 5 = .ok (.iload_n 1, 1) := by decide +kernel
theorem dX4_snapshot_6 : decode cX4_snapshot 6 = .ok (.aload_n 0, 1) := by decide +kernel
theorem dX4_snapshot_7 : decode cX4_snapshot 7 = .ok (.getfield 101, 3) := by decide +kernel
theorem dX4_snapshot_10 : decode cX4_snapshot 10 = .ok (.if_icmp .ge 7, 3) := by decide +kernel
theorem dX4_snapshot_13 : decode cX4_snapshot 13 = .ok (.iconst 1, 1) := by decide +kernel
theorem dX4_snapshot_14 : decode cX4_snapshot 14 = .ok (.goto 4, 3) := by decide +kernel
theorem dX4_snapshot_17 : decode cX4_snapshot 17 = .ok (.iconst 0, 1) := by decide +kernel
theorem dX4_snapshot_18 : decode cX4_snapshot 18 = .ok (.iconst 1, 1) := by decide +kernel
theorem dX4_snapshot_19 : decode cX4_snapshot 19 = .ok (.iconst 1, 1) := by decide +kernel
theorem dX4_snapshot_20 : decode cX4_snapshot 20 = .ok (.invokevirtual 68, 3) := by decide +kernel
theorem dX4_snapshot_23 : decode cX4_snapshot 23 = .ok (.ifCond .eq 12, 3) := by decide +kernel
theorem dX4_snapshot_26 : decode cX4_snapshot 26 = .ok (.aload_n 0, 1) := by decide +kernel
theorem dX4_snapshot_27 : decode cX4_snapshot 27 = .ok (.getfield 35, 3) := by decide +kernel
theorem dX4_snapshot_30 : decode cX4_snapshot 30 = .ok (.iload_n 1, 1) := by decide +kernel
theorem dX4_snapshot_31 : decode cX4_snapshot 31 = .ok (.iaload, 1) := by decide +kernel
theorem dX4_snapshot_32 : decode cX4_snapshot 32 = .ok (.goto 4, 3) := by decide +kernel
theorem dX4_snapshot_35 : decode cX4_snapshot 35 = .ok (.iconst 0, 1) := by decide +kernel
theorem dX4_snapshot_36 : decode cX4_snapshot 36 = .ok (.ireturn, 1) := by decide +kernel
theorem dX4_find_0 : decode cX4_find 0 = .ok (.iload_n 2, 1) := by decide +kernel
theorem dX4_find_1 : decode cX4_find 1 = .ok (.istore_n 3, 1) := by decide +kernel
theorem dX4_find_2 : decode cX4_find 2 = .ok (.iconst 0, 1) := by decide +kernel
theorem dX4_find_3 : decode cX4_find 3 = .ok (.istore 4, 2) := by decide +kernel
theorem dX4_find_5 : decode cX4_find 5 = .ok (.iload 4, 2) := by decide +kernel
theorem dX4_find_7 : decode cX4_find 7 = .ok (.aload_n 0, 1) := by decide +kernel
theorem dX4_find_8 : decode cX4_find 8 = .ok (.getfield 65, 3) := by decide +kernel
theorem dX4_find_11 : decode cX4_find 11 = .ok (.if_icmp .ge 39, 3) := by decide +kernel
theorem dX4_find_14 : decode cX4_find 14 = .ok (.iload_n 2, 1) := by decide +kernel
theorem dX4_find_15 : decode cX4_find 15 = .ok (.ifCond .lt 35, 3) := by decide +kernel
theorem dX4_find_18 : decode cX4_find 18 = .ok (.aload_n 0, 1) := by decide +kernel
theorem dX4_find_19 : decode cX4_find 19 = .ok (.getfield 23, 3) := by decide +kernel
theorem dX4_find_22 : decode cX4_find 22 = .ok (.iload 4, 2) := by decide +kernel
theorem dX4_find_24 : decode cX4_find 24 = .ok (.iaload, 1) := by decide +kernel
theorem dX4_find_25 : decode cX4_find 25 = .ok (.iload_n 1, 1) := by decide +kernel
theorem dX4_find_26 : decode cX4_find 26 = .ok (.if_icmp .ne 9, 3) := by decide +kernel
theorem dX4_find_29 : decode cX4_find 29 = .ok (.iload_n 3, 1) := by decide +kernel
theorem dX4_find_30 : decode cX4_find 30 = .ok (.iconst 1, 1) := by decide +kernel
theorem dX4_find_31 : decode cX4_find 31 = .ok (.isub, 1) := by decide +kernel
theorem dX4_find_32 : decode cX4_find 32 = .ok (.goto 4, 3) := by decide +kernel
theorem dX4_find_35 : decode cX4_find 35 = .ok (.iload_n 3, 1) := by decide +kernel
theorem dX4_find_36 : decode cX4_find 36 = .ok (.istore_n 3, 1) := by decide +kernel
theorem dX4_find_37 : decode cX4_find 37 = .ok (.iload_n 3, 1) := by decide +kernel
theorem dX4_find_38 : decode cX4_find 38 = .ok (.ifCond .ge 6, 3) := by decide +kernel
theorem dX4_find_41 : decode cX4_find 41 = .ok (.iload 4, 2) := by decide +kernel
theorem dX4_find_43 : decode cX4_find 43 = .ok (.ireturn, 1) := by decide +kernel
theorem dX4_find_44 : decode cX4_find 44 = .ok (.iinc 4 1, 3) := by decide +kernel
theorem dX4_find_47 : decode cX4_find 47 = .ok (.goto (-42), 3) := by decide +kernel
theorem dX4_find_50 : decode cX4_find 50 = .ok (.iconst (-1), 1) := by decide +kernel
theorem dX4_find_51 : decode cX4_find 51 = .ok (.ireturn, 1) := by decide +kernel
set_option maxRecDepth 20000 in
theorem ggX4_record_X4_find : GoodIn wsX4_record wsX4_find := goodIn_r _ [7, 8, 9, 15, 16, 17, 18, 19, 20, 21, 22, 23, 24, 25, 26, 27, 28, 29, 30, 31, 32] (by decide +kernel) (by decide +kernel)
set_option maxRecDepth 20000 in
theorem gX4_record_X4_find : GoodIn wsX4_record (wsV RX4 121 RX4 yX4_find wsX4_find) := goodIn_app (goodIn_of _ (by decide +kernel)) ggX4_record_X4_find
set_option maxRecDepth 20000 in
theorem ggX4_record_X4_goes : GoodIn wsX4_record wsX4_goes := goodIn_r _ [13, 14, 15, 16, 17, 18, 19, 20, 21, 22, 23, 24, 25, 26, 27, 28, 29, 30, 31, 32] (by decide +kernel) (by decide +kernel)
set_option maxRecDepth 20000 in
theorem gX4_record_X4_goes : GoodIn wsX4_record (wsV RX4 68 RX4 yX4_goes wsX4_goes) := goodIn_app (goodIn_of _ (by decide +kernel)) ggX4_record_X4_goes
theorem dX4_record_0 : decode cX4_record 0 = .ok (.aload_n 0, 1) := by decide +kernel
theorem dX4_record_1 : decode cX4_record 1 = .ok (.iload_n 1, 1) := by decide +kernel
theorem dX4_record_2 : decode cX4_record 2 = .ok (.iload_n 2, 1) := by decide +kernel
theorem dX4_record_3 : decode cX4_record 3 = .ok (.invokevirtual 121, 3) := by decide +kernel
theorem dX4_record_6 : decode cX4_record 6 = .ok (.istore 4, 2) := by decide +kernel
theorem dX4_record_8 : decode cX4_record 8 = .ok (.aload_n 0, 1) := by decide +kernel
theorem dX4_record_9 : decode cX4_record 9 = .ok (.iload 4, 2) := by decide +kernel
theorem dX4_record_11 : decode cX4_record 11 = .ok (.ifCond .lt 16, 3) := by decide +kernel
theorem dX4_record_14 : decode cX4_record 14 = .ok (.iload_n 3, 1) := by decide +kernel
theorem dX4_record_15 : decode cX4_record 15 = .ok (.ifCond .eq 8, 3) := by decide +kernel
theorem dX4_record_18 : decode cX4_record 18 = .ok (.iload_n 3, 1) := by decide +kernel
theorem dX4_record_19 : decode cX4_record 19 = .ok (.iconst 1, 1) := by decide +kernel
theorem dX4_record_20 : decode cX4_record 20 = .ok (.if_icmp .ne 7, 3) := by decide +kernel
theorem dX4_record_23 : decode cX4_record 23 = .ok (.iconst 1, 1) := by decide +kernel
theorem dX4_record_24 : decode cX4_record 24 = .ok (.goto 4, 3) := by decide +kernel
theorem dX4_record_27 : decode cX4_record 27 = .ok (.iconst 0, 1) := by decide +kernel
theorem dX4_record_28 : decode cX4_record 28 = .ok (.iconst 1, 1) := by decide +kernel
theorem dX4_record_29 : decode cX4_record 29 = .ok (.iconst 1, 1) := by decide +kernel
theorem dX4_record_30 : decode cX4_record 30 = .ok (.invokevirtual 68, 3) := by decide +kernel
theorem dX4_record_33 : decode cX4_record 33 = .ok (.ifCond .ne 5, 3) := by decide +kernel
theorem dX4_record_36 : decode cX4_record 36 = .ok (.iconst 0, 1) := by decide +kernel
theorem dX4_record_37 : decode cX4_record 37 = .ok (.ireturn, 1) := by decide +kernel
theorem dX4_record_38 : decode cX4_record 38 = .ok (.iload_n 3, 1) := by decide +kernel
theorem dX4_record_39 : decode cX4_record 39 = .ok (.ifCond .ne 13, 3) := by decide +kernel
theorem dX4_record_42 : decode cX4_record 42 = .ok (.aload_n 0, 1) := by decide +kernel
theorem dX4_record_43 : decode cX4_record 43 = .ok (.getfield 26, 3) := by decide +kernel
theorem dX4_record_46 : decode cX4_record 46 = .ok (.iload 4, 2) := by decide +kernel
theorem dX4_record_48 : decode cX4_record 48 = .ok (.iaload, 1) := by decide +kernel
theorem dX4_record_49 : decode cX4_record 49 = .ok (.goto 10, 3) := by decide +kernel
theorem dX4_record_52 : decode cX4_record 52 = .ok (.aload_n 0, 1) := by decide +kernel
theorem dX4_record_53 : decode cX4_record 53 = .ok (.getfield 29, 3) := by decide +kernel
theorem dX4_record_56 : decode cX4_record 56 = .ok (.iload 4, 2) := by decide +kernel
theorem dX4_record_58 : decode cX4_record 58 = .ok (.iaload, 1) := by decide +kernel
theorem dX4_record_59 : decode cX4_record 59 = .ok (.ireturn, 1) := by decide +kernel
set_option maxRecDepth 20000 in
theorem ggX4_recorded_X4_find : GoodIn wsX4_recorded wsX4_find := goodIn_r _ [6, 7, 8, 14, 15, 16, 17, 18, 19, 20, 21, 22, 23, 24, 25, 26, 27, 28, 29, 30, 31] (by decide +kernel) (by decide +kernel)
set_option maxRecDepth 20000 in
theorem gX4_recorded_X4_find : GoodIn wsX4_recorded (wsV RX4 121 RX4 yX4_find wsX4_find) := goodIn_app (goodIn_of _ (by decide +kernel)) ggX4_recorded_X4_find
set_option maxRecDepth 20000 in
theorem ggX4_recorded_X4_goes : GoodIn wsX4_recorded wsX4_goes := goodIn_r _ [12, 13, 14, 15, 16, 17, 18, 19, 20, 21, 22, 23, 24, 25, 26, 27, 28, 29, 30, 31] (by decide +kernel) (by decide +kernel)
set_option maxRecDepth 20000 in
theorem gX4_recorded_X4_goes : GoodIn wsX4_recorded (wsV RX4 68 RX4 yX4_goes wsX4_goes) := goodIn_app (goodIn_of _ (by decide +kernel)) ggX4_recorded_X4_goes
theorem dX4_recorded_0 : decode cX4_recorded 0 = .ok (.aload_n 0, 1) := by decide +kernel
theorem dX4_recorded_1 : decode cX4_recorded 1 = .ok (.iload_n 1, 1) := by decide +kernel
theorem dX4_recorded_2 : decode cX4_recorded 2 = .ok (.iload_n 2, 1) := by decide +kernel
theorem dX4_recorded_3 : decode cX4_recorded 3 = .ok (.invokevirtual 121, 3) := by decide +kernel
theorem dX4_recorded_6 : decode cX4_recorded 6 = .ok (.istore_n 3, 1) := by decide +kernel
theorem dX4_recorded_7 : decode cX4_recorded 7 = .ok (.aload_n 0, 1) := by decide +kernel
theorem dX4_recorded_8 : decode cX4_recorded 8 = .ok (.iload_n 3, 1) := by decide +kernel
theorem dX4_recorded_9 : decode cX4_recorded 9 = .ok (.ifCond .lt 7, 3) := by decide +kernel
theorem dX4_recorded_12 : decode cX4_recorded 12 = .ok (.iconst 1, 1) := by decide +kernel
theorem dX4_recorded_13 : decode cX4_recorded 13 = .ok (.goto 4, 3) := by decide +kernel
theorem dX4_recorded_16 : decode cX4_recorded 16 = .ok (.iconst 0, 1) := by decide +kernel
theorem dX4_recorded_17 : decode cX4_recorded 17 = .ok (.iconst 1, 1) := by decide +kernel
theorem dX4_recorded_18 : decode cX4_recorded 18 = .ok (.iconst 1, 1) := by decide +kernel
theorem dX4_recorded_19 : decode cX4_recorded 19 = .ok (.invokevirtual 68, 3) := by decide +kernel
theorem dX4_recorded_22 : decode cX4_recorded 22 = .ok (.ifCond .eq 12, 3) := by decide +kernel
theorem dX4_recorded_25 : decode cX4_recorded 25 = .ok (.aload_n 0, 1) := by decide +kernel
theorem dX4_recorded_26 : decode cX4_recorded 26 = .ok (.getfield 32, 3) := by decide +kernel
theorem dX4_recorded_29 : decode cX4_recorded 29 = .ok (.iload_n 3, 1) := by decide +kernel
theorem dX4_recorded_30 : decode cX4_recorded 30 = .ok (.faload, 1) := by decide +kernel
theorem dX4_recorded_31 : decode cX4_recorded 31 = .ok (.goto 4, 3) := by decide +kernel
theorem dX4_recorded_34 : decode cX4_recorded 34 = .ok (.fconst 0, 1) := by decide +kernel
theorem dX4_recorded_35 : decode cX4_recorded 35 = .ok (.freturn, 1) := by decide +kernel
set_option maxRecDepth 20000 in
theorem ggX4_count_X4_goes : GoodIn wsX4_count wsX4_goes := goodIn_r _ [12, 13, 19, 20, 21, 22, 23, 24, 25, 26, 27, 28, 29, 30, 31, 32, 33, 34, 35, 36] (by decide +kernel) (by decide +kernel)
set_option maxRecDepth 20000 in
theorem gX4_count_X4_goes : GoodIn wsX4_count (wsV RX4 68 RX4 yX4_goes wsX4_goes) := goodIn_app (goodIn_of _ (by decide +kernel)) ggX4_count_X4_goes
set_option maxRecDepth 20000 in
theorem ggX4_count_X4_inputsOf : GoodIn wsX4_count wsX4_inputsOf := goodIn_r _ [17, 5, 18, 19, 20, 21, 22, 23, 24, 25, 26, 27, 28, 29, 30, 31, 32, 33, 34, 35, 36] (by decide +kernel) (by decide +kernel)
set_option maxRecDepth 20000 in
theorem gX4_count_X4_inputsOf : GoodIn wsX4_count (wsV RX4 83 RX4 yX4_inputsOf wsX4_inputsOf) := goodIn_app (goodIn_of _ (by decide +kernel)) ggX4_count_X4_inputsOf
theorem dX4_count_0 : decode cX4_count 0 = .ok (.aload_n 0, 1) := by decide +kernel
theorem dX4_count_1 : decode cX4_count 1 = .ok (.iload_n 1, 1) := by decide +kernel
theorem dX4_count_2 : decode cX4_count 2 = .ok (.ifCond .lt 13, 3) := by decide +kernel
theorem dX4_count_5 : decode cX4_count 5 = .ok (.iload_n 1, 1) := by decide +kernel
theorem dX4_count_6 : decode cX4_count 6 = .ok (.bipush 7, 2) := by decide +kernel
theorem dX4_count_8 : decode cX4_count 8 = .ok (.if_icmp .gt 7, 3) := by decide +kernel
theorem dX4_count_11 : decode cX4_count 11 = .ok (.iconst 1, 1) := by decide +kernel
theorem dX4_count_12 : decode cX4_count 12 = .ok (.goto 4, 3) := by decide +kernel
theorem dX4_count_15 : decode cX4_count 15 = .ok (.iconst 0, 1) := by decide +kernel
theorem dX4_count_16 : decode cX4_count 16 = .ok (.iconst 1, 1) := by decide +kernel
theorem dX4_count_17 : decode cX4_count 17 = .ok (.iconst 1, 1) := by decide +kernel
theorem dX4_count_18 : decode cX4_count 18 = .ok (.invokevirtual 68, 3) := by decide +kernel
theorem dX4_count_21 : decode cX4_count 21 = .ok (.ifCond .ne 5, 3) := by decide +kernel
theorem dX4_count_24 : decode cX4_count 24 = .ok (.iconst 0, 1) := by decide +kernel
theorem dX4_count_25 : decode cX4_count 25 = .ok (.ireturn, 1) := by decide +kernel
theorem dX4_count_26 : decode cX4_count 26 = .ok (.iconst 0, 1) := by decide +kernel
theorem dX4_count_27 : decode cX4_count 27 = .ok (.istore_n 2, 1) := by decide +kernel
theorem dX4_count_28 : decode cX4_count 28 = .ok (.iconst 0, 1) := by decide +kernel
theorem dX4_count_29 : decode cX4_count 29 = .ok (.istore_n 3, 1) := by decide +kernel
theorem dX4_count_30 : decode cX4_count 30 = .ok (.iload_n 3, 1) := by decide +kernel
theorem dX4_count_31 : decode cX4_count 31 = .ok (.aload_n 0, 1) := by decide +kernel
theorem dX4_count_32 : decode cX4_count 32 = .ok (.getfield 41, 3) := by decide +kernel
theorem dX4_count_35 : decode cX4_count 35 = .ok (.if_icmp .ge 28, 3) := by decide +kernel
theorem dX4_count_38 : decode cX4_count 38 = .ok (.aload_n 0, 1) := by decide +kernel
theorem dX4_count_39 : decode cX4_count 39 = .ok (.getfield 7, 3) := by decide +kernel
theorem dX4_count_42 : decode cX4_count 42 = .ok (.iload_n 3, 1) := by decide +kernel
theorem dX4_count_43 : decode cX4_count 43 = .ok (.faload, 1) := by decide +kernel
theorem dX4_count_44 : decode cX4_count 44 = .ok (.fconst 0, 1) := by decide +kernel
theorem dX4_count_45 : decode cX4_count 45 = .ok (.fcmp .l, 1) := by decide +kernel
theorem dX4_count_46 : decode cX4_count 46 = .ok (.ifCond .eq 9, 3) := by decide +kernel
theorem dX4_count_49 : decode cX4_count 49 = .ok (.iload_n 2, 1) := by decide +kernel
theorem dX4_count_50 : decode cX4_count 50 = .ok (.iconst 1, 1) := by decide +kernel
theorem dX4_count_51 : decode cX4_count 51 = .ok (.iadd, 1) := by decide +kernel
theorem dX4_count_52 : decode cX4_count 52 = .ok (.goto 4, 3) := by decide +kernel
theorem dX4_count_55 : decode cX4_count 55 = .ok (.iload_n 2, 1) := by decide +kernel
theorem dX4_count_56 : decode cX4_count 56 = .ok (.istore_n 2, 1) := by decide +kernel
theorem dX4_count_57 : decode cX4_count 57 = .ok (.iinc 3 1, 3) := by decide +kernel
theorem dX4_count_60 : decode cX4_count 60 = .ok (.goto (-30), 3) := by decide +kernel
theorem dX4_count_63 : decode cX4_count 63 = .ok (.iload_n 1, 1) := by decide +kernel
theorem dX4_count_64 : decode cX4_count 64 = .ok (.tableswitch 83 0 6 #[44, 49, 54, 59, 64, 73, 78], 44) := by decide +kernel
theorem dX4_count_108 : decode cX4_count 108 = .ok (.aload_n 0, 1) := by decide +kernel
theorem dX4_count_109 : decode cX4_count 109 = .ok (.getfield 62, 3) := by decide +kernel
theorem dX4_count_112 : decode cX4_count 112 = .ok (.ireturn, 1) := by decide +kernel
theorem dX4_count_113 : decode cX4_count 113 = .ok (.aload_n 0, 1) := by decide +kernel
theorem dX4_count_114 : decode cX4_count 114 = .ok (.getfield 41, 3) := by decide +kernel
theorem dX4_count_117 : decode cX4_count 117 = .ok (.ireturn, 1) := by decide +kernel
theorem dX4_count_118 : decode cX4_count 118 = .ok (.aload_n 0, 1) := by decide +kernel
theorem dX4_count_119 : decode cX4_count 119 = .ok (.getfield 101, 3) := by decide +kernel
theorem dX4_count_122 : decode cX4_count 122 = .ok (.ireturn, 1) := by decide +kernel
theorem dX4_count_123 : decode cX4_count 123 = .ok (.aload_n 0, 1) := by decide +kernel
theorem dX4_count_124 : decode cX4_count 124 = .ok (.getfield 65, 3) := by decide +kernel
theorem dX4_count_127 : decode cX4_count 127 = .ok (.ireturn, 1) := by decide +kernel
theorem dX4_count_128 : decode cX4_count 128 = .ok (.aload_n 0, 1) := by decide +kernel
theorem dX4_count_129 : decode cX4_count 129 = .ok (.aload_n 0, 1) := by decide +kernel
theorem dX4_count_130 : decode cX4_count 130 = .ok (.getfield 62, 3) := by decide +kernel
theorem dX4_count_133 : decode cX4_count 133 = .ok (.invokevirtual 83, 3) := by decide +kernel
theorem dX4_count_136 : decode cX4_count 136 = .ok (.ireturn, 1) := by decide +kernel
theorem dX4_count_137 : decode cX4_count 137 = .ok (.aload_n 0, 1) := by decide +kernel
theorem dX4_count_138 : decode cX4_count 138 = .ok (.getfield 59, 3) := by decide +kernel
theorem dX4_count_141 : decode cX4_count 141 = .ok (.ireturn, 1) := by decide +kernel
theorem dX4_count_142 : decode cX4_count 142 = .ok (.aload_n 0, 1) := by decide +kernel
theorem dX4_count_143 : decode cX4_count 143 = .ok (.getfield 95, 3) := by decide +kernel
theorem dX4_count_146 : decode cX4_count 146 = .ok (.ireturn, 1) := by decide +kernel
theorem dX4_count_147 : decode cX4_count 147 = .ok (.iload_n 2, 1) := by decide +kernel
theorem dX4_count_148 : decode cX4_count 148 = .ok (.ireturn, 1) := by decide +kernel
theorem dX4_sum_0 : decode cX4_sum 0 = .ok (.aload_n 0, 1) := by decide +kernel
theorem dX4_sum_1 : decode cX4_sum 1 = .ok (.iconst 0, 1) := by decide +kernel
theorem dX4_sum_2 : decode cX4_sum 2 = .ok (.putfield 48, 3) := by decide +kernel
theorem dX4_sum_5 : decode cX4_sum 5 = .ok (.fconst 0, 1) := by decide +kernel
theorem dX4_sum_6 : decode cX4_sum 6 = .ok (.fstore_n 1, 1) := by decide +kernel
theorem dX4_sum_7 : decode cX4_sum 7 = .ok (.iconst 0, 1) := by decide +kernel
theorem dX4_sum_8 : decode cX4_sum 8 = .ok (.istore_n 2, 1) := by decide +kernel
theorem dX4_sum_9 : decode cX4_sum 9 = .ok (.iload_n 2, 1) := by decide +kernel
theorem dX4_sum_10 : decode cX4_sum 10 = .ok (.aload_n 0, 1) := by decide +kernel
theorem dX4_sum_11 : decode cX4_sum 11 = .ok (.getfield 41, 3) := by decide +kernel
theorem dX4_sum_14 : decode cX4_sum 14 = .ok (.if_icmp .ge 18, 3) := by decide +kernel
theorem dX4_sum_17 : decode cX4_sum 17 = .ok (.fload_n 1, 1) := by decide +kernel
theorem dX4_sum_18 : decode cX4_sum 18 = .ok (.aload_n 0, 1) := by decide +kernel
theorem dX4_sum_19 : decode cX4_sum 19 = .ok (.getfield 7, 3) := by decide +kernel
theorem dX4_sum_22 : decode cX4_sum 22 = .ok (.iload_n 2, 1) := by decide +kernel
theorem dX4_sum_23 : decode cX4_sum 23 = .ok (.faload, 1) := by decide +kernel
theorem dX4_sum_24 : decode cX4_sum 24 = .ok (.fadd, 1) := by decide +kernel
theorem dX4_sum_25 : decode cX4_sum 25 = .ok (.fstore_n 1, 1) := by decide +kernel
theorem dX4_sum_26 : decode cX4_sum 26 = .ok (.iinc 2 1, 3) := by decide +kernel
theorem dX4_sum_29 : decode cX4_sum 29 = .ok (.goto (-20), 3) := by decide +kernel
theorem dX4_sum_32 : decode cX4_sum 32 = .ok (.fload_n 1, 1) := by decide +kernel
theorem dX4_sum_33 : decode cX4_sum 33 = .ok (.freturn, 1) := by decide +kernel
theorem dL_cell_0 : decode cL_cell 0 = .ok (.iload_n 1, 1) := by decide +kernel
theorem dL_cell_1 : decode cL_cell 1 = .ok (.aload_n 0, 1) := by decide +kernel
theorem dL_cell_2 : decode cL_cell 2 = .ok (.arraylength, 1) := by decide +kernel
theorem dL_cell_3 : decode cL_cell 3 = .ok (.if_icmp .ge 9, 3) := by decide +kernel
theorem dL_cell_6 : decode cL_cell 6 = .ok (.aload_n 0, 1) := by decide +kernel
theorem dL_cell_7 : decode cL_cell 7 = .ok (.iload_n 1, 1) := by decide +kernel
theorem dL_cell_8 : decode cL_cell 8 = .ok (.iaload, 1) := by decide +kernel
theorem dL_cell_9 : decode cL_cell 9 = .ok (.goto 4, 3) := by decide +kernel
theorem dL_cell_12 : decode cL_cell 12 = .ok (.iconst 0, 1) := by decide +kernel
theorem dL_cell_13 : decode cL_cell 13 = .ok (.ireturn, 1) := by decide +kernel
