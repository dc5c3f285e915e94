theorem dX1_dropBelow_23 : decode cX1_dropBelow 23 = .ok (.return_, 1) := by decide +kernel
set_option maxRecDepth 20000 in
theorem ggX1_dropFrom_X1_sizeBelow : GoodIn wsX1_dropFrom wsX1_sizeBelow := goodIn_r _ [6, 1, 7, 8, 9, 10, 11, 12] (by decide +kernel) (by decide +kernel)
set_option maxRecDepth 20000 in
theorem gX1_dropFrom_X1_sizeBelow : GoodIn wsX1_dropFrom (wsV RX1 29 RX1 yX1_sizeBelow wsX1_sizeBelow) := goodIn_app (goodIn_of _ (by decide +kernel)) ggX1_dropFrom_X1_sizeBelow
theorem dX1_dropFrom_0 : decode cX1_dropFrom 0 = .ok (.aload_n 0, 1) := by decide +kernel
theorem dX1_dropFrom_1 : decode cX1_dropFrom 1 = .ok (.getfield 25, 3) := by decide +kernel
theorem dX1_dropFrom_4 : decode cX1_dropFrom 4 = .ok (.istore_n 2, 1) := by decide +kernel
theorem dX1_dropFrom_5 : decode cX1_dropFrom 5 = .ok (.aload_n 0, 1) := by decide +kernel
theorem dX1_dropFrom_6 : decode cX1_dropFrom 6 = .ok (.aload_n 0, 1) := by decide +kernel
theorem dX1_dropFrom_7 : decode cX1_dropFrom 7 = .ok (.iload_n 1, 1) := by decide +kernel
theorem dX1_dropFrom_8 : decode cX1_dropFrom 8 = .ok (.i2l, 1) := by decide +kernel
theorem dX1_dropFrom_9 : decode cX1_dropFrom 9 = .ok (.invokevirtual 29, 3) := by decide +kernel
theorem dX1_dropFrom_12 : decode cX1_dropFrom 12 = .ok (.putfield 25, 3) := by decide +kernel
theorem dX1_dropFrom_15 : decode cX1_dropFrom 15 = .ok (.iload_n 2, 1) := by decide +kernel
theorem dX1_dropFrom_16 : decode cX1_dropFrom 16 = .ok (.aload_n 0, 1) := by decide +kernel
theorem dX1_dropFrom_17 : decode cX1_dropFrom 17 = .ok (.getfield 25, 3) := by decide +kernel
theorem dX1_dropFrom_20 : decode cX1_dropFrom 20 = .ok (.isub, 1) := by decide +kernel
theorem dX1_dropFrom_21 : decode cX1_dropFrom 21 = .ok (.ireturn, 1) := by decide +kernel
theorem dX1_moveRest_0 : decode cX1_moveRest 0 = .ok (.aload_n 0, 1) := by decide +kernel
theorem dX1_moveRest_1 : decode cX1_moveRest 1 = .ok (.getfield 25, 3) := by decide +kernel
theorem dX1_moveRest_4 : decode cX1_moveRest 4 = .ok (.iload_n 1, 1) := by decide +kernel
theorem dX1_moveRest_5 : decode cX1_moveRest 5 = .ok (.isub, 1) := by decide +kernel
theorem dX1_moveRest_6 : decode cX1_moveRest 6 = .ok (.istore_n 3, 1) := by decide +kernel
theorem dX1_moveRest_7 : decode cX1_moveRest 7 = .ok (.aload_n 0, 1) := by decide +kernel
theorem dX1_moveRest_8 : decode cX1_moveRest 8 = .ok (.getfield 9, 3) := by decide +kernel
theorem dX1_moveRest_11 : decode cX1_moveRest 11 = .ok (.iload_n 1, 1) := by decide +kernel
theorem dX1_moveRest_12 : decode cX1_moveRest 12 = .ok (.aload_n 0, 1) := by decide +kernel
theorem dX1_moveRest_13 : decode cX1_moveRest 13 = .ok (.getfield 9, 3) := by decide +kernel
theorem dX1_moveRest_16 : decode cX1_moveRest 16 = .ok (.iload_n 2, 1) := by decide +kernel
theorem dX1_moveRest_17 : decode cX1_moveRest 17 = .ok (.iload_n 3, 1) := by decide +kernel
theorem dX1_moveRest_18 : decode cX1_moveRest 18 = .ok (.invokestatic 37, 3) := by decide +kernel
theorem dX1_moveRest_21 : decode cX1_moveRest 21 = .ok (.aload_n 0, 1) := by decide +kernel
theorem dX1_moveRest_22 : decode cX1_moveRest 22 = .ok (.getfield 15, 3) := by decide +kernel
theorem dX1_moveRest_25 : decode cX1_moveRest 25 = .ok (.iload_n 1, 1) := by decide +kernel
theorem dX1_moveRest_26 : decode cX1_moveRest 26 = .ok (.aload_n 0, 1) := by decide +kernel
theorem dX1_moveRest_27 : decode cX1_moveRest 27 = .ok (.getfield 15, 3) := by decide +kernel
theorem dX1_moveRest_30 : decode cX1_moveRest 30 = .ok (.iload_n 2, 1) := by decide +kernel
theorem dX1_moveRest_31 : decode cX1_moveRest 31 = .ok (.iload_n 3, 1) := by decide +kernel
theorem dX1_moveRest_32 : decode cX1_moveRest 32 = .ok (.invokestatic 37, 3) := by decide +kernel
theorem dX1_moveRest_35 : decode cX1_moveRest 35 = .ok (.aload_n 0, 1) := by decide +kernel
theorem dX1_moveRest_36 : decode cX1_moveRest 36 = .ok (.getfield 18, 3) := by decide +kernel
theorem dX1_moveRest_39 : decode cX1_moveRest 39 = .ok (.iload_n 1, 1) := by decide +kernel
theorem dX1_moveRest_40 : decode cX1_moveRest 40 = .ok (.aload_n 0, 1) := by decide +kernel
theorem dX1_moveRest_41 : decode cX1_moveRest 41 = .ok (.getfield 18, 3) := by decide +kernel
theorem dX1_moveRest_44 : decode cX1_moveRest 44 = .ok (.iload_n 2, 1) := by decide +kernel
theorem dX1_moveRest_45 : decode cX1_moveRest 45 = .ok (.iload_n 3, 1) := by decide +kernel
theorem dX1_moveRest_46 : decode cX1_moveRest 46 = .ok (.invokestatic 37, 3) := by decide +kernel
theorem dX1_moveRest_49 : decode cX1_moveRest 49 = .ok (.aload_n 0, 1) := by decide +kernel
theorem dX1_moveRest_50 : decode cX1_moveRest 50 = .ok (.getfield 21, 3) := by decide +kernel
theorem dX1_moveRest_53 : decode cX1_moveRest 53 = .ok (.iload_n 1, 1) := by decide +kernel
theorem dX1_moveRest_54 : decode cX1_moveRest 54 = .ok (.aload_n 0, 1) := by decide +kernel
theorem dX1_moveRest_55 : decode cX1_moveRest 55 = .ok (.getfield 21, 3) := by decide +kernel
theorem dX1_moveRest_58 : decode cX1_moveRest 58 = .ok (.iload_n 2, 1) := by decide +kernel
theorem dX1_moveRest_59 : decode cX1_moveRest 59 = .ok (.iload_n 3, 1) := by decide +kernel
theorem dX1_moveRest_60 : decode cX1_moveRest 60 = .ok (.invokestatic 37, 3) := by decide +kernel
theorem dX1_moveRest_63 : decode cX1_moveRest 63 = .ok (.return_, 1) := by decide +kernel
set_option maxRecDepth 20000 in
theorem ggX1_putIn_X1_sizeBelow : GoodIn wsX1_putIn wsX1_sizeBelow := goodIn_r _ [8, 9, 10, 19, 20, 21, 22, 23] (by decide +kernel) (by decide +kernel)
set_option maxRecDepth 20000 in
theorem gX1_putIn_X1_sizeBelow : GoodIn wsX1_putIn (wsV RX1 29 RX1 yX1_sizeBelow wsX1_sizeBelow) := goodIn_app (goodIn_of _ (by decide +kernel)) ggX1_putIn_X1_sizeBelow
set_option maxRecDepth 20000 in
theorem ggX1_putIn_X1_changed : GoodIn wsX1_putIn wsX1_changed := goodIn_r _ [13] (by decide +kernel) (by decide +kernel)
set_option maxRecDepth 20000 in
theorem gX1_putIn_X1_changed : GoodIn wsX1_putIn (va_wsS RX1 43 yX1_changed wsX1_changed) := goodIn_app (goodIn_of _ (by decide +kernel)) ggX1_putIn_X1_changed
set_option maxRecDepth 20000 in
theorem ggX1_putIn_X3_held : GoodIn wsX1_putIn wsX3_held := goodIn_r _ [16, 17, 18] (by decide +kernel) (by decide +kernel)
set_option maxRecDepth 20000 in
theorem gX1_putIn_X3_held_n47 : GoodIn wsX1_putIn (wsX3_held) := ggX1_putIn_X3_held
theorem dX1_putIn_0 : decode cX1_putIn 0 = .ok (.aload_n 0, 1) := by decide +kernel
theorem dX1_putIn_1 : decode cX1_putIn 1 = .ok (.iload_n 1, 1) := by decide +kernel
theorem dX1_putIn_2 : decode cX1_putIn 2 = .ok (.i2l, 1) := by decide +kernel
theorem dX1_putIn_3 : decode cX1_putIn 3 = .ok (.lconst 1, 1) := by decide +kernel
theorem dX1_putIn_4 : decode cX1_putIn 4 = .ok (.ladd, 1) := by decide +kernel
theorem dX1_putIn_5 : decode cX1_putIn 5 = .ok (.invokevirtual 29, 3) := by decide +kernel
theorem dX1_putIn_8 : decode cX1_putIn 8 = .ok (.istore_n 3, 1) := by decide +kernel
theorem dX1_putIn_9 : decode cX1_putIn 9 = .ok (.aload_n 0, 1) := by decide +kernel
theorem dX1_putIn_10 : decode cX1_putIn 10 = .ok (.iload_n 1, 1) := by decide +kernel
theorem dX1_putIn_11 : decode cX1_putIn 11 = .ok (.i2l, 1) := by decide +kernel
theorem dX1_putIn_12 : decode cX1_putIn 12 = .ok (.invokevirtual 29, 3) := by decide +kernel
theorem dX1_putIn_15 : decode cX1_putIn 15 = .ok (.istore 4, 2) := by decide +kernel
theorem dX1_putIn_17 : decode cX1_putIn 17 = .ok (.iload 4, 2) := by decide +kernel
theorem dX1_putIn_19 : decode cX1_putIn 19 = .ok (.iload_n 3, 1) := by decide +kernel
theorem dX1_putIn_20 : decode cX1_putIn 20 = .ok (.if_icmp .ge 46, 3) := by decide +kernel
theorem dX1_putIn_23 : decode cX1_putIn 23 = .ok (.aload_n 0, 1) := by decide +kernel
theorem dX1_putIn_24 : decode cX1_putIn 24 = .ok (.getfield 15, 3) := by decide +kernel
theorem dX1_putIn_27 : decode cX1_putIn 27 = .ok (.iload 4, 2) := by decide +kernel
theorem dX1_putIn_29 : decode cX1_putIn 29 = .ok (.iaload, 1) := by decide +kernel
theorem dX1_putIn_30 : decode cX1_putIn 30 = .ok (.istore 5, 2) := by decide +kernel
theorem dX1_putIn_32 : decode cX1_putIn 32 = .ok (.aload_n 2, 1) := by decide +kernel
theorem dX1_putIn_33 : decode cX1_putIn 33 = .ok (.iload 5, 2) := by decide +kernel
theorem dX1_putIn_35 : decode cX1_putIn 35 = .ok (.aload_n 2, 1) := by decide +kernel
theorem dX1_putIn_36 : decode cX1_putIn 36 = .ok (.iload 5, 2) := by decide +kernel
theorem dX1_putIn_38 : decode cX1_putIn 38 = .ok (.faload, 1) := by decide +kernel
theorem dX1_putIn_39 : decode cX1_putIn 39 = .ok (.aload_n 0, 1) := by decide +kernel
theorem dX1_putIn_40 : decode cX1_putIn 40 = .ok (.getfield 18, 3) := by decide +kernel
theorem dX1_putIn_43 : decode cX1_putIn 43 = .ok (.iload 4, 2) := by decide +kernel
theorem dX1_putIn_45 : decode cX1_putIn 45 = .ok (.iaload, 1) := by decide +kernel
theorem dX1_putIn_46 : decode cX1_putIn 46 = .ok (.aload_n 0, 1) := by decide +kernel
theorem dX1_putIn_47 : decode cX1_putIn 47 = .ok (.getfield 21, 3) := by decide +kernel
theorem dX1_putIn_50 : decode cX1_putIn 50 = .ok (.iload 4, 2) := by decide +kernel
theorem dX1_putIn_52 : decode cX1_putIn 52 = .ok (.faload, 1) := by decide +kernel
theorem dX1_putIn_53 : decode cX1_putIn 53 = .ok (.invokestatic 43, 3) := by decide +kernel
theorem dX1_putIn_56 : decode cX1_putIn 56 = .ok (.invokestatic 47, 3) := by decide +kernel
theorem dX1_putIn_59 : decode cX1_putIn 59 = .ok (.fastore, 1) := by decide +kernel
theorem dX1_putIn_60 : decode cX1_putIn 60 = .ok (.iinc 4 1, 3) := by decide +kernel
theorem dX1_putIn_63 : decode cX1_putIn 63 = .ok (.goto (-46), 3) := by decide +kernel
theorem dX1_putIn_66 : decode cX1_putIn 66 = .ok (.return_, 1) := by decide +kernel
theorem dX1_changed_0 : decode cX1_changed 0 = .ok (.iload_n 1, 1) := by decide +kernel
theorem dX1_changed_1 : decode cX1_changed 1 = .ok (.lookupswitch 33 #[(0, 27), (1, 29)], 27) := by decide +kernel
theorem dX1_changed_28 : decode cX1_changed 28 = .ok (.fload_n 2, 1) := by decide +kernel
theorem dX1_changed_29 : decode cX1_changed 29 = .ok (.freturn, 1) := by decide +kernel
theorem dX1_changed_30 : decode cX1_changed 30 = .ok (.fload_n 0, 1) := by decide +kernel
theorem dX1_changed_31 : decode cX1_changed 31 = .ok (.fload_n 2, 1) := by decide +kernel
theorem dX1_changed_32 : decode cX1_changed 32 = .ok (.fadd, 1) := by decide +kernel
theorem dX1_changed_33 : decode cX1_changed 33 = .ok (.freturn, 1) := by decide +kernel
theorem dX1_changed_34 : decode cX1_changed 34 = .ok (.fload_n 0, 1) := by decide +kernel
theorem dX1_changed_35 : decode cX1_changed 35 = .ok (.fload_n 2, 1) := by decide +kernel
theorem dX1_changed_36 : decode cX1_changed 36 = .ok (.fmul, 1) := by decide +kernel
theorem dX1_changed_37 : decode cX1_changed 37 = .ok (.freturn, 1) := by decide +kernel
theorem dX2_init_0 : decode cX2_init 0 = .ok (.aload_n 0, 1) := by decide +kernel
theorem dX2_init_1 : decode cX2_init 1 = .ok (.invokespecial 3, 3) := by decide +kernel
theorem dX2_init_4 : decode cX2_init 4 = .ok (.aload_n 0, 1) := by decide +kernel
theorem dX2_init_5 : decode cX2_init 5 = .ok (.bipush 16, 2) := by decide +kernel
theorem dX2_init_7 : decode cX2_init 7 = .ok (.newarray .int, 2) := by decide +kernel
theorem dX2_init_9 : decode cX2_init 9 = .ok (.putfield 9, 3) := by decide +kernel
theorem dX2_init_12 : decode cX2_init 12 = .ok (.aload_n 0, 1) := by decide +kernel
theorem dX2_init_13 : decode cX2_init 13 = .ok (.bipush 16, 2) := by decide +kernel
theorem dX2_init_15 : decode cX2_init 15 = .ok (.iload_n 1, 1) := by decide +kernel
theorem dX2_init_16 : decode cX2_init 16 = .ok (.multianewarray 15 2, 4) := by decide +kernel
theorem dX2_init_20 : decode cX2_init 20 = .ok (.putfield 17, 3) := by decide +kernel
theorem dX2_init_23 : decode cX2_init 23 = .ok (.aload_n 0, 1) := by decide +kernel
theorem dX2_init_24 : decode cX2_init 24 = .ok (.iconst 1, 1) := by decide +kernel
theorem dX2_init_25 : decode cX2_init 25 = .ok (.putfield 20, 3) := by decide +kernel
theorem dX2_init_28 : decode cX2_init 28 = .ok (.return_, 1) := by decide +kernel
theorem dX2_slot_0 : decode cX2_slot 0 = .ok (.aload_n 0, 1) := by decide +kernel
theorem dX2_slot_1 : decode cX2_slot 1 = .ok (.getfield 24, 3) := by decide +kernel
theorem dX2_slot_4 : decode cX2_slot 4 = .ok (.iload_n 1, 1) := by decide +kernel
theorem dX2_slot_5 : decode cX2_slot 5 = .ok (.iadd, 1) := by decide +kernel
theorem dX2_slot_6 : decode cX2_slot 6 = .ok (.bipush 16, 2) := by decide +kernel
theorem dX2_slot_8 : decode cX2_slot 8 = .ok (.irem, 1) := by decide +kernel
theorem dX2_slot_9 : decode cX2_slot 9 = .ok (.ireturn, 1) := by decide +kernel
set_option maxRecDepth 20000 in
theorem ggX2_stepOf_X2_slot : GoodIn wsX2_stepOf wsX2_slot := goodIn_r _ [6, 7, 8, 9, 10, 11] (by decide +kernel) (by decide +kernel)
set_option maxRecDepth 20000 in
theorem gX2_stepOf_X2_slot : GoodIn wsX2_stepOf (wsV RX2 27 RX2 yX2_slot wsX2_slot) := goodIn_app (goodIn_of _ (by decide +kernel)) ggX2_stepOf_X2_slot
theorem dX2_stepOf_0 : decode cX2_stepOf 0 = .ok (.aload_n 0, 1) := by decide +kernel
theorem dX2_stepOf_1 : decode cX2_stepOf 1 = .ok (.getfield 9, 3) := by decide +kernel
theorem dX2_stepOf_4 : decode cX2_stepOf 4 = .ok (.aload_n 0, 1) := by decide +kernel
theorem dX2_stepOf_5 : decode cX2_stepOf 5 = .ok (.iload_n 1, 1) := by decide +kernel
theorem dX2_stepOf_6 : decode cX2_stepOf 6 = .ok (.invokevirtual 27, 3) := by decide +kernel
theorem dX2_stepOf_9 : decode cX2_stepOf 9 = .ok (.iaload, 1) := by decide +kernel
theorem dX2_stepOf_10 : decode cX2_stepOf 10 = .ok (.ireturn, 1) := by decide +kernel
set_option maxRecDepth 20000 in
theorem ggX2_row_X2_slot : GoodIn wsX2_row wsX2_slot := goodIn_r _ [6, 7, 8, 9, 10, 11] (by decide +kernel) (by decide +kernel)
set_option maxRecDepth 20000 in
theorem gX2_row_X2_slot : GoodIn wsX2_row (wsV RX2 27 RX2 yX2_slot wsX2_slot) := goodIn_app (goodIn_of _ (by decide +kernel)) ggX2_row_X2_slot
theorem dX2_row_0 : decode cX2_row 0 = .ok (.aload_n 0, 1) := by decide +kernel
theorem dX2_row_1 : decode cX2_row 1 = .ok (.getfield 17, 3) := by decide +kernel
theorem dX2_row_4 : decode cX2_row 4 = .ok (.aload_n 0, 1) := by decide +kernel
theorem dX2_row_5 : decode cX2_row 5 = .ok (.iload_n 1, 1) := by decide +kernel
theorem dX2_row_6 : decode cX2_row 6 = .ok (.invokevirtual 27, 3) := by decide +kernel
theorem dX2_row_9 : decode cX2_row 9 = .ok (.aaload, 1) := by decide +kernel
theorem dX2_row_10 : decode cX2_row 10 = .ok (.areturn, 1) := by decide +kernel
set_option maxRecDepth 20000 in
theorem ggX2_find_X2_highestNotAbove : GoodIn wsX2_find wsX2_highestNotAbove := goodIn_r _ [5, 6, 7, 8, 9, 4, 10, 11, 12, 13, 14, 15, 16, 17, 18, 19, 20] (by decide +kernel) (by decide +kernel)
set_option maxRecDepth 20000 in
theorem gX2_find_X2_highestNotAbove : GoodIn wsX2_find (wsV RX2 31 RX2 yX2_highestNotAbove wsX2_highestNotAbove) := goodIn_app (goodIn_of _ (by decide +kernel)) ggX2_find_X2_highestNotAbove
set_option maxRecDepth 20000 in
theorem ggX2_find_X2_stepOf : GoodIn wsX2_find wsX2_stepOf := goodIn_r _ [10, 11, 12, 13, 14, 4, 15, 16, 17, 18, 19, 20] (by decide +kernel) (by decide +kernel)
set_option maxRecDepth 20000 in
theorem gX2_find_X2_stepOf : GoodIn wsX2_find (wsV RX2 34 RX2 yX2_stepOf wsX2_stepOf) := goodIn_app (goodIn_of _ (by decide +kernel)) ggX2_find_X2_stepOf
theorem dX2_find_0 : decode cX2_find 0 = .ok (.aload_n 0, 1) := by decide +kernel
theorem dX2_find_1 : decode cX2_find 1 = .ok (.iload_n 1, 1) := by decide +kernel
theorem dX2_find_2 : decode cX2_find 2 = .ok (.invokevirtual 31, 3) := by decide +kernel
theorem dX2_find_5 : decode cX2_find 5 = .ok (.istore_n 2, 1) := by decide +kernel
theorem dX2_find_6 : decode cX2_find 6 = .ok (.iload_n 2, 1) := by decide +kernel
theorem dX2_find_7 : decode cX2_find 7 = .ok (.iconst (-1), 1) := by decide +kernel
theorem dX2_find_8 : decode cX2_find 8 = .ok (.if_icmp .eq 16, 3) := by decide +kernel
theorem dX2_find_11 : decode cX2_find 11 = .ok (.aload_n 0, 1) := by decide +kernel
theorem dX2_find_12 : decode cX2_find 12 = .ok (.iload_n 2, 1) := by decide +kernel
theorem dX2_find_13 : decode cX2_find 13 = .ok (.invokevirtual 34, 3) := by decide +kernel
theorem dX2_find_16 : decode cX2_find 16 = .ok (.iload_n 1, 1) := by decide +kernel
theorem dX2_find_17 : decode cX2_find 17 = .ok (.if_icmp .ne 7, 3) := by decide +kernel
theorem dX2_find_20 : decode cX2_find 20 = .ok (.iload_n 2, 1) := by decide +kernel
theorem dX2_find_21 : decode cX2_find 21 = .ok (.goto 4, 3) := by decide +kernel
theorem dX2_find_24 : decode cX2_find 24 = .ok (.iconst (-1), 1) := by decide +kernel
theorem dX2_find_25 : decode cX2_find 25 = .ok (.ireturn, 1) := by decide +kernel
set_option maxRecDepth 20000 in
theorem ggX2_highestNotAbove_X2_stepOf : GoodIn wsX2_highestNotAbove wsX2_stepOf := goodIn_r _ [6, 7, 8, 9, 10, 5, 11, 12, 13, 14, 15, 16] (by decide +kernel) (by decide +kernel)
set_option maxRecDepth 20000 in
theorem gX2_highestNotAbove_X2_stepOf : GoodIn wsX2_highestNotAbove (wsV RX2 34 RX2 yX2_stepOf wsX2_stepOf) := goodIn_app (goodIn_of _ (by decide +kernel)) ggX2_highestNotAbove_X2_stepOf
theorem dX2_highestNotAbove_0 : decode cX2_highestNotAbove 0 = .ok (.aload_n 0, 1) := by decide +kernel
theorem dX2_highestNotAbove_1 : decode cX2_highestNotAbove 1 = .ok (.getfield 20, 3) := by decide +kernel
theorem dX2_highestNotAbove_4 : decode cX2_highestNotAbove 4 = .ok (.iconst 1, 1) := by decide +kernel
theorem dX2_highestNotAbove_5 : decode cX2_highestNotAbove 5 = .ok (.isub, 1) := by decide +kernel
theorem dX2_highestNotAbove_6 : decode cX2_highestNotAbove 6 = .ok (.istore_n 2, 1) := by decide +kernel
theorem dX2_highestNotAbove_7 : decode cX2_highestNotAbove 7 = .ok (.iload_n 2, 1) := by decide +kernel
theorem dX2_highestNotAbove_8 : decode cX2_highestNotAbove 8 = .ok (.ifCond .lt 20, 3) := by decide +kernel
theorem dX2_highestNotAbove_11 : decode cX2_highestNotAbove 11 = .ok (.aload_n 0, 1) := by decide +kernel
theorem dX2_highestNotAbove_12 : decode cX2_highestNotAbove 12 = .ok (.iload_n 2, 1) := by decide +kernel
theorem dX2_highestNotAbove_13 : decode cX2_highestNotAbove 13 = .ok (.invokevirtual 34, 3) := by decide +kernel
theorem dX2_highestNotAbove_16 : decode cX2_highestNotAbove 16 = .ok (.iload_n 1, 1) := by decide +kernel
theorem dX2_highestNotAbove_17 : decode cX2_highestNotAbove 17 = .ok (.if_icmp .gt 5, 3) := by decide +kernel
theorem dX2_highestNotAbove_20 : decode cX2_highestNotAbove 20 = .ok (.iload_n 2, 1) := by decide +kernel
theorem dX2_highestNotAbove_21 : decode cX2_highestNotAbove 21 = .ok (.ireturn, 1) := by decide +kernel
theorem dX2_highestNotAbove_22 : decode cX2_highestNotAbove 22 = .ok (.iinc 2 (-1), 3) := by decide +kernel
theorem dX2_highestNotAbove_25 : decode cX2_highestNotAbove 25 = .ok (.goto (-18), 3) := by decide +kernel
theorem dX2_highestNotAbove_28 : decode cX2_highestNotAbove 28 = .ok (.iconst (-1), 1) := by decide +kernel
theorem dX2_highestNotAbove_29 : decode cX2_highestNotAbove 29 = .ok (.ireturn, 1) := by decide +kernel
set_option maxRecDepth 20000 in
theorem ggX2_take_X2_stepOf : GoodIn wsX2_take wsX2_stepOf := goodIn_r _ [13, 3, 14, 15, 16, 12, 17, 2, 18, 19, 20, 21] (by decide +kernel) (by decide +kernel)
set_option maxRecDepth 20000 in
theorem gX2_take_X2_stepOf : GoodIn wsX2_take (wsV RX2 34 RX2 yX2_stepOf wsX2_stepOf) := goodIn_app (goodIn_of _ (by decide +kernel)) ggX2_take_X2_stepOf
set_option maxRecDepth 20000 in
theorem ggX2_take_X2_slot : GoodIn wsX2_take wsX2_slot := goodIn_r _ [17, 2, 18, 19, 20, 21] (by decide +kernel) (by decide +kernel)
set_option maxRecDepth 20000 in
theorem gX2_take_X2_slot : GoodIn wsX2_take (wsV RX2 27 RX2 yX2_slot wsX2_slot) := goodIn_app (goodIn_of _ (by decide +kernel)) ggX2_take_X2_slot
theorem dX2_take_0 : decode cX2_take 0 = .ok (.aload_n 0, 1) := by decide +kernel
theorem dX2_take_1 : decode cX2_take 1 = .ok (.getfield 20, 3) := by decide +kernel
theorem dX2_take_4 : decode cX2_take 4 = .ok (.ifCond .eq 17, 3) := by decide +kernel
theorem dX2_take_7 : decode cX2_take 7 = .ok (.aload_n 0, 1) := by decide +kernel
theorem dX2_take_8 : decode cX2_take 8 = .ok (.aload_n 0, 1) := by decide +kernel
theorem dX2_take_9 : decode cX2_take 9 = .ok (.getfield 20, 3) := by decide +kernel
theorem dX2_take_12 : decode cX2_take 12 = .ok (.iconst 1, 1) := by decide +kernel
theorem dX2_take_13 : decode cX2_take 13 = .ok (.isub, 1) := by decide +kernel
theorem dX2_take_14 : decode cX2_take 14 = .ok (.invokevirtual 34, 3) := by decide +kernel
theorem dX2_take_17 : decode cX2_take 17 = .ok (.iload_n 1, 1) := by decide +kernel
theorem dX2_take_18 : decode cX2_take 18 = .ok (.if_icmp .eq 7, 3) := by decide +kernel
theorem dX2_take_21 : decode cX2_take 21 = .ok (.iconst 1, 1) := by decide +kernel
theorem dX2_take_22 : decode cX2_take 22 = .ok (.goto 4, 3) := by decide +kernel
theorem dX2_take_25 : decode cX2_take 25 = .ok (.iconst 0, 1) := by decide +kernel
theorem dX2_take_26 : decode cX2_take 26 = .ok (.istore_n 3, 1) := by decide +kernel
theorem dX2_take_27 : decode cX2_take 27 = .ok (.iload_n 3, 1) := by decide +kernel
theorem dX2_take_28 : decode cX2_take 28 = .ok (.ifCond .eq 16, 3) := by decide +kernel
theorem dX2_take_31 : decode cX2_take 31 = .ok (.aload_n 0, 1) := by decide +kernel
theorem dX2_take_32 : decode cX2_take 32 = .ok (.getfield 20, 3) := by decide +kernel
theorem dX2_take_35 : decode cX2_take 35 = .ok (.bipush 16, 2) := by decide +kernel
theorem dX2_take_37 : decode cX2_take 37 = .ok (.if_icmp .ne 7, 3) := by decide +kernel
theorem dX2_take_40 : decode cX2_take 40 = .ok (.iconst 1, 1) := by decide +kernel
theorem dX2_take_41 : decode cX2_take 41 = .ok (.goto 4, 3) := by decide +kernel
theorem dX2_take_44 : decode cX2_take 44 = .ok (.iconst 0, 1) := by decide +kernel
theorem dX2_take_45 : decode cX2_take 45 = .ok (.istore 4, 2) := by decide +kernel
theorem dX2_take_47 : decode cX2_take 47 = .ok (.iload 4, 2) := by decide +kernel
theorem dX2_take_49 : decode cX2_take 49 = .ok (.ifCond .eq 22, 3) := by decide +kernel
theorem dX2_take_52 : decode cX2_take 52 = .ok (.aload_n 0, 1) := by decide +kernel
theorem dX2_take_53 : decode cX2_take 53 = .ok (.aload_n 0, 1) := by decide +kernel
theorem dX2_take_54 : decode cX2_take 54 = .ok (.iconst 1, 1) := by decide +kernel
theorem dX2_take_55 : decode cX2_take 55 = .ok (.invokevirtual 27, 3) := by decide +kernel
theorem dX2_take_58 : decode cX2_take 58 = .ok (.putfield 24, 3) := by decide +kernel
theorem dX2_take_61 : decode cX2_take 61 = .ok (.aload_n 0, 1) := by decide +kernel
theorem dX2_take_62 : decode cX2_take 62 = .ok (.dup, 1) := by decide +kernel
theorem dX2_take_63 : decode cX2_take 63 = .ok (.getfield 20, 3) := by decide +kernel
theorem dX2_take_66 : decode cX2_take 66 = .ok (.iconst 1, 1) := by decide +kernel
theorem dX2_take_67 : decode cX2_take 67 = .ok (.isub, 1) := by decide +kernel
theorem dX2_take_68 : decode cX2_take 68 = .ok (.putfield 20, 3) := by decide +kernel
theorem dX2_take_71 : decode cX2_take 71 = .ok (.iload_n 3, 1) := by decide +kernel
theorem dX2_take_72 : decode cX2_take 72 = .ok (.ifCond .eq 13, 3) := by decide +kernel
theorem dX2_take_75 : decode cX2_take 75 = .ok (.aload_n 0, 1) := by decide +kernel
theorem dX2_take_76 : decode cX2_take 76 = .ok (.dup, 1) := by decide +kernel
theorem dX2_take_77 : decode cX2_take 77 = .ok (.getfield 20, 3) := by decide +kernel
theorem dX2_take_80 : decode cX2_take 80 = .ok (.iconst 1, 1) := by decide +kernel
theorem dX2_take_81 : decode cX2_take 81 = .ok (.iadd, 1) := by decide +kernel
theorem dX2_take_82 : decode cX2_take 82 = .ok (.putfield 20, 3) := by decide +kernel
theorem dX2_take_85 : decode cX2_take 85 = .ok (.aload_n 0, 1) := by decide +kernel
theorem dX2_take_86 : decode cX2_take 86 = .ok (.aload_n 0, 1) := by decide +kernel
theorem dX2_take_87 : decode cX2_take 87 = .ok (.getfield 20, 3) := by decide +kernel
theorem dX2_take_90 : decode cX2_take 90 = .ok (.iconst 1, 1) := by decide +kernel
theorem dX2_take_91 : decode cX2_take 91 = .ok (.isub, 1) := by decide +kernel
theorem dX2_take_92 : decode cX2_take 92 = .ok (.invokevirtual 27, 3) := by decide +kernel
theorem dX2_take_95 : decode cX2_take 95 = .ok (.istore 5, 2) := by decide +kernel
theorem dX2_take_97 : decode cX2_take 97 = .ok (.aload_n 0, 1) := by decide +kernel
theorem dX2_take_98 : decode cX2_take 98 = .ok (.getfield 9, 3) := by decide +kernel
theorem dX2_take_101 : decode cX2_take 101 = .ok (.iload 5, 2) := by decide +kernel
theorem dX2_take_103 : decode cX2_take 103 = .ok (.iload_n 1, 1) := by decide +kernel
theorem dX2_take_104 : decode cX2_take 104 = .ok (.iastore, 1) := by decide +kernel
theorem dX2_take_105 : decode cX2_take 105 = .ok (.aload_n 2, 1) := by decide +kernel
theorem dX2_take_106 : decode cX2_take 106 = .ok (.iconst 0, 1) := by decide +kernel
theorem dX2_take_107 : decode cX2_take 107 = .ok (.aload_n 0, 1) := by decide +kernel
theorem dX2_take_108 : decode cX2_take 108 = .ok (.getfield 17, 3) := by decide +kernel
theorem dX2_take_111 : decode cX2_take 111 = .ok (.iload 5, 2) := by decide +kernel
theorem dX2_take_113 : decode cX2_take 113 = .ok (.aaload, 1) := by decide +kernel
theorem dX2_take_114 : decode cX2_take 114 = .ok (.iconst 0, 1) := by decide +kernel
theorem dX2_take_115 : decode cX2_take 115 = .ok (.aload_n 2, 1) := by decide +kernel
theorem dX2_take_116 : decode cX2_take 116 = .ok (.arraylength, 1) := by decide +kernel
theorem dX2_take_117 : decode cX2_take 117 = .ok (.invokestatic 37, 3) := by decide +kernel
theorem dX2_take_120 : decode cX2_take 120 = .ok (.iload 4, 2) := by decide +kernel
theorem dX2_take_122 : decode cX2_take 122 = .ok (.ireturn, 1) := by decide +kernel
theorem dX2_dropBehind_0 : decode cX2_dropBehind 0 = .ok (.aload_n 0, 1) := by decide +kernel
theorem dX2_dropBehind_1 : decode cX2_dropBehind 1 = .ok (.getfield 20, 3) := by decide +kernel
theorem dX2_dropBehind_4 : decode cX2_dropBehind 4 = .ok (.iconst 1, 1) := by decide +kernel
theorem dX2_dropBehind_5 : decode cX2_dropBehind 5 = .ok (.isub, 1) := by decide +kernel
theorem dX2_dropBehind_6 : decode cX2_dropBehind 6 = .ok (.iload_n 1, 1) := by decide +kernel
theorem dX2_dropBehind_7 : decode cX2_dropBehind 7 = .ok (.isub, 1) := by decide +kernel
theorem dX2_dropBehind_8 : decode cX2_dropBehind 8 = .ok (.istore_n 2, 1) := by decide +kernel
theorem dX2_dropBehind_9 : decode cX2_dropBehind 9 = .ok (.aload_n 0, 1) := by decide +kernel
theorem dX2_dropBehind_10 : decode cX2_dropBehind 10 = .ok (.iload_n 1, 1) := by decide +kernel
theorem dX2_dropBehind_11 : decode cX2_dropBehind 11 = .ok (.iconst 1, 1) := by decide +kernel
theorem dX2_dropBehind_12 : decode cX2_dropBehind 12 = .ok (.iadd, 1) := by decide +kernel
theorem dX2_dropBehind_13 : decode cX2_dropBehind 13 = .ok (.putfield 20, 3) := by decide +kernel
theorem dX2_dropBehind_16 : decode cX2_dropBehind 16 = .ok (.iload_n 2, 1) := by decide +kernel
theorem dX2_dropBehind_17 : decode cX2_dropBehind 17 = .ok (.ireturn, 1) := by decide +kernel
set_option maxRecDepth 20000 in
theorem ggX3_init_X0_init : GoodIn wsX3_init wsX0_init := goodIn_r _ [19, 20, 2, 3, 21, 22, 23, 4, 24, 46, 47, 48, 49] (by decide +kernel) (by decide +kernel)
set_option maxRecDepth 20000 in
theorem gX3_init_X0_init_n15 : GoodIn wsX3_init (wsX0_init) := ggX3_init_X0_init
set_option maxRecDepth 20000 in
theorem ggX3_init_X1_init : GoodIn wsX3_init wsX1_init := goodIn_r _ [26, 27, 2, 3, 21, 28, 29, 30, 4, 31, 50, 51, 52, 53, 54] (by decide +kernel) (by decide +kernel)
set_option maxRecDepth 20000 in
theorem gX3_init_X1_init_n22 : GoodIn wsX3_init (wsX1_init) := ggX3_init_X1_init
set_option maxRecDepth 20000 in
theorem ggX3_init_X2_init : GoodIn wsX3_init wsX2_init := goodIn_r _ [33, 34, 2, 3, 21, 35, 36, 4, 37, 38, 55, 56, 57, 58] (by decide +kernel) (by decide +kernel)
set_option maxRecDepth 20000 in
theorem gX3_init_X2_init_n29 : GoodIn wsX3_init (wsX2_init) := ggX3_init_X2_init
theorem dX3_init_0 : decode cX3_init 0 = .ok (.aload_n 0, 1) := by decide +kernel
theorem dX3_init_1 : decode cX3_init 1 = .ok (.invokespecial 1, 3) := by decide +kernel
theorem dX3_init_4 : decode cX3_init 4 = .ok (.iload_n 1, 1) := by decide +kernel
theorem dX3_init_5 : decode cX3_init 5 = .ok (.iconst 1, 1) := by decide +kernel
theorem dX3_init_6 : decode cX3_init 6 = .ok (.if_icmp .lt 14, 3) := by decide +kernel
theorem dX3_init_9 : decode cX3_init 9 = .ok (.iload_n 1, 1) := by decide +kernel
theorem dX3_init_10 : decode cX3_init 10 = .ok (.sipush 256, 3) := by decide +kernel
theorem dX3_init_13 : decode cX3_init 13 = .ok (.if_icmp .gt 7, 3) := by decide +kernel
theorem dX3_init_16 : decode cX3_init 16 = .ok (.iload_n 1, 1) := by decide +kernel
theorem dX3_init_17 : decode cX3_init 17 = .ok (.goto 5, 3) := by decide +kernel
theorem dX3_init_20 : decode cX3_init 20 = .ok (.bipush 64, 2) := by decide +kernel
theorem dX3_init_22 : decode cX3_init 22 = .ok (.istore_n 2, 1) := by decide +kernel
theorem dX3_init_23 : decode cX3_init 23 = .ok (.aload_n 0, 1) := by decide +kernel
theorem dX3_init_24 : decode cX3_init 24 = .ok (.iload_n 2, 1) := by decide +kernel
theorem dX3_init_25 : decode cX3_init 25 = .ok (.newarray .float, 2) := by decide +kernel
theorem dX3_init_27 : decode cX3_init 27 = .ok (.putfield 9, 3) := by decide +kernel
theorem dX3_init_30 : decode cX3_init 30 = .ok (.aload_n 0, 1) := by decide +kernel
theorem dX3_init_31 : decode cX3_init 31 = .ok (.new 13, 3) := by decide +kernel
theorem dX3_init_34 : decode cX3_init 34 = .ok (.dup, 1) := by decide +kernel
theorem dX3_init_35 : decode cX3_init 35 = .ok (.invokespecial 15, 3) := by decide +kernel
theorem dX3_init_38 : decode cX3_init 38 = .ok (.putfield 16, 3) := by decide +kernel
theorem dX3_init_41 : decode cX3_init 41 = .ok (.aload_n 0, 1) := by decide +kernel
theorem dX3_init_42 : decode cX3_init 42 = .ok (.new 20, 3) := by decide +kernel
theorem dX3_init_45 : decode cX3_init 45 = .ok (.dup, 1) := by decide +kernel
theorem dX3_init_46 : decode cX3_init 46 = .ok (.invokespecial 22, 3) := by decide +kernel
theorem dX3_init_49 : decode cX3_init 49 = .ok (.putfield 23, 3) := by decide +kernel
theorem dX3_init_52 : decode cX3_init 52 = .ok (.aload_n 0, 1) := by decide +kernel
theorem dX3_init_53 : decode cX3_init 53 = .ok (.new 27, 3) := by decide +kernel
theorem dX3_init_56 : decode cX3_init 56 = .ok (.dup, 1) := by decide +kernel
theorem dX3_init_57 : decode cX3_init 57 = .ok (.iload_n 2, 1) := by decide +kernel
theorem dX3_init_58 : decode cX3_init 58 = .ok (.invokespecial 29, 3) := by decide +kernel
theorem dX3_init_61 : decode cX3_init 61 = .ok (.putfield 32, 3) := by decide +kernel
theorem dX3_init_64 : decode cX3_init 64 = .ok (.return_, 1) := by decide +kernel
set_option maxRecDepth 20000 in
theorem ggX3_drift_X3_needCell : GoodIn wsX3_drift wsX3_needCell := goodIn_ca (goodIn_r _ [14, 15, 16, 17, 26, 27, 28, 29, 30, 31, 32] (by decide +kernel) (by decide +kernel)) (goodIn_sub (fun _ h => List.mem_cons_of_mem _ (List.mem_append_right _ h)) (by decide +kernel))
set_option maxRecDepth 20000 in
theorem gX3_drift_X3_needCell : GoodIn wsX3_drift (wsV RX3 36 RX3 yX3_needCell wsX3_needCell) := goodIn_app (goodIn_of _ (by decide +kernel)) ggX3_drift_X3_needCell
set_option maxRecDepth 20000 in
theorem ggX3_drift_X0_append : GoodIn wsX3_drift wsX0_append := goodIn_r _ [21, 22, 23, 24, 25, 33, 34, 35, 36] (by decide +kernel) (by decide +kernel)
set_option maxRecDepth 20000 in
theorem gX3_drift_X0_append_n63 : GoodIn wsX3_drift (wsX0_append) := ggX3_drift_X0_append
theorem dX3_drift_0 : decode cX3_drift 0 = .ok (.aload_n 0, 1) := by decide +kernel
theorem dX3_drift_1 : decode cX3_drift 1 = .ok (.iload_n 1, 1) := by decide +kernel
theorem dX3_drift_2 : decode cX3_drift 2 = .ok (.invokevirtual 36, 3) := by decide +kernel
theorem dX3_drift_5 : decode cX3_drift 5 = .ok (.aload_n 0, 1) := by decide +kernel
theorem dX3_drift_6 : decode cX3_drift 6 = .ok (.iload_n 2, 1) := by decide +kernel
theorem dX3_drift_7 : decode cX3_drift 7 = .ok (.invokevirtual 36, 3) := by decide +kernel
theorem dX3_drift_10 : decode cX3_drift 10 = .ok (.fload_n 3, 1) := by decide +kernel
theorem dX3_drift_11 : decode cX3_drift 11 = .ok (.ldc 39, 2) := by decide +kernel
theorem dX3_drift_13 : decode cX3_drift 13 = .ok (.fcmp .l, 1) := by decide +kernel
theorem dX3_drift_14 : decode cX3_drift 14 = .ok (.ifCond .lt 10, 3) := by decide +kernel
theorem dX3_drift_17 : decode cX3_drift 17 = .ok (.fload_n 3, 1) := by decide +kernel
theorem dX3_drift_18 : decode cX3_drift 18 = .ok (.ldc 40, 2) := by decide +kernel
theorem dX3_drift_20 : decode cX3_drift 20 = .ok (.fcmp .g, 1) := by decide +kernel
theorem dX3_drift_21 : decode cX3_drift 21 = .ok (.ifCond .le 13, 3) := by decide +kernel
theorem dX3_drift_24 : decode cX3_drift 24 = .ok (.new 41, 3) := by decide +kernel
theorem dX3_drift_27 : decode cX3_drift 27 = .ok (.dup, 1) := by decide +kernel
theorem dX3_drift_28 : decode cX3_drift 28 = .ok (.ldc 43, 2) := by decide +kernel
theorem dX3_drift_30 : decode cX3_drift 30 = .ok (.invokespecial 45, 3) := by decide +kernel
theorem dX3_drift_33 : decode cX3_drift 33 = .ok (.athrow, 1) := by decide +kernel
theorem dX3_drift_34 : decode cX3_drift 34 = .ok (.aload_n 0, 1) := by decide +kernel
theorem dX3_drift_35 : decode cX3_drift 35 = .ok (.getfield 16, 3) := by decide +kernel
theorem dX3_drift_38 : decode cX3_drift 38 = .ok (.getfield 48, 3) := by decide +kernel
theorem dX3_drift_41 : decode cX3_drift 41 = .ok (.bipush 64, 2) := by decide +kernel
theorem dX3_drift_43 : decode cX3_drift 43 = .ok (.if_icmp .lt 13, 3) := by decide +kernel
theorem dX3_drift_46 : decode cX3_drift 46 = .ok (.new 52, 3) := by decide +kernel
theorem dX3_drift_49 : decode cX3_drift 49 = .ok (.dup, 1) := by decide +kernel
theorem dX3_drift_50 : decode cX3_drift 50 = .ok (.ldc 54, 2) := by decide +kernel
theorem dX3_drift_52 : decode cX3_drift 52 = .ok (.invokespecial 56, 3) := by decide +kernel
theorem dX3_drift_55 : decode cX3_drift 55 = .ok (.athrow, 1) := by decide +kernel
theorem dX3_drift_56 : decode cX3_drift 56 = .ok (.aload_n 0, 1) := by decide +kernel
theorem dX3_drift_57 : decode cX3_drift 57 = .ok (.getfield 57, 3) := by decide +kernel
theorem dX3_drift_60 : decode cX3_drift 60 = .ok (.ifCond .ne 13, 3) := by decide +kernel
theorem dX3_drift_63 : decode cX3_drift 63 = .ok (.aload_n 0, 1) := by decide +kernel
theorem dX3_drift_64 : decode cX3_drift 64 = .ok (.getfield 23, 3) := by decide +kernel
theorem dX3_drift_67 : decode cX3_drift 67 = .ok (.getfield 60, 3) := by decide +kernel
theorem dX3_drift_70 : decode cX3_drift 70 = .ok (.ifCond .eq 13, 3) := by decide +kernel
theorem dX3_drift_73 : decode cX3_drift 73 = .ok (.new 52, 3) := by decide +kernel
theorem dX3_drift_76 : decode cX3_drift 76 = .ok (.dup, 1) := by decide +kernel
theorem dX3_drift_77 : decode cX3_drift 77 = .ok (.ldc 61, 2) := by decide +kernel
theorem dX3_drift_79 : decode cX3_drift 79 = .ok (.invokespecial 56, 3) := by decide +kernel
theorem dX3_drift_82 : decode cX3_drift 82 = .ok (.athrow, 1) := by decide +kernel
theorem dX3_drift_83 : decode cX3_drift 83 = .ok (.aload_n 0, 1) := by decide +kernel
theorem dX3_drift_84 : decode cX3_drift 84 = .ok (.getfield 16, 3) := by decide +kernel
theorem dX3_drift_87 : decode cX3_drift 87 = .ok (.iload_n 1, 1) := by decide +kernel
theorem dX3_drift_88 : decode cX3_drift 88 = .ok (.iload_n 2, 1) := by decide +kernel
theorem dX3_drift_89 : decode cX3_drift 89 = .ok (.fload_n 3, 1) := by decide +kernel
theorem dX3_drift_90 : decode cX3_drift 90 = .ok (.invokevirtual 63, 3) := by decide +kernel
theorem dX3_drift_93 : decode cX3_drift 93 = .ok (.aload_n 0, 1) := by decide +kernel
theorem dX3_drift_94 : decode cX3_drift 94 = .ok (.getfield 16, 3) := by decide +kernel
theorem dX3_drift_97 : decode cX3_drift 97 = .ok (.getfield 48, 3) := by decide +kernel
theorem dX3_drift_100 : decode cX3_drift 100 = .ok (.ireturn, 1) := by decide +kernel
theorem dX3_every_0 : decode cX3_every 0 = .ok (.iload_n 1, 1) := by decide +kernel
theorem dX3_every_1 : decode cX3_every 1 = .ok (.ifCond .lt 9, 3) := by decide +kernel
theorem dX3_every_4 : decode cX3_every 4 = .ok (.iload_n 1, 1) := by decide +kernel
theorem dX3_every_5 : decode cX3_every 5 = .ok (.bipush 100, 2) := by decide +kernel
theorem dX3_every_7 : decode cX3_every 7 = .ok (.if_icmp .le 13, 3) := by decide +kernel
theorem dX3_every_10 : decode cX3_every 10 = .ok (.new 41, 3) := by decide +kernel
theorem dX3_every_13 : decode cX3_every 13 = .ok (.dup, 1) := by decide +kernel
theorem dX3_every_14 : decode cX3_every 14 = .ok (.ldc 67, 2) := by decide +kernel
theorem dX3_every_16 : decode cX3_every 16 = .ok (.invokespecial 45, 3) := by decide +kernel
theorem dX3_every_19 : decode cX3_every 19 = .ok (.athrow, 1) := by decide +kernel
theorem dX3_every_20 : decode cX3_every 20 = .ok (.aload_n 0, 1) := by decide +kernel
theorem dX3_every_21 : decode cX3_every 21 = .ok (.getfield 69, 3) := by decide +kernel
theorem dX3_every_24 : decode cX3_every 24 = .ok (.istore_n 2, 1) := by decide +kernel
theorem dX3_every_25 : decode cX3_every 25 = .ok (.aload_n 0, 1) := by decide +kernel
theorem dX3_every_26 : decode cX3_every 26 = .ok (.iload_n 1, 1) := by decide +kernel
theorem dX3_every_27 : decode cX3_every 27 = .ok (.putfield 69, 3) := by decide +kernel
theorem dX3_every_30 : decode cX3_every 30 = .ok (.iload_n 2, 1) := by decide +kernel
theorem dX3_every_31 : decode cX3_every 31 = .ok (.ireturn, 1) := by decide +kernel
set_option maxRecDepth 20000 in
theorem ggX3_input_X3_needCell : GoodIn wsX3_input wsX3_needCell := goodIn_ca (goodIn_r _ [7, 8, 9, 10, 48, 49, 50, 51, 52, 53, 54] (by decide +kernel) (by decide +kernel)) (goodIn_sub (fun _ h => List.mem_cons_of_mem _ (List.mem_append_left _ (List.mem_append_left _ (List.mem_append_right _ h)))) (by decide +kernel))
set_option maxRecDepth 20000 in
theorem gX3_input_X3_needCell : GoodIn wsX3_input (wsV RX3 36 RX3 yX3_needCell wsX3_needCell) := goodIn_app (goodIn_of _ (by decide +kernel)) ggX3_input_X3_needCell
set_option maxRecDepth 20000 in
theorem ggX3_input_X3_needWayAndNumber : GoodIn wsX3_input wsX3_needWayAndNumber := goodIn_ca (goodIn_r _ [13, 14, 15, 16, 17] (by decide +kernel) (by decide +kernel)) (goodIn_sub (fun _ h => List.mem_cons_of_mem _ (List.mem_append_left _ (List.mem_append_right _ h))) (by decide +kernel))
set_option maxRecDepth 20000 in
theorem gX3_input_X3_needWayAndNumber : GoodIn wsX3_input (va_wsS RX3 72 yX3_needWayAndNumber wsX3_needWayAndNumber) := goodIn_app (goodIn_of _ (by decide +kernel)) ggX3_input_X3_needWayAndNumber
set_option maxRecDepth 20000 in
theorem ggX3_input_X3_needRoom : GoodIn wsX3_input wsX3_needRoom := goodIn_ca (goodIn_r _ [21, 22, 23, 1, 48, 49, 50, 51, 52, 53, 54, 55, 56, 57, 58, 59] (by decide +kernel) (by decide +kernel)) (goodIn_sub (fun _ h => List.mem_cons_of_mem _ (List.mem_append_right _ h)) (by decide +kernel))
set_option maxRecDepth 20000 in
theorem gX3_input_X3_needRoom : GoodIn wsX3_input (wsV RX3 76 RX3 yX3_needRoom wsX3_needRoom) := goodIn_app (goodIn_of _ (by decide +kernel)) ggX3_input_X3_needRoom
set_option maxRecDepth 20000 in
theorem ggX3_input_X1_append : GoodIn wsX3_input wsX1_append := goodIn_r _ [27, 28, 29, 30, 31, 32, 33, 34, 35, 25, 36, 37, 38, 39, 40, 41, 42, 43, 44, 55, 56, 57, 58, 59] (by decide +kernel) (by decide +kernel)
set_option maxRecDepth 20000 in
theorem gX3_input_X1_append_n79 : GoodIn wsX3_input (wsX1_append) := ggX3_input_X1_append
set_option maxRecDepth 20000 in
theorem ggX3_input_X1_sizeOf : GoodIn wsX3_input wsX1_sizeOf := goodIn_r _ [47, 33, 34, 35, 25, 36, 32, 28, 55, 56, 57, 58, 59] (by decide +kernel) (by decide +kernel)
set_option maxRecDepth 20000 in
theorem gX3_input_X1_sizeOf_n82 : GoodIn wsX3_input (wsX1_sizeOf) := ggX3_input_X1_sizeOf
theorem dX3_input_0 : decode cX3_input 0 = .ok (.aload_n 0, 1) := by decide +kernel
theorem dX3_input_1 : decode cX3_input 1 = .ok (.iload_n 1, 1) := by decide +kernel
theorem dX3_input_2 : decode cX3_input 2 = .ok (.invokevirtual 36, 3) := by decide +kernel
theorem dX3_input_5 : decode cX3_input 5 = .ok (.iload_n 2, 1) := by decide +kernel
theorem dX3_input_6 : decode cX3_input 6 = .ok (.fload_n 3, 1) := by decide +kernel
theorem dX3_input_7 : decode cX3_input 7 = .ok (.invokestatic 72, 3) := by decide +kernel
theorem dX3_input_10 : decode cX3_input 10 = .ok (.aload_n 0, 1) := by decide +kernel
theorem dX3_input_11 : decode cX3_input 11 = .ok (.iconst 1, 1) := by decide +kernel
theorem dX3_input_12 : decode cX3_input 12 = .ok (.invokevirtual 76, 3) := by decide +kernel
theorem dX3_input_15 : decode cX3_input 15 = .ok (.aload_n 0, 1) := by decide +kernel
theorem dX3_input_16 : decode cX3_input 16 = .ok (.getfield 23, 3) := by decide +kernel
theorem dX3_input_19 : decode cX3_input 19 = .ok (.aload_n 0, 1) := by decide +kernel
theorem dX3_input_20 : decode cX3_input 20 = .ok (.getfield 57, 3) := by decide +kernel
theorem dX3_input_23 : decode cX3_input 23 = .ok (.iload_n 1, 1) := by decide +kernel
theorem dX3_input_24 : decode cX3_input 24 = .ok (.iload_n 2, 1) := by decide +kernel
theorem dX3_input_25 : decode cX3_input 25 = .ok (.fload_n 3, 1) := by decide +kernel
theorem dX3_input_26 : decode cX3_input 26 = .ok (.invokevirtual 79, 3) := by decide +kernel
theorem dX3_input_29 : decode cX3_input 29 = .ok (.aload_n 0, 1) := by decide +kernel
theorem dX3_input_30 : decode cX3_input 30 = .ok (.getfield 23, 3) := by decide +kernel
theorem dX3_input_33 : decode cX3_input 33 = .ok (.aload_n 0, 1) := by decide +kernel
theorem dX3_input_34 : decode cX3_input 34 = .ok (.getfield 57, 3) := by decide +kernel
theorem dX3_input_37 : decode cX3_input 37 = .ok (.invokevirtual 82, 3) := by decide +kernel
theorem dX3_input_40 : decode cX3_input 40 = .ok (.ireturn, 1) := by decide +kernel
set_option maxRecDepth 20000 in
theorem ggX3_inputs_X3_needCell : GoodIn wsX3_inputs wsX3_needCell := goodIn_ca (goodIn_r _ [9, 10, 11, 12, 52, 53, 54, 55, 56, 57, 58] (by decide +kernel) (by decide +kernel)) (goodIn_sub (fun _ h => List.mem_cons_of_mem _ (List.mem_append_left _ (List.mem_append_right _ h))) (by decide +kernel))
set_option maxRecDepth 20000 in
theorem gX3_inputs_X3_needCell : GoodIn wsX3_inputs (wsV RX3 36 RX3 yX3_needCell wsX3_needCell) := goodIn_app (goodIn_of _ (by decide +kernel)) ggX3_inputs_X3_needCell
set_option maxRecDepth 20000 in
theorem ggX3_inputs_X3_needLastCell : GoodIn wsX3_inputs wsX3_needLastCell := goodIn_ca (goodIn_r _ [16, 10, 11, 12, 52, 53, 54, 55, 56, 57, 58] (by decide +kernel) (by decide +kernel)) (goodIn_sub (fun _ h => List.mem_cons_of_mem _ (List.mem_append_left _ (List.mem_append_right _ h))) (by decide +kernel))
set_option maxRecDepth 20000 in
theorem gX3_inputs_X3_needLastCell : GoodIn wsX3_inputs (wsV RX3 88 RX3 yX3_needLastCell wsX3_needLastCell) := goodIn_app (goodIn_of _ (by decide +kernel)) ggX3_inputs_X3_needLastCell
set_option maxRecDepth 20000 in
theorem ggX3_inputs_X3_needWayAndNumber : GoodIn wsX3_inputs wsX3_needWayAndNumber := goodIn_ca (goodIn_r _ [19, 1, 2, 20, 21] (by decide +kernel) (by decide +kernel)) (goodIn_sub (fun _ h => List.mem_cons_of_mem _ (List.mem_append_left _ (List.mem_append_left _ (List.mem_append_right _ h)))) (by decide +kernel))
set_option maxRecDepth 20000 in
theorem gX3_inputs_X3_needWayAndNumber : GoodIn wsX3_inputs (va_wsS RX3 72 yX3_needWayAndNumber wsX3_needWayAndNumber) := goodIn_app (goodIn_of _ (by decide +kernel)) ggX3_inputs_X3_needWayAndNumber
set_option maxRecDepth 20000 in
theorem ggX3_inputs_X3_needRoom : GoodIn wsX3_inputs wsX3_needRoom := goodIn_ca (goodIn_r _ [25, 26, 27, 3, 52, 53, 54, 55, 56, 57, 58, 59, 60, 61, 62, 63] (by decide +kernel) (by decide +kernel)) (goodIn_sub (fun _ h => List.mem_cons_of_mem _ (List.mem_append_right _ h)) (by decide +kernel))
set_option maxRecDepth 20000 in
theorem gX3_inputs_X3_needRoom : GoodIn wsX3_inputs (wsV RX3 76 RX3 yX3_needRoom wsX3_needRoom) := goodIn_app (goodIn_of _ (by decide +kernel)) ggX3_inputs_X3_needRoom
set_option maxRecDepth 20000 in
theorem ggX3_inputs_X1_append : GoodIn wsX3_inputs wsX1_append := goodIn_r _ [31, 32, 33, 34, 35, 36, 37, 38, 39, 29, 40, 41, 42, 43, 44, 45, 46, 47, 48, 59, 60, 61, 62, 63] (by decide +kernel) (by decide +kernel)
set_option maxRecDepth 20000 in
theorem gX3_inputs_X1_append_n79 : GoodIn wsX3_inputs (wsX1_append) := ggX3_inputs_X1_append
set_option maxRecDepth 20000 in
theorem ggX3_inputs_X1_sizeOf : GoodIn wsX3_inputs wsX1_sizeOf := goodIn_r _ [51, 37, 38, 39, 29, 40, 36, 32, 59, 60, 61, 62, 63] (by decide +kernel) (by decide +kernel)
set_option maxRecDepth 20000 in
theorem gX3_inputs_X1_sizeOf_n82 : GoodIn wsX3_inputs (wsX1_sizeOf) := ggX3_inputs_X1_sizeOf
theorem dX3_inputs_0 : decode cX3_inputs 0 = .ok (.aload_n 0, 1) := by decide +kernel
theorem dX3_inputs_1 : decode cX3_inputs 1 = .ok (.iload_n 1, 1) := by decide +kernel
theorem dX3_inputs_2 : decode cX3_inputs 2 = .ok (.invokevirtual 36, 3) := by decide +kernel
theorem dX3_inputs_5 : decode cX3_inputs 5 = .ok (.iload_n 3, 1) := by decide +kernel
theorem dX3_inputs_6 : decode cX3_inputs 6 = .ok (.iconst 1, 1) := by decide +kernel
theorem dX3_inputs_7 : decode cX3_inputs 7 = .ok (.if_icmp .lt 10, 3) := by decide +kernel
theorem dX3_inputs_10 : decode cX3_inputs 10 = .ok (.iload_n 3, 1) := by decide +kernel
theorem dX3_inputs_11 : decode cX3_inputs 11 = .ok (.sipush 256, 3) := by decide +kernel
theorem dX3_inputs_14 : decode cX3_inputs 14 = .ok (.if_icmp .le 13, 3) := by decide +kernel
theorem dX3_inputs_17 : decode cX3_inputs 17 = .ok (.new 41, 3) := by decide +kernel
theorem dX3_inputs_20 : decode cX3_inputs 20 = .ok (.dup, 1) := by decide +kernel
theorem dX3_inputs_21 : decode cX3_inputs 21 = .ok (.ldc 86, 2) := by decide +kernel
theorem dX3_inputs_23 : decode cX3_inputs 23 = .ok (.invokespecial 45, 3) := by decide +kernel
theorem dX3_inputs_26 : decode cX3_inputs 26 = .ok (.athrow, 1) := by decide +kernel
theorem dX3_inputs_27 : decode cX3_inputs 27 = .ok (.aload_n 0, 1) := by decide +kernel
theorem dX3_inputs_28 : decode cX3_inputs 28 = .ok (.iload_n 1, 1) := by decide +kernel
theorem dX3_inputs_29 : decode cX3_inputs 29 = .ok (.iload_n 2, 1) := by decide +kernel
theorem dX3_inputs_30 : decode cX3_inputs 30 = .ok (.iload_n 3, 1) := by decide +kernel
theorem dX3_inputs_31 : decode cX3_inputs 31 = .ok (.invokevirtual 88, 3) := by decide +kernel
theorem dX3_inputs_34 : decode cX3_inputs 34 = .ok (.iload 4, 2) := by decide +kernel
theorem dX3_inputs_36 : decode cX3_inputs 36 = .ok (.fload 5, 2) := by decide +kernel
theorem dX3_inputs_38 : decode cX3_inputs 38 = .ok (.invokestatic 72, 3) := by decide +kernel
theorem dX3_inputs_41 : decode cX3_inputs 41 = .ok (.aload_n 0, 1) := by decide +kernel
theorem dX3_inputs_42 : decode cX3_inputs 42 = .ok (.iload_n 3, 1) := by decide +kernel
theorem dX3_inputs_43 : decode cX3_inputs 43 = .ok (.invokevirtual 76, 3) := by decide +kernel
theorem dX3_inputs_46 : decode cX3_inputs 46 = .ok (.iconst 0, 1) := by decide +kernel
theorem dX3_inputs_47 : decode cX3_inputs 47 = .ok (.istore 6, 2) := by decide +kernel
theorem dX3_inputs_49 : decode cX3_inputs 49 = .ok (.iload 6, 2) := by decide +kernel
theorem dX3_inputs_51 : decode cX3_inputs 51 = .ok (.iload_n 3, 1) := by decide +kernel
theorem dX3_inputs_52 : decode cX3_inputs 52 = .ok (.if_icmp .ge 30, 3) := by decide +kernel
theorem dX3_inputs_55 : decode cX3_inputs 55 = .ok (.aload_n 0, 1) := by decide +kernel
theorem dX3_inputs_56 : decode cX3_inputs 56 = .ok (.getfield 23, 3) := by decide +kernel
theorem dX3_inputs_59 : decode cX3_inputs 59 = .ok (.aload_n 0, 1) := by decide +kernel
theorem dX3_inputs_60 : decode cX3_inputs 60 = .ok (.getfield 57, 3) := by decide +kernel
theorem dX3_inputs_63 : decode cX3_inputs 63 = .ok (.iload_n 1, 1) := by decide +kernel
theorem dX3_inputs_64 : decode cX3_inputs 64 = .ok (.iload 6, 2) := by decide +kernel
theorem dX3_inputs_66 : decode cX3_inputs 66 = .ok (.iload_n 2, 1) := by decide +kernel
theorem dX3_inputs_67 : decode cX3_inputs 67 = .ok (.imul, 1) := by decide +kernel
theorem dX3_inputs_68 : decode cX3_inputs 68 = .ok (.iadd, 1) := by decide +kernel
theorem dX3_inputs_69 : decode cX3_inputs 69 = .ok (.iload 4, 2) := by decide +kernel
theorem dX3_inputs_71 : decode cX3_inputs 71 = .ok (.fload 5, 2) := by decide +kernel
theorem dX3_inputs_73 : decode cX3_inputs 73 = .ok (.invokevirtual 79, 3) := by decide +kernel
theorem dX3_inputs_76 : decode cX3_inputs 76 = .ok (.iinc 6 1, 3) := by decide +kernel
theorem dX3_inputs_79 : decode cX3_inputs 79 = .ok (.goto (-30), 3) := by decide +kernel
theorem dX3_inputs_82 : decode cX3_inputs 82 = .ok (.aload_n 0, 1) := by decide +kernel
theorem dX3_inputs_83 : decode cX3_inputs 83 = .ok (.getfield 23, 3) := by decide +kernel
theorem dX3_inputs_86 : decode cX3_inputs 86 = .ok (.aload_n 0, 1) := by decide +kernel
theorem dX3_inputs_87 : decode cX3_inputs 87 = .ok (.getfield 57, 3) := by decide +kernel
theorem dX3_inputs_90 : decode cX3_inputs 90 = .ok (.invokevirtual 82, 3) := by decide +kernel
theorem dX3_inputs_93 : decode cX3_inputs 93 = .ok (.ireturn, 1) := by decide +kernel
set_option maxRecDepth 20000 in
theorem ggX3_step_X3_doSteps : GoodIn wsX3_step wsX3_doSteps := goodIn_r _ [8, 9, 3, 10, 11, 12, 13, 14, 15, 16, 17, 18, 19, 20, 21, 22, 23, 24, 25, 26, 27, 28, 29, 30, 7, 31, 32, 33, 34, 35, 36, 37, 38, 39, 40, 41, 42, 43, 44, 45, 46, 47, 48, 49, 50, 51, 52, 53, 54, 55, 56, 57, 58, 59, 60, 61, 62, 63, 64, 65, 66, 67, 68, 69, 70, 71, 72, 73, 74, 75, 76, 77, 78, 79, 80, 81, 82, 83, 84, 85, 86, 87, 88, 89, 90, 91, 92, 93, 94] (by decide +kernel) (by decide +kernel)
set_option maxRecDepth 20000 in
theorem gX3_step_X3_doSteps : GoodIn wsX3_step (wsV RX3 94 RX3 yX3_doSteps wsX3_doSteps) := goodIn_app (goodIn_of _ (by decide +kernel)) ggX3_step_X3_doSteps
theorem dX3_step_0 : decode cX3_step 0 = .ok (.iload_n 1, 1) := by decide +kernel
theorem dX3_step_1 : decode cX3_step 1 = .ok (.iconst 1, 1) := by decide +kernel
theorem dX3_step_2 : decode cX3_step 2 = .ok (.if_icmp .lt 9, 3) := by decide +kernel
theorem dX3_step_5 : decode cX3_step 5 = .ok (.iload_n 1, 1) := by decide +kernel
theorem dX3_step_6 : decode cX3_step 6 = .ok (.bipush 64, 2) := by decide +kernel
theorem dX3_step_8 : decode cX3_step 8 = .ok (.if_icmp .le 13, 3) := by decide +kernel
theorem dX3_step_11 : decode cX3_step 11 = .ok (.new 41, 3) := by decide +kernel
theorem dX3_step_14 : decode cX3_step 14 = .ok (.dup, 1) := by decide +kernel
theorem dX3_step_15 : decode cX3_step 15 = .ok (.ldc 92, 2) := by decide +kernel
theorem dX3_step_17 : decode cX3_step 17 = .ok (.invokespecial 45, 3) := by decide +kernel
theorem dX3_step_20 : decode cX3_step 20 = .ok (.athrow, 1) := by decide +kernel
theorem dX3_step_21 : decode cX3_step 21 = .ok (.aload_n 0, 1) := by decide +kernel
theorem dX3_step_22 : decode cX3_step 22 = .ok (.iload_n 1, 1) := by decide +kernel
theorem dX3_step_23 : decode cX3_step 23 = .ok (.invokevirtual 94, 3) := by decide +kernel
theorem dX3_step_26 : decode cX3_step 26 = .ok (.aload_n 0, 1) := by decide +kernel
theorem dX3_step_27 : decode cX3_step 27 = .ok (.getfield 57, 3) := by decide +kernel
theorem dX3_step_30 : decode cX3_step 30 = .ok (.ireturn, 1) := by decide +kernel
set_option maxRecDepth 20000 in
theorem ggX3_keep_X3_keepPresent : GoodIn wsX3_keep wsX3_keepPresent := goodIn_r _ [6, 1, 7, 8, 9, 10, 11, 12, 13, 14, 15, 16, 17, 18, 19, 20, 21, 22, 23, 24, 25, 26, 27, 28, 29, 30, 31, 32, 33, 34, 35, 36, 37, 38, 39, 40, 41, 42, 43, 44, 45, 46, 47, 48, 49, 50, 51, 52, 53, 54, 55, 56, 57, 58, 59, 60, 61, 62, 63] (by decide +kernel) (by decide +kernel)
set_option maxRecDepth 20000 in
theorem gX3_keep_X3_keepPresent : GoodIn wsX3_keep (wsV RX3 97 RX3 yX3_keepPresent wsX3_keepPresent) := goodIn_app (goodIn_of _ (by decide +kernel)) ggX3_keep_X3_keepPresent
theorem dX3_keep_0 : decode cX3_keep 0 = .ok (.aload_n 0, 1) := by decide +kernel
theorem dX3_keep_1 : decode cX3_keep 1 = .ok (.invokevirtual 97, 3) := by decide +kernel
theorem dX3_keep_4 : decode cX3_keep 4 = .ok (.aload_n 0, 1) := by decide +kernel
theorem dX3_keep_5 : decode cX3_keep 5 = .ok (.getfield 32, 3) := by decide +kernel
theorem dX3_keep_8 : decode cX3_keep 8 = .ok (.getfield 100, 3) := by decide +kernel
theorem dX3_keep_11 : decode cX3_keep 11 = .ok (.ireturn, 1) := by decide +kernel
set_option maxRecDepth 20000 in
theorem ggX3_back_X3_neededSnapshot : GoodIn wsX3_back wsX3_neededSnapshot := goodIn_ca (goodIn_r _ [5, 6, 7, 8, 9, 10, 11, 12, 13, 14, 15, 16, 17, 18, 19, 20, 21, 22, 23, 24, 25, 26, 27, 45, 46, 47, 48, 49, 50, 51, 52, 53, 54, 55] (by decide +kernel) (by decide +kernel)) (goodIn_sub (fun _ h => List.mem_cons_of_mem _ (List.mem_append_right _ h)) (by decide +kernel))
set_option maxRecDepth 20000 in
theorem gX3_back_X3_neededSnapshot : GoodIn wsX3_back (wsV RX3 101 RX3 yX3_neededSnapshot wsX3_neededSnapshot) := goodIn_app (goodIn_of _ (by decide +kernel)) ggX3_back_X3_neededSnapshot
set_option maxRecDepth 20000 in
theorem ggX3_back_X3_goBackTo : GoodIn wsX3_back wsX3_goBackTo := goodIn_r _ [31, 8, 32, 33, 34, 35, 36, 37, 38, 10, 39, 40, 41, 23, 24, 25, 26, 27, 19, 20, 21, 22, 42, 43, 44, 17, 45, 46, 47, 48, 49, 50, 51, 52, 53, 54, 55] (by decide +kernel) (by decide +kernel)
set_option maxRecDepth 20000 in
theorem gX3_back_X3_goBackTo : GoodIn wsX3_back (wsV RX3 104 RX3 yX3_goBackTo wsX3_goBackTo) := goodIn_app (goodIn_of _ (by decide +kernel)) ggX3_back_X3_goBackTo
theorem dX3_back_0 : decode cX3_back 0 = .ok (.aload_n 0, 1) := by decide +kernel
theorem dX3_back_1 : decode cX3_back 1 = .ok (.aload_n 0, 1) := by decide +kernel
theorem dX3_back_2 : decode cX3_back 2 = .ok (.iload_n 1, 1) := by decide +kernel
theorem dX3_back_3 : decode cX3_back 3 = .ok (.invokevirtual 101, 3) := by decide +kernel
theorem dX3_back_6 : decode cX3_back 6 = .ok (.invokevirtual 104, 3) := by decide +kernel
theorem dX3_back_9 : decode cX3_back 9 = .ok (.ireturn, 1) := by decide +kernel
set_option maxRecDepth 20000 in
theorem ggX3_forget_X1_dropFrom : GoodIn wsX3_forget wsX1_dropFrom := goodIn_r _ [8, 9, 10, 11, 12, 6, 13, 14, 22, 23, 24, 25, 26] (by decide +kernel) (by decide +kernel)
set_option maxRecDepth 20000 in
theorem gX3_forget_X1_dropFrom_n109 : GoodIn wsX3_forget (wsX1_dropFrom) := ggX3_forget_X1_dropFrom
theorem dX3_forget_0 : decode cX3_forget 0 = .ok (.iload_n 1, 1) := by decide +kernel
theorem dX3_forget_1 : decode cX3_forget 1 = .ok (.aload_n 0, 1) := by decide +kernel
theorem dX3_forget_2 : decode cX3_forget 2 = .ok (.getfield 57, 3) := by decide +kernel
theorem dX3_forget_5 : decode cX3_forget 5 = .ok (.if_icmp .ge 13, 3) := by decide +kernel
theorem dX3_forget_8 : decode cX3_forget 8 = .ok (.new 41, 3) := by decide +kernel
theorem dX3_forget_11 : decode cX3_forget 11 = .ok (.dup, 1) := by decide +kernel
theorem dX3_forget_12 : decode cX3_forget 12 = .ok (.ldc 107, 2) := by decide +kernel
theorem dX3_forget_14 : decode cX3_forget 14 = .ok (.invokespecial 45, 3) := by decide +kernel
theorem dX3_forget_17 : decode cX3_forget 17 = .ok (.athrow, 1) := by decide +kernel
theorem dX3_forget_18 : decode cX3_forget 18 = .ok (.aload_n 0, 1) := by decide +kernel
theorem dX3_forget_19 : decode cX3_forget 19 = .ok (.getfield 23, 3) := by decide +kernel
theorem dX3_forget_22 : decode cX3_forget 22 = .ok (.iload_n 1, 1) := by decide +kernel
theorem dX3_forget_23 : decode cX3_forget 23 = .ok (.invokevirtual 109, 3) := by decide +kernel
theorem dX3_forget_26 : decode cX3_forget 26 = .ok (.ireturn, 1) := by decide +kernel
set_option maxRecDepth 20000 in
theorem ggX3_late_X3_needCell : GoodIn wsX3_late wsX3_needCell := goodIn_ca (goodIn_r _ [12, 13, 14, 15, 111, 112, 113, 114, 115, 116, 117] (by decide +kernel) (by decide +kernel)) (goodIn_sub (fun _ h => List.mem_cons_of_mem _ (List.mem_append_right _ h)) (by decide +kernel))
set_option maxRecDepth 20000 in
theorem gX3_late_X3_needCell : GoodIn wsX3_late (wsV RX3 36 RX3 yX3_needCell wsX3_needCell) := goodIn_app (goodIn_of _ (by decide +kernel)) ggX3_late_X3_needCell
set_option maxRecDepth 20000 in
theorem ggX3_late_X3_needWayAndNumber : GoodIn wsX3_late wsX3_needWayAndNumber := goodIn_ca (goodIn_r _ [18, 1, 2, 19, 20] (by decide +kernel) (by decide +kernel)) (goodIn_sub (fun _ h => List.mem_cons_of_mem _ (List.mem_append_left _ (List.mem_append_left _ (List.mem_append_right _ h)))) (by decide +kernel))
set_option maxRecDepth 20000 in
theorem gX3_late_X3_needWayAndNumber : GoodIn wsX3_late (va_wsS RX3 72 yX3_needWayAndNumber wsX3_needWayAndNumber) := goodIn_app (goodIn_of _ (by decide +kernel)) ggX3_late_X3_needWayAndNumber
set_option maxRecDepth 20000 in
theorem ggX3_late_X3_needRoom : GoodIn wsX3_late wsX3_needRoom := goodIn_ca (goodIn_r _ [24, 3, 4, 7, 111, 112, 113, 114, 115, 116, 117, 118, 119, 120, 121, 122] (by decide +kernel) (by decide +kernel)) (goodIn_sub (fun _ h => List.mem_cons_of_mem _ (List.mem_append_left _ (List.mem_append_right _ h))) (by decide +kernel))
set_option maxRecDepth 20000 in
theorem gX3_late_X3_needRoom : GoodIn wsX3_late (wsV RX3 76 RX3 yX3_needRoom wsX3_needRoom) := goodIn_app (goodIn_of _ (by decide +kernel)) ggX3_late_X3_needRoom
set_option maxRecDepth 20000 in
theorem ggX3_late_X2_highestNotAbove : GoodIn wsX3_late wsX2_highestNotAbove := goodIn_r _ [28, 29, 30, 31, 32, 26, 33, 34, 35, 36, 37, 38, 39, 123, 124, 125, 126] (by decide +kernel) (by decide +kernel)
set_option maxRecDepth 20000 in
theorem gX3_late_X2_highestNotAbove_n114 : GoodIn wsX3_late (wsX2_highestNotAbove) := ggX3_late_X2_highestNotAbove
set_option maxRecDepth 20000 in
theorem ggX3_late_X1_append : GoodIn wsX3_late wsX1_append := goodIn_r _ [43, 44, 45, 46, 47, 48, 49, 50, 51, 41, 52, 53, 54, 55, 56, 57, 58, 59, 60, 118, 119, 120, 121, 122] (by decide +kernel) (by decide +kernel)
set_option maxRecDepth 20000 in
theorem gX3_late_X1_append_n79 : GoodIn wsX3_late (wsX1_append) := ggX3_late_X1_append
set_option maxRecDepth 20000 in
theorem ggX3_late_X3_stepAgainFrom : GoodIn wsX3_late wsX3_stepAgainFrom := goodIn_r _ [64, 5, 65, 66, 67, 11, 68, 6, 15, 69, 58, 59, 60, 70, 26, 71, 72, 73, 35, 36, 37, 38, 39, 31, 32, 33, 34, 74, 75, 76, 29, 77, 78, 79, 80, 7, 81, 82, 83, 84, 41, 85, 86, 45, 46, 47, 49, 50, 51, 52, 48, 44, 87, 88, 89, 90, 91, 19, 20, 92, 93, 94, 95, 96, 97, 98, 99, 100, 101, 102, 103, 104, 105, 106, 107, 30, 108, 109, 110, 53, 54, 55, 56, 57, 111, 112, 113, 114, 115, 116, 117, 123, 124, 125, 126, 118, 119, 120, 121, 122, 127, 128, 129, 130] (by decide +kernel) (by decide +kernel)
set_option maxRecDepth 20000 in
theorem gX3_late_X3_stepAgainFrom : GoodIn wsX3_late (wsV RX3 119 RX3 yX3_stepAgainFrom wsX3_stepAgainFrom) := goodIn_app (goodIn_of _ (by decide +kernel)) ggX3_late_X3_stepAgainFrom
theorem dX3_late_0 : decode cX3_late 0 = .ok (.aload_n 0, 1) := by decide +kernel
theorem dX3_late_1 : decode cX3_late 1 = .ok (.iload_n 2, 1) := by decide +kernel
theorem dX3_late_2 : decode cX3_late 2 = .ok (.invokevirtual 36, 3) := by decide +kernel
theorem dX3_late_5 : decode cX3_late 5 = .ok (.iload_n 3, 1) := by decide +kernel
theorem dX3_late_6 : decode cX3_late 6 = .ok (.fload 4, 2) := by decide +kernel
theorem dX3_late_8 : decode cX3_late 8 = .ok (.invokestatic 72, 3) := by decide +kernel
theorem dX3_late_11 : decode cX3_late 11 = .ok (.iload_n 1, 1) := by decide +kernel
theorem dX3_late_12 : decode cX3_late 12 = .ok (.ifCond .lt 11, 3) := by decide +kernel
theorem dX3_late_15 : decode cX3_late 15 = .ok (.iload_n 1, 1) := by decide +kernel
theorem dX3_late_16 : decode cX3_late 16 = .ok (.aload_n 0, 1) := by decide +kernel
theorem dX3_late_17 : decode cX3_late 17 = .ok (.getfield 57, 3) := by decide +kernel
theorem dX3_late_20 : decode cX3_late 20 = .ok (.if_icmp .le 13, 3) := by decide +kernel
theorem dX3_late_23 : decode cX3_late 23 = .ok (.new 41, 3) := by decide +kernel
theorem dX3_late_26 : decode cX3_late 26 = .ok (.dup, 1) := by decide +kernel
theorem dX3_late_27 : decode cX3_late 27 = .ok (.ldc 112, 2) := by decide +kernel
theorem dX3_late_29 : decode cX3_late 29 = .ok (.invokespecial 45, 3) := by decide +kernel
theorem dX3_late_32 : decode cX3_late 32 = .ok (.athrow, 1) := by decide +kernel
