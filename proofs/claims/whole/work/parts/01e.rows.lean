theorem dX7_halfAt_0 : decode cX7_halfAt 0 = .ok (.aload_n 0, 1) := by decide +kernel
theorem dX7_halfAt_1 : decode cX7_halfAt 1 = .ok (.getfield 7, 3) := by decide +kernel
theorem dX7_halfAt_4 : decode cX7_halfAt 4 = .ok (.bipush 9, 2) := by decide +kernel
theorem dX7_halfAt_6 : decode cX7_halfAt 6 = .ok (.iload_n 2, 1) := by decide +kernel
theorem dX7_halfAt_7 : decode cX7_halfAt 7 = .ok (.imul, 1) := by decide +kernel
theorem dX7_halfAt_8 : decode cX7_halfAt 8 = .ok (.iload_n 1, 1) := by decide +kernel
theorem dX7_halfAt_9 : decode cX7_halfAt 9 = .ok (.iadd, 1) := by decide +kernel
theorem dX7_halfAt_10 : decode cX7_halfAt 10 = .ok (.iaload, 1) := by decide +kernel
theorem dX7_halfAt_11 : decode cX7_halfAt 11 = .ok (.ireturn, 1) := by decide +kernel
set_option maxRecDepth 20000 in
theorem ggX7_offset_X7_isStation : GoodIn wsX7_offset wsX7_isStation := goodIn_r _ [7, 8, 9, 6, 10] (by decide +kernel) (by decide +kernel)
set_option maxRecDepth 20000 in
theorem gX7_offset_X7_isStation : GoodIn wsX7_offset (va_wsS RX7 48 yX7_isStation wsX7_isStation) := goodIn_app (goodIn_of _ (by decide +kernel)) ggX7_offset_X7_isStation
set_option maxRecDepth 20000 in
theorem ggX7_offset_X7_isWaterline : GoodIn wsX7_offset wsX7_isWaterline := goodIn_r _ [13, 8, 9, 6, 10] (by decide +kernel) (by decide +kernel)
set_option maxRecDepth 20000 in
theorem gX7_offset_X7_isWaterline : GoodIn wsX7_offset (va_wsS RX7 52 yX7_isWaterline wsX7_isWaterline) := goodIn_app (goodIn_of _ (by decide +kernel)) ggX7_offset_X7_isWaterline
set_option maxRecDepth 20000 in
theorem ggX7_offset_X7_in : GoodIn wsX7_offset wsX7_in := goodIn_r _ [10] (by decide +kernel) (by decide +kernel)
set_option maxRecDepth 20000 in
theorem gX7_offset_X7_in : GoodIn wsX7_offset (va_wsS RX7 44 yX7_in wsX7_in) := goodIn_app (goodIn_of _ (by decide +kernel)) ggX7_offset_X7_in
set_option maxRecDepth 20000 in
theorem ggX7_offset_X7_halfAt : GoodIn wsX7_offset wsX7_halfAt := goodIn_r _ [17, 3, 18, 19, 20, 21, 22, 23, 24, 25, 26, 27, 28, 29, 30, 31, 32, 33] (by decide +kernel) (by decide +kernel)
set_option maxRecDepth 20000 in
theorem gX7_offset_X7_halfAt : GoodIn wsX7_offset (wsV RX7 59 RX7 yX7_halfAt wsX7_halfAt) := goodIn_app (goodIn_of _ (by decide +kernel)) ggX7_offset_X7_halfAt
theorem dX7_offset_0 : decode cX7_offset 0 = .ok (.aload_n 0, 1) := by decide +kernel
theorem dX7_offset_1 : decode cX7_offset 1 = .ok (.iload_n 1, 1) := by decide +kernel
theorem dX7_offset_2 : decode cX7_offset 2 = .ok (.invokestatic 48, 3) := by decide +kernel
theorem dX7_offset_5 : decode cX7_offset 5 = .ok (.ifCond .eq 10, 3) := by decide +kernel
theorem dX7_offset_8 : decode cX7_offset 8 = .ok (.iload_n 2, 1) := by decide +kernel
theorem dX7_offset_9 : decode cX7_offset 9 = .ok (.invokestatic 52, 3) := by decide +kernel
theorem dX7_offset_12 : decode cX7_offset 12 = .ok (.ifCond .ne 7, 3) := by decide +kernel
theorem dX7_offset_15 : decode cX7_offset 15 = .ok (.iconst 1, 1) := by decide +kernel
theorem dX7_offset_16 : decode cX7_offset 16 = .ok (.goto 30, 3) := by decide +kernel
theorem dX7_offset_19 : decode cX7_offset 19 = .ok (.iload_n 3, 1) := by decide +kernel
theorem dX7_offset_20 : decode cX7_offset 20 = .ok (.iconst 0, 1) := by decide +kernel
theorem dX7_offset_21 : decode cX7_offset 21 = .ok (.sipush 200, 3) := by decide +kernel
theorem dX7_offset_24 : decode cX7_offset 24 = .ok (.invokestatic 44, 3) := by decide +kernel
theorem dX7_offset_27 : decode cX7_offset 27 = .ok (.ifCond .ne 7, 3) := by decide +kernel
theorem dX7_offset_30 : decode cX7_offset 30 = .ok (.iconst 2, 1) := by decide +kernel
theorem dX7_offset_31 : decode cX7_offset 31 = .ok (.goto 15, 3) := by decide +kernel
theorem dX7_offset_34 : decode cX7_offset 34 = .ok (.aload_n 0, 1) := by decide +kernel
theorem dX7_offset_35 : decode cX7_offset 35 = .ok (.getfield 55, 3) := by decide +kernel
theorem dX7_offset_38 : decode cX7_offset 38 = .ok (.ifCond .eq 7, 3) := by decide +kernel
theorem dX7_offset_41 : decode cX7_offset 41 = .ok (.iconst 3, 1) := by decide +kernel
theorem dX7_offset_42 : decode cX7_offset 42 = .ok (.goto 4, 3) := by decide +kernel
theorem dX7_offset_45 : decode cX7_offset 45 = .ok (.iconst 0, 1) := by decide +kernel
theorem dX7_offset_46 : decode cX7_offset 46 = .ok (.putfield 41, 3) := by decide +kernel
theorem dX7_offset_49 : decode cX7_offset 49 = .ok (.aload_n 0, 1) := by decide +kernel
theorem dX7_offset_50 : decode cX7_offset 50 = .ok (.getfield 41, 3) := by decide +kernel
theorem dX7_offset_53 : decode cX7_offset 53 = .ok (.ifCond .le 5, 3) := by decide +kernel
theorem dX7_offset_56 : decode cX7_offset 56 = .ok (.iconst 0, 1) := by decide +kernel
theorem dX7_offset_57 : decode cX7_offset 57 = .ok (.ireturn, 1) := by decide +kernel
theorem dX7_offset_58 : decode cX7_offset 58 = .ok (.aload_n 0, 1) := by decide +kernel
theorem dX7_offset_59 : decode cX7_offset 59 = .ok (.iload_n 1, 1) := by decide +kernel
theorem dX7_offset_60 : decode cX7_offset 60 = .ok (.iload_n 2, 1) := by decide +kernel
theorem dX7_offset_61 : decode cX7_offset 61 = .ok (.invokevirtual 59, 3) := by decide +kernel
theorem dX7_offset_64 : decode cX7_offset 64 = .ok (.istore 4, 2) := by decide +kernel
theorem dX7_offset_66 : decode cX7_offset 66 = .ok (.aload_n 0, 1) := by decide +kernel
theorem dX7_offset_67 : decode cX7_offset 67 = .ok (.getfield 7, 3) := by decide +kernel
theorem dX7_offset_70 : decode cX7_offset 70 = .ok (.bipush 9, 2) := by decide +kernel
theorem dX7_offset_72 : decode cX7_offset 72 = .ok (.iload_n 2, 1) := by decide +kernel
theorem dX7_offset_73 : decode cX7_offset 73 = .ok (.imul, 1) := by decide +kernel
theorem dX7_offset_74 : decode cX7_offset 74 = .ok (.iload_n 1, 1) := by decide +kernel
theorem dX7_offset_75 : decode cX7_offset 75 = .ok (.iadd, 1) := by decide +kernel
theorem dX7_offset_76 : decode cX7_offset 76 = .ok (.iload_n 3, 1) := by decide +kernel
theorem dX7_offset_77 : decode cX7_offset 77 = .ok (.iastore, 1) := by decide +kernel
theorem dX7_offset_78 : decode cX7_offset 78 = .ok (.iload 4, 2) := by decide +kernel
theorem dX7_offset_80 : decode cX7_offset 80 = .ok (.ireturn, 1) := by decide +kernel
set_option maxRecDepth 20000 in
theorem ggX7_half_X7_isStation : GoodIn wsX7_half wsX7_isStation := goodIn_r _ [5, 6, 7, 4, 8] (by decide +kernel) (by decide +kernel)
set_option maxRecDepth 20000 in
theorem gX7_half_X7_isStation : GoodIn wsX7_half (va_wsS RX7 48 yX7_isStation wsX7_isStation) := goodIn_app (goodIn_of _ (by decide +kernel)) ggX7_half_X7_isStation
set_option maxRecDepth 20000 in
theorem ggX7_half_X7_isWaterline : GoodIn wsX7_half wsX7_isWaterline := goodIn_r _ [11, 6, 7, 4, 8] (by decide +kernel) (by decide +kernel)
set_option maxRecDepth 20000 in
theorem gX7_half_X7_isWaterline : GoodIn wsX7_half (va_wsS RX7 52 yX7_isWaterline wsX7_isWaterline) := goodIn_app (goodIn_of _ (by decide +kernel)) ggX7_half_X7_isWaterline
set_option maxRecDepth 20000 in
theorem ggX7_half_X7_halfAt : GoodIn wsX7_half wsX7_halfAt := goodIn_r _ [15, 16, 17, 18, 19, 20, 21, 22, 23, 24, 25, 26, 27, 28, 29, 30, 31, 32] (by decide +kernel) (by decide +kernel)
set_option maxRecDepth 20000 in
theorem gX7_half_X7_halfAt : GoodIn wsX7_half (wsV RX7 59 RX7 yX7_halfAt wsX7_halfAt) := goodIn_app (goodIn_of _ (by decide +kernel)) ggX7_half_X7_halfAt
theorem dX7_half_0 : decode cX7_half 0 = .ok (.aload_n 0, 1) := by decide +kernel
theorem dX7_half_1 : decode cX7_half 1 = .ok (.iload_n 1, 1) := by decide +kernel
theorem dX7_half_2 : decode cX7_half 2 = .ok (.invokestatic 48, 3) := by decide +kernel
theorem dX7_half_5 : decode cX7_half 5 = .ok (.ifCond .eq 14, 3) := by decide +kernel
theorem dX7_half_8 : decode cX7_half 8 = .ok (.iload_n 2, 1) := by decide +kernel
theorem dX7_half_9 : decode cX7_half 9 = .ok (.invokestatic 52, 3) := by decide +kernel
theorem dX7_half_12 : decode cX7_half 12 = .ok (.ifCond .eq 7, 3) := by decide +kernel
theorem dX7_half_15 : decode cX7_half 15 = .ok (.iconst 0, 1) := by decide +kernel
theorem dX7_half_16 : decode cX7_half 16 = .ok (.goto 4, 3) := by decide +kernel
theorem dX7_half_19 : decode cX7_half 19 = .ok (.iconst 1, 1) := by decide +kernel
theorem dX7_half_20 : decode cX7_half 20 = .ok (.putfield 41, 3) := by decide +kernel
theorem dX7_half_23 : decode cX7_half 23 = .ok (.aload_n 0, 1) := by decide +kernel
theorem dX7_half_24 : decode cX7_half 24 = .ok (.getfield 41, 3) := by decide +kernel
theorem dX7_half_27 : decode cX7_half 27 = .ok (.ifCond .le 7, 3) := by decide +kernel
theorem dX7_half_30 : decode cX7_half 30 = .ok (.iconst 0, 1) := by decide +kernel
theorem dX7_half_31 : decode cX7_half 31 = .ok (.goto 9, 3) := by decide +kernel
theorem dX7_half_34 : decode cX7_half 34 = .ok (.aload_n 0, 1) := by decide +kernel
theorem dX7_half_35 : decode cX7_half 35 = .ok (.iload_n 1, 1) := by decide +kernel
theorem dX7_half_36 : decode cX7_half 36 = .ok (.iload_n 2, 1) := by decide +kernel
theorem dX7_half_37 : decode cX7_half 37 = .ok (.invokevirtual 59, 3) := by decide +kernel
theorem dX7_half_40 : decode cX7_half 40 = .ok (.ireturn, 1) := by decide +kernel
theorem dX7_square_0 : decode cX7_square 0 = .ok (.iload_n 0, 1) := by decide +kernel
theorem dX7_square_1 : decode cX7_square 1 = .ok (.iload_n 0, 1) := by decide +kernel
theorem dX7_square_2 : decode cX7_square 2 = .ok (.imul, 1) := by decide +kernel
theorem dX7_square_3 : decode cX7_square 3 = .ok (.ireturn, 1) := by decide +kernel
set_option maxRecDepth 20000 in
theorem ggX7_bendOf_X7_halfAt : GoodIn wsX7_bendOf wsX7_halfAt := goodIn_r _ [5, 6, 10, 11, 12, 13, 14, 15, 16, 17, 18, 19, 20, 21, 22, 23, 24, 25] (by decide +kernel) (by decide +kernel)
set_option maxRecDepth 20000 in
theorem gX7_bendOf_X7_halfAt : GoodIn wsX7_bendOf (wsV RX7 59 RX7 yX7_halfAt wsX7_halfAt) := goodIn_app (goodIn_of _ (by decide +kernel)) ggX7_bendOf_X7_halfAt
set_option maxRecDepth 20000 in
theorem ggX7_bendOf_X7_square : GoodIn wsX7_bendOf wsX7_square := goodIn_r _ [9] (by decide +kernel) (by decide +kernel)
set_option maxRecDepth 20000 in
theorem gX7_bendOf_X7_square : GoodIn wsX7_bendOf (va_wsS RX7 63 yX7_square wsX7_square) := goodIn_app (goodIn_of _ (by decide +kernel)) ggX7_bendOf_X7_square
theorem dX7_bendOf_0 : decode cX7_bendOf 0 = .ok (.iconst 0, 1) := by decide +kernel
theorem dX7_bendOf_1 : decode cX7_bendOf 1 = .ok (.istore_n 2, 1) := by decide +kernel
theorem dX7_bendOf_2 : decode cX7_bendOf 2 = .ok (.iconst 1, 1) := by decide +kernel
theorem dX7_bendOf_3 : decode cX7_bendOf 3 = .ok (.istore_n 3, 1) := by decide +kernel
theorem dX7_bendOf_4 : decode cX7_bendOf 4 = .ok (.iload_n 3, 1) := by decide +kernel
theorem dX7_bendOf_5 : decode cX7_bendOf 5 = .ok (.iconst 1, 1) := by decide +kernel
theorem dX7_bendOf_6 : decode cX7_bendOf 6 = .ok (.iadd, 1) := by decide +kernel
theorem dX7_bendOf_7 : decode cX7_bendOf 7 = .ok (.bipush 9, 2) := by decide +kernel
theorem dX7_bendOf_9 : decode cX7_bendOf 9 = .ok (.if_icmp .ge 41, 3) := by decide +kernel
theorem dX7_bendOf_12 : decode cX7_bendOf 12 = .ok (.iload_n 2, 1) := by decide +kernel
theorem dX7_bendOf_13 : decode cX7_bendOf 13 = .ok (.aload_n 0, 1) := by decide +kernel
theorem dX7_bendOf_14 : decode cX7_bendOf 14 = .ok (.iload_n 3, 1) := by decide +kernel
theorem dX7_bendOf_15 : decode cX7_bendOf 15 = .ok (.iconst 1, 1) := by decide +kernel
theorem dX7_bendOf_16 : decode cX7_bendOf 16 = .ok (.isub, 1) := by decide +kernel
theorem dX7_bendOf_17 : decode cX7_bendOf 17 = .ok (.iload_n 1, 1) := by decide +kernel
theorem dX7_bendOf_18 : decode cX7_bendOf 18 = .ok (.invokevirtual 59, 3) := by decide +kernel
theorem dX7_bendOf_21 : decode cX7_bendOf 21 = .ok (.aload_n 0, 1) := by decide +kernel
theorem dX7_bendOf_22 : decode cX7_bendOf 22 = .ok (.iload_n 3, 1) := by decide +kernel
theorem dX7_bendOf_23 : decode cX7_bendOf 23 = .ok (.iconst 1, 1) := by decide +kernel
theorem dX7_bendOf_24 : decode cX7_bendOf 24 = .ok (.iadd, 1) := by decide +kernel
theorem dX7_bendOf_25 : decode cX7_bendOf 25 = .ok (.iload_n 1, 1) := by decide +kernel
theorem dX7_bendOf_26 : decode cX7_bendOf 26 = .ok (.invokevirtual 59, 3) := by decide +kernel
theorem dX7_bendOf_29 : decode cX7_bendOf 29 = .ok (.iadd, 1) := by decide +kernel
theorem dX7_bendOf_30 : decode cX7_bendOf 30 = .ok (.iconst 2, 1) := by decide +kernel
theorem dX7_bendOf_31 : decode cX7_bendOf 31 = .ok (.aload_n 0, 1) := by decide +kernel
theorem dX7_bendOf_32 : decode cX7_bendOf 32 = .ok (.iload_n 3, 1) := by decide +kernel
theorem dX7_bendOf_33 : decode cX7_bendOf 33 = .ok (.iload_n 1, 1) := by decide +kernel
theorem dX7_bendOf_34 : decode cX7_bendOf 34 = .ok (.invokevirtual 59, 3) := by decide +kernel
theorem dX7_bendOf_37 : decode cX7_bendOf 37 = .ok (.imul, 1) := by decide +kernel
theorem dX7_bendOf_38 : decode cX7_bendOf 38 = .ok (.isub, 1) := by decide +kernel
theorem dX7_bendOf_39 : decode cX7_bendOf 39 = .ok (.invokestatic 63, 3) := by decide +kernel
theorem dX7_bendOf_42 : decode cX7_bendOf 42 = .ok (.iadd, 1) := by decide +kernel
theorem dX7_bendOf_43 : decode cX7_bendOf 43 = .ok (.istore_n 2, 1) := by decide +kernel
theorem dX7_bendOf_44 : decode cX7_bendOf 44 = .ok (.iinc 3 1, 3) := by decide +kernel
theorem dX7_bendOf_47 : decode cX7_bendOf 47 = .ok (.goto (-43), 3) := by decide +kernel
theorem dX7_bendOf_50 : decode cX7_bendOf 50 = .ok (.iload_n 2, 1) := by decide +kernel
theorem dX7_bendOf_51 : decode cX7_bendOf 51 = .ok (.ireturn, 1) := by decide +kernel
set_option maxRecDepth 20000 in
theorem ggX7_bend_X7_isWaterline : GoodIn wsX7_bend wsX7_isWaterline := goodIn_r _ [5, 6, 7, 4, 8] (by decide +kernel) (by decide +kernel)
set_option maxRecDepth 20000 in
theorem gX7_bend_X7_isWaterline : GoodIn wsX7_bend (va_wsS RX7 52 yX7_isWaterline wsX7_isWaterline) := goodIn_app (goodIn_of _ (by decide +kernel)) ggX7_bend_X7_isWaterline
set_option maxRecDepth 20000 in
theorem ggX7_bend_X7_bendOf : GoodIn wsX7_bend wsX7_bendOf := goodIn_r _ [12, 13, 14, 15, 4, 16, 17, 18, 19, 20, 21, 22, 23, 24, 25, 26, 27, 28, 29, 30, 31, 32, 33, 34, 35, 36] (by decide +kernel) (by decide +kernel)
set_option maxRecDepth 20000 in
theorem gX7_bend_X7_bendOf : GoodIn wsX7_bend (wsV RX7 67 RX7 yX7_bendOf wsX7_bendOf) := goodIn_app (goodIn_of _ (by decide +kernel)) ggX7_bend_X7_bendOf
theorem dX7_bend_0 : decode cX7_bend 0 = .ok (.aload_n 0, 1) := by decide +kernel
theorem dX7_bend_1 : decode cX7_bend 1 = .ok (.iload_n 1, 1) := by decide +kernel
theorem dX7_bend_2 : decode cX7_bend 2 = .ok (.invokestatic 52, 3) := by decide +kernel
theorem dX7_bend_5 : decode cX7_bend 5 = .ok (.ifCond .eq 7, 3) := by decide +kernel
theorem dX7_bend_8 : decode cX7_bend 8 = .ok (.iconst 0, 1) := by decide +kernel
theorem dX7_bend_9 : decode cX7_bend 9 = .ok (.goto 4, 3) := by decide +kernel
theorem dX7_bend_12 : decode cX7_bend 12 = .ok (.iconst 1, 1) := by decide +kernel
theorem dX7_bend_13 : decode cX7_bend 13 = .ok (.putfield 41, 3) := by decide +kernel
theorem dX7_bend_16 : decode cX7_bend 16 = .ok (.aload_n 0, 1) := by decide +kernel
theorem dX7_bend_17 : decode cX7_bend 17 = .ok (.getfield 41, 3) := by decide +kernel
theorem dX7_bend_20 : decode cX7_bend 20 = .ok (.ifCond .le 7, 3) := by decide +kernel
theorem dX7_bend_23 : decode cX7_bend 23 = .ok (.iconst 0, 1) := by decide +kernel
theorem dX7_bend_24 : decode cX7_bend 24 = .ok (.goto 8, 3) := by decide +kernel
theorem dX7_bend_27 : decode cX7_bend 27 = .ok (.aload_n 0, 1) := by decide +kernel
theorem dX7_bend_28 : decode cX7_bend 28 = .ok (.iload_n 1, 1) := by decide +kernel
theorem dX7_bend_29 : decode cX7_bend 29 = .ok (.invokevirtual 67, 3) := by decide +kernel
theorem dX7_bend_32 : decode cX7_bend 32 = .ok (.ireturn, 1) := by decide +kernel
theorem dX7_place_0 : decode cX7_place 0 = .ok (.bipush 25, 2) := by decide +kernel
theorem dX7_place_2 : decode cX7_place 2 = .ok (.iload_n 0, 1) := by decide +kernel
theorem dX7_place_3 : decode cX7_place 3 = .ok (.imul, 1) := by decide +kernel
theorem dX7_place_4 : decode cX7_place 4 = .ok (.iconst 5, 1) := by decide +kernel
theorem dX7_place_5 : decode cX7_place 5 = .ok (.iload_n 1, 1) := by decide +kernel
theorem dX7_place_6 : decode cX7_place 6 = .ok (.imul, 1) := by decide +kernel
theorem dX7_place_7 : decode cX7_place 7 = .ok (.iadd, 1) := by decide +kernel
theorem dX7_place_8 : decode cX7_place 8 = .ok (.iload_n 2, 1) := by decide +kernel
theorem dX7_place_9 : decode cX7_place 9 = .ok (.iadd, 1) := by decide +kernel
theorem dX7_place_10 : decode cX7_place 10 = .ok (.ireturn, 1) := by decide +kernel
set_option maxRecDepth 20000 in
theorem ggX7_may_X7_size : GoodIn wsX7_may wsX7_size := goodIn_r _ [4] (by decide +kernel) (by decide +kernel)
set_option maxRecDepth 20000 in
theorem gX7_may_X7_size : GoodIn wsX7_may (va_wsS RX7 70 yX7_size wsX7_size) := goodIn_app (goodIn_of _ (by decide +kernel)) ggX7_may_X7_size
set_option maxRecDepth 20000 in
theorem ggX7_may_X7_halfAt : GoodIn wsX7_may wsX7_halfAt := goodIn_r _ [8, 9, 13, 14, 15, 16, 17, 18, 19, 20, 21, 22, 23, 24, 25, 26, 27, 28] (by decide +kernel) (by decide +kernel)
set_option maxRecDepth 20000 in
theorem gX7_may_X7_halfAt : GoodIn wsX7_may (wsV RX7 59 RX7 yX7_halfAt wsX7_halfAt) := goodIn_app (goodIn_of _ (by decide +kernel)) ggX7_may_X7_halfAt
set_option maxRecDepth 20000 in
theorem ggX7_may_X7_in : GoodIn wsX7_may wsX7_in := goodIn_r _ [12] (by decide +kernel) (by decide +kernel)
set_option maxRecDepth 20000 in
theorem gX7_may_X7_in : GoodIn wsX7_may (va_wsS RX7 44 yX7_in wsX7_in) := goodIn_app (goodIn_of _ (by decide +kernel)) ggX7_may_X7_in
theorem dX7_may_0 : decode cX7_may 0 = .ok (.iload_n 3, 1) := by decide +kernel
theorem dX7_may_1 : decode cX7_may 1 = .ok (.iconst 2, 1) := by decide +kernel
theorem dX7_may_2 : decode cX7_may 2 = .ok (.isub, 1) := by decide +kernel
theorem dX7_may_3 : decode cX7_may 3 = .ok (.invokestatic 70, 3) := by decide +kernel
theorem dX7_may_6 : decode cX7_may 6 = .ok (.iload 4, 2) := by decide +kernel
theorem dX7_may_8 : decode cX7_may 8 = .ok (.if_icmp .gt 27, 3) := by decide +kernel
theorem dX7_may_11 : decode cX7_may 11 = .ok (.aload_n 0, 1) := by decide +kernel
theorem dX7_may_12 : decode cX7_may 12 = .ok (.iload_n 2, 1) := by decide +kernel
theorem dX7_may_13 : decode cX7_may 13 = .ok (.iload_n 1, 1) := by decide +kernel
theorem dX7_may_14 : decode cX7_may 14 = .ok (.invokevirtual 59, 3) := by decide +kernel
theorem dX7_may_17 : decode cX7_may 17 = .ok (.iload_n 3, 1) := by decide +kernel
theorem dX7_may_18 : decode cX7_may 18 = .ok (.iadd, 1) := by decide +kernel
theorem dX7_may_19 : decode cX7_may 19 = .ok (.iconst 2, 1) := by decide +kernel
theorem dX7_may_20 : decode cX7_may 20 = .ok (.isub, 1) := by decide +kernel
theorem dX7_may_21 : decode cX7_may 21 = .ok (.iconst 0, 1) := by decide +kernel
theorem dX7_may_22 : decode cX7_may 22 = .ok (.sipush 200, 3) := by decide +kernel
theorem dX7_may_25 : decode cX7_may 25 = .ok (.invokestatic 44, 3) := by decide +kernel
theorem dX7_may_28 : decode cX7_may 28 = .ok (.ifCond .eq 7, 3) := by decide +kernel
theorem dX7_may_31 : decode cX7_may 31 = .ok (.iconst 1, 1) := by decide +kernel
theorem dX7_may_32 : decode cX7_may 32 = .ok (.goto 4, 3) := by decide +kernel
theorem dX7_may_35 : decode cX7_may 35 = .ok (.iconst 0, 1) := by decide +kernel
theorem dX7_may_36 : decode cX7_may 36 = .ok (.ireturn, 1) := by decide +kernel
set_option maxRecDepth 20000 in
theorem ggX7_bendBy_X7_halfAt : GoodIn wsX7_bendBy wsX7_halfAt := goodIn_r _ [6, 7, 14, 15, 16, 17, 18, 19, 20, 21, 22, 23, 24, 25, 26, 27, 28, 29] (by decide +kernel) (by decide +kernel)
set_option maxRecDepth 20000 in
theorem gX7_bendBy_X7_halfAt : GoodIn wsX7_bendBy (wsV RX7 59 RX7 yX7_halfAt wsX7_halfAt) := goodIn_app (goodIn_of _ (by decide +kernel)) ggX7_bendBy_X7_halfAt
set_option maxRecDepth 20000 in
theorem ggX7_bendBy_X7_square : GoodIn wsX7_bendBy wsX7_square := goodIn_r _ [10] (by decide +kernel) (by decide +kernel)
set_option maxRecDepth 20000 in
theorem gX7_bendBy_X7_square : GoodIn wsX7_bendBy (va_wsS RX7 63 yX7_square wsX7_square) := goodIn_app (goodIn_of _ (by decide +kernel)) ggX7_bendBy_X7_square
set_option maxRecDepth 20000 in
theorem ggX7_bendBy_X7_place : GoodIn wsX7_bendBy wsX7_place := goodIn_r _ [13] (by decide +kernel) (by decide +kernel)
set_option maxRecDepth 20000 in
theorem gX7_bendBy_X7_place : GoodIn wsX7_bendBy (va_wsS RX7 73 yX7_place wsX7_place) := goodIn_app (goodIn_of _ (by decide +kernel)) ggX7_bendBy_X7_place
theorem dX7_bendBy_0 : decode cX7_bendBy 0 = .ok (.aload_n 0, 1) := by decide +kernel
theorem dX7_bendBy_1 : decode cX7_bendBy 1 = .ok (.iload_n 2, 1) := by decide +kernel
theorem dX7_bendBy_2 : decode cX7_bendBy 2 = .ok (.iconst 1, 1) := by decide +kernel
theorem dX7_bendBy_3 : decode cX7_bendBy 3 = .ok (.isub, 1) := by decide +kernel
theorem dX7_bendBy_4 : decode cX7_bendBy 4 = .ok (.iload_n 1, 1) := by decide +kernel
theorem dX7_bendBy_5 : decode cX7_bendBy 5 = .ok (.invokevirtual 59, 3) := by decide +kernel
theorem dX7_bendBy_8 : decode cX7_bendBy 8 = .ok (.iload_n 3, 1) := by decide +kernel
theorem dX7_bendBy_9 : decode cX7_bendBy 9 = .ok (.iadd, 1) := by decide +kernel
theorem dX7_bendBy_10 : decode cX7_bendBy 10 = .ok (.iconst 2, 1) := by decide +kernel
theorem dX7_bendBy_11 : decode cX7_bendBy 11 = .ok (.isub, 1) := by decide +kernel
theorem dX7_bendBy_12 : decode cX7_bendBy 12 = .ok (.aload_n 0, 1) := by decide +kernel
theorem dX7_bendBy_13 : decode cX7_bendBy 13 = .ok (.iload_n 2, 1) := by decide +kernel
theorem dX7_bendBy_14 : decode cX7_bendBy 14 = .ok (.iconst 1, 1) := by decide +kernel
theorem dX7_bendBy_15 : decode cX7_bendBy 15 = .ok (.iadd, 1) := by decide +kernel
theorem dX7_bendBy_16 : decode cX7_bendBy 16 = .ok (.iload_n 1, 1) := by decide +kernel
theorem dX7_bendBy_17 : decode cX7_bendBy 17 = .ok (.invokevirtual 59, 3) := by decide +kernel
theorem dX7_bendBy_20 : decode cX7_bendBy 20 = .ok (.iadd, 1) := by decide +kernel
theorem dX7_bendBy_21 : decode cX7_bendBy 21 = .ok (.iload 5, 2) := by decide +kernel
theorem dX7_bendBy_23 : decode cX7_bendBy 23 = .ok (.iadd, 1) := by decide +kernel
theorem dX7_bendBy_24 : decode cX7_bendBy 24 = .ok (.iconst 2, 1) := by decide +kernel
theorem dX7_bendBy_25 : decode cX7_bendBy 25 = .ok (.isub, 1) := by decide +kernel
theorem dX7_bendBy_26 : decode cX7_bendBy 26 = .ok (.iconst 2, 1) := by decide +kernel
theorem dX7_bendBy_27 : decode cX7_bendBy 27 = .ok (.aload_n 0, 1) := by decide +kernel
theorem dX7_bendBy_28 : decode cX7_bendBy 28 = .ok (.iload_n 2, 1) := by decide +kernel
theorem dX7_bendBy_29 : decode cX7_bendBy 29 = .ok (.iload_n 1, 1) := by decide +kernel
theorem dX7_bendBy_30 : decode cX7_bendBy 30 = .ok (.invokevirtual 59, 3) := by decide +kernel
theorem dX7_bendBy_33 : decode cX7_bendBy 33 = .ok (.iload 4, 2) := by decide +kernel
theorem dX7_bendBy_35 : decode cX7_bendBy 35 = .ok (.iadd, 1) := by decide +kernel
theorem dX7_bendBy_36 : decode cX7_bendBy 36 = .ok (.iconst 2, 1) := by decide +kernel
theorem dX7_bendBy_37 : decode cX7_bendBy 37 = .ok (.isub, 1) := by decide +kernel
theorem dX7_bendBy_38 : decode cX7_bendBy 38 = .ok (.imul, 1) := by decide +kernel
theorem dX7_bendBy_39 : decode cX7_bendBy 39 = .ok (.isub, 1) := by decide +kernel
theorem dX7_bendBy_40 : decode cX7_bendBy 40 = .ok (.istore 6, 2) := by decide +kernel
theorem dX7_bendBy_42 : decode cX7_bendBy 42 = .ok (.iload 6, 2) := by decide +kernel
theorem dX7_bendBy_44 : decode cX7_bendBy 44 = .ok (.invokestatic 63, 3) := by decide +kernel
theorem dX7_bendBy_47 : decode cX7_bendBy 47 = .ok (.aload_n 0, 1) := by decide +kernel
theorem dX7_bendBy_48 : decode cX7_bendBy 48 = .ok (.getfield 35, 3) := by decide +kernel
theorem dX7_bendBy_51 : decode cX7_bendBy 51 = .ok (.iload_n 2, 1) := by decide +kernel
theorem dX7_bendBy_52 : decode cX7_bendBy 52 = .ok (.iconst 1, 1) := by decide +kernel
theorem dX7_bendBy_53 : decode cX7_bendBy 53 = .ok (.iadd, 1) := by decide +kernel
theorem dX7_bendBy_54 : decode cX7_bendBy 54 = .ok (.iload 4, 2) := by decide +kernel
theorem dX7_bendBy_56 : decode cX7_bendBy 56 = .ok (.iload 5, 2) := by decide +kernel
theorem dX7_bendBy_58 : decode cX7_bendBy 58 = .ok (.invokestatic 73, 3) := by decide +kernel
theorem dX7_bendBy_61 : decode cX7_bendBy 61 = .ok (.iaload, 1) := by decide +kernel
theorem dX7_bendBy_62 : decode cX7_bendBy 62 = .ok (.iadd, 1) := by decide +kernel
theorem dX7_bendBy_63 : decode cX7_bendBy 63 = .ok (.ireturn, 1) := by decide +kernel
set_option maxRecDepth 20000 in
theorem ggX7_leastBy_X7_may : GoodIn wsX7_leastBy wsX7_may := goodIn_r _ [6, 7, 8, 5, 9, 10, 11, 12, 13, 14, 15, 16, 17, 29, 30, 31, 32, 33, 34, 35, 36, 37, 38, 39, 40, 41, 42, 43, 44] (by decide +kernel) (by decide +kernel)
set_option maxRecDepth 20000 in
theorem gX7_leastBy_X7_may : GoodIn wsX7_leastBy (wsV RX7 78 RX7 yX7_may wsX7_may) := goodIn_app (goodIn_of _ (by decide +kernel)) ggX7_leastBy_X7_may
set_option maxRecDepth 20000 in
theorem ggX7_leastBy_X7_bendBy : GoodIn wsX7_leastBy wsX7_bendBy := goodIn_r _ [21, 22, 10, 11, 12, 5, 13, 14, 23, 24, 25, 26, 27, 28, 29, 30, 31, 32, 33, 34, 35, 36, 37, 38, 39, 40, 41, 42, 43, 44] (by decide +kernel) (by decide +kernel)
set_option maxRecDepth 20000 in
theorem gX7_leastBy_X7_bendBy : GoodIn wsX7_leastBy (wsV RX7 82 RX7 yX7_bendBy wsX7_bendBy) := goodIn_app (goodIn_of _ (by decide +kernel)) ggX7_leastBy_X7_bendBy
theorem dX7_leastBy_0 : decode cX7_leastBy 0 = .ok (.ldc 77, 2) := by decide +kernel
theorem dX7_leastBy_2 : decode cX7_leastBy 2 = .ok (.istore 6, 2) := by decide +kernel
theorem dX7_leastBy_4 : decode cX7_leastBy 4 = .ok (.iconst 0, 1) := by decide +kernel
theorem dX7_leastBy_5 : decode cX7_leastBy 5 = .ok (.istore 7, 2) := by decide +kernel
theorem dX7_leastBy_7 : decode cX7_leastBy 7 = .ok (.iload 7, 2) := by decide +kernel
theorem dX7_leastBy_9 : decode cX7_leastBy 9 = .ok (.iconst 5, 1) := by decide +kernel
theorem dX7_leastBy_10 : decode cX7_leastBy 10 = .ok (.if_icmp .ge 58, 3) := by decide +kernel
theorem dX7_leastBy_13 : decode cX7_leastBy 13 = .ok (.aload_n 0, 1) := by decide +kernel
theorem dX7_leastBy_14 : decode cX7_leastBy 14 = .ok (.iload_n 1, 1) := by decide +kernel
theorem dX7_leastBy_15 : decode cX7_leastBy 15 = .ok (.iload_n 2, 1) := by decide +kernel
theorem dX7_leastBy_16 : decode cX7_leastBy 16 = .ok (.iconst 1, 1) := by decide +kernel
theorem dX7_leastBy_17 : decode cX7_leastBy 17 = .ok (.iadd, 1) := by decide +kernel
theorem dX7_leastBy_18 : decode cX7_leastBy 18 = .ok (.iload 7, 2) := by decide +kernel
theorem dX7_leastBy_20 : decode cX7_leastBy 20 = .ok (.iload 5, 2) := by decide +kernel
theorem dX7_leastBy_22 : decode cX7_leastBy 22 = .ok (.invokevirtual 78, 3) := by decide +kernel
theorem dX7_leastBy_25 : decode cX7_leastBy 25 = .ok (.ifCond .eq 17, 3) := by decide +kernel
theorem dX7_leastBy_28 : decode cX7_leastBy 28 = .ok (.aload_n 0, 1) := by decide +kernel
theorem dX7_leastBy_29 : decode cX7_leastBy 29 = .ok (.iload_n 1, 1) := by decide +kernel
theorem dX7_leastBy_30 : decode cX7_leastBy 30 = .ok (.iload_n 2, 1) := by decide +kernel
theorem dX7_leastBy_31 : decode cX7_leastBy 31 = .ok (.iload_n 3, 1) := by decide +kernel
theorem dX7_leastBy_32 : decode cX7_leastBy 32 = .ok (.iload 4, 2) := by decide +kernel
theorem dX7_leastBy_34 : decode cX7_leastBy 34 = .ok (.iload 7, 2) := by decide +kernel
theorem dX7_leastBy_36 : decode cX7_leastBy 36 = .ok (.invokevirtual 82, 3) := by decide +kernel
theorem dX7_leastBy_39 : decode cX7_leastBy 39 = .ok (.goto 5, 3) := by decide +kernel
theorem dX7_leastBy_42 : decode cX7_leastBy 42 = .ok (.ldc 77, 2) := by decide +kernel
theorem dX7_leastBy_44 : decode cX7_leastBy 44 = .ok (.istore 8, 2) := by decide +kernel
theorem dX7_leastBy_46 : decode cX7_leastBy 46 = .ok (.iload 8, 2) := by decide +kernel
theorem dX7_leastBy_48 : decode cX7_leastBy 48 = .ok (.iload 6, 2) := by decide +kernel
theorem dX7_leastBy_50 : decode cX7_leastBy 50 = .ok (.if_icmp .ge 8, 3) := by decide +kernel
theorem dX7_leastBy_53 : decode cX7_leastBy 53 = .ok (.iload 8, 2) := by decide +kernel
theorem dX7_leastBy_55 : decode cX7_leastBy 55 = .ok (.goto 5, 3) := by decide +kernel
theorem dX7_leastBy_58 : decode cX7_leastBy 58 = .ok (.iload 6, 2) := by decide +kernel
theorem dX7_leastBy_60 : decode cX7_leastBy 60 = .ok (.istore 6, 2) := by decide +kernel
theorem dX7_leastBy_62 : decode cX7_leastBy 62 = .ok (.iinc 7 1, 3) := by decide +kernel
theorem dX7_leastBy_65 : decode cX7_leastBy 65 = .ok (.goto (-58), 3) := by decide +kernel
theorem dX7_leastBy_68 : decode cX7_leastBy 68 = .ok (.iload 6, 2) := by decide +kernel
theorem dX7_leastBy_70 : decode cX7_leastBy 70 = .ok (.ireturn, 1) := by decide +kernel
set_option maxRecDepth 20000 in
theorem ggX7_findsBehind_X7_place : GoodIn wsX7_findsBehind wsX7_place := goodIn_r _ [5] (by decide +kernel) (by decide +kernel)
set_option maxRecDepth 20000 in
theorem gX7_findsBehind_X7_place : GoodIn wsX7_findsBehind (va_wsS RX7 73 yX7_place wsX7_place) := goodIn_app (goodIn_of _ (by decide +kernel)) ggX7_findsBehind_X7_place
set_option maxRecDepth 20000 in
theorem ggX7_findsBehind_X7_leastBy : GoodIn wsX7_findsBehind wsX7_leastBy := goodIn_r _ [9, 10, 11, 12, 13, 4, 14, 15, 16, 17, 18, 19, 20, 21, 22, 23, 24, 25, 26, 27, 28, 29, 1, 30, 31, 32, 2, 3, 5, 33, 34, 35, 36, 37, 38, 39, 40, 41, 42, 43, 44, 45, 46, 47, 48] (by decide +kernel) (by decide +kernel)
set_option maxRecDepth 20000 in
theorem gX7_findsBehind_X7_leastBy : GoodIn wsX7_findsBehind (wsV RX7 86 RX7 yX7_leastBy wsX7_leastBy) := goodIn_app (goodIn_of _ (by decide +kernel)) ggX7_findsBehind_X7_leastBy
theorem dX7_findsBehind_0 : decode cX7_findsBehind 0 = .ok (.iconst 0, 1) := by decide +kernel
theorem dX7_findsBehind_1 : decode cX7_findsBehind 1 = .ok (.istore_n 3, 1) := by decide +kernel
theorem dX7_findsBehind_2 : decode cX7_findsBehind 2 = .ok (.iload_n 3, 1) := by decide +kernel
theorem dX7_findsBehind_3 : decode cX7_findsBehind 3 = .ok (.bipush 25, 2) := by decide +kernel
theorem dX7_findsBehind_5 : decode cX7_findsBehind 5 = .ok (.if_icmp .ge 22, 3) := by decide +kernel
theorem dX7_findsBehind_8 : decode cX7_findsBehind 8 = .ok (.aload_n 0, 1) := by decide +kernel
theorem dX7_findsBehind_9 : decode cX7_findsBehind 9 = .ok (.getfield 35, 3) := by decide +kernel
theorem dX7_findsBehind_12 : decode cX7_findsBehind 12 = .ok (.bipush 8, 2) := by decide +kernel
theorem dX7_findsBehind_14 : decode cX7_findsBehind 14 = .ok (.iconst 0, 1) := by decide +kernel
theorem dX7_findsBehind_15 : decode cX7_findsBehind 15 = .ok (.iload_n 3, 1) := by decide +kernel
theorem dX7_findsBehind_16 : decode cX7_findsBehind 16 = .ok (.invokestatic 73, 3) := by decide +kernel
theorem dX7_findsBehind_19 : decode cX7_findsBehind 19 = .ok (.iconst 0, 1) := by decide +kernel
theorem dX7_findsBehind_20 : decode cX7_findsBehind 20 = .ok (.iastore, 1) := by decide +kernel
theorem dX7_findsBehind_21 : decode cX7_findsBehind 21 = .ok (.iinc 3 1, 3) := by decide +kernel
theorem dX7_findsBehind_24 : decode cX7_findsBehind 24 = .ok (.goto (-22), 3) := by decide +kernel
theorem dX7_findsBehind_27 : decode cX7_findsBehind 27 = .ok (.bipush 7, 2) := by decide +kernel
theorem dX7_findsBehind_29 : decode cX7_findsBehind 29 = .ok (.istore_n 3, 1) := by decide +kernel
theorem dX7_findsBehind_30 : decode cX7_findsBehind 30 = .ok (.iload_n 3, 1) := by decide +kernel
theorem dX7_findsBehind_31 : decode cX7_findsBehind 31 = .ok (.ifCond .le 52, 3) := by decide +kernel
theorem dX7_findsBehind_34 : decode cX7_findsBehind 34 = .ok (.iconst 0, 1) := by decide +kernel
theorem dX7_findsBehind_35 : decode cX7_findsBehind 35 = .ok (.istore 4, 2) := by decide +kernel
theorem dX7_findsBehind_37 : decode cX7_findsBehind 37 = .ok (.iload 4, 2) := by decide +kernel
theorem dX7_findsBehind_39 : decode cX7_findsBehind 39 = .ok (.bipush 25, 2) := by decide +kernel
theorem dX7_findsBehind_41 : decode cX7_findsBehind 41 = .ok (.if_icmp .ge 36, 3) := by decide +kernel
theorem dX7_findsBehind_44 : decode cX7_findsBehind 44 = .ok (.aload_n 0, 1) := by decide +kernel
theorem dX7_findsBehind_45 : decode cX7_findsBehind 45 = .ok (.getfield 35, 3) := by decide +kernel
theorem dX7_findsBehind_48 : decode cX7_findsBehind 48 = .ok (.iload_n 3, 1) := by decide +kernel
theorem dX7_findsBehind_49 : decode cX7_findsBehind 49 = .ok (.iconst 0, 1) := by decide +kernel
theorem dX7_findsBehind_50 : decode cX7_findsBehind 50 = .ok (.iload 4, 2) := by decide +kernel
theorem dX7_findsBehind_52 : decode cX7_findsBehind 52 = .ok (.invokestatic 73, 3) := by decide +kernel
theorem dX7_findsBehind_55 : decode cX7_findsBehind 55 = .ok (.aload_n 0, 1) := by decide +kernel
theorem dX7_findsBehind_56 : decode cX7_findsBehind 56 = .ok (.iload_n 1, 1) := by decide +kernel
theorem dX7_findsBehind_57 : decode cX7_findsBehind 57 = .ok (.iload_n 3, 1) := by decide +kernel
theorem dX7_findsBehind_58 : decode cX7_findsBehind 58 = .ok (.iload 4, 2) := by decide +kernel
theorem dX7_findsBehind_60 : decode cX7_findsBehind 60 = .ok (.iconst 5, 1) := by decide +kernel
theorem dX7_findsBehind_61 : decode cX7_findsBehind 61 = .ok (.idiv, 1) := by decide +kernel
theorem dX7_findsBehind_62 : decode cX7_findsBehind 62 = .ok (.iload 4, 2) := by decide +kernel
theorem dX7_findsBehind_64 : decode cX7_findsBehind 64 = .ok (.iconst 5, 1) := by decide +kernel
theorem dX7_findsBehind_65 : decode cX7_findsBehind 65 = .ok (.irem, 1) := by decide +kernel
theorem dX7_findsBehind_66 : decode cX7_findsBehind 66 = .ok (.iload_n 2, 1) := by decide +kernel
theorem dX7_findsBehind_67 : decode cX7_findsBehind 67 = .ok (.invokevirtual 86, 3) := by decide +kernel
theorem dX7_findsBehind_70 : decode cX7_findsBehind 70 = .ok (.iastore, 1) := by decide +kernel
theorem dX7_findsBehind_71 : decode cX7_findsBehind 71 = .ok (.iinc 4 1, 3) := by decide +kernel
theorem dX7_findsBehind_74 : decode cX7_findsBehind 74 = .ok (.goto (-37), 3) := by decide +kernel
theorem dX7_findsBehind_77 : decode cX7_findsBehind 77 = .ok (.iinc 3 (-1), 3) := by decide +kernel
theorem dX7_findsBehind_80 : decode cX7_findsBehind 80 = .ok (.goto (-50), 3) := by decide +kernel
theorem dX7_findsBehind_83 : decode cX7_findsBehind 83 = .ok (.return_, 1) := by decide +kernel
set_option maxRecDepth 20000 in
theorem ggX7_laysLine_X7_may : GoodIn wsX7_laysLine wsX7_may := goodIn_r _ [8, 9, 10, 7, 11, 12, 13, 14, 15, 16, 17, 18, 19, 30, 31, 32, 33, 34, 35, 36, 37, 38, 39, 40, 41, 42, 43, 44, 45] (by decide +kernel) (by decide +kernel)
set_option maxRecDepth 20000 in
theorem gX7_laysLine_X7_may : GoodIn wsX7_laysLine (wsV RX7 78 RX7 yX7_may wsX7_may) := goodIn_app (goodIn_of _ (by decide +kernel)) ggX7_laysLine_X7_may
set_option maxRecDepth 20000 in
theorem ggX7_laysLine_X7_place : GoodIn wsX7_laysLine wsX7_place := goodIn_r _ [22] (by decide +kernel) (by decide +kernel)
set_option maxRecDepth 20000 in
theorem gX7_laysLine_X7_place : GoodIn wsX7_laysLine (va_wsS RX7 73 yX7_place wsX7_place) := goodIn_app (goodIn_of _ (by decide +kernel)) ggX7_laysLine_X7_place
set_option maxRecDepth 20000 in
theorem ggX7_laysLine_X7_bendBy : GoodIn wsX7_laysLine wsX7_bendBy := goodIn_r _ [26, 2, 12, 13, 14, 7, 15, 16, 27, 28, 29, 20, 21, 22, 30, 31, 32, 33, 34, 35, 36, 37, 38, 39, 40, 41, 42, 43, 44, 45] (by decide +kernel) (by decide +kernel)
set_option maxRecDepth 20000 in
theorem gX7_laysLine_X7_bendBy : GoodIn wsX7_laysLine (wsV RX7 82 RX7 yX7_bendBy wsX7_bendBy) := goodIn_app (goodIn_of _ (by decide +kernel)) ggX7_laysLine_X7_bendBy
theorem dX7_laysLine_0 : decode cX7_laysLine 0 = .ok (.ldc 77, 2) := by decide +kernel
theorem dX7_laysLine_2 : decode cX7_laysLine 2 = .ok (.istore_n 3, 1) := by decide +kernel
theorem dX7_laysLine_3 : decode cX7_laysLine 3 = .ok (.iconst 0, 1) := by decide +kernel
theorem dX7_laysLine_4 : decode cX7_laysLine 4 = .ok (.istore 4, 2) := by decide +kernel
theorem dX7_laysLine_6 : decode cX7_laysLine 6 = .ok (.iconst 0, 1) := by decide +kernel
theorem dX7_laysLine_7 : decode cX7_laysLine 7 = .ok (.istore 5, 2) := by decide +kernel
theorem dX7_laysLine_9 : decode cX7_laysLine 9 = .ok (.iload 5, 2) := by decide +kernel
theorem dX7_laysLine_11 : decode cX7_laysLine 11 = .ok (.bipush 25, 2) := by decide +kernel
theorem dX7_laysLine_13 : decode cX7_laysLine 13 = .ok (.if_icmp .ge 82, 3) := by decide +kernel
theorem dX7_laysLine_16 : decode cX7_laysLine 16 = .ok (.aload_n 0, 1) := by decide +kernel
theorem dX7_laysLine_17 : decode cX7_laysLine 17 = .ok (.iload_n 1, 1) := by decide +kernel
theorem dX7_laysLine_18 : decode cX7_laysLine 18 = .ok (.iconst 0, 1) := by decide +kernel
theorem dX7_laysLine_19 : decode cX7_laysLine 19 = .ok (.iload 5, 2) := by decide +kernel
theorem dX7_laysLine_21 : decode cX7_laysLine 21 = .ok (.iconst 5, 1) := by decide +kernel
theorem dX7_laysLine_22 : decode cX7_laysLine 22 = .ok (.idiv, 1) := by decide +kernel
theorem dX7_laysLine_23 : decode cX7_laysLine 23 = .ok (.iload_n 2, 1) := by decide +kernel
theorem dX7_laysLine_24 : decode cX7_laysLine 24 = .ok (.invokevirtual 78, 3) := by decide +kernel
theorem dX7_laysLine_27 : decode cX7_laysLine 27 = .ok (.ifCond .eq 21, 3) := by decide +kernel
theorem dX7_laysLine_30 : decode cX7_laysLine 30 = .ok (.aload_n 0, 1) := by decide +kernel
theorem dX7_laysLine_31 : decode cX7_laysLine 31 = .ok (.iload_n 1, 1) := by decide +kernel
theorem dX7_laysLine_32 : decode cX7_laysLine 32 = .ok (.iconst 1, 1) := by decide +kernel
theorem dX7_laysLine_33 : decode cX7_laysLine 33 = .ok (.iload 5, 2) := by decide +kernel
theorem dX7_laysLine_35 : decode cX7_laysLine 35 = .ok (.iconst 5, 1) := by decide +kernel
theorem dX7_laysLine_36 : decode cX7_laysLine 36 = .ok (.irem, 1) := by decide +kernel
theorem dX7_laysLine_37 : decode cX7_laysLine 37 = .ok (.iload_n 2, 1) := by decide +kernel
theorem dX7_laysLine_38 : decode cX7_laysLine 38 = .ok (.invokevirtual 78, 3) := by decide +kernel
theorem dX7_laysLine_41 : decode cX7_laysLine 41 = .ok (.ifCond .eq 7, 3) := by decide +kernel
theorem dX7_laysLine_44 : decode cX7_laysLine 44 = .ok (.iconst 1, 1) := by decide +kernel
theorem dX7_laysLine_45 : decode cX7_laysLine 45 = .ok (.goto 4, 3) := by decide +kernel
theorem dX7_laysLine_48 : decode cX7_laysLine 48 = .ok (.iconst 0, 1) := by decide +kernel
theorem dX7_laysLine_49 : decode cX7_laysLine 49 = .ok (.istore 6, 2) := by decide +kernel
theorem dX7_laysLine_51 : decode cX7_laysLine 51 = .ok (.iload 6, 2) := by decide +kernel
theorem dX7_laysLine_53 : decode cX7_laysLine 53 = .ok (.ifCond .eq 36, 3) := by decide +kernel
theorem dX7_laysLine_56 : decode cX7_laysLine 56 = .ok (.aload_n 0, 1) := by decide +kernel
theorem dX7_laysLine_57 : decode cX7_laysLine 57 = .ok (.getfield 35, 3) := by decide +kernel
theorem dX7_laysLine_60 : decode cX7_laysLine 60 = .ok (.iconst 1, 1) := by decide +kernel
theorem dX7_laysLine_61 : decode cX7_laysLine 61 = .ok (.iconst 0, 1) := by decide +kernel
theorem dX7_laysLine_62 : decode cX7_laysLine 62 = .ok (.iload 5, 2) := by decide +kernel
theorem dX7_laysLine_64 : decode cX7_laysLine 64 = .ok (.invokestatic 73, 3) := by decide +kernel
theorem dX7_laysLine_67 : decode cX7_laysLine 67 = .ok (.iaload, 1) := by decide +kernel
theorem dX7_laysLine_68 : decode cX7_laysLine 68 = .ok (.iload_n 3, 1) := by decide +kernel
theorem dX7_laysLine_69 : decode cX7_laysLine 69 = .ok (.if_icmp .ge 20, 3) := by decide +kernel
theorem dX7_laysLine_72 : decode cX7_laysLine 72 = .ok (.aload_n 0, 1) := by decide +kernel
theorem dX7_laysLine_73 : decode cX7_laysLine 73 = .ok (.getfield 35, 3) := by decide +kernel
theorem dX7_laysLine_76 : decode cX7_laysLine 76 = .ok (.iconst 1, 1) := by decide +kernel
theorem dX7_laysLine_77 : decode cX7_laysLine 77 = .ok (.iconst 0, 1) := by decide +kernel
theorem dX7_laysLine_78 : decode cX7_laysLine 78 = .ok (.iload 5, 2) := by decide +kernel
theorem dX7_laysLine_80 : decode cX7_laysLine 80 = .ok (.invokestatic 73, 3) := by decide +kernel
theorem dX7_laysLine_83 : decode cX7_laysLine 83 = .ok (.iaload, 1) := by decide +kernel
theorem dX7_laysLine_84 : decode cX7_laysLine 84 = .ok (.istore_n 3, 1) := by decide +kernel
theorem dX7_laysLine_85 : decode cX7_laysLine 85 = .ok (.iload 5, 2) := by decide +kernel
theorem dX7_laysLine_87 : decode cX7_laysLine 87 = .ok (.istore 4, 2) := by decide +kernel
theorem dX7_laysLine_89 : decode cX7_laysLine 89 = .ok (.iinc 5 1, 3) := by decide +kernel
theorem dX7_laysLine_92 : decode cX7_laysLine 92 = .ok (.goto (-83), 3) := by decide +kernel
theorem dX7_laysLine_95 : decode cX7_laysLine 95 = .ok (.aload_n 0, 1) := by decide +kernel
theorem dX7_laysLine_96 : decode cX7_laysLine 96 = .ok (.getfield 38, 3) := by decide +kernel
theorem dX7_laysLine_99 : decode cX7_laysLine 99 = .ok (.iconst 0, 1) := by decide +kernel
theorem dX7_laysLine_100 : decode cX7_laysLine 100 = .ok (.iload 4, 2) := by decide +kernel
theorem dX7_laysLine_102 : decode cX7_laysLine 102 = .ok (.iconst 5, 1) := by decide +kernel
theorem dX7_laysLine_103 : decode cX7_laysLine 103 = .ok (.idiv, 1) := by decide +kernel
theorem dX7_laysLine_104 : decode cX7_laysLine 104 = .ok (.iastore, 1) := by decide +kernel
theorem dX7_laysLine_105 : decode cX7_laysLine 105 = .ok (.aload_n 0, 1) := by decide +kernel
theorem dX7_laysLine_106 : decode cX7_laysLine 106 = .ok (.getfield 38, 3) := by decide +kernel
theorem dX7_laysLine_109 : decode cX7_laysLine 109 = .ok (.iconst 1, 1) := by decide +kernel
theorem dX7_laysLine_110 : decode cX7_laysLine 110 = .ok (.iload 4, 2) := by decide +kernel
theorem dX7_laysLine_112 : decode cX7_laysLine 112 = .ok (.iconst 5, 1) := by decide +kernel
theorem dX7_laysLine_113 : decode cX7_laysLine 113 = .ok (.irem, 1) := by decide +kernel
theorem dX7_laysLine_114 : decode cX7_laysLine 114 = .ok (.iastore, 1) := by decide +kernel
theorem dX7_laysLine_115 : decode cX7_laysLine 115 = .ok (.iconst 1, 1) := by decide +kernel
theorem dX7_laysLine_116 : decode cX7_laysLine 116 = .ok (.istore 5, 2) := by decide +kernel
theorem dX7_laysLine_118 : decode cX7_laysLine 118 = .ok (.iload 5, 2) := by decide +kernel
theorem dX7_laysLine_120 : decode cX7_laysLine 120 = .ok (.iconst 1, 1) := by decide +kernel
theorem dX7_laysLine_121 : decode cX7_laysLine 121 = .ok (.iadd, 1) := by decide +kernel
theorem dX7_laysLine_122 : decode cX7_laysLine 122 = .ok (.bipush 9, 2) := by decide +kernel
theorem dX7_laysLine_124 : decode cX7_laysLine 124 = .ok (.if_icmp .ge 119, 3) := by decide +kernel
theorem dX7_laysLine_127 : decode cX7_laysLine 127 = .ok (.aload_n 0, 1) := by decide +kernel
theorem dX7_laysLine_128 : decode cX7_laysLine 128 = .ok (.getfield 35, 3) := by decide +kernel
theorem dX7_laysLine_131 : decode cX7_laysLine 131 = .ok (.iload 5, 2) := by decide +kernel
theorem dX7_laysLine_133 : decode cX7_laysLine 133 = .ok (.aload_n 0, 1) := by decide +kernel
theorem dX7_laysLine_134 : decode cX7_laysLine 134 = .ok (.getfield 38, 3) := by decide +kernel
theorem dX7_laysLine_137 : decode cX7_laysLine 137 = .ok (.iload 5, 2) := by decide +kernel
theorem dX7_laysLine_139 : decode cX7_laysLine 139 = .ok (.iconst 1, 1) := by decide +kernel
theorem dX7_laysLine_140 : decode cX7_laysLine 140 = .ok (.isub, 1) := by decide +kernel
theorem dX7_laysLine_141 : decode cX7_laysLine 141 = .ok (.iaload, 1) := by decide +kernel
theorem dX7_laysLine_142 : decode cX7_laysLine 142 = .ok (.aload_n 0, 1) := by decide +kernel
theorem dX7_laysLine_143 : decode cX7_laysLine 143 = .ok (.getfield 38, 3) := by decide +kernel
theorem dX7_laysLine_146 : decode cX7_laysLine 146 = .ok (.iload 5, 2) := by decide +kernel
theorem dX7_laysLine_148 : decode cX7_laysLine 148 = .ok (.iaload, 1) := by decide +kernel
theorem dX7_laysLine_149 : decode cX7_laysLine 149 = .ok (.invokestatic 73, 3) := by decide +kernel
theorem dX7_laysLine_152 : decode cX7_laysLine 152 = .ok (.iaload, 1) := by decide +kernel
theorem dX7_laysLine_153 : decode cX7_laysLine 153 = .ok (.istore 6, 2) := by decide +kernel
theorem dX7_laysLine_155 : decode cX7_laysLine 155 = .ok (.iconst (-1), 1) := by decide +kernel
theorem dX7_laysLine_156 : decode cX7_laysLine 156 = .ok (.istore 7, 2) := by decide +kernel
theorem dX7_laysLine_158 : decode cX7_laysLine 158 = .ok (.iconst 4, 1) := by decide +kernel
theorem dX7_laysLine_159 : decode cX7_laysLine 159 = .ok (.istore 8, 2) := by decide +kernel
theorem dX7_laysLine_161 : decode cX7_laysLine 161 = .ok (.iload 8, 2) := by decide +kernel
theorem dX7_laysLine_163 : decode cX7_laysLine 163 = .ok (.ifCond .lt 63, 3) := by decide +kernel
theorem dX7_laysLine_166 : decode cX7_laysLine 166 = .ok (.aload_n 0, 1) := by decide +kernel
theorem dX7_laysLine_167 : decode cX7_laysLine 167 = .ok (.iload_n 1, 1) := by decide +kernel
theorem dX7_laysLine_168 : decode cX7_laysLine 168 = .ok (.iload 5, 2) := by decide +kernel
theorem dX7_laysLine_170 : decode cX7_laysLine 170 = .ok (.iconst 1, 1) := by decide +kernel
theorem dX7_laysLine_171 : decode cX7_laysLine 171 = .ok (.iadd, 1) := by decide +kernel
theorem dX7_laysLine_172 : decode cX7_laysLine 172 = .ok (.iload 8, 2) := by decide +kernel
theorem dX7_laysLine_174 : decode cX7_laysLine 174 = .ok (.iload_n 2, 1) := by decide +kernel
theorem dX7_laysLine_175 : decode cX7_laysLine 175 = .ok (.invokevirtual 78, 3) := by decide +kernel
theorem dX7_laysLine_178 : decode cX7_laysLine 178 = .ok (.ifCond .eq 38, 3) := by decide +kernel
theorem dX7_laysLine_181 : decode cX7_laysLine 181 = .ok (.aload_n 0, 1) := by decide +kernel
theorem dX7_laysLine_182 : decode cX7_laysLine 182 = .ok (.iload_n 1, 1) := by decide +kernel
theorem dX7_laysLine_183 : decode cX7_laysLine 183 = .ok (.iload 5, 2) := by decide +kernel
theorem dX7_laysLine_185 : decode cX7_laysLine 185 = .ok (.aload_n 0, 1) := by decide +kernel
theorem dX7_laysLine_186 : decode cX7_laysLine 186 = .ok (.getfield 38, 3) := by decide +kernel
theorem dX7_laysLine_189 : decode cX7_laysLine 189 = .ok (.iload 5, 2) := by decide +kernel
theorem dX7_laysLine_191 : decode cX7_laysLine 191 = .ok (.iconst 1, 1) := by decide +kernel
theorem dX7_laysLine_192 : decode cX7_laysLine 192 = .ok (.isub, 1) := by decide +kernel
theorem dX7_laysLine_193 : decode cX7_laysLine 193 = .ok (.iaload, 1) := by decide +kernel
theorem dX7_laysLine_194 : decode cX7_laysLine 194 = .ok (.aload_n 0, 1) := by decide +kernel
theorem dX7_laysLine_195 : decode cX7_laysLine 195 = .ok (.getfield 38, 3) := by decide +kernel
theorem dX7_laysLine_198 : decode cX7_laysLine 198 = .ok (.iload 5, 2) := by decide +kernel
theorem dX7_laysLine_200 : decode cX7_laysLine 200 = .ok (.iaload, 1) := by decide +kernel
theorem dX7_laysLine_201 : decode cX7_laysLine 201 = .ok (.iload 8, 2) := by decide +kernel
theorem dX7_laysLine_203 : decode cX7_laysLine 203 = .ok (.invokevirtual 82, 3) := by decide +kernel
theorem dX7_laysLine_206 : decode cX7_laysLine 206 = .ok (.iload 6, 2) := by decide +kernel
theorem dX7_laysLine_208 : decode cX7_laysLine 208 = .ok (.if_icmp .ne 8, 3) := by decide +kernel
theorem dX7_laysLine_211 : decode cX7_laysLine 211 = .ok (.iload 8, 2) := by decide +kernel
theorem dX7_laysLine_213 : decode cX7_laysLine 213 = .ok (.goto 5, 3) := by decide +kernel
theorem dX7_laysLine_216 : decode cX7_laysLine 216 = .ok (.iload 7, 2) := by decide +kernel
theorem dX7_laysLine_218 : decode cX7_laysLine 218 = .ok (.istore 7, 2) := by decide +kernel
theorem dX7_laysLine_220 : decode cX7_laysLine 220 = .ok (.iinc 8 (-1), 3) := by decide +kernel
theorem dX7_laysLine_223 : decode cX7_laysLine 223 = .ok (.goto (-62), 3) := by decide +kernel
theorem dX7_laysLine_226 : decode cX7_laysLine 226 = .ok (.aload_n 0, 1) := by decide +kernel
theorem dX7_laysLine_227 : decode cX7_laysLine 227 = .ok (.getfield 38, 3) := by decide +kernel
theorem dX7_laysLine_230 : decode cX7_laysLine 230 = .ok (.iload 5, 2) := by decide +kernel
theorem dX7_laysLine_232 : decode cX7_laysLine 232 = .ok (.iconst 1, 1) := by decide +kernel
theorem dX7_laysLine_233 : decode cX7_laysLine 233 = .ok (.iadd, 1) := by decide +kernel
theorem dX7_laysLine_234 : decode cX7_laysLine 234 = .ok (.iload 7, 2) := by decide +kernel
theorem dX7_laysLine_236 : decode cX7_laysLine 236 = .ok (.iastore, 1) := by decide +kernel
theorem dX7_laysLine_237 : decode cX7_laysLine 237 = .ok (.iinc 5 1, 3) := by decide +kernel
theorem dX7_laysLine_240 : decode cX7_laysLine 240 = .ok (.goto (-122), 3) := by decide +kernel
theorem dX7_laysLine_243 : decode cX7_laysLine 243 = .ok (.return_, 1) := by decide +kernel
set_option maxRecDepth 20000 in
theorem ggX7_fair_X7_isWaterline : GoodIn wsX7_fair wsX7_isWaterline := goodIn_r _ [8, 9, 10, 7, 11] (by decide +kernel) (by decide +kernel)
set_option maxRecDepth 20000 in
theorem gX7_fair_X7_isWaterline : GoodIn wsX7_fair (va_wsS RX7 52 yX7_isWaterline wsX7_isWaterline) := goodIn_app (goodIn_of _ (by decide +kernel)) ggX7_fair_X7_isWaterline
set_option maxRecDepth 20000 in
theorem ggX7_fair_X7_in : GoodIn wsX7_fair wsX7_in := goodIn_r _ [11] (by decide +kernel) (by decide +kernel)
set_option maxRecDepth 20000 in
theorem gX7_fair_X7_in : GoodIn wsX7_fair (va_wsS RX7 44 yX7_in wsX7_in) := goodIn_app (goodIn_of _ (by decide +kernel)) ggX7_fair_X7_in
set_option maxRecDepth 20000 in
theorem ggX7_fair_X7_bendOf : GoodIn wsX7_fair wsX7_bendOf := goodIn_r _ [15, 16, 17, 18, 7, 19, 3, 20, 21, 22, 51, 52, 53, 54, 55, 56, 57, 58, 59, 60, 61, 62, 63, 64, 65, 66] (by decide +kernel) (by decide +kernel)
set_option maxRecDepth 20000 in
theorem gX7_fair_X7_bendOf : GoodIn wsX7_fair (wsV RX7 67 RX7 yX7_bendOf wsX7_bendOf) := goodIn_app (goodIn_of _ (by decide +kernel)) ggX7_fair_X7_bendOf
set_option maxRecDepth 20000 in
theorem ggX7_fair_X7_findsBehind : GoodIn wsX7_fair wsX7_findsBehind := goodIn_r _ [26, 27, 28, 29, 7, 30, 31, 32, 33, 34, 35, 36, 37, 38, 39, 40, 41, 42, 16, 17, 18, 19, 3, 9, 10, 11, 43, 44, 45, 46, 20, 21, 22, 51, 52, 53, 54, 55, 56, 57, 58, 59, 60, 61, 62, 63, 64, 65, 66] (by decide +kernel) (by decide +kernel)
set_option maxRecDepth 20000 in
theorem gX7_fair_X7_findsBehind : GoodIn wsX7_fair (wsV RX7 89 RX7 yX7_findsBehind wsX7_findsBehind) := goodIn_app (goodIn_of _ (by decide +kernel)) ggX7_fair_X7_findsBehind
set_option maxRecDepth 20000 in
theorem ggX7_fair_X7_laysLine : GoodIn wsX7_fair wsX7_laysLine := goodIn_r _ [50, 35, 27, 4, 36, 37, 38, 7, 39, 40, 41, 42, 16, 17, 18, 19, 3, 9, 10, 11, 28, 29, 30, 43, 44, 45, 46, 20, 21, 22, 51, 52, 53, 54, 55, 56, 57, 58, 59, 60, 61, 62, 63, 64, 65, 66] (by decide +kernel) (by decide +kernel)
set_option maxRecDepth 20000 in
theorem gX7_fair_X7_laysLine : GoodIn wsX7_fair (wsV RX7 93 RX7 yX7_laysLine wsX7_laysLine) := goodIn_app (goodIn_of _ (by decide +kernel)) ggX7_fair_X7_laysLine
theorem dX7_fair_0 : decode cX7_fair 0 = .ok (.aload_n 0, 1) := by decide +kernel
theorem dX7_fair_1 : decode cX7_fair 1 = .ok (.iload_n 1, 1) := by decide +kernel
theorem dX7_fair_2 : decode cX7_fair 2 = .ok (.invokestatic 52, 3) := by decide +kernel
theorem dX7_fair_5 : decode cX7_fair 5 = .ok (.ifCond .ne 7, 3) := by decide +kernel
theorem dX7_fair_8 : decode cX7_fair 8 = .ok (.iconst 1, 1) := by decide +kernel
theorem dX7_fair_9 : decode cX7_fair 9 = .ok (.goto 28, 3) := by decide +kernel
theorem dX7_fair_12 : decode cX7_fair 12 = .ok (.iload_n 2, 1) := by decide +kernel
theorem dX7_fair_13 : decode cX7_fair 13 = .ok (.iconst 0, 1) := by decide +kernel
theorem dX7_fair_14 : decode cX7_fair 14 = .ok (.iconst 2, 1) := by decide +kernel
theorem dX7_fair_15 : decode cX7_fair 15 = .ok (.invokestatic 44, 3) := by decide +kernel
theorem dX7_fair_18 : decode cX7_fair 18 = .ok (.ifCond .ne 7, 3) := by decide +kernel
theorem dX7_fair_21 : decode cX7_fair 21 = .ok (.iconst 2, 1) := by decide +kernel
theorem dX7_fair_22 : decode cX7_fair 22 = .ok (.goto 15, 3) := by decide +kernel
theorem dX7_fair_25 : decode cX7_fair 25 = .ok (.aload_n 0, 1) := by decide +kernel
theorem dX7_fair_26 : decode cX7_fair 26 = .ok (.getfield 55, 3) := by decide +kernel
theorem dX7_fair_29 : decode cX7_fair 29 = .ok (.ifCond .eq 7, 3) := by decide +kernel
theorem dX7_fair_32 : decode cX7_fair 32 = .ok (.iconst 3, 1) := by decide +kernel
theorem dX7_fair_33 : decode cX7_fair 33 = .ok (.goto 4, 3) := by decide +kernel
theorem dX7_fair_36 : decode cX7_fair 36 = .ok (.iconst 0, 1) := by decide +kernel
theorem dX7_fair_37 : decode cX7_fair 37 = .ok (.putfield 41, 3) := by decide +kernel
theorem dX7_fair_40 : decode cX7_fair 40 = .ok (.aload_n 0, 1) := by decide +kernel
theorem dX7_fair_41 : decode cX7_fair 41 = .ok (.getfield 41, 3) := by decide +kernel
theorem dX7_fair_44 : decode cX7_fair 44 = .ok (.ifCond .le 5, 3) := by decide +kernel
theorem dX7_fair_47 : decode cX7_fair 47 = .ok (.iconst 0, 1) := by decide +kernel
theorem dX7_fair_48 : decode cX7_fair 48 = .ok (.ireturn, 1) := by decide +kernel
theorem dX7_fair_49 : decode cX7_fair 49 = .ok (.aload_n 0, 1) := by decide +kernel
theorem dX7_fair_50 : decode cX7_fair 50 = .ok (.iload_n 1, 1) := by decide +kernel
theorem dX7_fair_51 : decode cX7_fair 51 = .ok (.invokevirtual 67, 3) := by decide +kernel
theorem dX7_fair_54 : decode cX7_fair 54 = .ok (.istore_n 3, 1) := by decide +kernel
theorem dX7_fair_55 : decode cX7_fair 55 = .ok (.aload_n 0, 1) := by decide +kernel
theorem dX7_fair_56 : decode cX7_fair 56 = .ok (.iload_n 1, 1) := by decide +kernel
theorem dX7_fair_57 : decode cX7_fair 57 = .ok (.iload_n 2, 1) := by decide +kernel
theorem dX7_fair_58 : decode cX7_fair 58 = .ok (.invokevirtual 89, 3) := by decide +kernel
theorem dX7_fair_61 : decode cX7_fair 61 = .ok (.aload_n 0, 1) := by decide +kernel
theorem dX7_fair_62 : decode cX7_fair 62 = .ok (.iload_n 1, 1) := by decide +kernel
theorem dX7_fair_63 : decode cX7_fair 63 = .ok (.iload_n 2, 1) := by decide +kernel
theorem dX7_fair_64 : decode cX7_fair 64 = .ok (.invokevirtual 93, 3) := by decide +kernel
theorem dX7_fair_67 : decode cX7_fair 67 = .ok (.iconst 0, 1) := by decide +kernel
theorem dX7_fair_68 : decode cX7_fair 68 = .ok (.istore 4, 2) := by decide +kernel
theorem dX7_fair_70 : decode cX7_fair 70 = .ok (.iload 4, 2) := by decide +kernel
theorem dX7_fair_72 : decode cX7_fair 72 = .ok (.bipush 9, 2) := by decide +kernel
theorem dX7_fair_74 : decode cX7_fair 74 = .ok (.if_icmp .ge 33, 3) := by decide +kernel
theorem dX7_fair_77 : decode cX7_fair 77 = .ok (.aload_n 0, 1) := by decide +kernel
theorem dX7_fair_78 : decode cX7_fair 78 = .ok (.getfield 7, 3) := by decide +kernel
theorem dX7_fair_81 : decode cX7_fair 81 = .ok (.bipush 9, 2) := by decide +kernel
theorem dX7_fair_83 : decode cX7_fair 83 = .ok (.iload_n 1, 1) := by decide +kernel
theorem dX7_fair_84 : decode cX7_fair 84 = .ok (.imul, 1) := by decide +kernel
theorem dX7_fair_85 : decode cX7_fair 85 = .ok (.iload 4, 2) := by decide +kernel
theorem dX7_fair_87 : decode cX7_fair 87 = .ok (.iadd, 1) := by decide +kernel
theorem dX7_fair_88 : decode cX7_fair 88 = .ok (.dup2, 1) := by decide +kernel
theorem dX7_fair_89 : decode cX7_fair 89 = .ok (.iaload, 1) := by decide +kernel
theorem dX7_fair_90 : decode cX7_fair 90 = .ok (.aload_n 0, 1) := by decide +kernel
theorem dX7_fair_91 : decode cX7_fair 91 = .ok (.getfield 38, 3) := by decide +kernel
theorem dX7_fair_94 : decode cX7_fair 94 = .ok (.iload 4, 2) := by decide +kernel
theorem dX7_fair_96 : decode cX7_fair 96 = .ok (.iaload, 1) := by decide +kernel
theorem dX7_fair_97 : decode cX7_fair 97 = .ok (.iconst 2, 1) := by decide +kernel
theorem dX7_fair_98 : decode cX7_fair 98 = .ok (.isub, 1) := by decide +kernel
theorem dX7_fair_99 : decode cX7_fair 99 = .ok (.iadd, 1) := by decide +kernel
theorem dX7_fair_100 : decode cX7_fair 100 = .ok (.iastore, 1) := by decide +kernel
theorem dX7_fair_101 : decode cX7_fair 101 = .ok (.iinc 4 1, 3) := by decide +kernel
theorem dX7_fair_104 : decode cX7_fair 104 = .ok (.goto (-34), 3) := by decide +kernel
theorem dX7_fair_107 : decode cX7_fair 107 = .ok (.iload_n 3, 1) := by decide +kernel
theorem dX7_fair_108 : decode cX7_fair 108 = .ok (.aload_n 0, 1) := by decide +kernel
theorem dX7_fair_109 : decode cX7_fair 109 = .ok (.iload_n 1, 1) := by decide +kernel
theorem dX7_fair_110 : decode cX7_fair 110 = .ok (.invokevirtual 67, 3) := by decide +kernel
theorem dX7_fair_113 : decode cX7_fair 113 = .ok (.isub, 1) := by decide +kernel
theorem dX7_fair_114 : decode cX7_fair 114 = .ok (.ireturn, 1) := by decide +kernel
set_option maxRecDepth 20000 in
theorem ggX7_areaOf_X7_halfAt : GoodIn wsX7_areaOf wsX7_halfAt := goodIn_r _ [5, 6, 7, 8, 9, 10, 11, 12, 13, 14, 15, 16, 17, 18, 19, 20, 21, 22] (by decide +kernel) (by decide +kernel)
set_option maxRecDepth 20000 in
theorem gX7_areaOf_X7_halfAt : GoodIn wsX7_areaOf (wsV RX7 59 RX7 yX7_halfAt wsX7_halfAt) := goodIn_app (goodIn_of _ (by decide +kernel)) ggX7_areaOf_X7_halfAt
theorem dX7_areaOf_0 : decode cX7_areaOf 0 = .ok (.iconst 0, 1) := by decide +kernel
theorem dX7_areaOf_1 : decode cX7_areaOf 1 = .ok (.istore_n 3, 1) := by decide +kernel
theorem dX7_areaOf_2 : decode cX7_areaOf 2 = .ok (.iconst 0, 1) := by decide +kernel
theorem dX7_areaOf_3 : decode cX7_areaOf 3 = .ok (.istore 4, 2) := by decide +kernel
theorem dX7_areaOf_5 : decode cX7_areaOf 5 = .ok (.iload 4, 2) := by decide +kernel
theorem dX7_areaOf_7 : decode cX7_areaOf 7 = .ok (.iload_n 2, 1) := by decide +kernel
theorem dX7_areaOf_8 : decode cX7_areaOf 8 = .ok (.if_icmp .ge 29, 3) := by decide +kernel
theorem dX7_areaOf_11 : decode cX7_areaOf 11 = .ok (.iload_n 3, 1) := by decide +kernel
theorem dX7_areaOf_12 : decode cX7_areaOf 12 = .ok (.aload_n 0, 1) := by decide +kernel
theorem dX7_areaOf_13 : decode cX7_areaOf 13 = .ok (.iload_n 1, 1) := by decide +kernel
theorem dX7_areaOf_14 : decode cX7_areaOf 14 = .ok (.iload 4, 2) := by decide +kernel
theorem dX7_areaOf_16 : decode cX7_areaOf 16 = .ok (.invokevirtual 59, 3) := by decide +kernel
theorem dX7_areaOf_19 : decode cX7_areaOf 19 = .ok (.aload_n 0, 1) := by decide +kernel
theorem dX7_areaOf_20 : decode cX7_areaOf 20 = .ok (.iload_n 1, 1) := by decide +kernel
theorem dX7_areaOf_21 : decode cX7_areaOf 21 = .ok (.iload 4, 2) := by decide +kernel
theorem dX7_areaOf_23 : decode cX7_areaOf 23 = .ok (.iconst 1, 1) := by decide +kernel
theorem dX7_areaOf_24 : decode cX7_areaOf 24 = .ok (.iadd, 1) := by decide +kernel
theorem dX7_areaOf_25 : decode cX7_areaOf 25 = .ok (.invokevirtual 59, 3) := by decide +kernel
theorem dX7_areaOf_28 : decode cX7_areaOf 28 = .ok (.iadd, 1) := by decide +kernel
theorem dX7_areaOf_29 : decode cX7_areaOf 29 = .ok (.iadd, 1) := by decide +kernel
theorem dX7_areaOf_30 : decode cX7_areaOf 30 = .ok (.istore_n 3, 1) := by decide +kernel
theorem dX7_areaOf_31 : decode cX7_areaOf 31 = .ok (.iinc 4 1, 3) := by decide +kernel
theorem dX7_areaOf_34 : decode cX7_areaOf 34 = .ok (.goto (-29), 3) := by decide +kernel
theorem dX7_areaOf_37 : decode cX7_areaOf 37 = .ok (.iload_n 3, 1) := by decide +kernel
theorem dX7_areaOf_38 : decode cX7_areaOf 38 = .ok (.ireturn, 1) := by decide +kernel
set_option maxRecDepth 20000 in
theorem ggX7_area_X7_isStation : GoodIn wsX7_area wsX7_isStation := goodIn_r _ [5, 6, 7, 4, 8] (by decide +kernel) (by decide +kernel)
set_option maxRecDepth 20000 in
theorem gX7_area_X7_isStation : GoodIn wsX7_area (va_wsS RX7 48 yX7_isStation wsX7_isStation) := goodIn_app (goodIn_of _ (by decide +kernel)) ggX7_area_X7_isStation
set_option maxRecDepth 20000 in
theorem ggX7_area_X7_isWaterline : GoodIn wsX7_area wsX7_isWaterline := goodIn_r _ [11, 6, 7, 4, 8] (by decide +kernel) (by decide +kernel)
set_option maxRecDepth 20000 in
theorem gX7_area_X7_isWaterline : GoodIn wsX7_area (va_wsS RX7 52 yX7_isWaterline wsX7_isWaterline) := goodIn_app (goodIn_of _ (by decide +kernel)) ggX7_area_X7_isWaterline
set_option maxRecDepth 20000 in
theorem ggX7_area_X7_areaOf : GoodIn wsX7_area wsX7_areaOf := goodIn_r _ [15, 16, 17, 18, 4, 19, 20, 21, 22, 23, 24, 25, 26, 27, 28, 29, 30, 31, 32, 33, 34, 35, 36] (by decide +kernel) (by decide +kernel)
set_option maxRecDepth 20000 in
theorem gX7_area_X7_areaOf : GoodIn wsX7_area (wsV RX7 96 RX7 yX7_areaOf wsX7_areaOf) := goodIn_app (goodIn_of _ (by decide +kernel)) ggX7_area_X7_areaOf
theorem dX7_area_0 : decode cX7_area 0 = .ok (.aload_n 0, 1) := by decide +kernel
theorem dX7_area_1 : decode cX7_area 1 = .ok (.iload_n 1, 1) := by decide +kernel
theorem dX7_area_2 : decode cX7_area 2 = .ok (.invokestatic 48, 3) := by decide +kernel
theorem dX7_area_5 : decode cX7_area 5 = .ok (.ifCond .eq 14, 3) := by decide +kernel
theorem dX7_area_8 : decode cX7_area 8 = .ok (.iload_n 2, 1) := by decide +kernel
theorem dX7_area_9 : decode cX7_area 9 = .ok (.invokestatic 52, 3) := by decide +kernel
theorem dX7_area_12 : decode cX7_area 12 = .ok (.ifCond .eq 7, 3) := by decide +kernel
theorem dX7_area_15 : decode cX7_area 15 = .ok (.iconst 0, 1) := by decide +kernel
theorem dX7_area_16 : decode cX7_area 16 = .ok (.goto 4, 3) := by decide +kernel
theorem dX7_area_19 : decode cX7_area 19 = .ok (.iconst 1, 1) := by decide +kernel
theorem dX7_area_20 : decode cX7_area 20 = .ok (.putfield 41, 3) := by decide +kernel
theorem dX7_area_23 : decode cX7_area 23 = .ok (.aload_n 0, 1) := by decide +kernel
theorem dX7_area_24 : decode cX7_area 24 = .ok (.getfield 41, 3) := by decide +kernel
theorem dX7_area_27 : decode cX7_area 27 = .ok (.ifCond .le 7, 3) := by decide +kernel
theorem dX7_area_30 : decode cX7_area 30 = .ok (.iconst 0, 1) := by decide +kernel
theorem dX7_area_31 : decode cX7_area 31 = .ok (.goto 9, 3) := by decide +kernel
theorem dX7_area_34 : decode cX7_area 34 = .ok (.aload_n 0, 1) := by decide +kernel
theorem dX7_area_35 : decode cX7_area 35 = .ok (.iload_n 1, 1) := by decide +kernel
theorem dX7_area_36 : decode cX7_area 36 = .ok (.iload_n 2, 1) := by decide +kernel
theorem dX7_area_37 : decode cX7_area 37 = .ok (.invokevirtual 96, 3) := by decide +kernel
theorem dX7_area_40 : decode cX7_area 40 = .ok (.ireturn, 1) := by decide +kernel
set_option maxRecDepth 20000 in
theorem ggX7_volumeOf_X7_areaOf : GoodIn wsX7_volumeOf wsX7_areaOf := goodIn_r _ [5, 6, 7, 8, 4, 9, 10, 11, 12, 13, 14, 15, 16, 17, 18, 19, 20, 21, 22, 23, 24, 25, 26] (by decide +kernel) (by decide +kernel)
set_option maxRecDepth 20000 in
theorem gX7_volumeOf_X7_areaOf : GoodIn wsX7_volumeOf (wsV RX7 96 RX7 yX7_areaOf wsX7_areaOf) := goodIn_app (goodIn_of _ (by decide +kernel)) ggX7_volumeOf_X7_areaOf
theorem dX7_volumeOf_0 : decode cX7_volumeOf 0 = .ok (.iconst 0, 1) := by decide +kernel
theorem dX7_volumeOf_1 : decode cX7_volumeOf 1 = .ok (.istore_n 2, 1) := by decide +kernel
theorem dX7_volumeOf_2 : decode cX7_volumeOf 2 = .ok (.iconst 0, 1) := by decide +kernel
theorem dX7_volumeOf_3 : decode cX7_volumeOf 3 = .ok (.istore_n 3, 1) := by decide +kernel
theorem dX7_volumeOf_4 : decode cX7_volumeOf 4 = .ok (.iload_n 3, 1) := by decide +kernel
theorem dX7_volumeOf_5 : decode cX7_volumeOf 5 = .ok (.iconst 1, 1) := by decide +kernel
theorem dX7_volumeOf_6 : decode cX7_volumeOf 6 = .ok (.iadd, 1) := by decide +kernel
theorem dX7_volumeOf_7 : decode cX7_volumeOf 7 = .ok (.bipush 9, 2) := by decide +kernel
theorem dX7_volumeOf_9 : decode cX7_volumeOf 9 = .ok (.if_icmp .ge 27, 3) := by decide +kernel
theorem dX7_volumeOf_12 : decode cX7_volumeOf 12 = .ok (.iload_n 2, 1) := by decide +kernel
theorem dX7_volumeOf_13 : decode cX7_volumeOf 13 = .ok (.aload_n 0, 1) := by decide +kernel
theorem dX7_volumeOf_14 : decode cX7_volumeOf 14 = .ok (.iload_n 3, 1) := by decide +kernel
theorem dX7_volumeOf_15 : decode cX7_volumeOf 15 = .ok (.iload_n 1, 1) := by decide +kernel
theorem dX7_volumeOf_16 : decode cX7_volumeOf 16 = .ok (.invokevirtual 96, 3) := by decide +kernel
theorem dX7_volumeOf_19 : decode cX7_volumeOf 19 = .ok (.aload_n 0, 1) := by decide +kernel
theorem dX7_volumeOf_20 : decode cX7_volumeOf 20 = .ok (.iload_n 3, 1) := by decide +kernel
theorem dX7_volumeOf_21 : decode cX7_volumeOf 21 = .ok (.iconst 1, 1) := by decide +kernel
theorem dX7_volumeOf_22 : decode cX7_volumeOf 22 = .ok (.iadd, 1) := by decide +kernel
theorem dX7_volumeOf_23 : decode cX7_volumeOf 23 = .ok (.iload_n 1, 1) := by decide +kernel
theorem dX7_volumeOf_24 : decode cX7_volumeOf 24 = .ok (.invokevirtual 96, 3) := by decide +kernel
theorem dX7_volumeOf_27 : decode cX7_volumeOf 27 = .ok (.iadd, 1) := by decide +kernel
theorem dX7_volumeOf_28 : decode cX7_volumeOf 28 = .ok (.iadd, 1) := by decide +kernel
theorem dX7_volumeOf_29 : decode cX7_volumeOf 29 = .ok (.istore_n 2, 1) := by decide +kernel
theorem dX7_volumeOf_30 : decode cX7_volumeOf 30 = .ok (.iinc 3 1, 3) := by decide +kernel
theorem dX7_volumeOf_33 : decode cX7_volumeOf 33 = .ok (.goto (-29), 3) := by decide +kernel
theorem dX7_volumeOf_36 : decode cX7_volumeOf 36 = .ok (.iload_n 2, 1) := by decide +kernel
theorem dX7_volumeOf_37 : decode cX7_volumeOf 37 = .ok (.ireturn, 1) := by decide +kernel
set_option maxRecDepth 20000 in
theorem ggX7_volume_X7_isWaterline : GoodIn wsX7_volume wsX7_isWaterline := goodIn_r _ [5, 6, 7, 4, 8] (by decide +kernel) (by decide +kernel)
set_option maxRecDepth 20000 in
theorem gX7_volume_X7_isWaterline : GoodIn wsX7_volume (va_wsS RX7 52 yX7_isWaterline wsX7_isWaterline) := goodIn_app (goodIn_of _ (by decide +kernel)) ggX7_volume_X7_isWaterline
set_option maxRecDepth 20000 in
theorem ggX7_volume_X7_volumeOf : GoodIn wsX7_volume wsX7_volumeOf := goodIn_r _ [12, 13, 14, 15, 4, 16, 17, 18, 19, 20, 21, 22, 23, 24, 25, 26, 27, 28, 29, 30, 31, 32, 33, 34, 35, 36, 37] (by decide +kernel) (by decide +kernel)
set_option maxRecDepth 20000 in
theorem gX7_volume_X7_volumeOf : GoodIn wsX7_volume (wsV RX7 99 RX7 yX7_volumeOf wsX7_volumeOf) := goodIn_app (goodIn_of _ (by decide +kernel)) ggX7_volume_X7_volumeOf
theorem dX7_volume_0 : decode cX7_volume 0 = .ok (.aload_n 0, 1) := by decide +kernel
theorem dX7_volume_1 : decode cX7_volume 1 = .ok (.iload_n 1, 1) := by decide +kernel
theorem dX7_volume_2 : decode cX7_volume 2 = .ok (.invokestatic 52, 3) := by decide +kernel
theorem dX7_volume_5 : decode cX7_volume 5 = .ok (.ifCond .eq 7, 3) := by decide +kernel
theorem dX7_volume_8 : decode cX7_volume 8 = .ok (.iconst 0, 1) := by decide +kernel
theorem dX7_volume_9 : decode cX7_volume 9 = .ok (.goto 4, 3) := by decide +kernel
theorem dX7_volume_12 : decode cX7_volume 12 = .ok (.iconst 1, 1) := by decide +kernel
theorem dX7_volume_13 : decode cX7_volume 13 = .ok (.putfield 41, 3) := by decide +kernel
theorem dX7_volume_16 : decode cX7_volume 16 = .ok (.aload_n 0, 1) := by decide +kernel
theorem dX7_volume_17 : decode cX7_volume 17 = .ok (.getfield 41, 3) := by decide +kernel
theorem dX7_volume_20 : decode cX7_volume 20 = .ok (.ifCond .le 7, 3) := by decide +kernel
theorem dX7_volume_23 : decode cX7_volume 23 = .ok (.iconst 0, 1) := by decide +kernel
theorem dX7_volume_24 : decode cX7_volume 24 = .ok (.goto 8, 3) := by decide +kernel
theorem dX7_volume_27 : decode cX7_volume 27 = .ok (.aload_n 0, 1) := by decide +kernel
theorem dX7_volume_28 : decode cX7_volume 28 = .ok (.iload_n 1, 1) := by decide +kernel
theorem dX7_volume_29 : decode cX7_volume 29 = .ok (.invokevirtual 99, 3) := by decide +kernel
theorem dX7_volume_32 : decode cX7_volume 32 = .ok (.ireturn, 1) := by decide +kernel
set_option maxRecDepth 20000 in
theorem ggX7_volumeAnew_X7_volume : GoodIn wsX7_volumeAnew wsX7_volume := goodIn_r _ [5, 6, 7, 8, 4, 9, 10, 11, 12, 13, 14, 15, 16, 17, 18, 19, 20, 21, 22, 23, 24, 25, 26, 27, 28, 29, 30, 31, 32, 33, 34, 35, 36, 37, 38, 39, 40, 41] (by decide +kernel) (by decide +kernel)
set_option maxRecDepth 20000 in
theorem gX7_volumeAnew_X7_volume : GoodIn wsX7_volumeAnew (wsV RX7 102 RX7 yX7_volume wsX7_volume) := goodIn_app (goodIn_of _ (by decide +kernel)) ggX7_volumeAnew_X7_volume
theorem dX7_volumeAnew_0 : decode cX7_volumeAnew 0 = .ok (.aload_n 0, 1) := by decide +kernel
theorem dX7_volumeAnew_1 : decode cX7_volumeAnew 1 = .ok (.iload_n 1, 1) := by decide +kernel
theorem dX7_volumeAnew_2 : decode cX7_volumeAnew 2 = .ok (.invokevirtual 102, 3) := by decide +kernel
theorem dX7_volumeAnew_5 : decode cX7_volumeAnew 5 = .ok (.ireturn, 1) := by decide +kernel
set_option maxRecDepth 20000 in
theorem ggX7_momentOf_X7_areaOf : GoodIn wsX7_momentOf wsX7_areaOf := goodIn_r _ [5, 6, 7, 8, 4, 9, 10, 11, 12, 13, 14, 15, 16, 17, 18, 19, 20, 21, 22, 23, 24, 25, 26] (by decide +kernel) (by decide +kernel)
set_option maxRecDepth 20000 in
theorem gX7_momentOf_X7_areaOf : GoodIn wsX7_momentOf (wsV RX7 96 RX7 yX7_areaOf wsX7_areaOf) := goodIn_app (goodIn_of _ (by decide +kernel)) ggX7_momentOf_X7_areaOf
theorem dX7_momentOf_0 : decode cX7_momentOf 0 = .ok (.iconst 0, 1) := by decide +kernel
theorem dX7_momentOf_1 : decode cX7_momentOf 1 = .ok (.istore_n 2, 1) := by decide +kernel
theorem dX7_momentOf_2 : decode cX7_momentOf 2 = .ok (.iconst 0, 1) := by decide +kernel
theorem dX7_momentOf_3 : decode cX7_momentOf 3 = .ok (.istore_n 3, 1) := by decide +kernel
theorem dX7_momentOf_4 : decode cX7_momentOf 4 = .ok (.iload_n 3, 1) := by decide +kernel
theorem dX7_momentOf_5 : decode cX7_momentOf 5 = .ok (.iconst 1, 1) := by decide +kernel
theorem dX7_momentOf_6 : decode cX7_momentOf 6 = .ok (.iadd, 1) := by decide +kernel
theorem dX7_momentOf_7 : decode cX7_momentOf 7 = .ok (.bipush 9, 2) := by decide +kernel
theorem dX7_momentOf_9 : decode cX7_momentOf 9 = .ok (.if_icmp .ge 33, 3) := by decide +kernel
theorem dX7_momentOf_12 : decode cX7_momentOf 12 = .ok (.iload_n 2, 1) := by decide +kernel
theorem dX7_momentOf_13 : decode cX7_momentOf 13 = .ok (.iconst 2, 1) := by decide +kernel
theorem dX7_momentOf_14 : decode cX7_momentOf 14 = .ok (.iload_n 3, 1) := by decide +kernel
theorem dX7_momentOf_15 : decode cX7_momentOf 15 = .ok (.imul, 1) := by decide +kernel
theorem dX7_momentOf_16 : decode cX7_momentOf 16 = .ok (.iconst 1, 1) := by decide +kernel
theorem dX7_momentOf_17 : decode cX7_momentOf 17 = .ok (.iadd, 1) := by decide +kernel
theorem dX7_momentOf_18 : decode cX7_momentOf 18 = .ok (.aload_n 0, 1) := by decide +kernel
theorem dX7_momentOf_19 : decode cX7_momentOf 19 = .ok (.iload_n 3, 1) := by decide +kernel
theorem dX7_momentOf_20 : decode cX7_momentOf 20 = .ok (.iload_n 1, 1) := by decide +kernel
theorem dX7_momentOf_21 : decode cX7_momentOf 21 = .ok (.invokevirtual 96, 3) := by decide +kernel
theorem dX7_momentOf_24 : decode cX7_momentOf 24 = .ok (.aload_n 0, 1) := by decide +kernel
theorem dX7_momentOf_25 : decode cX7_momentOf 25 = .ok (.iload_n 3, 1) := by decide +kernel
theorem dX7_momentOf_26 : decode cX7_momentOf 26 = .ok (.iconst 1, 1) := by decide +kernel
theorem dX7_momentOf_27 : decode cX7_momentOf 27 = .ok (.iadd, 1) := by decide +kernel
theorem dX7_momentOf_28 : decode cX7_momentOf 28 = .ok (.iload_n 1, 1) := by decide +kernel
theorem dX7_momentOf_29 : decode cX7_momentOf 29 = .ok (.invokevirtual 96, 3) := by decide +kernel
theorem dX7_momentOf_32 : decode cX7_momentOf 32 = .ok (.iadd, 1) := by decide +kernel
theorem dX7_momentOf_33 : decode cX7_momentOf 33 = .ok (.imul, 1) := by decide +kernel
theorem dX7_momentOf_34 : decode cX7_momentOf 34 = .ok (.iadd, 1) := by decide +kernel
theorem dX7_momentOf_35 : decode cX7_momentOf 35 = .ok (.istore_n 2, 1) := by decide +kernel
theorem dX7_momentOf_36 : decode cX7_momentOf 36 = .ok (.iinc 3 1, 3) := by decide +kernel
theorem dX7_momentOf_39 : decode cX7_momentOf 39 = .ok (.goto (-35), 3) := by decide +kernel
theorem dX7_momentOf_42 : decode cX7_momentOf 42 = .ok (.iload_n 2, 1) := by decide +kernel
theorem dX7_momentOf_43 : decode cX7_momentOf 43 = .ok (.ireturn, 1) := by decide +kernel
set_option maxRecDepth 20000 in
theorem ggX7_weigh_X7_isStation : GoodIn wsX7_weigh wsX7_isStation := goodIn_r _ [8, 9, 10, 7, 11] (by decide +kernel) (by decide +kernel)
set_option maxRecDepth 20000 in
theorem gX7_weigh_X7_isStation : GoodIn wsX7_weigh (va_wsS RX7 48 yX7_isStation wsX7_isStation) := goodIn_app (goodIn_of _ (by decide +kernel)) ggX7_weigh_X7_isStation
set_option maxRecDepth 20000 in
theorem ggX7_weigh_X7_in : GoodIn wsX7_weigh wsX7_in := goodIn_r _ [11] (by decide +kernel) (by decide +kernel)
set_option maxRecDepth 20000 in
theorem gX7_weigh_X7_in : GoodIn wsX7_weigh (va_wsS RX7 44 yX7_in wsX7_in) := goodIn_app (goodIn_of _ (by decide +kernel)) ggX7_weigh_X7_in
theorem dX7_weigh_0 : decode cX7_weigh 0 = .ok (.aload_n 0, 1) := by decide +kernel
theorem dX7_weigh_1 : decode cX7_weigh 1 = .ok (.iload_n 1, 1) := by decide +kernel
theorem dX7_weigh_2 : decode cX7_weigh 2 = .ok (.invokestatic 48, 3) := by decide +kernel
theorem dX7_weigh_5 : decode cX7_weigh 5 = .ok (.ifCond .ne 7, 3) := by decide +kernel
theorem dX7_weigh_8 : decode cX7_weigh 8 = .ok (.iconst 1, 1) := by decide +kernel
theorem dX7_weigh_9 : decode cX7_weigh 9 = .ok (.goto 32, 3) := by decide +kernel
theorem dX7_weigh_12 : decode cX7_weigh 12 = .ok (.iload_n 2, 1) := by decide +kernel
theorem dX7_weigh_13 : decode cX7_weigh 13 = .ok (.iconst 0, 1) := by decide +kernel
theorem dX7_weigh_14 : decode cX7_weigh 14 = .ok (.sipush 999, 3) := by decide +kernel
theorem dX7_weigh_17 : decode cX7_weigh 17 = .ok (.invokestatic 44, 3) := by decide +kernel
theorem dX7_weigh_20 : decode cX7_weigh 20 = .ok (.ifCond .ne 7, 3) := by decide +kernel
theorem dX7_weigh_23 : decode cX7_weigh 23 = .ok (.iconst 2, 1) := by decide +kernel
theorem dX7_weigh_24 : decode cX7_weigh 24 = .ok (.goto 17, 3) := by decide +kernel
theorem dX7_weigh_27 : decode cX7_weigh 27 = .ok (.aload_n 0, 1) := by decide +kernel
theorem dX7_weigh_28 : decode cX7_weigh 28 = .ok (.getfield 105, 3) := by decide +kernel
theorem dX7_weigh_31 : decode cX7_weigh 31 = .ok (.bipush 16, 2) := by decide +kernel
theorem dX7_weigh_33 : decode cX7_weigh 33 = .ok (.if_icmp .ne 7, 3) := by decide +kernel
theorem dX7_weigh_36 : decode cX7_weigh 36 = .ok (.iconst 3, 1) := by decide +kernel
theorem dX7_weigh_37 : decode cX7_weigh 37 = .ok (.goto 4, 3) := by decide +kernel
theorem dX7_weigh_40 : decode cX7_weigh 40 = .ok (.iconst 0, 1) := by decide +kernel
theorem dX7_weigh_41 : decode cX7_weigh 41 = .ok (.putfield 41, 3) := by decide +kernel
theorem dX7_weigh_44 : decode cX7_weigh 44 = .ok (.aload_n 0, 1) := by decide +kernel
theorem dX7_weigh_45 : decode cX7_weigh 45 = .ok (.getfield 41, 3) := by decide +kernel
theorem dX7_weigh_48 : decode cX7_weigh 48 = .ok (.ifCond .le 5, 3) := by decide +kernel
theorem dX7_weigh_51 : decode cX7_weigh 51 = .ok (.iconst 0, 1) := by decide +kernel
theorem dX7_weigh_52 : decode cX7_weigh 52 = .ok (.ireturn, 1) := by decide +kernel
theorem dX7_weigh_53 : decode cX7_weigh 53 = .ok (.aload_n 0, 1) := by decide +kernel
theorem dX7_weigh_54 : decode cX7_weigh 54 = .ok (.getfield 13, 3) := by decide +kernel
theorem dX7_weigh_57 : decode cX7_weigh 57 = .ok (.aload_n 0, 1) := by decide +kernel
theorem dX7_weigh_58 : decode cX7_weigh 58 = .ok (.getfield 105, 3) := by decide +kernel
theorem dX7_weigh_61 : decode cX7_weigh 61 = .ok (.iload_n 1, 1) := by decide +kernel
theorem dX7_weigh_62 : decode cX7_weigh 62 = .ok (.iastore, 1) := by decide +kernel
theorem dX7_weigh_63 : decode cX7_weigh 63 = .ok (.aload_n 0, 1) := by decide +kernel
theorem dX7_weigh_64 : decode cX7_weigh 64 = .ok (.getfield 16, 3) := by decide +kernel
theorem dX7_weigh_67 : decode cX7_weigh 67 = .ok (.aload_n 0, 1) := by decide +kernel
theorem dX7_weigh_68 : decode cX7_weigh 68 = .ok (.getfield 105, 3) := by decide +kernel
theorem dX7_weigh_71 : decode cX7_weigh 71 = .ok (.iload_n 2, 1) := by decide +kernel
theorem dX7_weigh_72 : decode cX7_weigh 72 = .ok (.iastore, 1) := by decide +kernel
theorem dX7_weigh_73 : decode cX7_weigh 73 = .ok (.aload_n 0, 1) := by decide +kernel
theorem dX7_weigh_74 : decode cX7_weigh 74 = .ok (.dup, 1) := by decide +kernel
theorem dX7_weigh_75 : decode cX7_weigh 75 = .ok (.getfield 105, 3) := by decide +kernel
theorem dX7_weigh_78 : decode cX7_weigh 78 = .ok (.iconst 1, 1) := by decide +kernel
theorem dX7_weigh_79 : decode cX7_weigh 79 = .ok (.iadd, 1) := by decide +kernel
theorem dX7_weigh_80 : decode cX7_weigh 80 = .ok (.putfield 105, 3) := by decide +kernel
theorem dX7_weigh_83 : decode cX7_weigh 83 = .ok (.aload_n 0, 1) := by decide +kernel
theorem dX7_weigh_84 : decode cX7_weigh 84 = .ok (.getfield 105, 3) := by decide +kernel
theorem dX7_weigh_87 : decode cX7_weigh 87 = .ok (.iconst 1, 1) := by decide +kernel
theorem dX7_weigh_88 : decode cX7_weigh 88 = .ok (.isub, 1) := by decide +kernel
theorem dX7_weigh_89 : decode cX7_weigh 89 = .ok (.ireturn, 1) := by decide +kernel
set_option maxRecDepth 20000 in
theorem ggX7_change_X7_in : GoodIn wsX7_change wsX7_in := goodIn_r _ [8] (by decide +kernel) (by decide +kernel)
set_option maxRecDepth 20000 in
theorem gX7_change_X7_in : GoodIn wsX7_change (va_wsS RX7 44 yX7_in wsX7_in) := goodIn_app (goodIn_of _ (by decide +kernel)) ggX7_change_X7_in
set_option maxRecDepth 20000 in
theorem ggX7_change_X7_isStation : GoodIn wsX7_change wsX7_isStation := goodIn_r _ [11, 5, 6, 7, 8] (by decide +kernel) (by decide +kernel)
set_option maxRecDepth 20000 in
theorem gX7_change_X7_isStation : GoodIn wsX7_change (va_wsS RX7 48 yX7_isStation wsX7_isStation) := goodIn_app (goodIn_of _ (by decide +kernel)) ggX7_change_X7_isStation
theorem dX7_change_0 : decode cX7_change 0 = .ok (.aload_n 0, 1) := by decide +kernel
theorem dX7_change_1 : decode cX7_change 1 = .ok (.iload_n 1, 1) := by decide +kernel
theorem dX7_change_2 : decode cX7_change 2 = .ok (.iconst 0, 1) := by decide +kernel
theorem dX7_change_3 : decode cX7_change 3 = .ok (.aload_n 0, 1) := by decide +kernel
theorem dX7_change_4 : decode cX7_change 4 = .ok (.getfield 105, 3) := by decide +kernel
theorem dX7_change_7 : decode cX7_change 7 = .ok (.iconst 1, 1) := by decide +kernel
theorem dX7_change_8 : decode cX7_change 8 = .ok (.isub, 1) := by decide +kernel
theorem dX7_change_9 : decode cX7_change 9 = .ok (.invokestatic 44, 3) := by decide +kernel
theorem dX7_change_12 : decode cX7_change 12 = .ok (.ifCond .eq 10, 3) := by decide +kernel
theorem dX7_change_15 : decode cX7_change 15 = .ok (.iload_n 2, 1) := by decide +kernel
theorem dX7_change_16 : decode cX7_change 16 = .ok (.invokestatic 48, 3) := by decide +kernel
theorem dX7_change_19 : decode cX7_change 19 = .ok (.ifCond .ne 7, 3) := by decide +kernel
theorem dX7_change_22 : decode cX7_change 22 = .ok (.iconst 1, 1) := by decide +kernel
theorem dX7_change_23 : decode cX7_change 23 = .ok (.goto 19, 3) := by decide +kernel
theorem dX7_change_26 : decode cX7_change 26 = .ok (.iload_n 3, 1) := by decide +kernel
theorem dX7_change_27 : decode cX7_change 27 = .ok (.iconst 0, 1) := by decide +kernel
theorem dX7_change_28 : decode cX7_change 28 = .ok (.sipush 999, 3) := by decide +kernel
theorem dX7_change_31 : decode cX7_change 31 = .ok (.invokestatic 44, 3) := by decide +kernel
theorem dX7_change_34 : decode cX7_change 34 = .ok (.ifCond .eq 7, 3) := by decide +kernel
theorem dX7_change_37 : decode cX7_change 37 = .ok (.iconst 0, 1) := by decide +kernel
theorem dX7_change_38 : decode cX7_change 38 = .ok (.goto 4, 3) := by decide +kernel
theorem dX7_change_41 : decode cX7_change 41 = .ok (.iconst 2, 1) := by decide +kernel
theorem dX7_change_42 : decode cX7_change 42 = .ok (.putfield 41, 3) := by decide +kernel
theorem dX7_change_45 : decode cX7_change 45 = .ok (.aload_n 0, 1) := by decide +kernel
theorem dX7_change_46 : decode cX7_change 46 = .ok (.getfield 41, 3) := by decide +kernel
theorem dX7_change_49 : decode cX7_change 49 = .ok (.ifCond .le 5, 3) := by decide +kernel
theorem dX7_change_52 : decode cX7_change 52 = .ok (.iconst 0, 1) := by decide +kernel
theorem dX7_change_53 : decode cX7_change 53 = .ok (.ireturn, 1) := by decide +kernel
theorem dX7_change_54 : decode cX7_change 54 = .ok (.bipush 10, 2) := by decide +kernel
theorem dX7_change_56 : decode cX7_change 56 = .ok (.aload_n 0, 1) := by decide +kernel
theorem dX7_change_57 : decode cX7_change 57 = .ok (.getfield 16, 3) := by decide +kernel
theorem dX7_change_60 : decode cX7_change 60 = .ok (.iload_n 1, 1) := by decide +kernel
theorem dX7_change_61 : decode cX7_change 61 = .ok (.iaload, 1) := by decide +kernel
theorem dX7_change_62 : decode cX7_change 62 = .ok (.imul, 1) := by decide +kernel
theorem dX7_change_63 : decode cX7_change 63 = .ok (.aload_n 0, 1) := by decide +kernel
theorem dX7_change_64 : decode cX7_change 64 = .ok (.getfield 13, 3) := by decide +kernel
theorem dX7_change_67 : decode cX7_change 67 = .ok (.iload_n 1, 1) := by decide +kernel
theorem dX7_change_68 : decode cX7_change 68 = .ok (.iaload, 1) := by decide +kernel
theorem dX7_change_69 : decode cX7_change 69 = .ok (.iadd, 1) := by decide +kernel
theorem dX7_change_70 : decode cX7_change 70 = .ok (.istore 4, 2) := by decide +kernel
theorem dX7_change_72 : decode cX7_change 72 = .ok (.aload_n 0, 1) := by decide +kernel
theorem dX7_change_73 : decode cX7_change 73 = .ok (.getfield 13, 3) := by decide +kernel
theorem dX7_change_76 : decode cX7_change 76 = .ok (.iload_n 1, 1) := by decide +kernel
theorem dX7_change_77 : decode cX7_change 77 = .ok (.iload_n 2, 1) := by decide +kernel
theorem dX7_change_78 : decode cX7_change 78 = .ok (.iastore, 1) := by decide +kernel
theorem dX7_change_79 : decode cX7_change 79 = .ok (.aload_n 0, 1) := by decide +kernel
theorem dX7_change_80 : decode cX7_change 80 = .ok (.getfield 16, 3) := by decide +kernel
theorem dX7_change_83 : decode cX7_change 83 = .ok (.iload_n 1, 1) := by decide +kernel
theorem dX7_change_84 : decode cX7_change 84 = .ok (.iload_n 3, 1) := by decide +kernel
theorem dX7_change_85 : decode cX7_change 85 = .ok (.iastore, 1) := by decide +kernel
theorem dX7_change_86 : decode cX7_change 86 = .ok (.iload 4, 2) := by decide +kernel
theorem dX7_change_88 : decode cX7_change 88 = .ok (.ireturn, 1) := by decide +kernel
theorem dX7_loadNow_0 : decode cX7_loadNow 0 = .ok (.iconst 0, 1) := by decide +kernel
theorem dX7_loadNow_1 : decode cX7_loadNow 1 = .ok (.istore_n 1, 1) := by decide +kernel
theorem dX7_loadNow_2 : decode cX7_loadNow 2 = .ok (.iconst 0, 1) := by decide +kernel
theorem dX7_loadNow_3 : decode cX7_loadNow 3 = .ok (.istore_n 2, 1) := by decide +kernel
theorem dX7_loadNow_4 : decode cX7_loadNow 4 = .ok (.iload_n 2, 1) := by decide +kernel
theorem dX7_loadNow_5 : decode cX7_loadNow 5 = .ok (.bipush 16, 2) := by decide +kernel
theorem dX7_loadNow_7 : decode cX7_loadNow 7 = .ok (.if_icmp .gt 21, 3) := by decide +kernel
theorem dX7_loadNow_10 : decode cX7_loadNow 10 = .ok (.iload_n 1, 1) := by decide +kernel
theorem dX7_loadNow_11 : decode cX7_loadNow 11 = .ok (.bipush 10, 2) := by decide +kernel
theorem dX7_loadNow_13 : decode cX7_loadNow 13 = .ok (.aload_n 0, 1) := by decide +kernel
theorem dX7_loadNow_14 : decode cX7_loadNow 14 = .ok (.getfield 16, 3) := by decide +kernel
theorem dX7_loadNow_17 : decode cX7_loadNow 17 = .ok (.iload_n 2, 1) := by decide +kernel
theorem dX7_loadNow_18 : decode cX7_loadNow 18 = .ok (.iaload, 1) := by decide +kernel
theorem dX7_loadNow_19 : decode cX7_loadNow 19 = .ok (.imul, 1) := by decide +kernel
theorem dX7_loadNow_20 : decode cX7_loadNow 20 = .ok (.iadd, 1) := by decide +kernel
theorem dX7_loadNow_21 : decode cX7_loadNow 21 = .ok (.istore_n 1, 1) := by decide +kernel
theorem dX7_loadNow_22 : decode cX7_loadNow 22 = .ok (.iinc 2 1, 3) := by decide +kernel
theorem dX7_loadNow_25 : decode cX7_loadNow 25 = .ok (.goto (-21), 3) := by decide +kernel
theorem dX7_loadNow_28 : decode cX7_loadNow 28 = .ok (.iload_n 1, 1) := by decide +kernel
theorem dX7_loadNow_29 : decode cX7_loadNow 29 = .ok (.ireturn, 1) := by decide +kernel
theorem dX7_loadMoment_0 : decode cX7_loadMoment 0 = .ok (.iconst 0, 1) := by decide +kernel
theorem dX7_loadMoment_1 : decode cX7_loadMoment 1 = .ok (.istore_n 1, 1) := by decide +kernel
theorem dX7_loadMoment_2 : decode cX7_loadMoment 2 = .ok (.iconst 0, 1) := by decide +kernel
theorem dX7_loadMoment_3 : decode cX7_loadMoment 3 = .ok (.istore_n 2, 1) := by decide +kernel
theorem dX7_loadMoment_4 : decode cX7_loadMoment 4 = .ok (.iload_n 2, 1) := by decide +kernel
theorem dX7_loadMoment_5 : decode cX7_loadMoment 5 = .ok (.bipush 16, 2) := by decide +kernel
theorem dX7_loadMoment_7 : decode cX7_loadMoment 7 = .ok (.if_icmp .gt 28, 3) := by decide +kernel
theorem dX7_loadMoment_10 : decode cX7_loadMoment 10 = .ok (.iload_n 1, 1) := by decide +kernel
theorem dX7_loadMoment_11 : decode cX7_loadMoment 11 = .ok (.aload_n 0, 1) := by decide +kernel
theorem dX7_loadMoment_12 : decode cX7_loadMoment 12 = .ok (.getfield 16, 3) := by decide +kernel
theorem dX7_loadMoment_15 : decode cX7_loadMoment 15 = .ok (.iload_n 2, 1) := by decide +kernel
theorem dX7_loadMoment_16 : decode cX7_loadMoment 16 = .ok (.iaload, 1) := by decide +kernel
theorem dX7_loadMoment_17 : decode cX7_loadMoment 17 = .ok (.bipush 20, 2) := by decide +kernel
theorem dX7_loadMoment_19 : decode cX7_loadMoment 19 = .ok (.imul, 1) := by decide +kernel
theorem dX7_loadMoment_20 : decode cX7_loadMoment 20 = .ok (.aload_n 0, 1) := by decide +kernel
theorem dX7_loadMoment_21 : decode cX7_loadMoment 21 = .ok (.getfield 13, 3) := by decide +kernel
theorem dX7_loadMoment_24 : decode cX7_loadMoment 24 = .ok (.iload_n 2, 1) := by decide +kernel
theorem dX7_loadMoment_25 : decode cX7_loadMoment 25 = .ok (.iaload, 1) := by decide +kernel
theorem dX7_loadMoment_26 : decode cX7_loadMoment 26 = .ok (.imul, 1) := by decide +kernel
theorem dX7_loadMoment_27 : decode cX7_loadMoment 27 = .ok (.iadd, 1) := by decide +kernel
theorem dX7_loadMoment_28 : decode cX7_loadMoment 28 = .ok (.istore_n 1, 1) := by decide +kernel
theorem dX7_loadMoment_29 : decode cX7_loadMoment 29 = .ok (.iinc 2 1, 3) := by decide +kernel
theorem dX7_loadMoment_32 : decode cX7_loadMoment 32 = .ok (.goto (-28), 3) := by decide +kernel
theorem dX7_loadMoment_35 : decode cX7_loadMoment 35 = .ok (.iload_n 1, 1) := by decide +kernel
theorem dX7_loadMoment_36 : decode cX7_loadMoment 36 = .ok (.ireturn, 1) := by decide +kernel
set_option maxRecDepth 20000 in
theorem ggX7_draughtNow_X7_loadNow : GoodIn wsX7_draughtNow wsX7_loadNow := goodIn_r _ [5, 6, 20, 21, 22, 23, 24, 25, 26, 27, 28, 29, 30, 31, 32, 33, 34, 35] (by decide +kernel) (by decide +kernel)
set_option maxRecDepth 20000 in
theorem gX7_draughtNow_X7_loadNow : GoodIn wsX7_draughtNow (wsV RX7 108 RX7 yX7_loadNow wsX7_loadNow) := goodIn_app (goodIn_of _ (by decide +kernel)) ggX7_draughtNow_X7_loadNow
set_option maxRecDepth 20000 in
theorem ggX7_draughtNow_X7_volumeOf : GoodIn wsX7_draughtNow wsX7_volumeOf := goodIn_r _ [10, 11, 12, 13, 4, 14, 15, 16, 17, 18, 19, 20, 21, 22, 23, 24, 25, 26, 27, 28, 29, 30, 31, 32, 33, 34, 35] (by decide +kernel) (by decide +kernel)
set_option maxRecDepth 20000 in
theorem gX7_draughtNow_X7_volumeOf : GoodIn wsX7_draughtNow (wsV RX7 99 RX7 yX7_volumeOf wsX7_volumeOf) := goodIn_app (goodIn_of _ (by decide +kernel)) ggX7_draughtNow_X7_volumeOf
theorem dX7_draughtNow_0 : decode cX7_draughtNow 0 = .ok (.iconst (-1), 1) := by decide +kernel
theorem dX7_draughtNow_1 : decode cX7_draughtNow 1 = .ok (.istore_n 1, 1) := by decide +kernel
theorem dX7_draughtNow_2 : decode cX7_draughtNow 2 = .ok (.aload_n 0, 1) := by decide +kernel
theorem dX7_draughtNow_3 : decode cX7_draughtNow 3 = .ok (.invokevirtual 108, 3) := by decide +kernel
theorem dX7_draughtNow_6 : decode cX7_draughtNow 6 = .ok (.istore_n 2, 1) := by decide +kernel
theorem dX7_draughtNow_7 : decode cX7_draughtNow 7 = .ok (.iconst 5, 1) := by decide +kernel
theorem dX7_draughtNow_8 : decode cX7_draughtNow 8 = .ok (.istore_n 3, 1) := by decide +kernel
theorem dX7_draughtNow_9 : decode cX7_draughtNow 9 = .ok (.iload_n 3, 1) := by decide +kernel
theorem dX7_draughtNow_10 : decode cX7_draughtNow 10 = .ok (.ifCond .lt 24, 3) := by decide +kernel
theorem dX7_draughtNow_13 : decode cX7_draughtNow 13 = .ok (.aload_n 0, 1) := by decide +kernel
theorem dX7_draughtNow_14 : decode cX7_draughtNow 14 = .ok (.iload_n 3, 1) := by decide +kernel
theorem dX7_draughtNow_15 : decode cX7_draughtNow 15 = .ok (.invokevirtual 99, 3) := by decide +kernel
theorem dX7_draughtNow_18 : decode cX7_draughtNow 18 = .ok (.iload_n 2, 1) := by decide +kernel
theorem dX7_draughtNow_19 : decode cX7_draughtNow 19 = .ok (.if_icmp .lt 7, 3) := by decide +kernel
theorem dX7_draughtNow_22 : decode cX7_draughtNow 22 = .ok (.iload_n 3, 1) := by decide +kernel
theorem dX7_draughtNow_23 : decode cX7_draughtNow 23 = .ok (.goto 4, 3) := by decide +kernel
theorem dX7_draughtNow_26 : decode cX7_draughtNow 26 = .ok (.iload_n 1, 1) := by decide +kernel
theorem dX7_draughtNow_27 : decode cX7_draughtNow 27 = .ok (.istore_n 1, 1) := by decide +kernel
theorem dX7_draughtNow_28 : decode cX7_draughtNow 28 = .ok (.iinc 3 (-1), 3) := by decide +kernel
theorem dX7_draughtNow_31 : decode cX7_draughtNow 31 = .ok (.goto (-22), 3) := by decide +kernel
theorem dX7_draughtNow_34 : decode cX7_draughtNow 34 = .ok (.iload_n 1, 1) := by decide +kernel
theorem dX7_draughtNow_35 : decode cX7_draughtNow 35 = .ok (.ireturn, 1) := by decide +kernel
theorem dX7_mean_0 : decode cX7_mean 0 = .ok (.iload_n 1, 1) := by decide +kernel
theorem dX7_mean_1 : decode cX7_mean 1 = .ok (.ifCond .ne 7, 3) := by decide +kernel
theorem dX7_mean_4 : decode cX7_mean 4 = .ok (.iconst 0, 1) := by decide +kernel
theorem dX7_mean_5 : decode cX7_mean 5 = .ok (.goto 9, 3) := by decide +kernel
theorem dX7_mean_8 : decode cX7_mean 8 = .ok (.bipush 100, 2) := by decide +kernel
theorem dX7_mean_10 : decode cX7_mean 10 = .ok (.iload_n 0, 1) := by decide +kernel
theorem dX7_mean_11 : decode cX7_mean 11 = .ok (.imul, 1) := by decide +kernel
theorem dX7_mean_12 : decode cX7_mean 12 = .ok (.iload_n 1, 1) := by decide +kernel
theorem dX7_mean_13 : decode cX7_mean 13 = .ok (.idiv, 1) := by decide +kernel
theorem dX7_mean_14 : decode cX7_mean 14 = .ok (.ireturn, 1) := by decide +kernel
set_option maxRecDepth 20000 in
theorem ggX7_trimNow_X7_draughtNow : GoodIn wsX7_trimNow wsX7_draughtNow := goodIn_r _ [5, 6, 7, 8, 4, 9, 10, 11, 12, 13, 14, 15, 16, 17, 18, 19, 20, 21, 22, 23, 36, 37, 38, 39, 40, 41, 42, 43, 44, 45, 46, 47, 48, 49, 50, 51] (by decide +kernel) (by decide +kernel)
set_option maxRecDepth 20000 in
theorem gX7_trimNow_X7_draughtNow : GoodIn wsX7_trimNow (wsV RX7 112 RX7 yX7_draughtNow wsX7_draughtNow) := goodIn_app (goodIn_of _ (by decide +kernel)) ggX7_trimNow_X7_draughtNow
set_option maxRecDepth 20000 in
theorem ggX7_trimNow_X7_loadMoment : GoodIn wsX7_trimNow wsX7_loadMoment := goodIn_r _ [27, 10, 28, 36, 37, 38, 39, 40, 41, 42, 43, 44, 45, 46, 47, 48, 49, 50, 51] (by decide +kernel) (by decide +kernel)
set_option maxRecDepth 20000 in
theorem gX7_trimNow_X7_loadMoment : GoodIn wsX7_trimNow (wsV RX7 115 RX7 yX7_loadMoment wsX7_loadMoment) := goodIn_app (goodIn_of _ (by decide +kernel)) ggX7_trimNow_X7_loadMoment
set_option maxRecDepth 20000 in
theorem ggX7_trimNow_X7_loadNow : GoodIn wsX7_trimNow wsX7_loadNow := goodIn_r _ [9, 10, 36, 37, 38, 39, 40, 41, 42, 43, 44, 45, 46, 47, 48, 49, 50, 51] (by decide +kernel) (by decide +kernel)
set_option maxRecDepth 20000 in
theorem gX7_trimNow_X7_loadNow : GoodIn wsX7_trimNow (wsV RX7 108 RX7 yX7_loadNow wsX7_loadNow) := goodIn_app (goodIn_of _ (by decide +kernel)) ggX7_trimNow_X7_loadNow
set_option maxRecDepth 20000 in
theorem ggX7_trimNow_X7_mean : GoodIn wsX7_trimNow wsX7_mean := goodIn_r _ [31] (by decide +kernel) (by decide +kernel)
set_option maxRecDepth 20000 in
theorem gX7_trimNow_X7_mean : GoodIn wsX7_trimNow (va_wsS RX7 118 yX7_mean wsX7_mean) := goodIn_app (goodIn_of _ (by decide +kernel)) ggX7_trimNow_X7_mean
set_option maxRecDepth 20000 in
theorem ggX7_trimNow_X7_momentOf : GoodIn wsX7_trimNow wsX7_momentOf := goodIn_r _ [35, 15, 16, 17, 4, 18, 19, 20, 21, 22, 23, 36, 37, 38, 39, 40, 41, 42, 43, 44, 45, 46, 47, 48, 49, 50, 51] (by decide +kernel) (by decide +kernel)
set_option maxRecDepth 20000 in
theorem gX7_trimNow_X7_momentOf : GoodIn wsX7_trimNow (wsV RX7 121 RX7 yX7_momentOf wsX7_momentOf) := goodIn_app (goodIn_of _ (by decide +kernel)) ggX7_trimNow_X7_momentOf
set_option maxRecDepth 20000 in
theorem ggX7_trimNow_X7_volumeOf : GoodIn wsX7_trimNow wsX7_volumeOf := goodIn_r _ [14, 15, 16, 17, 4, 18, 19, 20, 21, 22, 23, 36, 37, 38, 39, 40, 41, 42, 43, 44, 45, 46, 47, 48, 49, 50, 51] (by decide +kernel) (by decide +kernel)
set_option maxRecDepth 20000 in
theorem gX7_trimNow_X7_volumeOf : GoodIn wsX7_trimNow (wsV RX7 99 RX7 yX7_volumeOf wsX7_volumeOf) := goodIn_app (goodIn_of _ (by decide +kernel)) ggX7_trimNow_X7_volumeOf
theorem dX7_trimNow_0 : decode cX7_trimNow 0 = .ok (.aload_n 0, 1) := by decide +kernel
theorem dX7_trimNow_1 : decode cX7_trimNow 1 = .ok (.invokevirtual 112, 3) := by decide +kernel
theorem dX7_trimNow_4 : decode cX7_trimNow 4 = .ok (.istore_n 1, 1) := by decide +kernel
theorem dX7_trimNow_5 : decode cX7_trimNow 5 = .ok (.iload_n 1, 1) := by decide +kernel
theorem dX7_trimNow_6 : decode cX7_trimNow 6 = .ok (.iconst (-1), 1) := by decide +kernel
theorem dX7_trimNow_7 : decode cX7_trimNow 7 = .ok (.if_icmp .ne 7, 3) := by decide +kernel
theorem dX7_trimNow_10 : decode cX7_trimNow 10 = .ok (.iconst 0, 1) := by decide +kernel
theorem dX7_trimNow_11 : decode cX7_trimNow 11 = .ok (.goto 28, 3) := by decide +kernel
theorem dX7_trimNow_14 : decode cX7_trimNow 14 = .ok (.aload_n 0, 1) := by decide +kernel
theorem dX7_trimNow_15 : decode cX7_trimNow 15 = .ok (.invokevirtual 115, 3) := by decide +kernel
theorem dX7_trimNow_18 : decode cX7_trimNow 18 = .ok (.aload_n 0, 1) := by decide +kernel
theorem dX7_trimNow_19 : decode cX7_trimNow 19 = .ok (.invokevirtual 108, 3) := by decide +kernel
theorem dX7_trimNow_22 : decode cX7_trimNow 22 = .ok (.invokestatic 118, 3) := by decide +kernel
