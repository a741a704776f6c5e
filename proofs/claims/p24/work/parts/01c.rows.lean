theorem dX0_init_0 : decode cX0_init 0 = .ok (.aload_n 0, 1) := by decide +kernel
theorem dX0_init_1 : decode cX0_init 1 = .ok (.invokespecial 3, 3) := by decide +kernel
theorem dX0_init_4 : decode cX0_init 4 = .ok (.aload_n 0, 1) := by decide +kernel
theorem dX0_init_5 : decode cX0_init 5 = .ok (.bipush 40, 2) := by decide +kernel
theorem dX0_init_7 : decode cX0_init 7 = .ok (.newarray .int, 2) := by decide +kernel
theorem dX0_init_9 : decode cX0_init 9 = .ok (.putfield 11, 3) := by decide +kernel
theorem dX0_init_12 : decode cX0_init 12 = .ok (.aload_n 0, 1) := by decide +kernel
theorem dX0_init_13 : decode cX0_init 13 = .ok (.bipush 40, 2) := by decide +kernel
theorem dX0_init_15 : decode cX0_init 15 = .ok (.newarray .int, 2) := by decide +kernel
theorem dX0_init_17 : decode cX0_init 17 = .ok (.putfield 15, 3) := by decide +kernel
theorem dX0_init_20 : decode cX0_init 20 = .ok (.aload_n 0, 1) := by decide +kernel
theorem dX0_init_21 : decode cX0_init 21 = .ok (.iconst 0, 1) := by decide +kernel
theorem dX0_init_22 : decode cX0_init 22 = .ok (.putfield 18, 3) := by decide +kernel
theorem dX0_init_25 : decode cX0_init 25 = .ok (.return_, 1) := by decide +kernel
theorem dX0_placeOf_0 : decode cX0_placeOf 0 = .ok (.iconst 0, 1) := by decide +kernel
theorem dX0_placeOf_1 : decode cX0_placeOf 1 = .ok (.istore_n 2, 1) := by decide +kernel
theorem dX0_placeOf_2 : decode cX0_placeOf 2 = .ok (.iload_n 2, 1) := by decide +kernel
theorem dX0_placeOf_3 : decode cX0_placeOf 3 = .ok (.aload_n 0, 1) := by decide +kernel
theorem dX0_placeOf_4 : decode cX0_placeOf 4 = .ok (.getfield 18, 3) := by decide +kernel
theorem dX0_placeOf_7 : decode cX0_placeOf 7 = .ok (.if_icmp .ge 21, 3) := by decide +kernel
theorem dX0_placeOf_10 : decode cX0_placeOf 10 = .ok (.aload_n 0, 1) := by decide +kernel
theorem dX0_placeOf_11 : decode cX0_placeOf 11 = .ok (.getfield 11, 3) := by decide +kernel
theorem dX0_placeOf_14 : decode cX0_placeOf 14 = .ok (.iload_n 2, 1) := by decide +kernel
theorem dX0_placeOf_15 : decode cX0_placeOf 15 = .ok (.iaload, 1) := by decide +kernel
theorem dX0_placeOf_16 : decode cX0_placeOf 16 = .ok (.iload_n 1, 1) := by decide +kernel
theorem dX0_placeOf_17 : decode cX0_placeOf 17 = .ok (.if_icmp .ne 5, 3) := by decide +kernel
theorem dX0_placeOf_20 : decode cX0_placeOf 20 = .ok (.iload_n 2, 1) := by decide +kernel
theorem dX0_placeOf_21 : decode cX0_placeOf 21 = .ok (.ireturn, 1) := by decide +kernel
theorem dX0_placeOf_22 : decode cX0_placeOf 22 = .ok (.iinc 2 1, 3) := by decide +kernel
theorem dX0_placeOf_25 : decode cX0_placeOf 25 = .ok (.goto (-23), 3) := by decide +kernel
theorem dX0_placeOf_28 : decode cX0_placeOf 28 = .ok (.iconst (-1), 1) := by decide +kernel
theorem dX0_placeOf_29 : decode cX0_placeOf 29 = .ok (.ireturn, 1) := by decide +kernel
set_option maxRecDepth 20000 in
theorem ggX0_hasRoomFor_X0_placeOf : GoodIn wsX0_hasRoomFor wsX0_placeOf := goodIn_r _ [6, 1, 7, 8, 9, 10] (by decide +kernel) (by decide +kernel)
set_option maxRecDepth 20000 in
theorem gX0_hasRoomFor_X0_placeOf : GoodIn wsX0_hasRoomFor (wsV RX0 22 RX0 yX0_placeOf wsX0_placeOf) := goodIn_app (goodIn_of _ (by decide +kernel)) ggX0_hasRoomFor_X0_placeOf
theorem dX0_hasRoomFor_0 : decode cX0_hasRoomFor 0 = .ok (.aload_n 0, 1) := by decide +kernel
theorem dX0_hasRoomFor_1 : decode cX0_hasRoomFor 1 = .ok (.getfield 18, 3) := by decide +kernel
theorem dX0_hasRoomFor_4 : decode cX0_hasRoomFor 4 = .ok (.bipush 40, 2) := by decide +kernel
theorem dX0_hasRoomFor_6 : decode cX0_hasRoomFor 6 = .ok (.if_icmp .lt 12, 3) := by decide +kernel
theorem dX0_hasRoomFor_9 : decode cX0_hasRoomFor 9 = .ok (.aload_n 0, 1) := by decide +kernel
theorem dX0_hasRoomFor_10 : decode cX0_hasRoomFor 10 = .ok (.iload_n 1, 1) := by decide +kernel
theorem dX0_hasRoomFor_11 : decode cX0_hasRoomFor 11 = .ok (.invokevirtual 22, 3) := by decide +kernel
theorem dX0_hasRoomFor_14 : decode cX0_hasRoomFor 14 = .ok (.iconst (-1), 1) := by decide +kernel
theorem dX0_hasRoomFor_15 : decode cX0_hasRoomFor 15 = .ok (.if_icmp .eq 7, 3) := by decide +kernel
theorem dX0_hasRoomFor_18 : decode cX0_hasRoomFor 18 = .ok (.iconst 1, 1) := by decide +kernel
theorem dX0_hasRoomFor_19 : decode cX0_hasRoomFor 19 = .ok (.goto 4, 3) := by decide +kernel
theorem dX0_hasRoomFor_22 : decode cX0_hasRoomFor 22 = .ok (.iconst 0, 1) := by decide +kernel
theorem dX0_hasRoomFor_23 : decode cX0_hasRoomFor 23 = .ok (.ireturn, 1) := by decide +kernel
set_option maxRecDepth 20000 in
theorem ggX0_heightOn_X0_placeOf : GoodIn wsX0_heightOn wsX0_placeOf := goodIn_r _ [6, 7, 8, 13, 14, 15] (by decide +kernel) (by decide +kernel)
set_option maxRecDepth 20000 in
theorem gX0_heightOn_X0_placeOf : GoodIn wsX0_heightOn (wsV RX0 22 RX0 yX0_placeOf wsX0_placeOf) := goodIn_app (goodIn_of _ (by decide +kernel)) ggX0_heightOn_X0_placeOf
set_option maxRecDepth 20000 in
theorem ggX0_heightOn_J9_floorMod_7cf53 : GoodIn wsX0_heightOn wsJ9_floorMod_7cf53 := goodIn_r _ [12] (by decide +kernel) (by decide +kernel)
set_option maxRecDepth 20000 in
theorem gX0_heightOn_J9_floorMod_7cf53 : GoodIn wsX0_heightOn (va_wsS RX0 26 yJ9_floorMod_7cf53 wsJ9_floorMod_7cf53) := goodIn_app (goodIn_of _ (by decide +kernel)) ggX0_heightOn_J9_floorMod_7cf53
theorem dX0_heightOn_0 : decode cX0_heightOn 0 = .ok (.aload_n 0, 1) := by decide +kernel
theorem dX0_heightOn_1 : decode cX0_heightOn 1 = .ok (.iload_n 1, 1) := by decide +kernel
theorem dX0_heightOn_2 : decode cX0_heightOn 2 = .ok (.invokevirtual 22, 3) := by decide +kernel
theorem dX0_heightOn_5 : decode cX0_heightOn 5 = .ok (.istore_n 2, 1) := by decide +kernel
theorem dX0_heightOn_6 : decode cX0_heightOn 6 = .ok (.iload_n 2, 1) := by decide +kernel
theorem dX0_heightOn_7 : decode cX0_heightOn 7 = .ok (.iconst (-1), 1) := by decide +kernel
theorem dX0_heightOn_8 : decode cX0_heightOn 8 = .ok (.if_icmp .ne 17, 3) := by decide +kernel
theorem dX0_heightOn_11 : decode cX0_heightOn 11 = .ok (.bipush 7, 2) := by decide +kernel
theorem dX0_heightOn_13 : decode cX0_heightOn 13 = .ok (.iload_n 1, 1) := by decide +kernel
theorem dX0_heightOn_14 : decode cX0_heightOn 14 = .ok (.imul, 1) := by decide +kernel
theorem dX0_heightOn_15 : decode cX0_heightOn 15 = .ok (.iconst 3, 1) := by decide +kernel
theorem dX0_heightOn_16 : decode cX0_heightOn 16 = .ok (.iadd, 1) := by decide +kernel
theorem dX0_heightOn_17 : decode cX0_heightOn 17 = .ok (.bipush 19, 2) := by decide +kernel
theorem dX0_heightOn_19 : decode cX0_heightOn 19 = .ok (.invokestatic 26, 3) := by decide +kernel
theorem dX0_heightOn_22 : decode cX0_heightOn 22 = .ok (.goto 9, 3) := by decide +kernel
theorem dX0_heightOn_25 : decode cX0_heightOn 25 = .ok (.aload_n 0, 1) := by decide +kernel
theorem dX0_heightOn_26 : decode cX0_heightOn 26 = .ok (.getfield 15, 3) := by decide +kernel
theorem dX0_heightOn_29 : decode cX0_heightOn 29 = .ok (.iload_n 2, 1) := by decide +kernel
theorem dX0_heightOn_30 : decode cX0_heightOn 30 = .ok (.iaload, 1) := by decide +kernel
theorem dX0_heightOn_31 : decode cX0_heightOn 31 = .ok (.ireturn, 1) := by decide +kernel
set_option maxRecDepth 20000 in
theorem ggX0_tell_X0_placeOf : GoodIn wsX0_tell wsX0_placeOf := goodIn_r _ [8, 1, 2, 9, 10, 11] (by decide +kernel) (by decide +kernel)
set_option maxRecDepth 20000 in
theorem gX0_tell_X0_placeOf : GoodIn wsX0_tell (wsV RX0 22 RX0 yX0_placeOf wsX0_placeOf) := goodIn_app (goodIn_of _ (by decide +kernel)) ggX0_tell_X0_placeOf
theorem dX0_tell_0 : decode cX0_tell 0 = .ok (.aload_n 0, 1) := by decide +kernel
theorem dX0_tell_1 : decode cX0_tell 1 = .ok (.iload_n 1, 1) := by decide +kernel
theorem dX0_tell_2 : decode cX0_tell 2 = .ok (.invokevirtual 22, 3) := by decide +kernel
theorem dX0_tell_5 : decode cX0_tell 5 = .ok (.istore_n 3, 1) := by decide +kernel
theorem dX0_tell_6 : decode cX0_tell 6 = .ok (.iload_n 3, 1) := by decide +kernel
theorem dX0_tell_7 : decode cX0_tell 7 = .ok (.iconst (-1), 1) := by decide +kernel
theorem dX0_tell_8 : decode cX0_tell 8 = .ok (.if_icmp .ne 18, 3) := by decide +kernel
theorem dX0_tell_11 : decode cX0_tell 11 = .ok (.aload_n 0, 1) := by decide +kernel
theorem dX0_tell_12 : decode cX0_tell 12 = .ok (.getfield 18, 3) := by decide +kernel
theorem dX0_tell_15 : decode cX0_tell 15 = .ok (.istore_n 3, 1) := by decide +kernel
theorem dX0_tell_16 : decode cX0_tell 16 = .ok (.aload_n 0, 1) := by decide +kernel
theorem dX0_tell_17 : decode cX0_tell 17 = .ok (.dup, 1) := by decide +kernel
theorem dX0_tell_18 : decode cX0_tell 18 = .ok (.getfield 18, 3) := by decide +kernel
theorem dX0_tell_21 : decode cX0_tell 21 = .ok (.iconst 1, 1) := by decide +kernel
theorem dX0_tell_22 : decode cX0_tell 22 = .ok (.iadd, 1) := by decide +kernel
theorem dX0_tell_23 : decode cX0_tell 23 = .ok (.putfield 18, 3) := by decide +kernel
theorem dX0_tell_26 : decode cX0_tell 26 = .ok (.aload_n 0, 1) := by decide +kernel
theorem dX0_tell_27 : decode cX0_tell 27 = .ok (.getfield 11, 3) := by decide +kernel
theorem dX0_tell_30 : decode cX0_tell 30 = .ok (.iload_n 3, 1) := by decide +kernel
theorem dX0_tell_31 : decode cX0_tell 31 = .ok (.iload_n 1, 1) := by decide +kernel
theorem dX0_tell_32 : decode cX0_tell 32 = .ok (.iastore, 1) := by decide +kernel
theorem dX0_tell_33 : decode cX0_tell 33 = .ok (.aload_n 0, 1) := by decide +kernel
theorem dX0_tell_34 : decode cX0_tell 34 = .ok (.getfield 15, 3) := by decide +kernel
theorem dX0_tell_37 : decode cX0_tell 37 = .ok (.iload_n 3, 1) := by decide +kernel
theorem dX0_tell_38 : decode cX0_tell 38 = .ok (.iload_n 2, 1) := by decide +kernel
theorem dX0_tell_39 : decode cX0_tell 39 = .ok (.iastore, 1) := by decide +kernel
theorem dX0_tell_40 : decode cX0_tell 40 = .ok (.return_, 1) := by decide +kernel
theorem dX1_init_0 : decode cX1_init 0 = .ok (.aload_n 0, 1) := by decide +kernel
theorem dX1_init_1 : decode cX1_init 1 = .ok (.invokespecial 3, 3) := by decide +kernel
theorem dX1_init_4 : decode cX1_init 4 = .ok (.aload_n 0, 1) := by decide +kernel
theorem dX1_init_5 : decode cX1_init 5 = .ok (.bipush 8, 2) := by decide +kernel
theorem dX1_init_7 : decode cX1_init 7 = .ok (.bipush 25, 2) := by decide +kernel
theorem dX1_init_9 : decode cX1_init 9 = .ok (.multianewarray 11 2, 4) := by decide +kernel
theorem dX1_init_13 : decode cX1_init 13 = .ok (.putfield 13, 3) := by decide +kernel
theorem dX1_init_16 : decode cX1_init 16 = .ok (.aload_n 0, 1) := by decide +kernel
theorem dX1_init_17 : decode cX1_init 17 = .ok (.bipush 9, 2) := by decide +kernel
theorem dX1_init_19 : decode cX1_init 19 = .ok (.newarray .int, 2) := by decide +kernel
theorem dX1_init_21 : decode cX1_init 21 = .ok (.putfield 16, 3) := by decide +kernel
theorem dX1_init_24 : decode cX1_init 24 = .ok (.aload_n 0, 1) := by decide +kernel
theorem dX1_init_25 : decode cX1_init 25 = .ok (.bipush 9, 2) := by decide +kernel
theorem dX1_init_27 : decode cX1_init 27 = .ok (.newarray .int, 2) := by decide +kernel
theorem dX1_init_29 : decode cX1_init 29 = .ok (.putfield 20, 3) := by decide +kernel
theorem dX1_init_32 : decode cX1_init 32 = .ok (.return_, 1) := by decide +kernel
set_option maxRecDepth 20000 in
theorem ggX1_straighten_X1_reckonRest : GoodIn wsX1_straighten wsX1_reckonRest := goodIn_r _ [14, 6, 15, 7, 8, 4, 9, 16, 17, 18, 19, 13, 20, 1, 21, 22, 23, 32, 33, 34] (by decide +kernel) (by decide +kernel)
set_option maxRecDepth 20000 in
theorem gX1_straighten_X1_reckonRest : GoodIn wsX1_straighten (wsV RX1 32 RX1 yX1_reckonRest wsX1_reckonRest) := goodIn_app (goodIn_of _ (by decide +kernel)) ggX1_straighten_X1_reckonRest
set_option maxRecDepth 20000 in
theorem ggX1_straighten_X1_draw : GoodIn wsX1_straighten wsX1_draw := goodIn_r _ [27, 15, 6, 16, 1, 28, 29, 30, 13, 31, 17, 18, 19, 20, 21, 22, 23, 32, 33, 34] (by decide +kernel) (by decide +kernel)
set_option maxRecDepth 20000 in
theorem gX1_straighten_X1_draw : GoodIn wsX1_straighten (wsV RX1 36 RX1 yX1_draw wsX1_draw) := goodIn_app (goodIn_of _ (by decide +kernel)) ggX1_straighten_X1_draw
theorem dX1_straighten_0 : decode cX1_straighten 0 = .ok (.iconst 0, 1) := by decide +kernel
theorem dX1_straighten_1 : decode cX1_straighten 1 = .ok (.istore_n 3, 1) := by decide +kernel
theorem dX1_straighten_2 : decode cX1_straighten 2 = .ok (.iload_n 3, 1) := by decide +kernel
theorem dX1_straighten_3 : decode cX1_straighten 3 = .ok (.bipush 9, 2) := by decide +kernel
theorem dX1_straighten_5 : decode cX1_straighten 5 = .ok (.if_icmp .ge 50, 3) := by decide +kernel
theorem dX1_straighten_8 : decode cX1_straighten 8 = .ok (.aload_n 0, 1) := by decide +kernel
theorem dX1_straighten_9 : decode cX1_straighten 9 = .ok (.getfield 16, 3) := by decide +kernel
theorem dX1_straighten_12 : decode cX1_straighten 12 = .ok (.iload_n 3, 1) := by decide +kernel
theorem dX1_straighten_13 : decode cX1_straighten 13 = .ok (.iconst 0, 1) := by decide +kernel
theorem dX1_straighten_14 : decode cX1_straighten 14 = .ok (.aload_n 1, 1) := by decide +kernel
theorem dX1_straighten_15 : decode cX1_straighten 15 = .ok (.iload_n 3, 1) := by decide +kernel
theorem dX1_straighten_16 : decode cX1_straighten 16 = .ok (.iaload, 1) := by decide +kernel
theorem dX1_straighten_17 : decode cX1_straighten 17 = .ok (.iload_n 2, 1) := by decide +kernel
theorem dX1_straighten_18 : decode cX1_straighten 18 = .ok (.isub, 1) := by decide +kernel
theorem dX1_straighten_19 : decode cX1_straighten 19 = .ok (.invokestatic 23, 3) := by decide +kernel
theorem dX1_straighten_22 : decode cX1_straighten 22 = .ok (.iastore, 1) := by decide +kernel
theorem dX1_straighten_23 : decode cX1_straighten 23 = .ok (.aload_n 0, 1) := by decide +kernel
theorem dX1_straighten_24 : decode cX1_straighten 24 = .ok (.getfield 20, 3) := by decide +kernel
theorem dX1_straighten_27 : decode cX1_straighten 27 = .ok (.iload_n 3, 1) := by decide +kernel
theorem dX1_straighten_28 : decode cX1_straighten 28 = .ok (.sipush 200, 3) := by decide +kernel
theorem dX1_straighten_31 : decode cX1_straighten 31 = .ok (.aload_n 1, 1) := by decide +kernel
theorem dX1_straighten_32 : decode cX1_straighten 32 = .ok (.iload_n 3, 1) := by decide +kernel
theorem dX1_straighten_33 : decode cX1_straighten 33 = .ok (.iaload, 1) := by decide +kernel
theorem dX1_straighten_34 : decode cX1_straighten 34 = .ok (.iload_n 2, 1) := by decide +kernel
theorem dX1_straighten_35 : decode cX1_straighten 35 = .ok (.iadd, 1) := by decide +kernel
theorem dX1_straighten_36 : decode cX1_straighten 36 = .ok (.invokestatic 29, 3) := by decide +kernel
theorem dX1_straighten_39 : decode cX1_straighten 39 = .ok (.aload_n 0, 1) := by decide +kernel
theorem dX1_straighten_40 : decode cX1_straighten 40 = .ok (.getfield 16, 3) := by decide +kernel
theorem dX1_straighten_43 : decode cX1_straighten 43 = .ok (.iload_n 3, 1) := by decide +kernel
theorem dX1_straighten_44 : decode cX1_straighten 44 = .ok (.iaload, 1) := by decide +kernel
theorem dX1_straighten_45 : decode cX1_straighten 45 = .ok (.isub, 1) := by decide +kernel
theorem dX1_straighten_46 : decode cX1_straighten 46 = .ok (.iconst 1, 1) := by decide +kernel
theorem dX1_straighten_47 : decode cX1_straighten 47 = .ok (.iadd, 1) := by decide +kernel
theorem dX1_straighten_48 : decode cX1_straighten 48 = .ok (.iastore, 1) := by decide +kernel
theorem dX1_straighten_49 : decode cX1_straighten 49 = .ok (.iinc 3 1, 3) := by decide +kernel
theorem dX1_straighten_52 : decode cX1_straighten 52 = .ok (.goto (-50), 3) := by decide +kernel
theorem dX1_straighten_55 : decode cX1_straighten 55 = .ok (.bipush 6, 2) := by decide +kernel
theorem dX1_straighten_57 : decode cX1_straighten 57 = .ok (.istore_n 3, 1) := by decide +kernel
theorem dX1_straighten_58 : decode cX1_straighten 58 = .ok (.iload_n 3, 1) := by decide +kernel
theorem dX1_straighten_59 : decode cX1_straighten 59 = .ok (.ifCond .lt 14, 3) := by decide +kernel
theorem dX1_straighten_62 : decode cX1_straighten 62 = .ok (.aload_n 0, 1) := by decide +kernel
theorem dX1_straighten_63 : decode cX1_straighten 63 = .ok (.iload_n 3, 1) := by decide +kernel
theorem dX1_straighten_64 : decode cX1_straighten 64 = .ok (.invokevirtual 32, 3) := by decide +kernel
theorem dX1_straighten_67 : decode cX1_straighten 67 = .ok (.iinc 3 (-1), 3) := by decide +kernel
theorem dX1_straighten_70 : decode cX1_straighten 70 = .ok (.goto (-12), 3) := by decide +kernel
theorem dX1_straighten_73 : decode cX1_straighten 73 = .ok (.aload_n 0, 1) := by decide +kernel
theorem dX1_straighten_74 : decode cX1_straighten 74 = .ok (.aload_n 1, 1) := by decide +kernel
theorem dX1_straighten_75 : decode cX1_straighten 75 = .ok (.invokevirtual 36, 3) := by decide +kernel
theorem dX1_straighten_78 : decode cX1_straighten 78 = .ok (.return_, 1) := by decide +kernel
set_option maxRecDepth 20000 in
theorem ggX1_reckonRest_X1_bendWith : GoodIn wsX1_reckonRest wsX1_bendWith := goodIn_r _ [12, 13, 7, 14, 15, 16, 17, 18, 19] (by decide +kernel) (by decide +kernel)
set_option maxRecDepth 20000 in
theorem gX1_reckonRest_X1_bendWith : GoodIn wsX1_reckonRest (wsV RX1 41 RX1 yX1_bendWith wsX1_bendWith) := goodIn_app (goodIn_of _ (by decide +kernel)) ggX1_reckonRest_X1_bendWith
theorem dX1_reckonRest_0 : decode cX1_reckonRest 0 = .ok (.iconst 0, 1) := by decide +kernel
theorem dX1_reckonRest_1 : decode cX1_reckonRest 1 = .ok (.istore_n 2, 1) := by decide +kernel
theorem dX1_reckonRest_2 : decode cX1_reckonRest 2 = .ok (.iload_n 2, 1) := by decide +kernel
theorem dX1_reckonRest_3 : decode cX1_reckonRest 3 = .ok (.aload_n 0, 1) := by decide +kernel
theorem dX1_reckonRest_4 : decode cX1_reckonRest 4 = .ok (.getfield 20, 3) := by decide +kernel
theorem dX1_reckonRest_7 : decode cX1_reckonRest 7 = .ok (.iload_n 1, 1) := by decide +kernel
theorem dX1_reckonRest_8 : decode cX1_reckonRest 8 = .ok (.iaload, 1) := by decide +kernel
theorem dX1_reckonRest_9 : decode cX1_reckonRest 9 = .ok (.if_icmp .ge 85, 3) := by decide +kernel
theorem dX1_reckonRest_12 : decode cX1_reckonRest 12 = .ok (.iconst 0, 1) := by decide +kernel
theorem dX1_reckonRest_13 : decode cX1_reckonRest 13 = .ok (.istore_n 3, 1) := by decide +kernel
theorem dX1_reckonRest_14 : decode cX1_reckonRest 14 = .ok (.iload_n 3, 1) := by decide +kernel
theorem dX1_reckonRest_15 : decode cX1_reckonRest 15 = .ok (.aload_n 0, 1) := by decide +kernel
theorem dX1_reckonRest_16 : decode cX1_reckonRest 16 = .ok (.getfield 20, 3) := by decide +kernel
theorem dX1_reckonRest_19 : decode cX1_reckonRest 19 = .ok (.iload_n 1, 1) := by decide +kernel
theorem dX1_reckonRest_20 : decode cX1_reckonRest 20 = .ok (.iconst 1, 1) := by decide +kernel
theorem dX1_reckonRest_21 : decode cX1_reckonRest 21 = .ok (.iadd, 1) := by decide +kernel
theorem dX1_reckonRest_22 : decode cX1_reckonRest 22 = .ok (.iaload, 1) := by decide +kernel
theorem dX1_reckonRest_23 : decode cX1_reckonRest 23 = .ok (.if_icmp .ge 65, 3) := by decide +kernel
theorem dX1_reckonRest_26 : decode cX1_reckonRest 26 = .ok (.ldc 40, 2) := by decide +kernel
theorem dX1_reckonRest_28 : decode cX1_reckonRest 28 = .ok (.istore 4, 2) := by decide +kernel
theorem dX1_reckonRest_30 : decode cX1_reckonRest 30 = .ok (.iconst 0, 1) := by decide +kernel
theorem dX1_reckonRest_31 : decode cX1_reckonRest 31 = .ok (.istore 5, 2) := by decide +kernel
theorem dX1_reckonRest_33 : decode cX1_reckonRest 33 = .ok (.iload 5, 2) := by decide +kernel
theorem dX1_reckonRest_35 : decode cX1_reckonRest 35 = .ok (.aload_n 0, 1) := by decide +kernel
theorem dX1_reckonRest_36 : decode cX1_reckonRest 36 = .ok (.getfield 20, 3) := by decide +kernel
theorem dX1_reckonRest_39 : decode cX1_reckonRest 39 = .ok (.iload_n 1, 1) := by decide +kernel
theorem dX1_reckonRest_40 : decode cX1_reckonRest 40 = .ok (.iconst 2, 1) := by decide +kernel
theorem dX1_reckonRest_41 : decode cX1_reckonRest 41 = .ok (.iadd, 1) := by decide +kernel
theorem dX1_reckonRest_42 : decode cX1_reckonRest 42 = .ok (.iaload, 1) := by decide +kernel
theorem dX1_reckonRest_43 : decode cX1_reckonRest 43 = .ok (.if_icmp .ge 25, 3) := by decide +kernel
theorem dX1_reckonRest_46 : decode cX1_reckonRest 46 = .ok (.iload 4, 2) := by decide +kernel
theorem dX1_reckonRest_48 : decode cX1_reckonRest 48 = .ok (.aload_n 0, 1) := by decide +kernel
theorem dX1_reckonRest_49 : decode cX1_reckonRest 49 = .ok (.iload_n 1, 1) := by decide +kernel
theorem dX1_reckonRest_50 : decode cX1_reckonRest 50 = .ok (.iload_n 2, 1) := by decide +kernel
theorem dX1_reckonRest_51 : decode cX1_reckonRest 51 = .ok (.iload_n 3, 1) := by decide +kernel
theorem dX1_reckonRest_52 : decode cX1_reckonRest 52 = .ok (.iload 5, 2) := by decide +kernel
theorem dX1_reckonRest_54 : decode cX1_reckonRest 54 = .ok (.invokevirtual 41, 3) := by decide +kernel
theorem dX1_reckonRest_57 : decode cX1_reckonRest 57 = .ok (.invokestatic 29, 3) := by decide +kernel
theorem dX1_reckonRest_60 : decode cX1_reckonRest 60 = .ok (.istore 4, 2) := by decide +kernel
theorem dX1_reckonRest_62 : decode cX1_reckonRest 62 = .ok (.iinc 5 1, 3) := by decide +kernel
theorem dX1_reckonRest_65 : decode cX1_reckonRest 65 = .ok (.goto (-32), 3) := by decide +kernel
theorem dX1_reckonRest_68 : decode cX1_reckonRest 68 = .ok (.aload_n 0, 1) := by decide +kernel
theorem dX1_reckonRest_69 : decode cX1_reckonRest 69 = .ok (.getfield 13, 3) := by decide +kernel
theorem dX1_reckonRest_72 : decode cX1_reckonRest 72 = .ok (.iload_n 1, 1) := by decide +kernel
theorem dX1_reckonRest_73 : decode cX1_reckonRest 73 = .ok (.aaload, 1) := by decide +kernel
theorem dX1_reckonRest_74 : decode cX1_reckonRest 74 = .ok (.iload_n 2, 1) := by decide +kernel
theorem dX1_reckonRest_75 : decode cX1_reckonRest 75 = .ok (.iconst 5, 1) := by decide +kernel
theorem dX1_reckonRest_76 : decode cX1_reckonRest 76 = .ok (.imul, 1) := by decide +kernel
theorem dX1_reckonRest_77 : decode cX1_reckonRest 77 = .ok (.iload_n 3, 1) := by decide +kernel
theorem dX1_reckonRest_78 : decode cX1_reckonRest 78 = .ok (.iadd, 1) := by decide +kernel
theorem dX1_reckonRest_79 : decode cX1_reckonRest 79 = .ok (.iload 4, 2) := by decide +kernel
theorem dX1_reckonRest_81 : decode cX1_reckonRest 81 = .ok (.iastore, 1) := by decide +kernel
theorem dX1_reckonRest_82 : decode cX1_reckonRest 82 = .ok (.iinc 3 1, 3) := by decide +kernel
theorem dX1_reckonRest_85 : decode cX1_reckonRest 85 = .ok (.goto (-71), 3) := by decide +kernel
theorem dX1_reckonRest_88 : decode cX1_reckonRest 88 = .ok (.iinc 2 1, 3) := by decide +kernel
theorem dX1_reckonRest_91 : decode cX1_reckonRest 91 = .ok (.goto (-89), 3) := by decide +kernel
theorem dX1_reckonRest_94 : decode cX1_reckonRest 94 = .ok (.return_, 1) := by decide +kernel
set_option maxRecDepth 20000 in
theorem ggX1_bendWith_X6_squareOfBend : GoodIn wsX1_bendWith wsX6_squareOfBend := goodIn_r _ [5] (by decide +kernel) (by decide +kernel)
set_option maxRecDepth 20000 in
theorem gX1_bendWith_X6_squareOfBend_n45 : GoodIn wsX1_bendWith (wsX6_squareOfBend) := ggX1_bendWith_X6_squareOfBend
theorem dX1_bendWith_0 : decode cX1_bendWith 0 = .ok (.aload_n 0, 1) := by decide +kernel
theorem dX1_bendWith_1 : decode cX1_bendWith 1 = .ok (.getfield 16, 3) := by decide +kernel
theorem dX1_bendWith_4 : decode cX1_bendWith 4 = .ok (.iload_n 1, 1) := by decide +kernel
theorem dX1_bendWith_5 : decode cX1_bendWith 5 = .ok (.iaload, 1) := by decide +kernel
theorem dX1_bendWith_6 : decode cX1_bendWith 6 = .ok (.iload_n 2, 1) := by decide +kernel
theorem dX1_bendWith_7 : decode cX1_bendWith 7 = .ok (.iadd, 1) := by decide +kernel
theorem dX1_bendWith_8 : decode cX1_bendWith 8 = .ok (.aload_n 0, 1) := by decide +kernel
theorem dX1_bendWith_9 : decode cX1_bendWith 9 = .ok (.getfield 16, 3) := by decide +kernel
theorem dX1_bendWith_12 : decode cX1_bendWith 12 = .ok (.iload_n 1, 1) := by decide +kernel
theorem dX1_bendWith_13 : decode cX1_bendWith 13 = .ok (.iconst 1, 1) := by decide +kernel
theorem dX1_bendWith_14 : decode cX1_bendWith 14 = .ok (.iadd, 1) := by decide +kernel
theorem dX1_bendWith_15 : decode cX1_bendWith 15 = .ok (.iaload, 1) := by decide +kernel
theorem dX1_bendWith_16 : decode cX1_bendWith 16 = .ok (.iload_n 3, 1) := by decide +kernel
theorem dX1_bendWith_17 : decode cX1_bendWith 17 = .ok (.iadd, 1) := by decide +kernel
theorem dX1_bendWith_18 : decode cX1_bendWith 18 = .ok (.aload_n 0, 1) := by decide +kernel
theorem dX1_bendWith_19 : decode cX1_bendWith 19 = .ok (.getfield 16, 3) := by decide +kernel
theorem dX1_bendWith_22 : decode cX1_bendWith 22 = .ok (.iload_n 1, 1) := by decide +kernel
theorem dX1_bendWith_23 : decode cX1_bendWith 23 = .ok (.iconst 2, 1) := by decide +kernel
theorem dX1_bendWith_24 : decode cX1_bendWith 24 = .ok (.iadd, 1) := by decide +kernel
theorem dX1_bendWith_25 : decode cX1_bendWith 25 = .ok (.iaload, 1) := by decide +kernel
theorem dX1_bendWith_26 : decode cX1_bendWith 26 = .ok (.iload 4, 2) := by decide +kernel
theorem dX1_bendWith_28 : decode cX1_bendWith 28 = .ok (.iadd, 1) := by decide +kernel
theorem dX1_bendWith_29 : decode cX1_bendWith 29 = .ok (.invokestatic 45, 3) := by decide +kernel
theorem dX1_bendWith_32 : decode cX1_bendWith 32 = .ok (.istore 5, 2) := by decide +kernel
theorem dX1_bendWith_34 : decode cX1_bendWith 34 = .ok (.iload 5, 2) := by decide +kernel
theorem dX1_bendWith_36 : decode cX1_bendWith 36 = .ok (.aload_n 0, 1) := by decide +kernel
theorem dX1_bendWith_37 : decode cX1_bendWith 37 = .ok (.getfield 13, 3) := by decide +kernel
theorem dX1_bendWith_40 : decode cX1_bendWith 40 = .ok (.iload_n 1, 1) := by decide +kernel
theorem dX1_bendWith_41 : decode cX1_bendWith 41 = .ok (.iconst 1, 1) := by decide +kernel
theorem dX1_bendWith_42 : decode cX1_bendWith 42 = .ok (.iadd, 1) := by decide +kernel
theorem dX1_bendWith_43 : decode cX1_bendWith 43 = .ok (.aaload, 1) := by decide +kernel
theorem dX1_bendWith_44 : decode cX1_bendWith 44 = .ok (.iload_n 3, 1) := by decide +kernel
theorem dX1_bendWith_45 : decode cX1_bendWith 45 = .ok (.iconst 5, 1) := by decide +kernel
theorem dX1_bendWith_46 : decode cX1_bendWith 46 = .ok (.imul, 1) := by decide +kernel
theorem dX1_bendWith_47 : decode cX1_bendWith 47 = .ok (.iload 4, 2) := by decide +kernel
theorem dX1_bendWith_49 : decode cX1_bendWith 49 = .ok (.iadd, 1) := by decide +kernel
theorem dX1_bendWith_50 : decode cX1_bendWith 50 = .ok (.iaload, 1) := by decide +kernel
theorem dX1_bendWith_51 : decode cX1_bendWith 51 = .ok (.iadd, 1) := by decide +kernel
theorem dX1_bendWith_52 : decode cX1_bendWith 52 = .ok (.ireturn, 1) := by decide +kernel
set_option maxRecDepth 20000 in
theorem ggX1_draw_X1_lowestThird : GoodIn wsX1_draw wsX1_lowestThird := goodIn_r _ [9, 1, 2, 10, 11, 12, 8, 13, 4, 3, 14, 15, 16, 17, 18, 19] (by decide +kernel) (by decide +kernel)
set_option maxRecDepth 20000 in
theorem gX1_draw_X1_lowestThird : GoodIn wsX1_draw (wsV RX1 49 RX1 yX1_lowestThird wsX1_lowestThird) := goodIn_app (goodIn_of _ (by decide +kernel)) ggX1_draw_X1_lowestThird
theorem dX1_draw_0 : decode cX1_draw 0 = .ok (.iconst 0, 1) := by decide +kernel
theorem dX1_draw_1 : decode cX1_draw 1 = .ok (.istore_n 2, 1) := by decide +kernel
theorem dX1_draw_2 : decode cX1_draw 2 = .ok (.iconst 0, 1) := by decide +kernel
theorem dX1_draw_3 : decode cX1_draw 3 = .ok (.istore_n 3, 1) := by decide +kernel
theorem dX1_draw_4 : decode cX1_draw 4 = .ok (.ldc 40, 2) := by decide +kernel
theorem dX1_draw_6 : decode cX1_draw 6 = .ok (.istore 4, 2) := by decide +kernel
theorem dX1_draw_8 : decode cX1_draw 8 = .ok (.iconst 0, 1) := by decide +kernel
theorem dX1_draw_9 : decode cX1_draw 9 = .ok (.istore 5, 2) := by decide +kernel
theorem dX1_draw_11 : decode cX1_draw 11 = .ok (.iload 5, 2) := by decide +kernel
theorem dX1_draw_13 : decode cX1_draw 13 = .ok (.aload_n 0, 1) := by decide +kernel
theorem dX1_draw_14 : decode cX1_draw 14 = .ok (.getfield 20, 3) := by decide +kernel
theorem dX1_draw_17 : decode cX1_draw 17 = .ok (.iconst 0, 1) := by decide +kernel
theorem dX1_draw_18 : decode cX1_draw 18 = .ok (.iaload, 1) := by decide +kernel
theorem dX1_draw_19 : decode cX1_draw 19 = .ok (.if_icmp .ge 70, 3) := by decide +kernel
theorem dX1_draw_22 : decode cX1_draw 22 = .ok (.iconst 0, 1) := by decide +kernel
theorem dX1_draw_23 : decode cX1_draw 23 = .ok (.istore 6, 2) := by decide +kernel
theorem dX1_draw_25 : decode cX1_draw 25 = .ok (.iload 6, 2) := by decide +kernel
theorem dX1_draw_27 : decode cX1_draw 27 = .ok (.aload_n 0, 1) := by decide +kernel
theorem dX1_draw_28 : decode cX1_draw 28 = .ok (.getfield 20, 3) := by decide +kernel
theorem dX1_draw_31 : decode cX1_draw 31 = .ok (.iconst 1, 1) := by decide +kernel
theorem dX1_draw_32 : decode cX1_draw 32 = .ok (.iaload, 1) := by decide +kernel
theorem dX1_draw_33 : decode cX1_draw 33 = .ok (.if_icmp .ge 50, 3) := by decide +kernel
theorem dX1_draw_36 : decode cX1_draw 36 = .ok (.aload_n 0, 1) := by decide +kernel
theorem dX1_draw_37 : decode cX1_draw 37 = .ok (.getfield 13, 3) := by decide +kernel
theorem dX1_draw_40 : decode cX1_draw 40 = .ok (.iconst 0, 1) := by decide +kernel
theorem dX1_draw_41 : decode cX1_draw 41 = .ok (.aaload, 1) := by decide +kernel
theorem dX1_draw_42 : decode cX1_draw 42 = .ok (.iload 5, 2) := by decide +kernel
theorem dX1_draw_44 : decode cX1_draw 44 = .ok (.iconst 5, 1) := by decide +kernel
theorem dX1_draw_45 : decode cX1_draw 45 = .ok (.imul, 1) := by decide +kernel
theorem dX1_draw_46 : decode cX1_draw 46 = .ok (.iload 6, 2) := by decide +kernel
theorem dX1_draw_48 : decode cX1_draw 48 = .ok (.iadd, 1) := by decide +kernel
theorem dX1_draw_49 : decode cX1_draw 49 = .ok (.iaload, 1) := by decide +kernel
theorem dX1_draw_50 : decode cX1_draw 50 = .ok (.iload 4, 2) := by decide +kernel
theorem dX1_draw_52 : decode cX1_draw 52 = .ok (.if_icmp .ge 25, 3) := by decide +kernel
theorem dX1_draw_55 : decode cX1_draw 55 = .ok (.aload_n 0, 1) := by decide +kernel
theorem dX1_draw_56 : decode cX1_draw 56 = .ok (.getfield 13, 3) := by decide +kernel
theorem dX1_draw_59 : decode cX1_draw 59 = .ok (.iconst 0, 1) := by decide +kernel
theorem dX1_draw_60 : decode cX1_draw 60 = .ok (.aaload, 1) := by decide +kernel
theorem dX1_draw_61 : decode cX1_draw 61 = .ok (.iload 5, 2) := by decide +kernel
theorem dX1_draw_63 : decode cX1_draw 63 = .ok (.iconst 5, 1) := by decide +kernel
theorem dX1_draw_64 : decode cX1_draw 64 = .ok (.imul, 1) := by decide +kernel
theorem dX1_draw_65 : decode cX1_draw 65 = .ok (.iload 6, 2) := by decide +kernel
theorem dX1_draw_67 : decode cX1_draw 67 = .ok (.iadd, 1) := by decide +kernel
theorem dX1_draw_68 : decode cX1_draw 68 = .ok (.iaload, 1) := by decide +kernel
theorem dX1_draw_69 : decode cX1_draw 69 = .ok (.istore 4, 2) := by decide +kernel
theorem dX1_draw_71 : decode cX1_draw 71 = .ok (.iload 5, 2) := by decide +kernel
theorem dX1_draw_73 : decode cX1_draw 73 = .ok (.istore_n 2, 1) := by decide +kernel
theorem dX1_draw_74 : decode cX1_draw 74 = .ok (.iload 6, 2) := by decide +kernel
theorem dX1_draw_76 : decode cX1_draw 76 = .ok (.istore_n 3, 1) := by decide +kernel
theorem dX1_draw_77 : decode cX1_draw 77 = .ok (.iinc 6 1, 3) := by decide +kernel
theorem dX1_draw_80 : decode cX1_draw 80 = .ok (.goto (-55), 3) := by decide +kernel
theorem dX1_draw_83 : decode cX1_draw 83 = .ok (.iinc 5 1, 3) := by decide +kernel
theorem dX1_draw_86 : decode cX1_draw 86 = .ok (.goto (-75), 3) := by decide +kernel
theorem dX1_draw_89 : decode cX1_draw 89 = .ok (.aload_n 1, 1) := by decide +kernel
theorem dX1_draw_90 : decode cX1_draw 90 = .ok (.iconst 0, 1) := by decide +kernel
theorem dX1_draw_91 : decode cX1_draw 91 = .ok (.aload_n 0, 1) := by decide +kernel
theorem dX1_draw_92 : decode cX1_draw 92 = .ok (.getfield 16, 3) := by decide +kernel
theorem dX1_draw_95 : decode cX1_draw 95 = .ok (.iconst 0, 1) := by decide +kernel
theorem dX1_draw_96 : decode cX1_draw 96 = .ok (.iaload, 1) := by decide +kernel
theorem dX1_draw_97 : decode cX1_draw 97 = .ok (.iload_n 2, 1) := by decide +kernel
theorem dX1_draw_98 : decode cX1_draw 98 = .ok (.iadd, 1) := by decide +kernel
theorem dX1_draw_99 : decode cX1_draw 99 = .ok (.iastore, 1) := by decide +kernel
theorem dX1_draw_100 : decode cX1_draw 100 = .ok (.aload_n 1, 1) := by decide +kernel
theorem dX1_draw_101 : decode cX1_draw 101 = .ok (.iconst 1, 1) := by decide +kernel
theorem dX1_draw_102 : decode cX1_draw 102 = .ok (.aload_n 0, 1) := by decide +kernel
theorem dX1_draw_103 : decode cX1_draw 103 = .ok (.getfield 16, 3) := by decide +kernel
theorem dX1_draw_106 : decode cX1_draw 106 = .ok (.iconst 1, 1) := by decide +kernel
theorem dX1_draw_107 : decode cX1_draw 107 = .ok (.iaload, 1) := by decide +kernel
theorem dX1_draw_108 : decode cX1_draw 108 = .ok (.iload_n 3, 1) := by decide +kernel
theorem dX1_draw_109 : decode cX1_draw 109 = .ok (.iadd, 1) := by decide +kernel
theorem dX1_draw_110 : decode cX1_draw 110 = .ok (.iastore, 1) := by decide +kernel
theorem dX1_draw_111 : decode cX1_draw 111 = .ok (.iconst 0, 1) := by decide +kernel
theorem dX1_draw_112 : decode cX1_draw 112 = .ok (.istore 5, 2) := by decide +kernel
theorem dX1_draw_114 : decode cX1_draw 114 = .ok (.iload 5, 2) := by decide +kernel
theorem dX1_draw_116 : decode cX1_draw 116 = .ok (.bipush 7, 2) := by decide +kernel
theorem dX1_draw_118 : decode cX1_draw 118 = .ok (.if_icmp .ge 42, 3) := by decide +kernel
theorem dX1_draw_121 : decode cX1_draw 121 = .ok (.aload_n 0, 1) := by decide +kernel
theorem dX1_draw_122 : decode cX1_draw 122 = .ok (.iload 5, 2) := by decide +kernel
theorem dX1_draw_124 : decode cX1_draw 124 = .ok (.iload_n 2, 1) := by decide +kernel
theorem dX1_draw_125 : decode cX1_draw 125 = .ok (.iload_n 3, 1) := by decide +kernel
theorem dX1_draw_126 : decode cX1_draw 126 = .ok (.invokevirtual 49, 3) := by decide +kernel
theorem dX1_draw_129 : decode cX1_draw 129 = .ok (.istore 6, 2) := by decide +kernel
theorem dX1_draw_131 : decode cX1_draw 131 = .ok (.aload_n 1, 1) := by decide +kernel
theorem dX1_draw_132 : decode cX1_draw 132 = .ok (.iload 5, 2) := by decide +kernel
theorem dX1_draw_134 : decode cX1_draw 134 = .ok (.iconst 2, 1) := by decide +kernel
theorem dX1_draw_135 : decode cX1_draw 135 = .ok (.iadd, 1) := by decide +kernel
theorem dX1_draw_136 : decode cX1_draw 136 = .ok (.aload_n 0, 1) := by decide +kernel
theorem dX1_draw_137 : decode cX1_draw 137 = .ok (.getfield 16, 3) := by decide +kernel
theorem dX1_draw_140 : decode cX1_draw 140 = .ok (.iload 5, 2) := by decide +kernel
theorem dX1_draw_142 : decode cX1_draw 142 = .ok (.iconst 2, 1) := by decide +kernel
theorem dX1_draw_143 : decode cX1_draw 143 = .ok (.iadd, 1) := by decide +kernel
theorem dX1_draw_144 : decode cX1_draw 144 = .ok (.iaload, 1) := by decide +kernel
theorem dX1_draw_145 : decode cX1_draw 145 = .ok (.iload 6, 2) := by decide +kernel
theorem dX1_draw_147 : decode cX1_draw 147 = .ok (.iadd, 1) := by decide +kernel
theorem dX1_draw_148 : decode cX1_draw 148 = .ok (.iastore, 1) := by decide +kernel
theorem dX1_draw_149 : decode cX1_draw 149 = .ok (.iload_n 3, 1) := by decide +kernel
theorem dX1_draw_150 : decode cX1_draw 150 = .ok (.istore_n 2, 1) := by decide +kernel
theorem dX1_draw_151 : decode cX1_draw 151 = .ok (.iload 6, 2) := by decide +kernel
theorem dX1_draw_153 : decode cX1_draw 153 = .ok (.istore_n 3, 1) := by decide +kernel
theorem dX1_draw_154 : decode cX1_draw 154 = .ok (.iinc 5 1, 3) := by decide +kernel
theorem dX1_draw_157 : decode cX1_draw 157 = .ok (.goto (-43), 3) := by decide +kernel
theorem dX1_draw_160 : decode cX1_draw 160 = .ok (.return_, 1) := by decide +kernel
set_option maxRecDepth 20000 in
theorem ggX1_lowestThird_X1_bendWith : GoodIn wsX1_lowestThird wsX1_bendWith := goodIn_r _ [7, 8, 9, 10, 11, 12, 13, 14, 15] (by decide +kernel) (by decide +kernel)
set_option maxRecDepth 20000 in
theorem gX1_lowestThird_X1_bendWith : GoodIn wsX1_lowestThird (wsV RX1 41 RX1 yX1_bendWith wsX1_bendWith) := goodIn_app (goodIn_of _ (by decide +kernel)) ggX1_lowestThird_X1_bendWith
theorem dX1_lowestThird_0 : decode cX1_lowestThird 0 = .ok (.iconst 0, 1) := by decide +kernel
theorem dX1_lowestThird_1 : decode cX1_lowestThird 1 = .ok (.istore 4, 2) := by decide +kernel
theorem dX1_lowestThird_3 : decode cX1_lowestThird 3 = .ok (.ldc 40, 2) := by decide +kernel
theorem dX1_lowestThird_5 : decode cX1_lowestThird 5 = .ok (.istore 5, 2) := by decide +kernel
theorem dX1_lowestThird_7 : decode cX1_lowestThird 7 = .ok (.iconst 0, 1) := by decide +kernel
theorem dX1_lowestThird_8 : decode cX1_lowestThird 8 = .ok (.istore 6, 2) := by decide +kernel
theorem dX1_lowestThird_10 : decode cX1_lowestThird 10 = .ok (.iload 6, 2) := by decide +kernel
theorem dX1_lowestThird_12 : decode cX1_lowestThird 12 = .ok (.aload_n 0, 1) := by decide +kernel
theorem dX1_lowestThird_13 : decode cX1_lowestThird 13 = .ok (.getfield 20, 3) := by decide +kernel
theorem dX1_lowestThird_16 : decode cX1_lowestThird 16 = .ok (.iload_n 1, 1) := by decide +kernel
theorem dX1_lowestThird_17 : decode cX1_lowestThird 17 = .ok (.iconst 2, 1) := by decide +kernel
theorem dX1_lowestThird_18 : decode cX1_lowestThird 18 = .ok (.iadd, 1) := by decide +kernel
theorem dX1_lowestThird_19 : decode cX1_lowestThird 19 = .ok (.iaload, 1) := by decide +kernel
theorem dX1_lowestThird_20 : decode cX1_lowestThird 20 = .ok (.if_icmp .ge 35, 3) := by decide +kernel
theorem dX1_lowestThird_23 : decode cX1_lowestThird 23 = .ok (.aload_n 0, 1) := by decide +kernel
theorem dX1_lowestThird_24 : decode cX1_lowestThird 24 = .ok (.iload_n 1, 1) := by decide +kernel
theorem dX1_lowestThird_25 : decode cX1_lowestThird 25 = .ok (.iload_n 2, 1) := by decide +kernel
theorem dX1_lowestThird_26 : decode cX1_lowestThird 26 = .ok (.iload_n 3, 1) := by decide +kernel
theorem dX1_lowestThird_27 : decode cX1_lowestThird 27 = .ok (.iload 6, 2) := by decide +kernel
theorem dX1_lowestThird_29 : decode cX1_lowestThird 29 = .ok (.invokevirtual 41, 3) := by decide +kernel
theorem dX1_lowestThird_32 : decode cX1_lowestThird 32 = .ok (.istore 7, 2) := by decide +kernel
theorem dX1_lowestThird_34 : decode cX1_lowestThird 34 = .ok (.iload 7, 2) := by decide +kernel
theorem dX1_lowestThird_36 : decode cX1_lowestThird 36 = .ok (.iload 5, 2) := by decide +kernel
theorem dX1_lowestThird_38 : decode cX1_lowestThird 38 = .ok (.if_icmp .ge 11, 3) := by decide +kernel
theorem dX1_lowestThird_41 : decode cX1_lowestThird 41 = .ok (.iload 7, 2) := by decide +kernel
theorem dX1_lowestThird_43 : decode cX1_lowestThird 43 = .ok (.istore 5, 2) := by decide +kernel
theorem dX1_lowestThird_45 : decode cX1_lowestThird 45 = .ok (.iload 6, 2) := by decide +kernel
theorem dX1_lowestThird_47 : decode cX1_lowestThird 47 = .ok (.istore 4, 2) := by decide +kernel
theorem dX1_lowestThird_49 : decode cX1_lowestThird 49 = .ok (.iinc 6 1, 3) := by decide +kernel
theorem dX1_lowestThird_52 : decode cX1_lowestThird 52 = .ok (.goto (-42), 3) := by decide +kernel
theorem dX1_lowestThird_55 : decode cX1_lowestThird 55 = .ok (.iload 4, 2) := by decide +kernel
theorem dX1_lowestThird_57 : decode cX1_lowestThird 57 = .ok (.ireturn, 1) := by decide +kernel
theorem dX2_init_0 : decode cX2_init 0 = .ok (.aload_n 0, 1) := by decide +kernel
theorem dX2_init_1 : decode cX2_init 1 = .ok (.invokespecial 3, 3) := by decide +kernel
theorem dX2_init_4 : decode cX2_init 4 = .ok (.aload_n 0, 1) := by decide +kernel
theorem dX2_init_5 : decode cX2_init 5 = .ok (.bipush 6, 2) := by decide +kernel
theorem dX2_init_7 : decode cX2_init 7 = .ok (.newarray .int, 2) := by decide +kernel
theorem dX2_init_9 : decode cX2_init 9 = .ok (.putfield 9, 3) := by decide +kernel
theorem dX2_init_12 : decode cX2_init 12 = .ok (.aload_n 0, 1) := by decide +kernel
theorem dX2_init_13 : decode cX2_init 13 = .ok (.bipush 6, 2) := by decide +kernel
theorem dX2_init_15 : decode cX2_init 15 = .ok (.newarray .int, 2) := by decide +kernel
theorem dX2_init_17 : decode cX2_init 17 = .ok (.putfield 15, 3) := by decide +kernel
theorem dX2_init_20 : decode cX2_init 20 = .ok (.return_, 1) := by decide +kernel
set_option maxRecDepth 20000 in
theorem ggX2_measure_X4_volumeUpTo : GoodIn wsX2_measure wsX4_volumeUpTo := goodIn_r _ [6, 7, 8, 9, 4, 10, 11, 17] (by decide +kernel) (by decide +kernel)
set_option maxRecDepth 20000 in
theorem gX2_measure_X4_volumeUpTo_n18 : GoodIn wsX2_measure (wsX4_volumeUpTo) := ggX2_measure_X4_volumeUpTo
set_option maxRecDepth 20000 in
theorem ggX2_measure_X4_momentUpTo : GoodIn wsX2_measure wsX4_momentUpTo := goodIn_r _ [14, 7, 8, 9, 4, 10, 11, 17] (by decide +kernel) (by decide +kernel)
set_option maxRecDepth 20000 in
theorem gX2_measure_X4_momentUpTo_n24 : GoodIn wsX2_measure (wsX4_momentUpTo) := ggX2_measure_X4_momentUpTo
theorem dX2_measure_0 : decode cX2_measure 0 = .ok (.iconst 0, 1) := by decide +kernel
theorem dX2_measure_1 : decode cX2_measure 1 = .ok (.istore_n 2, 1) := by decide +kernel
theorem dX2_measure_2 : decode cX2_measure 2 = .ok (.iload_n 2, 1) := by decide +kernel
theorem dX2_measure_3 : decode cX2_measure 3 = .ok (.bipush 6, 2) := by decide +kernel
theorem dX2_measure_5 : decode cX2_measure 5 = .ok (.if_icmp .ge 31, 3) := by decide +kernel
theorem dX2_measure_8 : decode cX2_measure 8 = .ok (.aload_n 0, 1) := by decide +kernel
theorem dX2_measure_9 : decode cX2_measure 9 = .ok (.getfield 9, 3) := by decide +kernel
theorem dX2_measure_12 : decode cX2_measure 12 = .ok (.iload_n 2, 1) := by decide +kernel
theorem dX2_measure_13 : decode cX2_measure 13 = .ok (.aload_n 1, 1) := by decide +kernel
theorem dX2_measure_14 : decode cX2_measure 14 = .ok (.iload_n 2, 1) := by decide +kernel
theorem dX2_measure_15 : decode cX2_measure 15 = .ok (.invokevirtual 18, 3) := by decide +kernel
theorem dX2_measure_18 : decode cX2_measure 18 = .ok (.iastore, 1) := by decide +kernel
theorem dX2_measure_19 : decode cX2_measure 19 = .ok (.aload_n 0, 1) := by decide +kernel
theorem dX2_measure_20 : decode cX2_measure 20 = .ok (.getfield 15, 3) := by decide +kernel
theorem dX2_measure_23 : decode cX2_measure 23 = .ok (.iload_n 2, 1) := by decide +kernel
theorem dX2_measure_24 : decode cX2_measure 24 = .ok (.aload_n 1, 1) := by decide +kernel
theorem dX2_measure_25 : decode cX2_measure 25 = .ok (.iload_n 2, 1) := by decide +kernel
theorem dX2_measure_26 : decode cX2_measure 26 = .ok (.invokevirtual 24, 3) := by decide +kernel
theorem dX2_measure_29 : decode cX2_measure 29 = .ok (.iastore, 1) := by decide +kernel
theorem dX2_measure_30 : decode cX2_measure 30 = .ok (.iinc 2 1, 3) := by decide +kernel
theorem dX2_measure_33 : decode cX2_measure 33 = .ok (.goto (-31), 3) := by decide +kernel
theorem dX2_measure_36 : decode cX2_measure 36 = .ok (.return_, 1) := by decide +kernel
theorem dX2_draughtUnder_0 : decode cX2_draughtUnder 0 = .ok (.iconst 0, 1) := by decide +kernel
theorem dX2_draughtUnder_1 : decode cX2_draughtUnder 1 = .ok (.istore_n 2, 1) := by decide +kernel
theorem dX2_draughtUnder_2 : decode cX2_draughtUnder 2 = .ok (.iload_n 2, 1) := by decide +kernel
theorem dX2_draughtUnder_3 : decode cX2_draughtUnder 3 = .ok (.bipush 6, 2) := by decide +kernel
theorem dX2_draughtUnder_5 : decode cX2_draughtUnder 5 = .ok (.if_icmp .ge 21, 3) := by decide +kernel
theorem dX2_draughtUnder_8 : decode cX2_draughtUnder 8 = .ok (.aload_n 0, 1) := by decide +kernel
theorem dX2_draughtUnder_9 : decode cX2_draughtUnder 9 = .ok (.getfield 9, 3) := by decide +kernel
theorem dX2_draughtUnder_12 : decode cX2_draughtUnder 12 = .ok (.iload_n 2, 1) := by decide +kernel
theorem dX2_draughtUnder_13 : decode cX2_draughtUnder 13 = .ok (.iaload, 1) := by decide +kernel
theorem dX2_draughtUnder_14 : decode cX2_draughtUnder 14 = .ok (.iload_n 1, 1) := by decide +kernel
theorem dX2_draughtUnder_15 : decode cX2_draughtUnder 15 = .ok (.if_icmp .lt 5, 3) := by decide +kernel
theorem dX2_draughtUnder_18 : decode cX2_draughtUnder 18 = .ok (.iload_n 2, 1) := by decide +kernel
theorem dX2_draughtUnder_19 : decode cX2_draughtUnder 19 = .ok (.ireturn, 1) := by decide +kernel
theorem dX2_draughtUnder_20 : decode cX2_draughtUnder 20 = .ok (.iinc 2 1, 3) := by decide +kernel
theorem dX2_draughtUnder_23 : decode cX2_draughtUnder 23 = .ok (.goto (-21), 3) := by decide +kernel
theorem dX2_draughtUnder_26 : decode cX2_draughtUnder 26 = .ok (.iconst (-1), 1) := by decide +kernel
theorem dX2_draughtUnder_27 : decode cX2_draughtUnder 27 = .ok (.ireturn, 1) := by decide +kernel
set_option maxRecDepth 20000 in
theorem ggX2_trimUnder_X2_draughtUnder : GoodIn wsX2_trimUnder wsX2_draughtUnder := goodIn_r _ [7, 2, 15, 16] (by decide +kernel) (by decide +kernel)
set_option maxRecDepth 20000 in
theorem gX2_trimUnder_X2_draughtUnder : GoodIn wsX2_trimUnder (wsV RX2 27 RX2 yX2_draughtUnder wsX2_draughtUnder) := goodIn_app (goodIn_of _ (by decide +kernel)) ggX2_trimUnder_X2_draughtUnder
set_option maxRecDepth 20000 in
theorem ggX2_trimUnder_X2_hundredfold : GoodIn wsX2_trimUnder wsX2_hundredfold := goodIn_r _ [10, 11, 12, 13, 14] (by decide +kernel) (by decide +kernel)
set_option maxRecDepth 20000 in
theorem gX2_trimUnder_X2_hundredfold : GoodIn wsX2_trimUnder (va_wsS RX2 30 yX2_hundredfold wsX2_hundredfold) := goodIn_app (goodIn_of _ (by decide +kernel)) ggX2_trimUnder_X2_hundredfold
theorem dX2_trimUnder_0 : decode cX2_trimUnder 0 = .ok (.aload_n 0, 1) := by decide +kernel
theorem dX2_trimUnder_1 : decode cX2_trimUnder 1 = .ok (.iload_n 1, 1) := by decide +kernel
theorem dX2_trimUnder_2 : decode cX2_trimUnder 2 = .ok (.invokevirtual 27, 3) := by decide +kernel
theorem dX2_trimUnder_5 : decode cX2_trimUnder 5 = .ok (.istore_n 3, 1) := by decide +kernel
theorem dX2_trimUnder_6 : decode cX2_trimUnder 6 = .ok (.iload_n 3, 1) := by decide +kernel
theorem dX2_trimUnder_7 : decode cX2_trimUnder 7 = .ok (.iconst (-1), 1) := by decide +kernel
theorem dX2_trimUnder_8 : decode cX2_trimUnder 8 = .ok (.if_icmp .ne 5, 3) := by decide +kernel
theorem dX2_trimUnder_11 : decode cX2_trimUnder 11 = .ok (.iconst 0, 1) := by decide +kernel
theorem dX2_trimUnder_12 : decode cX2_trimUnder 12 = .ok (.ireturn, 1) := by decide +kernel
theorem dX2_trimUnder_13 : decode cX2_trimUnder 13 = .ok (.iload_n 2, 1) := by decide +kernel
theorem dX2_trimUnder_14 : decode cX2_trimUnder 14 = .ok (.iload_n 1, 1) := by decide +kernel
theorem dX2_trimUnder_15 : decode cX2_trimUnder 15 = .ok (.invokestatic 30, 3) := by decide +kernel
theorem dX2_trimUnder_18 : decode cX2_trimUnder 18 = .ok (.aload_n 0, 1) := by decide +kernel
theorem dX2_trimUnder_19 : decode cX2_trimUnder 19 = .ok (.getfield 15, 3) := by decide +kernel
theorem dX2_trimUnder_22 : decode cX2_trimUnder 22 = .ok (.iload_n 3, 1) := by decide +kernel
theorem dX2_trimUnder_23 : decode cX2_trimUnder 23 = .ok (.iaload, 1) := by decide +kernel
theorem dX2_trimUnder_24 : decode cX2_trimUnder 24 = .ok (.aload_n 0, 1) := by decide +kernel
theorem dX2_trimUnder_25 : decode cX2_trimUnder 25 = .ok (.getfield 9, 3) := by decide +kernel
theorem dX2_trimUnder_28 : decode cX2_trimUnder 28 = .ok (.iload_n 3, 1) := by decide +kernel
theorem dX2_trimUnder_29 : decode cX2_trimUnder 29 = .ok (.iaload, 1) := by decide +kernel
theorem dX2_trimUnder_30 : decode cX2_trimUnder 30 = .ok (.invokestatic 30, 3) := by decide +kernel
theorem dX2_trimUnder_33 : decode cX2_trimUnder 33 = .ok (.isub, 1) := by decide +kernel
theorem dX2_trimUnder_34 : decode cX2_trimUnder 34 = .ok (.ireturn, 1) := by decide +kernel
set_option maxRecDepth 20000 in
theorem ggX2_hundredfold_J9_floorDiv_7cf53 : GoodIn wsX2_hundredfold wsJ9_floorDiv_7cf53 := goodIn_r _ [4] (by decide +kernel) (by decide +kernel)
set_option maxRecDepth 20000 in
theorem gX2_hundredfold_J9_floorDiv_7cf53 : GoodIn wsX2_hundredfold (va_wsS RX2 34 yJ9_floorDiv_7cf53 wsJ9_floorDiv_7cf53) := goodIn_app (goodIn_of _ (by decide +kernel)) ggX2_hundredfold_J9_floorDiv_7cf53
theorem dX2_hundredfold_0 : decode cX2_hundredfold 0 = .ok (.iload_n 1, 1) := by decide +kernel
theorem dX2_hundredfold_1 : decode cX2_hundredfold 1 = .ok (.ifCond .ne 7, 3) := by decide +kernel
theorem dX2_hundredfold_4 : decode cX2_hundredfold 4 = .ok (.iconst 0, 1) := by decide +kernel
theorem dX2_hundredfold_5 : decode cX2_hundredfold 5 = .ok (.goto 11, 3) := by decide +kernel
theorem dX2_hundredfold_8 : decode cX2_hundredfold 8 = .ok (.bipush 100, 2) := by decide +kernel
theorem dX2_hundredfold_10 : decode cX2_hundredfold 10 = .ok (.iload_n 0, 1) := by decide +kernel
theorem dX2_hundredfold_11 : decode cX2_hundredfold 11 = .ok (.imul, 1) := by decide +kernel
theorem dX2_hundredfold_12 : decode cX2_hundredfold 12 = .ok (.iload_n 1, 1) := by decide +kernel
theorem dX2_hundredfold_13 : decode cX2_hundredfold 13 = .ok (.invokestatic 34, 3) := by decide +kernel
theorem dX2_hundredfold_16 : decode cX2_hundredfold 16 = .ok (.ireturn, 1) := by decide +kernel
set_option maxRecDepth 20000 in
theorem ggX2_setBallast_X3_loadWithoutBallast : GoodIn wsX2_setBallast wsX3_loadWithoutBallast := goodIn_r _ [8, 9, 10, 33, 34, 35, 36, 37] (by decide +kernel) (by decide +kernel)
set_option maxRecDepth 20000 in
theorem gX2_setBallast_X3_loadWithoutBallast_n39 : GoodIn wsX2_setBallast (wsX3_loadWithoutBallast) := ggX2_setBallast_X3_loadWithoutBallast
set_option maxRecDepth 20000 in
theorem ggX2_setBallast_X3_momentWithoutBallast : GoodIn wsX2_setBallast wsX3_momentWithoutBallast := goodIn_r _ [13, 9, 10, 14, 33, 34, 35, 36, 37] (by decide +kernel) (by decide +kernel)
set_option maxRecDepth 20000 in
theorem gX2_setBallast_X3_momentWithoutBallast_n45 : GoodIn wsX2_setBallast (wsX3_momentWithoutBallast) := ggX2_setBallast_X3_momentWithoutBallast
set_option maxRecDepth 20000 in
theorem ggX2_setBallast_X2_draughtUnder : GoodIn wsX2_setBallast wsX2_draughtUnder := goodIn_r _ [19, 20, 38, 39] (by decide +kernel) (by decide +kernel)
set_option maxRecDepth 20000 in
theorem gX2_setBallast_X2_draughtUnder : GoodIn wsX2_setBallast (wsV RX2 27 RX2 yX2_draughtUnder wsX2_draughtUnder) := goodIn_app (goodIn_of _ (by decide +kernel)) ggX2_setBallast_X2_draughtUnder
set_option maxRecDepth 20000 in
theorem ggX2_setBallast_X2_trimUnder : GoodIn wsX2_setBallast wsX2_trimUnder := goodIn_r _ [24, 25, 20, 15, 16, 17, 18, 19, 26, 27, 28, 29, 30, 31, 32, 38, 39] (by decide +kernel) (by decide +kernel)
set_option maxRecDepth 20000 in
theorem gX2_setBallast_X2_trimUnder : GoodIn wsX2_setBallast (wsV RX2 48 RX2 yX2_trimUnder wsX2_trimUnder) := goodIn_app (goodIn_of _ (by decide +kernel)) ggX2_setBallast_X2_trimUnder
theorem dX2_setBallast_0 : decode cX2_setBallast 0 = .ok (.aload_n 1, 1) := by decide +kernel
theorem dX2_setBallast_1 : decode cX2_setBallast 1 = .ok (.invokevirtual 39, 3) := by decide +kernel
theorem dX2_setBallast_4 : decode cX2_setBallast 4 = .ok (.istore_n 3, 1) := by decide +kernel
theorem dX2_setBallast_5 : decode cX2_setBallast 5 = .ok (.aload_n 1, 1) := by decide +kernel
theorem dX2_setBallast_6 : decode cX2_setBallast 6 = .ok (.invokevirtual 45, 3) := by decide +kernel
theorem dX2_setBallast_9 : decode cX2_setBallast 9 = .ok (.istore 4, 2) := by decide +kernel
theorem dX2_setBallast_11 : decode cX2_setBallast 11 = .ok (.iconst 0, 1) := by decide +kernel
theorem dX2_setBallast_12 : decode cX2_setBallast 12 = .ok (.istore 5, 2) := by decide +kernel
theorem dX2_setBallast_14 : decode cX2_setBallast 14 = .ok (.iconst 0, 1) := by decide +kernel
theorem dX2_setBallast_15 : decode cX2_setBallast 15 = .ok (.istore 6, 2) := by decide +kernel
theorem dX2_setBallast_17 : decode cX2_setBallast 17 = .ok (.iconst 0, 1) := by decide +kernel
theorem dX2_setBallast_18 : decode cX2_setBallast 18 = .ok (.istore 7, 2) := by decide +kernel
theorem dX2_setBallast_20 : decode cX2_setBallast 20 = .ok (.iload 7, 2) := by decide +kernel
theorem dX2_setBallast_22 : decode cX2_setBallast 22 = .ok (.iload_n 2, 1) := by decide +kernel
theorem dX2_setBallast_23 : decode cX2_setBallast 23 = .ok (.if_icmp .gt 99, 3) := by decide +kernel
theorem dX2_setBallast_26 : decode cX2_setBallast 26 = .ok (.aload_n 0, 1) := by decide +kernel
theorem dX2_setBallast_27 : decode cX2_setBallast 27 = .ok (.iload_n 3, 1) := by decide +kernel
theorem dX2_setBallast_28 : decode cX2_setBallast 28 = .ok (.bipush 10, 2) := by decide +kernel
theorem dX2_setBallast_30 : decode cX2_setBallast 30 = .ok (.iload 7, 2) := by decide +kernel
theorem dX2_setBallast_32 : decode cX2_setBallast 32 = .ok (.imul, 1) := by decide +kernel
theorem dX2_setBallast_33 : decode cX2_setBallast 33 = .ok (.iadd, 1) := by decide +kernel
theorem dX2_setBallast_34 : decode cX2_setBallast 34 = .ok (.invokevirtual 27, 3) := by decide +kernel
theorem dX2_setBallast_37 : decode cX2_setBallast 37 = .ok (.iconst (-1), 1) := by decide +kernel
theorem dX2_setBallast_38 : decode cX2_setBallast 38 = .ok (.if_icmp .ne 4, 3) := by decide +kernel
theorem dX2_setBallast_41 : decode cX2_setBallast 41 = .ok (.return_, 1) := by decide +kernel
theorem dX2_setBallast_42 : decode cX2_setBallast 42 = .ok (.iconst 0, 1) := by decide +kernel
theorem dX2_setBallast_43 : decode cX2_setBallast 43 = .ok (.istore 8, 2) := by decide +kernel
theorem dX2_setBallast_45 : decode cX2_setBallast 45 = .ok (.iload 8, 2) := by decide +kernel
theorem dX2_setBallast_47 : decode cX2_setBallast 47 = .ok (.bipush 9, 2) := by decide +kernel
theorem dX2_setBallast_49 : decode cX2_setBallast 49 = .ok (.if_icmp .ge 67, 3) := by decide +kernel
theorem dX2_setBallast_52 : decode cX2_setBallast 52 = .ok (.aload_n 0, 1) := by decide +kernel
theorem dX2_setBallast_53 : decode cX2_setBallast 53 = .ok (.iload_n 3, 1) := by decide +kernel
theorem dX2_setBallast_54 : decode cX2_setBallast 54 = .ok (.bipush 10, 2) := by decide +kernel
theorem dX2_setBallast_56 : decode cX2_setBallast 56 = .ok (.iload 7, 2) := by decide +kernel
theorem dX2_setBallast_58 : decode cX2_setBallast 58 = .ok (.imul, 1) := by decide +kernel
theorem dX2_setBallast_59 : decode cX2_setBallast 59 = .ok (.iadd, 1) := by decide +kernel
theorem dX2_setBallast_60 : decode cX2_setBallast 60 = .ok (.iload 4, 2) := by decide +kernel
theorem dX2_setBallast_62 : decode cX2_setBallast 62 = .ok (.iload 7, 2) := by decide +kernel
theorem dX2_setBallast_64 : decode cX2_setBallast 64 = .ok (.bipush 20, 2) := by decide +kernel
theorem dX2_setBallast_66 : decode cX2_setBallast 66 = .ok (.imul, 1) := by decide +kernel
theorem dX2_setBallast_67 : decode cX2_setBallast 67 = .ok (.iload 8, 2) := by decide +kernel
theorem dX2_setBallast_69 : decode cX2_setBallast 69 = .ok (.imul, 1) := by decide +kernel
theorem dX2_setBallast_70 : decode cX2_setBallast 70 = .ok (.iadd, 1) := by decide +kernel
theorem dX2_setBallast_71 : decode cX2_setBallast 71 = .ok (.invokevirtual 48, 3) := by decide +kernel
theorem dX2_setBallast_74 : decode cX2_setBallast 74 = .ok (.invokestatic 51, 3) := by decide +kernel
theorem dX2_setBallast_77 : decode cX2_setBallast 77 = .ok (.istore 9, 2) := by decide +kernel
theorem dX2_setBallast_79 : decode cX2_setBallast 79 = .ok (.iload 5, 2) := by decide +kernel
theorem dX2_setBallast_81 : decode cX2_setBallast 81 = .ok (.ifCond .eq 10, 3) := by decide +kernel
theorem dX2_setBallast_84 : decode cX2_setBallast 84 = .ok (.iload 9, 2) := by decide +kernel
theorem dX2_setBallast_86 : decode cX2_setBallast 86 = .ok (.iload 6, 2) := by decide +kernel
theorem dX2_setBallast_88 : decode cX2_setBallast 88 = .ok (.if_icmp .ge 22, 3) := by decide +kernel
theorem dX2_setBallast_91 : decode cX2_setBallast 91 = .ok (.iconst 1, 1) := by decide +kernel
theorem dX2_setBallast_92 : decode cX2_setBallast 92 = .ok (.istore 5, 2) := by decide +kernel
theorem dX2_setBallast_94 : decode cX2_setBallast 94 = .ok (.iload 9, 2) := by decide +kernel
theorem dX2_setBallast_96 : decode cX2_setBallast 96 = .ok (.istore 6, 2) := by decide +kernel
theorem dX2_setBallast_98 : decode cX2_setBallast 98 = .ok (.aload_n 1, 1) := by decide +kernel
theorem dX2_setBallast_99 : decode cX2_setBallast 99 = .ok (.iload 7, 2) := by decide +kernel
theorem dX2_setBallast_101 : decode cX2_setBallast 101 = .ok (.putfield 54, 3) := by decide +kernel
theorem dX2_setBallast_104 : decode cX2_setBallast 104 = .ok (.aload_n 1, 1) := by decide +kernel
theorem dX2_setBallast_105 : decode cX2_setBallast 105 = .ok (.iload 8, 2) := by decide +kernel
theorem dX2_setBallast_107 : decode cX2_setBallast 107 = .ok (.putfield 58, 3) := by decide +kernel
theorem dX2_setBallast_110 : decode cX2_setBallast 110 = .ok (.iinc 8 1, 3) := by decide +kernel
theorem dX2_setBallast_113 : decode cX2_setBallast 113 = .ok (.goto (-68), 3) := by decide +kernel
theorem dX2_setBallast_116 : decode cX2_setBallast 116 = .ok (.iinc 7 1, 3) := by decide +kernel
theorem dX2_setBallast_119 : decode cX2_setBallast 119 = .ok (.goto (-99), 3) := by decide +kernel
theorem dX2_setBallast_122 : decode cX2_setBallast 122 = .ok (.return_, 1) := by decide +kernel
theorem dX3_init_0 : decode cX3_init 0 = .ok (.aload_n 0, 1) := by decide +kernel
theorem dX3_init_1 : decode cX3_init 1 = .ok (.invokespecial 1, 3) := by decide +kernel
theorem dX3_init_4 : decode cX3_init 4 = .ok (.aload_n 0, 1) := by decide +kernel
theorem dX3_init_5 : decode cX3_init 5 = .ok (.bipush 16, 2) := by decide +kernel
theorem dX3_init_7 : decode cX3_init 7 = .ok (.newarray .int, 2) := by decide +kernel
theorem dX3_init_9 : decode cX3_init 9 = .ok (.putfield 9, 3) := by decide +kernel
theorem dX3_init_12 : decode cX3_init 12 = .ok (.aload_n 0, 1) := by decide +kernel
theorem dX3_init_13 : decode cX3_init 13 = .ok (.bipush 16, 2) := by decide +kernel
theorem dX3_init_15 : decode cX3_init 15 = .ok (.newarray .int, 2) := by decide +kernel
theorem dX3_init_17 : decode cX3_init 17 = .ok (.putfield 13, 3) := by decide +kernel
theorem dX3_init_20 : decode cX3_init 20 = .ok (.aload_n 0, 1) := by decide +kernel
theorem dX3_init_21 : decode cX3_init 21 = .ok (.iconst 0, 1) := by decide +kernel
theorem dX3_init_22 : decode cX3_init 22 = .ok (.putfield 16, 3) := by decide +kernel
theorem dX3_init_25 : decode cX3_init 25 = .ok (.aload_n 0, 1) := by decide +kernel
theorem dX3_init_26 : decode cX3_init 26 = .ok (.iconst 0, 1) := by decide +kernel
theorem dX3_init_27 : decode cX3_init 27 = .ok (.putfield 20, 3) := by decide +kernel
theorem dX3_init_30 : decode cX3_init 30 = .ok (.aload_n 0, 1) := by decide +kernel
theorem dX3_init_31 : decode cX3_init 31 = .ok (.iconst 4, 1) := by decide +kernel
theorem dX3_init_32 : decode cX3_init 32 = .ok (.putfield 23, 3) := by decide +kernel
theorem dX3_init_35 : decode cX3_init 35 = .ok (.return_, 1) := by decide +kernel
theorem dX3_isFull_0 : decode cX3_isFull 0 = .ok (.aload_n 0, 1) := by decide +kernel
theorem dX3_isFull_1 : decode cX3_isFull 1 = .ok (.getfield 16, 3) := by decide +kernel
theorem dX3_isFull_4 : decode cX3_isFull 4 = .ok (.bipush 16, 2) := by decide +kernel
theorem dX3_isFull_6 : decode cX3_isFull 6 = .ok (.if_icmp .lt 7, 3) := by decide +kernel
theorem dX3_isFull_9 : decode cX3_isFull 9 = .ok (.iconst 1, 1) := by decide +kernel
theorem dX3_isFull_10 : decode cX3_isFull 10 = .ok (.goto 4, 3) := by decide +kernel
theorem dX3_isFull_13 : decode cX3_isFull 13 = .ok (.iconst 0, 1) := by decide +kernel
theorem dX3_isFull_14 : decode cX3_isFull 14 = .ok (.ireturn, 1) := by decide +kernel
theorem dX3_add_0 : decode cX3_add 0 = .ok (.aload_n 0, 1) := by decide +kernel
theorem dX3_add_1 : decode cX3_add 1 = .ok (.getfield 9, 3) := by decide +kernel
theorem dX3_add_4 : decode cX3_add 4 = .ok (.aload_n 0, 1) := by decide +kernel
theorem dX3_add_5 : decode cX3_add 5 = .ok (.getfield 16, 3) := by decide +kernel
theorem dX3_add_8 : decode cX3_add 8 = .ok (.iload_n 2, 1) := by decide +kernel
theorem dX3_add_9 : decode cX3_add 9 = .ok (.iastore, 1) := by decide +kernel
theorem dX3_add_10 : decode cX3_add 10 = .ok (.aload_n 0, 1) := by decide +kernel
theorem dX3_add_11 : decode cX3_add 11 = .ok (.getfield 13, 3) := by decide +kernel
theorem dX3_add_14 : decode cX3_add 14 = .ok (.aload_n 0, 1) := by decide +kernel
theorem dX3_add_15 : decode cX3_add 15 = .ok (.getfield 16, 3) := by decide +kernel
theorem dX3_add_18 : decode cX3_add 18 = .ok (.iload_n 1, 1) := by decide +kernel
theorem dX3_add_19 : decode cX3_add 19 = .ok (.iastore, 1) := by decide +kernel
theorem dX3_add_20 : decode cX3_add 20 = .ok (.aload_n 0, 1) := by decide +kernel
theorem dX3_add_21 : decode cX3_add 21 = .ok (.dup, 1) := by decide +kernel
theorem dX3_add_22 : decode cX3_add 22 = .ok (.getfield 16, 3) := by decide +kernel
theorem dX3_add_25 : decode cX3_add 25 = .ok (.iconst 1, 1) := by decide +kernel
theorem dX3_add_26 : decode cX3_add 26 = .ok (.iadd, 1) := by decide +kernel
theorem dX3_add_27 : decode cX3_add 27 = .ok (.putfield 16, 3) := by decide +kernel
theorem dX3_add_30 : decode cX3_add 30 = .ok (.aload_n 0, 1) := by decide +kernel
theorem dX3_add_31 : decode cX3_add 31 = .ok (.getfield 16, 3) := by decide +kernel
theorem dX3_add_34 : decode cX3_add 34 = .ok (.iconst 1, 1) := by decide +kernel
theorem dX3_add_35 : decode cX3_add 35 = .ok (.isub, 1) := by decide +kernel
theorem dX3_add_36 : decode cX3_add 36 = .ok (.ireturn, 1) := by decide +kernel
theorem dX3_replace_0 : decode cX3_replace 0 = .ok (.bipush 10, 2) := by decide +kernel
theorem dX3_replace_2 : decode cX3_replace 2 = .ok (.aload_n 0, 1) := by decide +kernel
theorem dX3_replace_3 : decode cX3_replace 3 = .ok (.getfield 9, 3) := by decide +kernel
theorem dX3_replace_6 : decode cX3_replace 6 = .ok (.iload_n 1, 1) := by decide +kernel
theorem dX3_replace_7 : decode cX3_replace 7 = .ok (.iaload, 1) := by decide +kernel
theorem dX3_replace_8 : decode cX3_replace 8 = .ok (.imul, 1) := by decide +kernel
theorem dX3_replace_9 : decode cX3_replace 9 = .ok (.aload_n 0, 1) := by decide +kernel
theorem dX3_replace_10 : decode cX3_replace 10 = .ok (.getfield 13, 3) := by decide +kernel
