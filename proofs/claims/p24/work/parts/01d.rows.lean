theorem dX3_replace_13 : decode cX3_replace 13 = .ok (.iload_n 1, 1) := by decide +kernel
theorem dX3_replace_14 : decode cX3_replace 14 = .ok (.iaload, 1) := by decide +kernel
theorem dX3_replace_15 : decode cX3_replace 15 = .ok (.iadd, 1) := by decide +kernel
theorem dX3_replace_16 : decode cX3_replace 16 = .ok (.istore 4, 2) := by decide +kernel
theorem dX3_replace_18 : decode cX3_replace 18 = .ok (.aload_n 0, 1) := by decide +kernel
theorem dX3_replace_19 : decode cX3_replace 19 = .ok (.getfield 9, 3) := by decide +kernel
theorem dX3_replace_22 : decode cX3_replace 22 = .ok (.iload_n 1, 1) := by decide +kernel
theorem dX3_replace_23 : decode cX3_replace 23 = .ok (.iload_n 3, 1) := by decide +kernel
theorem dX3_replace_24 : decode cX3_replace 24 = .ok (.iastore, 1) := by decide +kernel
theorem dX3_replace_25 : decode cX3_replace 25 = .ok (.aload_n 0, 1) := by decide +kernel
theorem dX3_replace_26 : decode cX3_replace 26 = .ok (.getfield 13, 3) := by decide +kernel
theorem dX3_replace_29 : decode cX3_replace 29 = .ok (.iload_n 1, 1) := by decide +kernel
theorem dX3_replace_30 : decode cX3_replace 30 = .ok (.iload_n 2, 1) := by decide +kernel
theorem dX3_replace_31 : decode cX3_replace 31 = .ok (.iastore, 1) := by decide +kernel
theorem dX3_replace_32 : decode cX3_replace 32 = .ok (.iload 4, 2) := by decide +kernel
theorem dX3_replace_34 : decode cX3_replace 34 = .ok (.ireturn, 1) := by decide +kernel
theorem dX3_loadWithoutBallast_0 : decode cX3_loadWithoutBallast 0 = .ok (.iconst 0, 1) := by decide +kernel
theorem dX3_loadWithoutBallast_1 : decode cX3_loadWithoutBallast 1 = .ok (.istore_n 1, 1) := by decide +kernel
theorem dX3_loadWithoutBallast_2 : decode cX3_loadWithoutBallast 2 = .ok (.iconst 0, 1) := by decide +kernel
theorem dX3_loadWithoutBallast_3 : decode cX3_loadWithoutBallast 3 = .ok (.istore_n 2, 1) := by decide +kernel
theorem dX3_loadWithoutBallast_4 : decode cX3_loadWithoutBallast 4 = .ok (.iload_n 2, 1) := by decide +kernel
theorem dX3_loadWithoutBallast_5 : decode cX3_loadWithoutBallast 5 = .ok (.aload_n 0, 1) := by decide +kernel
theorem dX3_loadWithoutBallast_6 : decode cX3_loadWithoutBallast 6 = .ok (.getfield 16, 3) := by decide +kernel
theorem dX3_loadWithoutBallast_9 : decode cX3_loadWithoutBallast 9 = .ok (.if_icmp .ge 18, 3) := by decide +kernel
theorem dX3_loadWithoutBallast_12 : decode cX3_loadWithoutBallast 12 = .ok (.iload_n 1, 1) := by decide +kernel
theorem dX3_loadWithoutBallast_13 : decode cX3_loadWithoutBallast 13 = .ok (.aload_n 0, 1) := by decide +kernel
theorem dX3_loadWithoutBallast_14 : decode cX3_loadWithoutBallast 14 = .ok (.getfield 9, 3) := by decide +kernel
theorem dX3_loadWithoutBallast_17 : decode cX3_loadWithoutBallast 17 = .ok (.iload_n 2, 1) := by decide +kernel
theorem dX3_loadWithoutBallast_18 : decode cX3_loadWithoutBallast 18 = .ok (.iaload, 1) := by decide +kernel
theorem dX3_loadWithoutBallast_19 : decode cX3_loadWithoutBallast 19 = .ok (.iadd, 1) := by decide +kernel
theorem dX3_loadWithoutBallast_20 : decode cX3_loadWithoutBallast 20 = .ok (.istore_n 1, 1) := by decide +kernel
theorem dX3_loadWithoutBallast_21 : decode cX3_loadWithoutBallast 21 = .ok (.iinc 2 1, 3) := by decide +kernel
theorem dX3_loadWithoutBallast_24 : decode cX3_loadWithoutBallast 24 = .ok (.goto (-20), 3) := by decide +kernel
theorem dX3_loadWithoutBallast_27 : decode cX3_loadWithoutBallast 27 = .ok (.bipush 10, 2) := by decide +kernel
theorem dX3_loadWithoutBallast_29 : decode cX3_loadWithoutBallast 29 = .ok (.iload_n 1, 1) := by decide +kernel
theorem dX3_loadWithoutBallast_30 : decode cX3_loadWithoutBallast 30 = .ok (.imul, 1) := by decide +kernel
theorem dX3_loadWithoutBallast_31 : decode cX3_loadWithoutBallast 31 = .ok (.ireturn, 1) := by decide +kernel
theorem dX3_momentWithoutBallast_0 : decode cX3_momentWithoutBallast 0 = .ok (.iconst 0, 1) := by decide +kernel
theorem dX3_momentWithoutBallast_1 : decode cX3_momentWithoutBallast 1 = .ok (.istore_n 1, 1) := by decide +kernel
theorem dX3_momentWithoutBallast_2 : decode cX3_momentWithoutBallast 2 = .ok (.iconst 0, 1) := by decide +kernel
theorem dX3_momentWithoutBallast_3 : decode cX3_momentWithoutBallast 3 = .ok (.istore_n 2, 1) := by decide +kernel
theorem dX3_momentWithoutBallast_4 : decode cX3_momentWithoutBallast 4 = .ok (.iload_n 2, 1) := by decide +kernel
theorem dX3_momentWithoutBallast_5 : decode cX3_momentWithoutBallast 5 = .ok (.aload_n 0, 1) := by decide +kernel
theorem dX3_momentWithoutBallast_6 : decode cX3_momentWithoutBallast 6 = .ok (.getfield 16, 3) := by decide +kernel
theorem dX3_momentWithoutBallast_9 : decode cX3_momentWithoutBallast 9 = .ok (.if_icmp .ge 28, 3) := by decide +kernel
theorem dX3_momentWithoutBallast_12 : decode cX3_momentWithoutBallast 12 = .ok (.iload_n 1, 1) := by decide +kernel
theorem dX3_momentWithoutBallast_13 : decode cX3_momentWithoutBallast 13 = .ok (.aload_n 0, 1) := by decide +kernel
theorem dX3_momentWithoutBallast_14 : decode cX3_momentWithoutBallast 14 = .ok (.getfield 9, 3) := by decide +kernel
theorem dX3_momentWithoutBallast_17 : decode cX3_momentWithoutBallast 17 = .ok (.iload_n 2, 1) := by decide +kernel
theorem dX3_momentWithoutBallast_18 : decode cX3_momentWithoutBallast 18 = .ok (.iaload, 1) := by decide +kernel
theorem dX3_momentWithoutBallast_19 : decode cX3_momentWithoutBallast 19 = .ok (.bipush 20, 2) := by decide +kernel
theorem dX3_momentWithoutBallast_21 : decode cX3_momentWithoutBallast 21 = .ok (.imul, 1) := by decide +kernel
theorem dX3_momentWithoutBallast_22 : decode cX3_momentWithoutBallast 22 = .ok (.aload_n 0, 1) := by decide +kernel
theorem dX3_momentWithoutBallast_23 : decode cX3_momentWithoutBallast 23 = .ok (.getfield 13, 3) := by decide +kernel
theorem dX3_momentWithoutBallast_26 : decode cX3_momentWithoutBallast 26 = .ok (.iload_n 2, 1) := by decide +kernel
theorem dX3_momentWithoutBallast_27 : decode cX3_momentWithoutBallast 27 = .ok (.iaload, 1) := by decide +kernel
theorem dX3_momentWithoutBallast_28 : decode cX3_momentWithoutBallast 28 = .ok (.imul, 1) := by decide +kernel
theorem dX3_momentWithoutBallast_29 : decode cX3_momentWithoutBallast 29 = .ok (.iadd, 1) := by decide +kernel
theorem dX3_momentWithoutBallast_30 : decode cX3_momentWithoutBallast 30 = .ok (.istore_n 1, 1) := by decide +kernel
theorem dX3_momentWithoutBallast_31 : decode cX3_momentWithoutBallast 31 = .ok (.iinc 2 1, 3) := by decide +kernel
theorem dX3_momentWithoutBallast_34 : decode cX3_momentWithoutBallast 34 = .ok (.goto (-30), 3) := by decide +kernel
theorem dX3_momentWithoutBallast_37 : decode cX3_momentWithoutBallast 37 = .ok (.iload_n 1, 1) := by decide +kernel
theorem dX3_momentWithoutBallast_38 : decode cX3_momentWithoutBallast 38 = .ok (.ireturn, 1) := by decide +kernel
set_option maxRecDepth 20000 in
theorem ggX3_wholeLoad_X3_loadWithoutBallast : GoodIn wsX3_wholeLoad wsX3_loadWithoutBallast := goodIn_r _ [6, 7, 8, 9, 10, 11, 12, 13] (by decide +kernel) (by decide +kernel)
set_option maxRecDepth 20000 in
theorem gX3_wholeLoad_X3_loadWithoutBallast : GoodIn wsX3_wholeLoad (wsV RX3 26 RX3 yX3_loadWithoutBallast wsX3_loadWithoutBallast) := goodIn_app (goodIn_of _ (by decide +kernel)) ggX3_wholeLoad_X3_loadWithoutBallast
theorem dX3_wholeLoad_0 : decode cX3_wholeLoad 0 = .ok (.aload_n 0, 1) := by decide +kernel
theorem dX3_wholeLoad_1 : decode cX3_wholeLoad 1 = .ok (.invokevirtual 26, 3) := by decide +kernel
theorem dX3_wholeLoad_4 : decode cX3_wholeLoad 4 = .ok (.bipush 10, 2) := by decide +kernel
theorem dX3_wholeLoad_6 : decode cX3_wholeLoad 6 = .ok (.aload_n 0, 1) := by decide +kernel
theorem dX3_wholeLoad_7 : decode cX3_wholeLoad 7 = .ok (.getfield 20, 3) := by decide +kernel
theorem dX3_wholeLoad_10 : decode cX3_wholeLoad 10 = .ok (.imul, 1) := by decide +kernel
theorem dX3_wholeLoad_11 : decode cX3_wholeLoad 11 = .ok (.iadd, 1) := by decide +kernel
theorem dX3_wholeLoad_12 : decode cX3_wholeLoad 12 = .ok (.ireturn, 1) := by decide +kernel
set_option maxRecDepth 20000 in
theorem ggX3_wholeMoment_X3_momentWithoutBallast : GoodIn wsX3_wholeMoment wsX3_momentWithoutBallast := goodIn_r _ [7, 8, 9, 10, 11, 12, 13, 14, 15] (by decide +kernel) (by decide +kernel)
set_option maxRecDepth 20000 in
theorem gX3_wholeMoment_X3_momentWithoutBallast : GoodIn wsX3_wholeMoment (wsV RX3 30 RX3 yX3_momentWithoutBallast wsX3_momentWithoutBallast) := goodIn_app (goodIn_of _ (by decide +kernel)) ggX3_wholeMoment_X3_momentWithoutBallast
theorem dX3_wholeMoment_0 : decode cX3_wholeMoment 0 = .ok (.aload_n 0, 1) := by decide +kernel
theorem dX3_wholeMoment_1 : decode cX3_wholeMoment 1 = .ok (.invokevirtual 30, 3) := by decide +kernel
theorem dX3_wholeMoment_4 : decode cX3_wholeMoment 4 = .ok (.aload_n 0, 1) := by decide +kernel
theorem dX3_wholeMoment_5 : decode cX3_wholeMoment 5 = .ok (.getfield 20, 3) := by decide +kernel
theorem dX3_wholeMoment_8 : decode cX3_wholeMoment 8 = .ok (.bipush 20, 2) := by decide +kernel
theorem dX3_wholeMoment_10 : decode cX3_wholeMoment 10 = .ok (.imul, 1) := by decide +kernel
theorem dX3_wholeMoment_11 : decode cX3_wholeMoment 11 = .ok (.aload_n 0, 1) := by decide +kernel
theorem dX3_wholeMoment_12 : decode cX3_wholeMoment 12 = .ok (.getfield 23, 3) := by decide +kernel
theorem dX3_wholeMoment_15 : decode cX3_wholeMoment 15 = .ok (.imul, 1) := by decide +kernel
theorem dX3_wholeMoment_16 : decode cX3_wholeMoment 16 = .ok (.iadd, 1) := by decide +kernel
theorem dX3_wholeMoment_17 : decode cX3_wholeMoment 17 = .ok (.ireturn, 1) := by decide +kernel
theorem dX4_init_0 : decode cX4_init 0 = .ok (.aload_n 0, 1) := by decide +kernel
theorem dX4_init_1 : decode cX4_init 1 = .ok (.invokespecial 3, 3) := by decide +kernel
theorem dX4_init_4 : decode cX4_init 4 = .ok (.aload_n 0, 1) := by decide +kernel
theorem dX4_init_5 : decode cX4_init 5 = .ok (.bipush 6, 2) := by decide +kernel
theorem dX4_init_7 : decode cX4_init 7 = .ok (.bipush 9, 2) := by decide +kernel
theorem dX4_init_9 : decode cX4_init 9 = .ok (.multianewarray 9 2, 4) := by decide +kernel
theorem dX4_init_13 : decode cX4_init 13 = .ok (.putfield 11, 3) := by decide +kernel
theorem dX4_init_16 : decode cX4_init 16 = .ok (.return_, 1) := by decide +kernel
theorem dX4_areaUpTo_0 : decode cX4_areaUpTo 0 = .ok (.iconst 0, 1) := by decide +kernel
theorem dX4_areaUpTo_1 : decode cX4_areaUpTo 1 = .ok (.istore_n 3, 1) := by decide +kernel
theorem dX4_areaUpTo_2 : decode cX4_areaUpTo 2 = .ok (.iconst 0, 1) := by decide +kernel
theorem dX4_areaUpTo_3 : decode cX4_areaUpTo 3 = .ok (.istore 4, 2) := by decide +kernel
theorem dX4_areaUpTo_5 : decode cX4_areaUpTo 5 = .ok (.iload 4, 2) := by decide +kernel
theorem dX4_areaUpTo_7 : decode cX4_areaUpTo 7 = .ok (.iload_n 2, 1) := by decide +kernel
theorem dX4_areaUpTo_8 : decode cX4_areaUpTo 8 = .ok (.if_icmp .ge 33, 3) := by decide +kernel
theorem dX4_areaUpTo_11 : decode cX4_areaUpTo 11 = .ok (.iload_n 3, 1) := by decide +kernel
theorem dX4_areaUpTo_12 : decode cX4_areaUpTo 12 = .ok (.aload_n 0, 1) := by decide +kernel
theorem dX4_areaUpTo_13 : decode cX4_areaUpTo 13 = .ok (.getfield 11, 3) := by decide +kernel
theorem dX4_areaUpTo_16 : decode cX4_areaUpTo 16 = .ok (.iload 4, 2) := by decide +kernel
theorem dX4_areaUpTo_18 : decode cX4_areaUpTo 18 = .ok (.aaload, 1) := by decide +kernel
theorem dX4_areaUpTo_19 : decode cX4_areaUpTo 19 = .ok (.iload_n 1, 1) := by decide +kernel
theorem dX4_areaUpTo_20 : decode cX4_areaUpTo 20 = .ok (.iaload, 1) := by decide +kernel
theorem dX4_areaUpTo_21 : decode cX4_areaUpTo 21 = .ok (.aload_n 0, 1) := by decide +kernel
theorem dX4_areaUpTo_22 : decode cX4_areaUpTo 22 = .ok (.getfield 11, 3) := by decide +kernel
theorem dX4_areaUpTo_25 : decode cX4_areaUpTo 25 = .ok (.iload 4, 2) := by decide +kernel
theorem dX4_areaUpTo_27 : decode cX4_areaUpTo 27 = .ok (.iconst 1, 1) := by decide +kernel
theorem dX4_areaUpTo_28 : decode cX4_areaUpTo 28 = .ok (.iadd, 1) := by decide +kernel
theorem dX4_areaUpTo_29 : decode cX4_areaUpTo 29 = .ok (.aaload, 1) := by decide +kernel
theorem dX4_areaUpTo_30 : decode cX4_areaUpTo 30 = .ok (.iload_n 1, 1) := by decide +kernel
theorem dX4_areaUpTo_31 : decode cX4_areaUpTo 31 = .ok (.iaload, 1) := by decide +kernel
theorem dX4_areaUpTo_32 : decode cX4_areaUpTo 32 = .ok (.iadd, 1) := by decide +kernel
theorem dX4_areaUpTo_33 : decode cX4_areaUpTo 33 = .ok (.iadd, 1) := by decide +kernel
theorem dX4_areaUpTo_34 : decode cX4_areaUpTo 34 = .ok (.istore_n 3, 1) := by decide +kernel
theorem dX4_areaUpTo_35 : decode cX4_areaUpTo 35 = .ok (.iinc 4 1, 3) := by decide +kernel
theorem dX4_areaUpTo_38 : decode cX4_areaUpTo 38 = .ok (.goto (-33), 3) := by decide +kernel
theorem dX4_areaUpTo_41 : decode cX4_areaUpTo 41 = .ok (.iload_n 3, 1) := by decide +kernel
theorem dX4_areaUpTo_42 : decode cX4_areaUpTo 42 = .ok (.ireturn, 1) := by decide +kernel
set_option maxRecDepth 20000 in
theorem ggX4_volumeUpTo_X4_areaUpTo : GoodIn wsX4_volumeUpTo wsX4_areaUpTo := goodIn_r _ [5, 6, 7] (by decide +kernel) (by decide +kernel)
set_option maxRecDepth 20000 in
theorem gX4_volumeUpTo_X4_areaUpTo : GoodIn wsX4_volumeUpTo (wsV RX4 16 RX4 yX4_areaUpTo wsX4_areaUpTo) := goodIn_app (goodIn_of _ (by decide +kernel)) ggX4_volumeUpTo_X4_areaUpTo
theorem dX4_volumeUpTo_0 : decode cX4_volumeUpTo 0 = .ok (.iconst 0, 1) := by decide +kernel
theorem dX4_volumeUpTo_1 : decode cX4_volumeUpTo 1 = .ok (.istore_n 2, 1) := by decide +kernel
theorem dX4_volumeUpTo_2 : decode cX4_volumeUpTo 2 = .ok (.iconst 0, 1) := by decide +kernel
theorem dX4_volumeUpTo_3 : decode cX4_volumeUpTo 3 = .ok (.istore_n 3, 1) := by decide +kernel
theorem dX4_volumeUpTo_4 : decode cX4_volumeUpTo 4 = .ok (.iload_n 3, 1) := by decide +kernel
theorem dX4_volumeUpTo_5 : decode cX4_volumeUpTo 5 = .ok (.bipush 8, 2) := by decide +kernel
theorem dX4_volumeUpTo_7 : decode cX4_volumeUpTo 7 = .ok (.if_icmp .ge 27, 3) := by decide +kernel
theorem dX4_volumeUpTo_10 : decode cX4_volumeUpTo 10 = .ok (.iload_n 2, 1) := by decide +kernel
theorem dX4_volumeUpTo_11 : decode cX4_volumeUpTo 11 = .ok (.aload_n 0, 1) := by decide +kernel
theorem dX4_volumeUpTo_12 : decode cX4_volumeUpTo 12 = .ok (.iload_n 3, 1) := by decide +kernel
theorem dX4_volumeUpTo_13 : decode cX4_volumeUpTo 13 = .ok (.iload_n 1, 1) := by decide +kernel
theorem dX4_volumeUpTo_14 : decode cX4_volumeUpTo 14 = .ok (.invokevirtual 16, 3) := by decide +kernel
theorem dX4_volumeUpTo_17 : decode cX4_volumeUpTo 17 = .ok (.aload_n 0, 1) := by decide +kernel
theorem dX4_volumeUpTo_18 : decode cX4_volumeUpTo 18 = .ok (.iload_n 3, 1) := by decide +kernel
theorem dX4_volumeUpTo_19 : decode cX4_volumeUpTo 19 = .ok (.iconst 1, 1) := by decide +kernel
theorem dX4_volumeUpTo_20 : decode cX4_volumeUpTo 20 = .ok (.iadd, 1) := by decide +kernel
theorem dX4_volumeUpTo_21 : decode cX4_volumeUpTo 21 = .ok (.iload_n 1, 1) := by decide +kernel
theorem dX4_volumeUpTo_22 : decode cX4_volumeUpTo 22 = .ok (.invokevirtual 16, 3) := by decide +kernel
theorem dX4_volumeUpTo_25 : decode cX4_volumeUpTo 25 = .ok (.iadd, 1) := by decide +kernel
theorem dX4_volumeUpTo_26 : decode cX4_volumeUpTo 26 = .ok (.iadd, 1) := by decide +kernel
theorem dX4_volumeUpTo_27 : decode cX4_volumeUpTo 27 = .ok (.istore_n 2, 1) := by decide +kernel
theorem dX4_volumeUpTo_28 : decode cX4_volumeUpTo 28 = .ok (.iinc 3 1, 3) := by decide +kernel
theorem dX4_volumeUpTo_31 : decode cX4_volumeUpTo 31 = .ok (.goto (-27), 3) := by decide +kernel
theorem dX4_volumeUpTo_34 : decode cX4_volumeUpTo 34 = .ok (.iload_n 2, 1) := by decide +kernel
theorem dX4_volumeUpTo_35 : decode cX4_volumeUpTo 35 = .ok (.ireturn, 1) := by decide +kernel
set_option maxRecDepth 20000 in
theorem ggX4_momentUpTo_X4_areaUpTo : GoodIn wsX4_momentUpTo wsX4_areaUpTo := goodIn_r _ [5, 6, 7] (by decide +kernel) (by decide +kernel)
set_option maxRecDepth 20000 in
theorem gX4_momentUpTo_X4_areaUpTo : GoodIn wsX4_momentUpTo (wsV RX4 16 RX4 yX4_areaUpTo wsX4_areaUpTo) := goodIn_app (goodIn_of _ (by decide +kernel)) ggX4_momentUpTo_X4_areaUpTo
theorem dX4_momentUpTo_0 : decode cX4_momentUpTo 0 = .ok (.iconst 0, 1) := by decide +kernel
theorem dX4_momentUpTo_1 : decode cX4_momentUpTo 1 = .ok (.istore_n 2, 1) := by decide +kernel
theorem dX4_momentUpTo_2 : decode cX4_momentUpTo 2 = .ok (.iconst 0, 1) := by decide +kernel
theorem dX4_momentUpTo_3 : decode cX4_momentUpTo 3 = .ok (.istore_n 3, 1) := by decide +kernel
theorem dX4_momentUpTo_4 : decode cX4_momentUpTo 4 = .ok (.iload_n 3, 1) := by decide +kernel
theorem dX4_momentUpTo_5 : decode cX4_momentUpTo 5 = .ok (.bipush 8, 2) := by decide +kernel
theorem dX4_momentUpTo_7 : decode cX4_momentUpTo 7 = .ok (.if_icmp .ge 37, 3) := by decide +kernel
theorem dX4_momentUpTo_10 : decode cX4_momentUpTo 10 = .ok (.aload_n 0, 1) := by decide +kernel
theorem dX4_momentUpTo_11 : decode cX4_momentUpTo 11 = .ok (.iload_n 3, 1) := by decide +kernel
theorem dX4_momentUpTo_12 : decode cX4_momentUpTo 12 = .ok (.iload_n 1, 1) := by decide +kernel
theorem dX4_momentUpTo_13 : decode cX4_momentUpTo 13 = .ok (.invokevirtual 16, 3) := by decide +kernel
theorem dX4_momentUpTo_16 : decode cX4_momentUpTo 16 = .ok (.aload_n 0, 1) := by decide +kernel
theorem dX4_momentUpTo_17 : decode cX4_momentUpTo 17 = .ok (.iload_n 3, 1) := by decide +kernel
theorem dX4_momentUpTo_18 : decode cX4_momentUpTo 18 = .ok (.iconst 1, 1) := by decide +kernel
theorem dX4_momentUpTo_19 : decode cX4_momentUpTo 19 = .ok (.iadd, 1) := by decide +kernel
theorem dX4_momentUpTo_20 : decode cX4_momentUpTo 20 = .ok (.iload_n 1, 1) := by decide +kernel
theorem dX4_momentUpTo_21 : decode cX4_momentUpTo 21 = .ok (.invokevirtual 16, 3) := by decide +kernel
theorem dX4_momentUpTo_24 : decode cX4_momentUpTo 24 = .ok (.iadd, 1) := by decide +kernel
theorem dX4_momentUpTo_25 : decode cX4_momentUpTo 25 = .ok (.istore 4, 2) := by decide +kernel
theorem dX4_momentUpTo_27 : decode cX4_momentUpTo 27 = .ok (.iload_n 2, 1) := by decide +kernel
theorem dX4_momentUpTo_28 : decode cX4_momentUpTo 28 = .ok (.iconst 2, 1) := by decide +kernel
theorem dX4_momentUpTo_29 : decode cX4_momentUpTo 29 = .ok (.iload_n 3, 1) := by decide +kernel
theorem dX4_momentUpTo_30 : decode cX4_momentUpTo 30 = .ok (.imul, 1) := by decide +kernel
theorem dX4_momentUpTo_31 : decode cX4_momentUpTo 31 = .ok (.iconst 1, 1) := by decide +kernel
theorem dX4_momentUpTo_32 : decode cX4_momentUpTo 32 = .ok (.iadd, 1) := by decide +kernel
theorem dX4_momentUpTo_33 : decode cX4_momentUpTo 33 = .ok (.iload 4, 2) := by decide +kernel
theorem dX4_momentUpTo_35 : decode cX4_momentUpTo 35 = .ok (.imul, 1) := by decide +kernel
theorem dX4_momentUpTo_36 : decode cX4_momentUpTo 36 = .ok (.iadd, 1) := by decide +kernel
theorem dX4_momentUpTo_37 : decode cX4_momentUpTo 37 = .ok (.istore_n 2, 1) := by decide +kernel
theorem dX4_momentUpTo_38 : decode cX4_momentUpTo 38 = .ok (.iinc 3 1, 3) := by decide +kernel
theorem dX4_momentUpTo_41 : decode cX4_momentUpTo 41 = .ok (.goto (-37), 3) := by decide +kernel
theorem dX4_momentUpTo_44 : decode cX4_momentUpTo 44 = .ok (.iload_n 2, 1) := by decide +kernel
theorem dX4_momentUpTo_45 : decode cX4_momentUpTo 45 = .ok (.ireturn, 1) := by decide +kernel
set_option maxRecDepth 20000 in
theorem ggX4_volumeBySlices_X4_waterlineArea : GoodIn wsX4_volumeBySlices wsX4_waterlineArea := goodIn_r _ [5, 6, 7] (by decide +kernel) (by decide +kernel)
set_option maxRecDepth 20000 in
theorem gX4_volumeBySlices_X4_waterlineArea : GoodIn wsX4_volumeBySlices (wsV RX4 20 RX4 yX4_waterlineArea wsX4_waterlineArea) := goodIn_app (goodIn_of _ (by decide +kernel)) ggX4_volumeBySlices_X4_waterlineArea
theorem dX4_volumeBySlices_0 : decode cX4_volumeBySlices 0 = .ok (.iconst 0, 1) := by decide +kernel
theorem dX4_volumeBySlices_1 : decode cX4_volumeBySlices 1 = .ok (.istore_n 2, 1) := by decide +kernel
theorem dX4_volumeBySlices_2 : decode cX4_volumeBySlices 2 = .ok (.iconst 0, 1) := by decide +kernel
theorem dX4_volumeBySlices_3 : decode cX4_volumeBySlices 3 = .ok (.istore_n 3, 1) := by decide +kernel
theorem dX4_volumeBySlices_4 : decode cX4_volumeBySlices 4 = .ok (.iload_n 3, 1) := by decide +kernel
theorem dX4_volumeBySlices_5 : decode cX4_volumeBySlices 5 = .ok (.iload_n 1, 1) := by decide +kernel
theorem dX4_volumeBySlices_6 : decode cX4_volumeBySlices 6 = .ok (.if_icmp .ge 25, 3) := by decide +kernel
theorem dX4_volumeBySlices_9 : decode cX4_volumeBySlices 9 = .ok (.iload_n 2, 1) := by decide +kernel
theorem dX4_volumeBySlices_10 : decode cX4_volumeBySlices 10 = .ok (.aload_n 0, 1) := by decide +kernel
theorem dX4_volumeBySlices_11 : decode cX4_volumeBySlices 11 = .ok (.iload_n 3, 1) := by decide +kernel
theorem dX4_volumeBySlices_12 : decode cX4_volumeBySlices 12 = .ok (.invokevirtual 20, 3) := by decide +kernel
theorem dX4_volumeBySlices_15 : decode cX4_volumeBySlices 15 = .ok (.aload_n 0, 1) := by decide +kernel
theorem dX4_volumeBySlices_16 : decode cX4_volumeBySlices 16 = .ok (.iload_n 3, 1) := by decide +kernel
theorem dX4_volumeBySlices_17 : decode cX4_volumeBySlices 17 = .ok (.iconst 1, 1) := by decide +kernel
theorem dX4_volumeBySlices_18 : decode cX4_volumeBySlices 18 = .ok (.iadd, 1) := by decide +kernel
theorem dX4_volumeBySlices_19 : decode cX4_volumeBySlices 19 = .ok (.invokevirtual 20, 3) := by decide +kernel
theorem dX4_volumeBySlices_22 : decode cX4_volumeBySlices 22 = .ok (.iadd, 1) := by decide +kernel
theorem dX4_volumeBySlices_23 : decode cX4_volumeBySlices 23 = .ok (.iadd, 1) := by decide +kernel
theorem dX4_volumeBySlices_24 : decode cX4_volumeBySlices 24 = .ok (.istore_n 2, 1) := by decide +kernel
theorem dX4_volumeBySlices_25 : decode cX4_volumeBySlices 25 = .ok (.iinc 3 1, 3) := by decide +kernel
theorem dX4_volumeBySlices_28 : decode cX4_volumeBySlices 28 = .ok (.goto (-24), 3) := by decide +kernel
theorem dX4_volumeBySlices_31 : decode cX4_volumeBySlices 31 = .ok (.iload_n 2, 1) := by decide +kernel
theorem dX4_volumeBySlices_32 : decode cX4_volumeBySlices 32 = .ok (.ireturn, 1) := by decide +kernel
theorem dX4_waterlineArea_0 : decode cX4_waterlineArea 0 = .ok (.aload_n 0, 1) := by decide +kernel
theorem dX4_waterlineArea_1 : decode cX4_waterlineArea 1 = .ok (.getfield 11, 3) := by decide +kernel
theorem dX4_waterlineArea_4 : decode cX4_waterlineArea 4 = .ok (.iload_n 1, 1) := by decide +kernel
theorem dX4_waterlineArea_5 : decode cX4_waterlineArea 5 = .ok (.aaload, 1) := by decide +kernel
theorem dX4_waterlineArea_6 : decode cX4_waterlineArea 6 = .ok (.astore_n 2, 1) := by decide +kernel
theorem dX4_waterlineArea_7 : decode cX4_waterlineArea 7 = .ok (.iconst 0, 1) := by decide +kernel
theorem dX4_waterlineArea_8 : decode cX4_waterlineArea 8 = .ok (.istore_n 3, 1) := by decide +kernel
theorem dX4_waterlineArea_9 : decode cX4_waterlineArea 9 = .ok (.iconst 0, 1) := by decide +kernel
theorem dX4_waterlineArea_10 : decode cX4_waterlineArea 10 = .ok (.istore 4, 2) := by decide +kernel
theorem dX4_waterlineArea_12 : decode cX4_waterlineArea 12 = .ok (.iload 4, 2) := by decide +kernel
theorem dX4_waterlineArea_14 : decode cX4_waterlineArea 14 = .ok (.bipush 8, 2) := by decide +kernel
theorem dX4_waterlineArea_16 : decode cX4_waterlineArea 16 = .ok (.if_icmp .ge 23, 3) := by decide +kernel
theorem dX4_waterlineArea_19 : decode cX4_waterlineArea 19 = .ok (.iload_n 3, 1) := by decide +kernel
theorem dX4_waterlineArea_20 : decode cX4_waterlineArea 20 = .ok (.aload_n 2, 1) := by decide +kernel
theorem dX4_waterlineArea_21 : decode cX4_waterlineArea 21 = .ok (.iload 4, 2) := by decide +kernel
theorem dX4_waterlineArea_23 : decode cX4_waterlineArea 23 = .ok (.iaload, 1) := by decide +kernel
theorem dX4_waterlineArea_24 : decode cX4_waterlineArea 24 = .ok (.aload_n 2, 1) := by decide +kernel
theorem dX4_waterlineArea_25 : decode cX4_waterlineArea 25 = .ok (.iload 4, 2) := by decide +kernel
theorem dX4_waterlineArea_27 : decode cX4_waterlineArea 27 = .ok (.iconst 1, 1) := by decide +kernel
theorem dX4_waterlineArea_28 : decode cX4_waterlineArea 28 = .ok (.iadd, 1) := by decide +kernel
theorem dX4_waterlineArea_29 : decode cX4_waterlineArea 29 = .ok (.iaload, 1) := by decide +kernel
theorem dX4_waterlineArea_30 : decode cX4_waterlineArea 30 = .ok (.iadd, 1) := by decide +kernel
theorem dX4_waterlineArea_31 : decode cX4_waterlineArea 31 = .ok (.iadd, 1) := by decide +kernel
theorem dX4_waterlineArea_32 : decode cX4_waterlineArea 32 = .ok (.istore_n 3, 1) := by decide +kernel
theorem dX4_waterlineArea_33 : decode cX4_waterlineArea 33 = .ok (.iinc 4 1, 3) := by decide +kernel
theorem dX4_waterlineArea_36 : decode cX4_waterlineArea 36 = .ok (.goto (-24), 3) := by decide +kernel
theorem dX4_waterlineArea_39 : decode cX4_waterlineArea 39 = .ok (.iload_n 3, 1) := by decide +kernel
theorem dX4_waterlineArea_40 : decode cX4_waterlineArea 40 = .ok (.ireturn, 1) := by decide +kernel
theorem dX4_strakeLength_0 : decode cX4_strakeLength 0 = .ok (.aload_n 0, 1) := by decide +kernel
theorem dX4_strakeLength_1 : decode cX4_strakeLength 1 = .ok (.getfield 11, 3) := by decide +kernel
theorem dX4_strakeLength_4 : decode cX4_strakeLength 4 = .ok (.iload_n 1, 1) := by decide +kernel
theorem dX4_strakeLength_5 : decode cX4_strakeLength 5 = .ok (.aaload, 1) := by decide +kernel
theorem dX4_strakeLength_6 : decode cX4_strakeLength 6 = .ok (.astore_n 2, 1) := by decide +kernel
theorem dX4_strakeLength_7 : decode cX4_strakeLength 7 = .ok (.iconst 0, 1) := by decide +kernel
theorem dX4_strakeLength_8 : decode cX4_strakeLength 8 = .ok (.istore_n 3, 1) := by decide +kernel
theorem dX4_strakeLength_9 : decode cX4_strakeLength 9 = .ok (.iconst 0, 1) := by decide +kernel
theorem dX4_strakeLength_10 : decode cX4_strakeLength 10 = .ok (.istore 4, 2) := by decide +kernel
theorem dX4_strakeLength_12 : decode cX4_strakeLength 12 = .ok (.iload 4, 2) := by decide +kernel
theorem dX4_strakeLength_14 : decode cX4_strakeLength 14 = .ok (.bipush 8, 2) := by decide +kernel
theorem dX4_strakeLength_16 : decode cX4_strakeLength 16 = .ok (.if_icmp .ge 29, 3) := by decide +kernel
theorem dX4_strakeLength_19 : decode cX4_strakeLength 19 = .ok (.iload_n 3, 1) := by decide +kernel
theorem dX4_strakeLength_20 : decode cX4_strakeLength 20 = .ok (.bipush 10, 2) := by decide +kernel
theorem dX4_strakeLength_22 : decode cX4_strakeLength 22 = .ok (.aload_n 2, 1) := by decide +kernel
theorem dX4_strakeLength_23 : decode cX4_strakeLength 23 = .ok (.iload 4, 2) := by decide +kernel
theorem dX4_strakeLength_25 : decode cX4_strakeLength 25 = .ok (.iaload, 1) := by decide +kernel
theorem dX4_strakeLength_26 : decode cX4_strakeLength 26 = .ok (.aload_n 2, 1) := by decide +kernel
theorem dX4_strakeLength_27 : decode cX4_strakeLength 27 = .ok (.iload 4, 2) := by decide +kernel
theorem dX4_strakeLength_29 : decode cX4_strakeLength 29 = .ok (.iconst 1, 1) := by decide +kernel
theorem dX4_strakeLength_30 : decode cX4_strakeLength 30 = .ok (.iadd, 1) := by decide +kernel
theorem dX4_strakeLength_31 : decode cX4_strakeLength 31 = .ok (.iaload, 1) := by decide +kernel
theorem dX4_strakeLength_32 : decode cX4_strakeLength 32 = .ok (.isub, 1) := by decide +kernel
theorem dX4_strakeLength_33 : decode cX4_strakeLength 33 = .ok (.invokestatic 24, 3) := by decide +kernel
theorem dX4_strakeLength_36 : decode cX4_strakeLength 36 = .ok (.iadd, 1) := by decide +kernel
theorem dX4_strakeLength_37 : decode cX4_strakeLength 37 = .ok (.iadd, 1) := by decide +kernel
theorem dX4_strakeLength_38 : decode cX4_strakeLength 38 = .ok (.istore_n 3, 1) := by decide +kernel
theorem dX4_strakeLength_39 : decode cX4_strakeLength 39 = .ok (.iinc 4 1, 3) := by decide +kernel
theorem dX4_strakeLength_42 : decode cX4_strakeLength 42 = .ok (.goto (-30), 3) := by decide +kernel
theorem dX4_strakeLength_45 : decode cX4_strakeLength 45 = .ok (.iload_n 3, 1) := by decide +kernel
theorem dX4_strakeLength_46 : decode cX4_strakeLength 46 = .ok (.ireturn, 1) := by decide +kernel
theorem dX5_init_0 : decode cX5_init 0 = .ok (.aload_n 0, 1) := by decide +kernel
theorem dX5_init_1 : decode cX5_init 1 = .ok (.invokespecial 3, 3) := by decide +kernel
theorem dX5_init_4 : decode cX5_init 4 = .ok (.aload_n 0, 1) := by decide +kernel
theorem dX5_init_5 : decode cX5_init 5 = .ok (.sipush 170, 3) := by decide +kernel
theorem dX5_init_8 : decode cX5_init 8 = .ok (.newarray .int, 2) := by decide +kernel
theorem dX5_init_10 : decode cX5_init 10 = .ok (.putfield 11, 3) := by decide +kernel
theorem dX5_init_13 : decode cX5_init 13 = .ok (.aload_n 0, 1) := by decide +kernel
theorem dX5_init_14 : decode cX5_init 14 = .ok (.iconst 5, 1) := by decide +kernel
theorem dX5_init_15 : decode cX5_init 15 = .ok (.newarray .int, 2) := by decide +kernel
theorem dX5_init_17 : decode cX5_init 17 = .ok (.putfield 15, 3) := by decide +kernel
theorem dX5_init_20 : decode cX5_init 20 = .ok (.aload_n 0, 1) := by decide +kernel
theorem dX5_init_21 : decode cX5_init 21 = .ok (.iconst 5, 1) := by decide +kernel
theorem dX5_init_22 : decode cX5_init 22 = .ok (.newarray .int, 2) := by decide +kernel
theorem dX5_init_24 : decode cX5_init 24 = .ok (.putfield 18, 3) := by decide +kernel
theorem dX5_init_27 : decode cX5_init 27 = .ok (.aload_n 0, 1) := by decide +kernel
theorem dX5_init_28 : decode cX5_init 28 = .ok (.iconst 5, 1) := by decide +kernel
theorem dX5_init_29 : decode cX5_init 29 = .ok (.newarray .int, 2) := by decide +kernel
theorem dX5_init_31 : decode cX5_init 31 = .ok (.putfield 21, 3) := by decide +kernel
theorem dX5_init_34 : decode cX5_init 34 = .ok (.aload_n 0, 1) := by decide +kernel
theorem dX5_init_35 : decode cX5_init 35 = .ok (.iconst 5, 1) := by decide +kernel
theorem dX5_init_36 : decode cX5_init 36 = .ok (.newarray .int, 2) := by decide +kernel
theorem dX5_init_38 : decode cX5_init 38 = .ok (.putfield 24, 3) := by decide +kernel
theorem dX5_init_41 : decode cX5_init 41 = .ok (.aload_n 0, 1) := by decide +kernel
theorem dX5_init_42 : decode cX5_init 42 = .ok (.sipush 1000, 3) := by decide +kernel
theorem dX5_init_45 : decode cX5_init 45 = .ok (.putfield 27, 3) := by decide +kernel
theorem dX5_init_48 : decode cX5_init 48 = .ok (.aload_n 0, 1) := by decide +kernel
theorem dX5_init_49 : decode cX5_init 49 = .ok (.iconst 0, 1) := by decide +kernel
theorem dX5_init_50 : decode cX5_init 50 = .ok (.putfield 31, 3) := by decide +kernel
theorem dX5_init_53 : decode cX5_init 53 = .ok (.return_, 1) := by decide +kernel
set_option maxRecDepth 20000 in
theorem ggX5_cutAll_X5_sortByLength : GoodIn wsX5_cutAll wsX5_sortByLength := goodIn_r _ [10, 4, 2, 11, 12, 13, 14, 15, 16, 17, 18, 19, 26, 27, 28, 29, 30, 31, 32, 33] (by decide +kernel) (by decide +kernel)
set_option maxRecDepth 20000 in
theorem gX5_cutAll_X5_sortByLength : GoodIn wsX5_cutAll (wsV RX5 34 RX5 yX5_sortByLength wsX5_sortByLength) := goodIn_app (goodIn_of _ (by decide +kernel)) ggX5_cutAll_X5_sortByLength
set_option maxRecDepth 20000 in
theorem ggX5_cutAll_X5_cut : GoodIn wsX5_cutAll wsX5_cut := goodIn_r _ [23, 24, 1, 25, 26, 27, 28, 29, 30, 31, 32] (by decide +kernel) (by decide +kernel)
set_option maxRecDepth 20000 in
theorem gX5_cutAll_X5_cut : GoodIn wsX5_cutAll (wsV RX5 38 RX5 yX5_cut wsX5_cut) := goodIn_app (goodIn_of _ (by decide +kernel)) ggX5_cutAll_X5_cut
theorem dX5_cutAll_0 : decode cX5_cutAll 0 = .ok (.aload_n 0, 1) := by decide +kernel
theorem dX5_cutAll_1 : decode cX5_cutAll 1 = .ok (.aload_n 1, 1) := by decide +kernel
theorem dX5_cutAll_2 : decode cX5_cutAll 2 = .ok (.invokevirtual 34, 3) := by decide +kernel
theorem dX5_cutAll_5 : decode cX5_cutAll 5 = .ok (.aload_n 0, 1) := by decide +kernel
theorem dX5_cutAll_6 : decode cX5_cutAll 6 = .ok (.iconst 0, 1) := by decide +kernel
theorem dX5_cutAll_7 : decode cX5_cutAll 7 = .ok (.putfield 31, 3) := by decide +kernel
theorem dX5_cutAll_10 : decode cX5_cutAll 10 = .ok (.iconst 0, 1) := by decide +kernel
theorem dX5_cutAll_11 : decode cX5_cutAll 11 = .ok (.istore_n 2, 1) := by decide +kernel
theorem dX5_cutAll_12 : decode cX5_cutAll 12 = .ok (.iload_n 2, 1) := by decide +kernel
theorem dX5_cutAll_13 : decode cX5_cutAll 13 = .ok (.iconst 5, 1) := by decide +kernel
theorem dX5_cutAll_14 : decode cX5_cutAll 14 = .ok (.if_icmp .ge 48, 3) := by decide +kernel
theorem dX5_cutAll_17 : decode cX5_cutAll 17 = .ok (.aload_n 0, 1) := by decide +kernel
theorem dX5_cutAll_18 : decode cX5_cutAll 18 = .ok (.getfield 18, 3) := by decide +kernel
theorem dX5_cutAll_21 : decode cX5_cutAll 21 = .ok (.iload_n 2, 1) := by decide +kernel
theorem dX5_cutAll_22 : decode cX5_cutAll 22 = .ok (.iaload, 1) := by decide +kernel
theorem dX5_cutAll_23 : decode cX5_cutAll 23 = .ok (.istore_n 3, 1) := by decide +kernel
theorem dX5_cutAll_24 : decode cX5_cutAll 24 = .ok (.aload_n 0, 1) := by decide +kernel
theorem dX5_cutAll_25 : decode cX5_cutAll 25 = .ok (.getfield 21, 3) := by decide +kernel
theorem dX5_cutAll_28 : decode cX5_cutAll 28 = .ok (.iload_n 3, 1) := by decide +kernel
theorem dX5_cutAll_29 : decode cX5_cutAll 29 = .ok (.aload_n 0, 1) := by decide +kernel
theorem dX5_cutAll_30 : decode cX5_cutAll 30 = .ok (.aload_n 0, 1) := by decide +kernel
theorem dX5_cutAll_31 : decode cX5_cutAll 31 = .ok (.getfield 15, 3) := by decide +kernel
theorem dX5_cutAll_34 : decode cX5_cutAll 34 = .ok (.iload_n 3, 1) := by decide +kernel
theorem dX5_cutAll_35 : decode cX5_cutAll 35 = .ok (.iaload, 1) := by decide +kernel
theorem dX5_cutAll_36 : decode cX5_cutAll 36 = .ok (.invokevirtual 38, 3) := by decide +kernel
theorem dX5_cutAll_39 : decode cX5_cutAll 39 = .ok (.iastore, 1) := by decide +kernel
theorem dX5_cutAll_40 : decode cX5_cutAll 40 = .ok (.aload_n 0, 1) := by decide +kernel
theorem dX5_cutAll_41 : decode cX5_cutAll 41 = .ok (.getfield 24, 3) := by decide +kernel
theorem dX5_cutAll_44 : decode cX5_cutAll 44 = .ok (.iload_n 3, 1) := by decide +kernel
theorem dX5_cutAll_45 : decode cX5_cutAll 45 = .ok (.aload_n 0, 1) := by decide +kernel
theorem dX5_cutAll_46 : decode cX5_cutAll 46 = .ok (.aload_n 0, 1) := by decide +kernel
theorem dX5_cutAll_47 : decode cX5_cutAll 47 = .ok (.getfield 15, 3) := by decide +kernel
theorem dX5_cutAll_50 : decode cX5_cutAll 50 = .ok (.iload_n 3, 1) := by decide +kernel
theorem dX5_cutAll_51 : decode cX5_cutAll 51 = .ok (.iaload, 1) := by decide +kernel
theorem dX5_cutAll_52 : decode cX5_cutAll 52 = .ok (.invokevirtual 38, 3) := by decide +kernel
theorem dX5_cutAll_55 : decode cX5_cutAll 55 = .ok (.iastore, 1) := by decide +kernel
theorem dX5_cutAll_56 : decode cX5_cutAll 56 = .ok (.iinc 2 1, 3) := by decide +kernel
theorem dX5_cutAll_59 : decode cX5_cutAll 59 = .ok (.goto (-47), 3) := by decide +kernel
theorem dX5_cutAll_62 : decode cX5_cutAll 62 = .ok (.return_, 1) := by decide +kernel
set_option maxRecDepth 20000 in
theorem ggX5_sortByLength_X4_strakeLength : GoodIn wsX5_sortByLength wsX4_strakeLength := goodIn_r _ [6, 7, 8, 9, 10, 11, 19] (by decide +kernel) (by decide +kernel)
set_option maxRecDepth 20000 in
theorem gX5_sortByLength_X4_strakeLength_n42 : GoodIn wsX5_sortByLength (wsX4_strakeLength) := ggX5_sortByLength_X4_strakeLength
theorem dX5_sortByLength_0 : decode cX5_sortByLength 0 = .ok (.iconst 0, 1) := by decide +kernel
theorem dX5_sortByLength_1 : decode cX5_sortByLength 1 = .ok (.istore_n 2, 1) := by decide +kernel
theorem dX5_sortByLength_2 : decode cX5_sortByLength 2 = .ok (.iload_n 2, 1) := by decide +kernel
theorem dX5_sortByLength_3 : decode cX5_sortByLength 3 = .ok (.iconst 5, 1) := by decide +kernel
theorem dX5_sortByLength_4 : decode cX5_sortByLength 4 = .ok (.if_icmp .ge 75, 3) := by decide +kernel
theorem dX5_sortByLength_7 : decode cX5_sortByLength 7 = .ok (.aload_n 0, 1) := by decide +kernel
theorem dX5_sortByLength_8 : decode cX5_sortByLength 8 = .ok (.getfield 15, 3) := by decide +kernel
theorem dX5_sortByLength_11 : decode cX5_sortByLength 11 = .ok (.iload_n 2, 1) := by decide +kernel
theorem dX5_sortByLength_12 : decode cX5_sortByLength 12 = .ok (.aload_n 1, 1) := by decide +kernel
theorem dX5_sortByLength_13 : decode cX5_sortByLength 13 = .ok (.iload_n 2, 1) := by decide +kernel
theorem dX5_sortByLength_14 : decode cX5_sortByLength 14 = .ok (.invokevirtual 42, 3) := by decide +kernel
theorem dX5_sortByLength_17 : decode cX5_sortByLength 17 = .ok (.iastore, 1) := by decide +kernel
theorem dX5_sortByLength_18 : decode cX5_sortByLength 18 = .ok (.iload_n 2, 1) := by decide +kernel
theorem dX5_sortByLength_19 : decode cX5_sortByLength 19 = .ok (.istore_n 3, 1) := by decide +kernel
theorem dX5_sortByLength_20 : decode cX5_sortByLength 20 = .ok (.iload_n 3, 1) := by decide +kernel
theorem dX5_sortByLength_21 : decode cX5_sortByLength 21 = .ok (.ifCond .le 45, 3) := by decide +kernel
theorem dX5_sortByLength_24 : decode cX5_sortByLength 24 = .ok (.aload_n 0, 1) := by decide +kernel
theorem dX5_sortByLength_25 : decode cX5_sortByLength 25 = .ok (.getfield 15, 3) := by decide +kernel
theorem dX5_sortByLength_28 : decode cX5_sortByLength 28 = .ok (.aload_n 0, 1) := by decide +kernel
theorem dX5_sortByLength_29 : decode cX5_sortByLength 29 = .ok (.getfield 18, 3) := by decide +kernel
theorem dX5_sortByLength_32 : decode cX5_sortByLength 32 = .ok (.iload_n 3, 1) := by decide +kernel
theorem dX5_sortByLength_33 : decode cX5_sortByLength 33 = .ok (.iconst 1, 1) := by decide +kernel
theorem dX5_sortByLength_34 : decode cX5_sortByLength 34 = .ok (.isub, 1) := by decide +kernel
theorem dX5_sortByLength_35 : decode cX5_sortByLength 35 = .ok (.iaload, 1) := by decide +kernel
theorem dX5_sortByLength_36 : decode cX5_sortByLength 36 = .ok (.iaload, 1) := by decide +kernel
theorem dX5_sortByLength_37 : decode cX5_sortByLength 37 = .ok (.aload_n 0, 1) := by decide +kernel
theorem dX5_sortByLength_38 : decode cX5_sortByLength 38 = .ok (.getfield 15, 3) := by decide +kernel
theorem dX5_sortByLength_41 : decode cX5_sortByLength 41 = .ok (.iload_n 2, 1) := by decide +kernel
theorem dX5_sortByLength_42 : decode cX5_sortByLength 42 = .ok (.iaload, 1) := by decide +kernel
theorem dX5_sortByLength_43 : decode cX5_sortByLength 43 = .ok (.if_icmp .ge 23, 3) := by decide +kernel
theorem dX5_sortByLength_46 : decode cX5_sortByLength 46 = .ok (.aload_n 0, 1) := by decide +kernel
theorem dX5_sortByLength_47 : decode cX5_sortByLength 47 = .ok (.getfield 18, 3) := by decide +kernel
theorem dX5_sortByLength_50 : decode cX5_sortByLength 50 = .ok (.iload_n 3, 1) := by decide +kernel
theorem dX5_sortByLength_51 : decode cX5_sortByLength 51 = .ok (.aload_n 0, 1) := by decide +kernel
theorem dX5_sortByLength_52 : decode cX5_sortByLength 52 = .ok (.getfield 18, 3) := by decide +kernel
theorem dX5_sortByLength_55 : decode cX5_sortByLength 55 = .ok (.iload_n 3, 1) := by decide +kernel
theorem dX5_sortByLength_56 : decode cX5_sortByLength 56 = .ok (.iconst 1, 1) := by decide +kernel
theorem dX5_sortByLength_57 : decode cX5_sortByLength 57 = .ok (.isub, 1) := by decide +kernel
theorem dX5_sortByLength_58 : decode cX5_sortByLength 58 = .ok (.iaload, 1) := by decide +kernel
theorem dX5_sortByLength_59 : decode cX5_sortByLength 59 = .ok (.iastore, 1) := by decide +kernel
theorem dX5_sortByLength_60 : decode cX5_sortByLength 60 = .ok (.iinc 3 (-1), 3) := by decide +kernel
theorem dX5_sortByLength_63 : decode cX5_sortByLength 63 = .ok (.goto (-43), 3) := by decide +kernel
theorem dX5_sortByLength_66 : decode cX5_sortByLength 66 = .ok (.aload_n 0, 1) := by decide +kernel
theorem dX5_sortByLength_67 : decode cX5_sortByLength 67 = .ok (.getfield 18, 3) := by decide +kernel
theorem dX5_sortByLength_70 : decode cX5_sortByLength 70 = .ok (.iload_n 3, 1) := by decide +kernel
theorem dX5_sortByLength_71 : decode cX5_sortByLength 71 = .ok (.iload_n 2, 1) := by decide +kernel
theorem dX5_sortByLength_72 : decode cX5_sortByLength 72 = .ok (.iastore, 1) := by decide +kernel
theorem dX5_sortByLength_73 : decode cX5_sortByLength 73 = .ok (.iinc 2 1, 3) := by decide +kernel
theorem dX5_sortByLength_76 : decode cX5_sortByLength 76 = .ok (.goto (-74), 3) := by decide +kernel
theorem dX5_sortByLength_79 : decode cX5_sortByLength 79 = .ok (.return_, 1) := by decide +kernel
theorem dX5_cut_0 : decode cX5_cut 0 = .ok (.iload_n 1, 1) := by decide +kernel
theorem dX5_cut_1 : decode cX5_cut 1 = .ok (.istore_n 2, 1) := by decide +kernel
theorem dX5_cut_2 : decode cX5_cut 2 = .ok (.iload_n 2, 1) := by decide +kernel
theorem dX5_cut_3 : decode cX5_cut 3 = .ok (.aload_n 0, 1) := by decide +kernel
theorem dX5_cut_4 : decode cX5_cut 4 = .ok (.getfield 27, 3) := by decide +kernel
theorem dX5_cut_7 : decode cX5_cut 7 = .ok (.if_icmp .le 43, 3) := by decide +kernel
theorem dX5_cut_10 : decode cX5_cut 10 = .ok (.aload_n 0, 1) := by decide +kernel
theorem dX5_cut_11 : decode cX5_cut 11 = .ok (.getfield 31, 3) := by decide +kernel
theorem dX5_cut_14 : decode cX5_cut 14 = .ok (.sipush 170, 3) := by decide +kernel
theorem dX5_cut_17 : decode cX5_cut 17 = .ok (.if_icmp .ge 33, 3) := by decide +kernel
theorem dX5_cut_20 : decode cX5_cut 20 = .ok (.aload_n 0, 1) := by decide +kernel
theorem dX5_cut_21 : decode cX5_cut 21 = .ok (.getfield 11, 3) := by decide +kernel
theorem dX5_cut_24 : decode cX5_cut 24 = .ok (.aload_n 0, 1) := by decide +kernel
theorem dX5_cut_25 : decode cX5_cut 25 = .ok (.getfield 31, 3) := by decide +kernel
theorem dX5_cut_28 : decode cX5_cut 28 = .ok (.iconst 0, 1) := by decide +kernel
theorem dX5_cut_29 : decode cX5_cut 29 = .ok (.iastore, 1) := by decide +kernel
theorem dX5_cut_30 : decode cX5_cut 30 = .ok (.aload_n 0, 1) := by decide +kernel
theorem dX5_cut_31 : decode cX5_cut 31 = .ok (.dup, 1) := by decide +kernel
theorem dX5_cut_32 : decode cX5_cut 32 = .ok (.getfield 31, 3) := by decide +kernel
theorem dX5_cut_35 : decode cX5_cut 35 = .ok (.iconst 1, 1) := by decide +kernel
theorem dX5_cut_36 : decode cX5_cut 36 = .ok (.iadd, 1) := by decide +kernel
theorem dX5_cut_37 : decode cX5_cut 37 = .ok (.putfield 31, 3) := by decide +kernel
theorem dX5_cut_40 : decode cX5_cut 40 = .ok (.iload_n 2, 1) := by decide +kernel
theorem dX5_cut_41 : decode cX5_cut 41 = .ok (.aload_n 0, 1) := by decide +kernel
theorem dX5_cut_42 : decode cX5_cut 42 = .ok (.getfield 27, 3) := by decide +kernel
theorem dX5_cut_45 : decode cX5_cut 45 = .ok (.isub, 1) := by decide +kernel
theorem dX5_cut_46 : decode cX5_cut 46 = .ok (.istore_n 2, 1) := by decide +kernel
theorem dX5_cut_47 : decode cX5_cut 47 = .ok (.goto (-45), 3) := by decide +kernel
theorem dX5_cut_50 : decode cX5_cut 50 = .ok (.iconst 0, 1) := by decide +kernel
theorem dX5_cut_51 : decode cX5_cut 51 = .ok (.istore_n 3, 1) := by decide +kernel
theorem dX5_cut_52 : decode cX5_cut 52 = .ok (.iload_n 3, 1) := by decide +kernel
theorem dX5_cut_53 : decode cX5_cut 53 = .ok (.aload_n 0, 1) := by decide +kernel
theorem dX5_cut_54 : decode cX5_cut 54 = .ok (.getfield 31, 3) := by decide +kernel
theorem dX5_cut_57 : decode cX5_cut 57 = .ok (.if_icmp .ge 31, 3) := by decide +kernel
theorem dX5_cut_60 : decode cX5_cut 60 = .ok (.aload_n 0, 1) := by decide +kernel
theorem dX5_cut_61 : decode cX5_cut 61 = .ok (.getfield 11, 3) := by decide +kernel
theorem dX5_cut_64 : decode cX5_cut 64 = .ok (.iload_n 3, 1) := by decide +kernel
theorem dX5_cut_65 : decode cX5_cut 65 = .ok (.iaload, 1) := by decide +kernel
theorem dX5_cut_66 : decode cX5_cut 66 = .ok (.iload_n 2, 1) := by decide +kernel
theorem dX5_cut_67 : decode cX5_cut 67 = .ok (.if_icmp .lt 15, 3) := by decide +kernel
theorem dX5_cut_70 : decode cX5_cut 70 = .ok (.aload_n 0, 1) := by decide +kernel
theorem dX5_cut_71 : decode cX5_cut 71 = .ok (.getfield 11, 3) := by decide +kernel
theorem dX5_cut_74 : decode cX5_cut 74 = .ok (.iload_n 3, 1) := by decide +kernel
theorem dX5_cut_75 : decode cX5_cut 75 = .ok (.dup2, 1) := by decide +kernel
theorem dX5_cut_76 : decode cX5_cut 76 = .ok (.iaload, 1) := by decide +kernel
theorem dX5_cut_77 : decode cX5_cut 77 = .ok (.iload_n 2, 1) := by decide +kernel
theorem dX5_cut_78 : decode cX5_cut 78 = .ok (.isub, 1) := by decide +kernel
theorem dX5_cut_79 : decode cX5_cut 79 = .ok (.iastore, 1) := by decide +kernel
theorem dX5_cut_80 : decode cX5_cut 80 = .ok (.iload_n 3, 1) := by decide +kernel
theorem dX5_cut_81 : decode cX5_cut 81 = .ok (.ireturn, 1) := by decide +kernel
theorem dX5_cut_82 : decode cX5_cut 82 = .ok (.iinc 3 1, 3) := by decide +kernel
theorem dX5_cut_85 : decode cX5_cut 85 = .ok (.goto (-33), 3) := by decide +kernel
theorem dX5_cut_88 : decode cX5_cut 88 = .ok (.aload_n 0, 1) := by decide +kernel
theorem dX5_cut_89 : decode cX5_cut 89 = .ok (.getfield 31, 3) := by decide +kernel
theorem dX5_cut_92 : decode cX5_cut 92 = .ok (.sipush 170, 3) := by decide +kernel
theorem dX5_cut_95 : decode cX5_cut 95 = .ok (.if_icmp .lt 5, 3) := by decide +kernel
theorem dX5_cut_98 : decode cX5_cut 98 = .ok (.iconst (-1), 1) := by decide +kernel
theorem dX5_cut_99 : decode cX5_cut 99 = .ok (.ireturn, 1) := by decide +kernel
theorem dX5_cut_100 : decode cX5_cut 100 = .ok (.aload_n 0, 1) := by decide +kernel
theorem dX5_cut_101 : decode cX5_cut 101 = .ok (.getfield 11, 3) := by decide +kernel
theorem dX5_cut_104 : decode cX5_cut 104 = .ok (.aload_n 0, 1) := by decide +kernel
theorem dX5_cut_105 : decode cX5_cut 105 = .ok (.getfield 31, 3) := by decide +kernel
theorem dX5_cut_108 : decode cX5_cut 108 = .ok (.aload_n 0, 1) := by decide +kernel
theorem dX5_cut_109 : decode cX5_cut 109 = .ok (.getfield 27, 3) := by decide +kernel
theorem dX5_cut_112 : decode cX5_cut 112 = .ok (.iload_n 2, 1) := by decide +kernel
theorem dX5_cut_113 : decode cX5_cut 113 = .ok (.isub, 1) := by decide +kernel
theorem dX5_cut_114 : decode cX5_cut 114 = .ok (.iastore, 1) := by decide +kernel
theorem dX5_cut_115 : decode cX5_cut 115 = .ok (.aload_n 0, 1) := by decide +kernel
theorem dX5_cut_116 : decode cX5_cut 116 = .ok (.dup, 1) := by decide +kernel
theorem dX5_cut_117 : decode cX5_cut 117 = .ok (.getfield 31, 3) := by decide +kernel
theorem dX5_cut_120 : decode cX5_cut 120 = .ok (.iconst 1, 1) := by decide +kernel
theorem dX5_cut_121 : decode cX5_cut 121 = .ok (.iadd, 1) := by decide +kernel
theorem dX5_cut_122 : decode cX5_cut 122 = .ok (.putfield 31, 3) := by decide +kernel
theorem dX5_cut_125 : decode cX5_cut 125 = .ok (.aload_n 0, 1) := by decide +kernel
theorem dX5_cut_126 : decode cX5_cut 126 = .ok (.getfield 31, 3) := by decide +kernel
theorem dX5_cut_129 : decode cX5_cut 129 = .ok (.iconst 1, 1) := by decide +kernel
theorem dX5_cut_130 : decode cX5_cut 130 = .ok (.isub, 1) := by decide +kernel
theorem dX5_cut_131 : decode cX5_cut 131 = .ok (.ireturn, 1) := by decide +kernel
set_option maxRecDepth 20000 in
theorem ggX6_init_X4_init : GoodIn wsX6_init wsX4_init := goodIn_r _ [32, 33, 2, 3, 34, 35, 36, 73] (by decide +kernel) (by decide +kernel)
set_option maxRecDepth 20000 in
theorem gX6_init_X4_init_n9 : GoodIn wsX6_init (wsX4_init) := ggX6_init_X4_init
set_option maxRecDepth 20000 in
theorem ggX6_init_X1_init : GoodIn wsX6_init wsX1_init := goodIn_r _ [38, 39, 2, 3, 40, 35, 41, 42, 43, 83, 84, 85] (by decide +kernel) (by decide +kernel)
set_option maxRecDepth 20000 in
theorem gX6_init_X1_init_n18 : GoodIn wsX6_init (wsX1_init) := ggX6_init_X1_init
set_option maxRecDepth 20000 in
theorem ggX6_init_X3_init : GoodIn wsX6_init wsX3_init := goodIn_r _ [45, 46, 2, 3, 35, 47, 48, 49, 50, 51, 86, 87, 88, 89, 90] (by decide +kernel) (by decide +kernel)
set_option maxRecDepth 20000 in
theorem gX6_init_X3_init_n25 : GoodIn wsX6_init (wsX3_init) := ggX6_init_X3_init
set_option maxRecDepth 20000 in
theorem ggX6_init_X2_init : GoodIn wsX6_init wsX2_init := goodIn_r _ [53, 54, 2, 3, 35, 55, 56, 91, 92] (by decide +kernel) (by decide +kernel)
set_option maxRecDepth 20000 in
theorem gX6_init_X2_init_n32 : GoodIn wsX6_init (wsX2_init) := ggX6_init_X2_init
set_option maxRecDepth 20000 in
theorem ggX6_init_X5_init : GoodIn wsX6_init wsX5_init := goodIn_r _ [58, 59, 2, 3, 35, 60, 61, 62, 63, 64, 65, 66, 93, 94, 95, 96, 97, 98, 99] (by decide +kernel) (by decide +kernel)
set_option maxRecDepth 20000 in
theorem gX6_init_X5_init_n39 : GoodIn wsX6_init (wsX5_init) := ggX6_init_X5_init
set_option maxRecDepth 20000 in
theorem ggX6_init_X0_init : GoodIn wsX6_init wsX0_init := goodIn_r _ [68, 69, 2, 3, 35, 70, 71, 72, 100, 101, 102] (by decide +kernel) (by decide +kernel)
set_option maxRecDepth 20000 in
theorem gX6_init_X0_init_n46 : GoodIn wsX6_init (wsX0_init) := ggX6_init_X0_init
theorem dX6_init_0 : decode cX6_init 0 = .ok (.aload_n 0, 1) := by decide +kernel
theorem dX6_init_1 : decode cX6_init 1 = .ok (.invokespecial 1, 3) := by decide +kernel
theorem dX6_init_4 : decode cX6_init 4 = .ok (.aload_n 0, 1) := by decide +kernel
theorem dX6_init_5 : decode cX6_init 5 = .ok (.new 7, 3) := by decide +kernel
theorem dX6_init_8 : decode cX6_init 8 = .ok (.dup, 1) := by decide +kernel
theorem dX6_init_9 : decode cX6_init 9 = .ok (.invokespecial 9, 3) := by decide +kernel
theorem dX6_init_12 : decode cX6_init 12 = .ok (.putfield 10, 3) := by decide +kernel
theorem dX6_init_15 : decode cX6_init 15 = .ok (.aload_n 0, 1) := by decide +kernel
theorem dX6_init_16 : decode cX6_init 16 = .ok (.new 16, 3) := by decide +kernel
theorem dX6_init_19 : decode cX6_init 19 = .ok (.dup, 1) := by decide +kernel
theorem dX6_init_20 : decode cX6_init 20 = .ok (.invokespecial 18, 3) := by decide +kernel
theorem dX6_init_23 : decode cX6_init 23 = .ok (.putfield 19, 3) := by decide +kernel
theorem dX6_init_26 : decode cX6_init 26 = .ok (.aload_n 0, 1) := by decide +kernel
theorem dX6_init_27 : decode cX6_init 27 = .ok (.new 23, 3) := by decide +kernel
theorem dX6_init_30 : decode cX6_init 30 = .ok (.dup, 1) := by decide +kernel
theorem dX6_init_31 : decode cX6_init 31 = .ok (.invokespecial 25, 3) := by decide +kernel
theorem dX6_init_34 : decode cX6_init 34 = .ok (.putfield 26, 3) := by decide +kernel
theorem dX6_init_37 : decode cX6_init 37 = .ok (.aload_n 0, 1) := by decide +kernel
theorem dX6_init_38 : decode cX6_init 38 = .ok (.new 30, 3) := by decide +kernel
theorem dX6_init_41 : decode cX6_init 41 = .ok (.dup, 1) := by decide +kernel
theorem dX6_init_42 : decode cX6_init 42 = .ok (.invokespecial 32, 3) := by decide +kernel
theorem dX6_init_45 : decode cX6_init 45 = .ok (.putfield 33, 3) := by decide +kernel
theorem dX6_init_48 : decode cX6_init 48 = .ok (.aload_n 0, 1) := by decide +kernel
theorem dX6_init_49 : decode cX6_init 49 = .ok (.new 37, 3) := by decide +kernel
theorem dX6_init_52 : decode cX6_init 52 = .ok (.dup, 1) := by decide +kernel
theorem dX6_init_53 : decode cX6_init 53 = .ok (.invokespecial 39, 3) := by decide +kernel
theorem dX6_init_56 : decode cX6_init 56 = .ok (.putfield 40, 3) := by decide +kernel
theorem dX6_init_59 : decode cX6_init 59 = .ok (.aload_n 0, 1) := by decide +kernel
theorem dX6_init_60 : decode cX6_init 60 = .ok (.new 44, 3) := by decide +kernel
theorem dX6_init_63 : decode cX6_init 63 = .ok (.dup, 1) := by decide +kernel
theorem dX6_init_64 : decode cX6_init 64 = .ok (.invokespecial 46, 3) := by decide +kernel
theorem dX6_init_67 : decode cX6_init 67 = .ok (.putfield 47, 3) := by decide +kernel
theorem dX6_init_70 : decode cX6_init 70 = .ok (.aload_n 0, 1) := by decide +kernel
theorem dX6_init_71 : decode cX6_init 71 = .ok (.iconst 0, 1) := by decide +kernel
theorem dX6_init_72 : decode cX6_init 72 = .ok (.putfield 51, 3) := by decide +kernel
theorem dX6_init_75 : decode cX6_init 75 = .ok (.aload_n 0, 1) := by decide +kernel
theorem dX6_init_76 : decode cX6_init 76 = .ok (.iconst 0, 1) := by decide +kernel
theorem dX6_init_77 : decode cX6_init 77 = .ok (.putfield 55, 3) := by decide +kernel
theorem dX6_init_80 : decode cX6_init 80 = .ok (.aload_n 0, 1) := by decide +kernel
theorem dX6_init_81 : decode cX6_init 81 = .ok (.iconst 0, 1) := by decide +kernel
theorem dX6_init_82 : decode cX6_init 82 = .ok (.putfield 58, 3) := by decide +kernel
theorem dX6_init_85 : decode cX6_init 85 = .ok (.return_, 1) := by decide +kernel
set_option maxRecDepth 20000 in
theorem ggX6_offset_X6_refuseNoStation : GoodIn wsX6_offset wsX6_refuseNoStation := goodIn_ca (goodIn_r _ [5, 6, 7] (by decide +kernel) (by decide +kernel)) (goodIn_sub (fun _ h => List.mem_cons_of_mem _ (List.mem_append_left _ (List.mem_append_left _ (List.mem_append_right _ h)))) (by decide +kernel))
set_option maxRecDepth 20000 in
theorem gX6_offset_X6_refuseNoStation : GoodIn wsX6_offset (va_wsS RX6 62 yX6_refuseNoStation wsX6_refuseNoStation) := goodIn_app (goodIn_of _ (by decide +kernel)) ggX6_offset_X6_refuseNoStation
set_option maxRecDepth 20000 in
theorem ggX6_offset_X6_refuseNoWaterline : GoodIn wsX6_offset wsX6_refuseNoWaterline := goodIn_ca (goodIn_r _ [10, 6, 7] (by decide +kernel) (by decide +kernel)) (goodIn_sub (fun _ h => List.mem_cons_of_mem _ (List.mem_append_left _ (List.mem_append_left _ (List.mem_append_right _ h)))) (by decide +kernel))
set_option maxRecDepth 20000 in
theorem gX6_offset_X6_refuseNoWaterline : GoodIn wsX6_offset (va_wsS RX6 66 yX6_refuseNoWaterline wsX6_refuseNoWaterline) := goodIn_app (goodIn_of _ (by decide +kernel)) ggX6_offset_X6_refuseNoWaterline
set_option maxRecDepth 20000 in
theorem ggX6_offset_X6_refuseOutside : GoodIn wsX6_offset wsX6_refuseOutside := goodIn_ca (goodIn_r _ [13, 14, 15] (by decide +kernel) (by decide +kernel)) (goodIn_sub (fun _ h => List.mem_cons_of_mem _ (List.mem_append_left _ (List.mem_append_right _ h))) (by decide +kernel))
set_option maxRecDepth 20000 in
theorem gX6_offset_X6_refuseOutside : GoodIn wsX6_offset (va_wsS RX6 69 yX6_refuseOutside wsX6_refuseOutside) := goodIn_app (goodIn_of _ (by decide +kernel)) ggX6_offset_X6_refuseOutside
set_option maxRecDepth 20000 in
theorem ggX6_offset_X6_refuseLaunched : GoodIn wsX6_offset wsX6_refuseLaunched := goodIn_ca (goodIn_r _ [19, 20, 21, 22, 23, 24, 25, 26, 27, 28, 29, 30, 31] (by decide +kernel) (by decide +kernel)) (goodIn_sub (fun _ h => List.mem_cons_of_mem _ (List.mem_append_right _ h)) (by decide +kernel))
set_option maxRecDepth 20000 in
theorem gX6_offset_X6_refuseLaunched : GoodIn wsX6_offset (wsV RX6 73 RX6 yX6_refuseLaunched wsX6_refuseLaunched) := goodIn_app (goodIn_of _ (by decide +kernel)) ggX6_offset_X6_refuseLaunched
theorem dX6_offset_0 : decode cX6_offset 0 = .ok (.iload_n 1, 1) := by decide +kernel
theorem dX6_offset_1 : decode cX6_offset 1 = .ok (.invokestatic 62, 3) := by decide +kernel
theorem dX6_offset_4 : decode cX6_offset 4 = .ok (.iload_n 2, 1) := by decide +kernel
theorem dX6_offset_5 : decode cX6_offset 5 = .ok (.invokestatic 66, 3) := by decide +kernel
theorem dX6_offset_8 : decode cX6_offset 8 = .ok (.iload_n 3, 1) := by decide +kernel
theorem dX6_offset_9 : decode cX6_offset 9 = .ok (.iconst 0, 1) := by decide +kernel
theorem dX6_offset_10 : decode cX6_offset 10 = .ok (.sipush 200, 3) := by decide +kernel
theorem dX6_offset_13 : decode cX6_offset 13 = .ok (.invokestatic 69, 3) := by decide +kernel
theorem dX6_offset_16 : decode cX6_offset 16 = .ok (.aload_n 0, 1) := by decide +kernel
theorem dX6_offset_17 : decode cX6_offset 17 = .ok (.invokevirtual 73, 3) := by decide +kernel
theorem dX6_offset_20 : decode cX6_offset 20 = .ok (.aload_n 0, 1) := by decide +kernel
theorem dX6_offset_21 : decode cX6_offset 21 = .ok (.getfield 10, 3) := by decide +kernel
theorem dX6_offset_24 : decode cX6_offset 24 = .ok (.getfield 76, 3) := by decide +kernel
theorem dX6_offset_27 : decode cX6_offset 27 = .ok (.iload_n 2, 1) := by decide +kernel
theorem dX6_offset_28 : decode cX6_offset 28 = .ok (.aaload, 1) := by decide +kernel
theorem dX6_offset_29 : decode cX6_offset 29 = .ok (.iload_n 1, 1) := by decide +kernel
theorem dX6_offset_30 : decode cX6_offset 30 = .ok (.iaload, 1) := by decide +kernel
theorem dX6_offset_31 : decode cX6_offset 31 = .ok (.istore 4, 2) := by decide +kernel
theorem dX6_offset_33 : decode cX6_offset 33 = .ok (.aload_n 0, 1) := by decide +kernel
theorem dX6_offset_34 : decode cX6_offset 34 = .ok (.getfield 10, 3) := by decide +kernel
theorem dX6_offset_37 : decode cX6_offset 37 = .ok (.getfield 76, 3) := by decide +kernel
theorem dX6_offset_40 : decode cX6_offset 40 = .ok (.iload_n 2, 1) := by decide +kernel
theorem dX6_offset_41 : decode cX6_offset 41 = .ok (.aaload, 1) := by decide +kernel
theorem dX6_offset_42 : decode cX6_offset 42 = .ok (.iload_n 1, 1) := by decide +kernel
theorem dX6_offset_43 : decode cX6_offset 43 = .ok (.iload_n 3, 1) := by decide +kernel
theorem dX6_offset_44 : decode cX6_offset 44 = .ok (.iastore, 1) := by decide +kernel
theorem dX6_offset_45 : decode cX6_offset 45 = .ok (.iload 4, 2) := by decide +kernel
theorem dX6_offset_47 : decode cX6_offset 47 = .ok (.ireturn, 1) := by decide +kernel
set_option maxRecDepth 20000 in
theorem ggX6_half_X6_refuseNoStation : GoodIn wsX6_half wsX6_refuseNoStation := goodIn_ca (goodIn_r _ [5, 6, 7] (by decide +kernel) (by decide +kernel)) (goodIn_sub (fun _ h => List.mem_cons_of_mem _ (List.mem_append_right _ h)) (by decide +kernel))
set_option maxRecDepth 20000 in
theorem gX6_half_X6_refuseNoStation : GoodIn wsX6_half (va_wsS RX6 62 yX6_refuseNoStation wsX6_refuseNoStation) := goodIn_app (goodIn_of _ (by decide +kernel)) ggX6_half_X6_refuseNoStation
set_option maxRecDepth 20000 in
theorem ggX6_half_X6_refuseNoWaterline : GoodIn wsX6_half wsX6_refuseNoWaterline := goodIn_ca (goodIn_r _ [10, 6, 7] (by decide +kernel) (by decide +kernel)) (goodIn_sub (fun _ h => List.mem_cons_of_mem _ (List.mem_append_right _ h)) (by decide +kernel))
set_option maxRecDepth 20000 in
theorem gX6_half_X6_refuseNoWaterline : GoodIn wsX6_half (va_wsS RX6 66 yX6_refuseNoWaterline wsX6_refuseNoWaterline) := goodIn_app (goodIn_of _ (by decide +kernel)) ggX6_half_X6_refuseNoWaterline
theorem dX6_half_0 : decode cX6_half 0 = .ok (.iload_n 1, 1) := by decide +kernel
theorem dX6_half_1 : decode cX6_half 1 = .ok (.invokestatic 62, 3) := by decide +kernel
theorem dX6_half_4 : decode cX6_half 4 = .ok (.iload_n 2, 1) := by decide +kernel
theorem dX6_half_5 : decode cX6_half 5 = .ok (.invokestatic 66, 3) := by decide +kernel
theorem dX6_half_8 : decode cX6_half 8 = .ok (.aload_n 0, 1) := by decide +kernel
theorem dX6_half_9 : decode cX6_half 9 = .ok (.getfield 10, 3) := by decide +kernel
theorem dX6_half_12 : decode cX6_half 12 = .ok (.getfield 76, 3) := by decide +kernel
theorem dX6_half_15 : decode cX6_half 15 = .ok (.iload_n 2, 1) := by decide +kernel
theorem dX6_half_16 : decode cX6_half 16 = .ok (.aaload, 1) := by decide +kernel
theorem dX6_half_17 : decode cX6_half 17 = .ok (.iload_n 1, 1) := by decide +kernel
theorem dX6_half_18 : decode cX6_half 18 = .ok (.iaload, 1) := by decide +kernel
theorem dX6_half_19 : decode cX6_half 19 = .ok (.ireturn, 1) := by decide +kernel
set_option maxRecDepth 20000 in
theorem ggX6_bend_X6_refuseNoWaterline : GoodIn wsX6_bend wsX6_refuseNoWaterline := goodIn_ca (goodIn_r _ [5, 6, 7] (by decide +kernel) (by decide +kernel)) (goodIn_sub (fun _ h => List.mem_cons_of_mem _ (List.mem_append_right _ h)) (by decide +kernel))
set_option maxRecDepth 20000 in
theorem gX6_bend_X6_refuseNoWaterline : GoodIn wsX6_bend (va_wsS RX6 66 yX6_refuseNoWaterline wsX6_refuseNoWaterline) := goodIn_app (goodIn_of _ (by decide +kernel)) ggX6_bend_X6_refuseNoWaterline
set_option maxRecDepth 20000 in
theorem ggX6_bend_X6_bendOfLine : GoodIn wsX6_bend wsX6_bendOfLine := goodIn_r _ [10, 11, 12, 4, 13] (by decide +kernel) (by decide +kernel)
set_option maxRecDepth 20000 in
theorem gX6_bend_X6_bendOfLine : GoodIn wsX6_bend (va_wsS RX6 80 yX6_bendOfLine wsX6_bendOfLine) := goodIn_app (goodIn_of _ (by decide +kernel)) ggX6_bend_X6_bendOfLine
theorem dX6_bend_0 : decode cX6_bend 0 = .ok (.iload_n 1, 1) := by decide +kernel
theorem dX6_bend_1 : decode cX6_bend 1 = .ok (.invokestatic 66, 3) := by decide +kernel
theorem dX6_bend_4 : decode cX6_bend 4 = .ok (.aload_n 0, 1) := by decide +kernel
theorem dX6_bend_5 : decode cX6_bend 5 = .ok (.getfield 10, 3) := by decide +kernel
theorem dX6_bend_8 : decode cX6_bend 8 = .ok (.getfield 76, 3) := by decide +kernel
theorem dX6_bend_11 : decode cX6_bend 11 = .ok (.iload_n 1, 1) := by decide +kernel
theorem dX6_bend_12 : decode cX6_bend 12 = .ok (.aaload, 1) := by decide +kernel
theorem dX6_bend_13 : decode cX6_bend 13 = .ok (.invokestatic 80, 3) := by decide +kernel
theorem dX6_bend_16 : decode cX6_bend 16 = .ok (.ireturn, 1) := by decide +kernel
set_option maxRecDepth 20000 in
theorem ggX6_fair_X6_refuseNoWaterline : GoodIn wsX6_fair wsX6_refuseNoWaterline := goodIn_ca (goodIn_r _ [6, 7, 8] (by decide +kernel) (by decide +kernel)) (goodIn_sub (fun _ h => List.mem_cons_of_mem _ (List.mem_append_left _ (List.mem_append_left _ (List.mem_append_right _ h)))) (by decide +kernel))
set_option maxRecDepth 20000 in
theorem gX6_fair_X6_refuseNoWaterline : GoodIn wsX6_fair (va_wsS RX6 66 yX6_refuseNoWaterline wsX6_refuseNoWaterline) := goodIn_app (goodIn_of _ (by decide +kernel)) ggX6_fair_X6_refuseNoWaterline
set_option maxRecDepth 20000 in
theorem ggX6_fair_X6_refuseOutside : GoodIn wsX6_fair wsX6_refuseOutside := goodIn_ca (goodIn_r _ [11, 12, 13] (by decide +kernel) (by decide +kernel)) (goodIn_sub (fun _ h => List.mem_cons_of_mem _ (List.mem_append_left _ (List.mem_append_right _ h))) (by decide +kernel))
set_option maxRecDepth 20000 in
theorem gX6_fair_X6_refuseOutside : GoodIn wsX6_fair (va_wsS RX6 69 yX6_refuseOutside wsX6_refuseOutside) := goodIn_app (goodIn_of _ (by decide +kernel)) ggX6_fair_X6_refuseOutside
set_option maxRecDepth 20000 in
theorem ggX6_fair_X6_refuseLaunched : GoodIn wsX6_fair wsX6_refuseLaunched := goodIn_ca (goodIn_r _ [17, 18, 19, 20, 58, 59, 60, 61, 62, 63, 64, 65, 66] (by decide +kernel) (by decide +kernel)) (goodIn_sub (fun _ h => List.mem_cons_of_mem _ (List.mem_append_right _ h)) (by decide +kernel))
set_option maxRecDepth 20000 in
theorem gX6_fair_X6_refuseLaunched : GoodIn wsX6_fair (wsV RX6 73 RX6 yX6_refuseLaunched wsX6_refuseLaunched) := goodIn_app (goodIn_of _ (by decide +kernel)) ggX6_fair_X6_refuseLaunched
set_option maxRecDepth 20000 in
theorem ggX6_fair_X6_bendOfLine : GoodIn wsX6_fair wsX6_bendOfLine := goodIn_r _ [23, 24, 25, 5, 26] (by decide +kernel) (by decide +kernel)
set_option maxRecDepth 20000 in
theorem gX6_fair_X6_bendOfLine : GoodIn wsX6_fair (va_wsS RX6 80 yX6_bendOfLine wsX6_bendOfLine) := goodIn_app (goodIn_of _ (by decide +kernel)) ggX6_fair_X6_bendOfLine
set_option maxRecDepth 20000 in
theorem ggX6_fair_X1_straighten : GoodIn wsX6_fair wsX1_straighten := goodIn_r _ [30, 31, 32, 33, 34, 35, 36, 37, 38, 39, 40, 41, 42, 28, 43, 44, 45, 46, 47, 48, 49, 25, 5, 26, 50, 51, 52, 53, 54, 55, 56, 57, 68, 69, 70] (by decide +kernel) (by decide +kernel)
set_option maxRecDepth 20000 in
theorem gX6_fair_X1_straighten_n84 : GoodIn wsX6_fair (wsX1_straighten) := ggX6_fair_X1_straighten
theorem dX6_fair_0 : decode cX6_fair 0 = .ok (.iload_n 1, 1) := by decide +kernel
theorem dX6_fair_1 : decode cX6_fair 1 = .ok (.invokestatic 66, 3) := by decide +kernel
theorem dX6_fair_4 : decode cX6_fair 4 = .ok (.iload_n 2, 1) := by decide +kernel
theorem dX6_fair_5 : decode cX6_fair 5 = .ok (.iconst 0, 1) := by decide +kernel
theorem dX6_fair_6 : decode cX6_fair 6 = .ok (.iconst 2, 1) := by decide +kernel
theorem dX6_fair_7 : decode cX6_fair 7 = .ok (.invokestatic 69, 3) := by decide +kernel
theorem dX6_fair_10 : decode cX6_fair 10 = .ok (.aload_n 0, 1) := by decide +kernel
theorem dX6_fair_11 : decode cX6_fair 11 = .ok (.invokevirtual 73, 3) := by decide +kernel
theorem dX6_fair_14 : decode cX6_fair 14 = .ok (.aload_n 0, 1) := by decide +kernel
theorem dX6_fair_15 : decode cX6_fair 15 = .ok (.getfield 10, 3) := by decide +kernel
theorem dX6_fair_18 : decode cX6_fair 18 = .ok (.getfield 76, 3) := by decide +kernel
theorem dX6_fair_21 : decode cX6_fair 21 = .ok (.iload_n 1, 1) := by decide +kernel
theorem dX6_fair_22 : decode cX6_fair 22 = .ok (.aaload, 1) := by decide +kernel
theorem dX6_fair_23 : decode cX6_fair 23 = .ok (.astore_n 3, 1) := by decide +kernel
theorem dX6_fair_24 : decode cX6_fair 24 = .ok (.aload_n 3, 1) := by decide +kernel
theorem dX6_fair_25 : decode cX6_fair 25 = .ok (.invokestatic 80, 3) := by decide +kernel
theorem dX6_fair_28 : decode cX6_fair 28 = .ok (.istore 4, 2) := by decide +kernel
theorem dX6_fair_30 : decode cX6_fair 30 = .ok (.aload_n 0, 1) := by decide +kernel
theorem dX6_fair_31 : decode cX6_fair 31 = .ok (.getfield 19, 3) := by decide +kernel
theorem dX6_fair_34 : decode cX6_fair 34 = .ok (.aload_n 3, 1) := by decide +kernel
theorem dX6_fair_35 : decode cX6_fair 35 = .ok (.iload_n 2, 1) := by decide +kernel
theorem dX6_fair_36 : decode cX6_fair 36 = .ok (.invokevirtual 84, 3) := by decide +kernel
theorem dX6_fair_39 : decode cX6_fair 39 = .ok (.iload 4, 2) := by decide +kernel
theorem dX6_fair_41 : decode cX6_fair 41 = .ok (.aload_n 3, 1) := by decide +kernel
theorem dX6_fair_42 : decode cX6_fair 42 = .ok (.invokestatic 80, 3) := by decide +kernel
theorem dX6_fair_45 : decode cX6_fair 45 = .ok (.isub, 1) := by decide +kernel
theorem dX6_fair_46 : decode cX6_fair 46 = .ok (.ireturn, 1) := by decide +kernel
set_option maxRecDepth 20000 in
theorem ggX6_area_X6_refuseNoStation : GoodIn wsX6_area wsX6_refuseNoStation := goodIn_ca (goodIn_r _ [5, 6, 7] (by decide +kernel) (by decide +kernel)) (goodIn_sub (fun _ h => List.mem_cons_of_mem _ (List.mem_append_right _ h)) (by decide +kernel))
set_option maxRecDepth 20000 in
theorem gX6_area_X6_refuseNoStation : GoodIn wsX6_area (va_wsS RX6 62 yX6_refuseNoStation wsX6_refuseNoStation) := goodIn_app (goodIn_of _ (by decide +kernel)) ggX6_area_X6_refuseNoStation
set_option maxRecDepth 20000 in
theorem ggX6_area_X6_refuseNoWaterline : GoodIn wsX6_area wsX6_refuseNoWaterline := goodIn_ca (goodIn_r _ [10, 6, 7] (by decide +kernel) (by decide +kernel)) (goodIn_sub (fun _ h => List.mem_cons_of_mem _ (List.mem_append_right _ h)) (by decide +kernel))
set_option maxRecDepth 20000 in
theorem gX6_area_X6_refuseNoWaterline : GoodIn wsX6_area (va_wsS RX6 66 yX6_refuseNoWaterline wsX6_refuseNoWaterline) := goodIn_app (goodIn_of _ (by decide +kernel)) ggX6_area_X6_refuseNoWaterline
set_option maxRecDepth 20000 in
theorem ggX6_area_X4_areaUpTo : GoodIn wsX6_area wsX4_areaUpTo := goodIn_r _ [14, 15, 25] (by decide +kernel) (by decide +kernel)
set_option maxRecDepth 20000 in
theorem gX6_area_X4_areaUpTo_n88 : GoodIn wsX6_area (wsX4_areaUpTo) := ggX6_area_X4_areaUpTo
