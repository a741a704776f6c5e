theorem dX6_area_0 : decode cX6_area 0 = .ok (.iload_n 1, 1) := by decide +kernel
theorem dX6_area_1 : decode cX6_area 1 = .ok (.invokestatic 62, 3) := by decide +kernel
theorem dX6_area_4 : decode cX6_area 4 = .ok (.iload_n 2, 1) := by decide +kernel
theorem dX6_area_5 : decode cX6_area 5 = .ok (.invokestatic 66, 3) := by decide +kernel
theorem dX6_area_8 : decode cX6_area 8 = .ok (.aload_n 0, 1) := by decide +kernel
theorem dX6_area_9 : decode cX6_area 9 = .ok (.getfield 10, 3) := by decide +kernel
theorem dX6_area_12 : decode cX6_area 12 = .ok (.iload_n 1, 1) := by decide +kernel
theorem dX6_area_13 : decode cX6_area 13 = .ok (.iload_n 2, 1) := by decide +kernel
theorem dX6_area_14 : decode cX6_area 14 = .ok (.invokevirtual 88, 3) := by decide +kernel
theorem dX6_area_17 : decode cX6_area 17 = .ok (.ireturn, 1) := by decide +kernel
set_option maxRecDepth 20000 in
theorem ggX6_volume_X6_refuseNoWaterline : GoodIn wsX6_volume wsX6_refuseNoWaterline := goodIn_ca (goodIn_r _ [5, 6, 7] (by decide +kernel) (by decide +kernel)) (goodIn_sub (fun _ h => List.mem_cons_of_mem _ (List.mem_append_right _ h)) (by decide +kernel))
set_option maxRecDepth 20000 in
theorem gX6_volume_X6_refuseNoWaterline : GoodIn wsX6_volume (va_wsS RX6 66 yX6_refuseNoWaterline wsX6_refuseNoWaterline) := goodIn_app (goodIn_of _ (by decide +kernel)) ggX6_volume_X6_refuseNoWaterline
set_option maxRecDepth 20000 in
theorem ggX6_volume_X4_volumeUpTo : GoodIn wsX6_volume wsX4_volumeUpTo := goodIn_r _ [11, 12, 13, 14, 9, 15, 16, 26] (by decide +kernel) (by decide +kernel)
set_option maxRecDepth 20000 in
theorem gX6_volume_X4_volumeUpTo_n92 : GoodIn wsX6_volume (wsX4_volumeUpTo) := ggX6_volume_X4_volumeUpTo
theorem dX6_volume_0 : decode cX6_volume 0 = .ok (.iload_n 1, 1) := by decide +kernel
theorem dX6_volume_1 : decode cX6_volume 1 = .ok (.invokestatic 66, 3) := by decide +kernel
theorem dX6_volume_4 : decode cX6_volume 4 = .ok (.aload_n 0, 1) := by decide +kernel
theorem dX6_volume_5 : decode cX6_volume 5 = .ok (.getfield 10, 3) := by decide +kernel
theorem dX6_volume_8 : decode cX6_volume 8 = .ok (.iload_n 1, 1) := by decide +kernel
theorem dX6_volume_9 : decode cX6_volume 9 = .ok (.invokevirtual 92, 3) := by decide +kernel
theorem dX6_volume_12 : decode cX6_volume 12 = .ok (.ireturn, 1) := by decide +kernel
set_option maxRecDepth 20000 in
theorem ggX6_volumeAnew_X6_refuseNoWaterline : GoodIn wsX6_volumeAnew wsX6_refuseNoWaterline := goodIn_ca (goodIn_r _ [5, 6, 7] (by decide +kernel) (by decide +kernel)) (goodIn_sub (fun _ h => List.mem_cons_of_mem _ (List.mem_append_right _ h)) (by decide +kernel))
set_option maxRecDepth 20000 in
theorem gX6_volumeAnew_X6_refuseNoWaterline : GoodIn wsX6_volumeAnew (va_wsS RX6 66 yX6_refuseNoWaterline wsX6_refuseNoWaterline) := goodIn_app (goodIn_of _ (by decide +kernel)) ggX6_volumeAnew_X6_refuseNoWaterline
set_option maxRecDepth 20000 in
theorem ggX6_volumeAnew_X4_volumeBySlices : GoodIn wsX6_volumeAnew wsX4_volumeBySlices := goodIn_r _ [11, 12, 13, 14, 9, 15, 16, 26] (by decide +kernel) (by decide +kernel)
set_option maxRecDepth 20000 in
theorem gX6_volumeAnew_X4_volumeBySlices_n96 : GoodIn wsX6_volumeAnew (wsX4_volumeBySlices) := ggX6_volumeAnew_X4_volumeBySlices
theorem dX6_volumeAnew_0 : decode cX6_volumeAnew 0 = .ok (.iload_n 1, 1) := by decide +kernel
theorem dX6_volumeAnew_1 : decode cX6_volumeAnew 1 = .ok (.invokestatic 66, 3) := by decide +kernel
theorem dX6_volumeAnew_4 : decode cX6_volumeAnew 4 = .ok (.aload_n 0, 1) := by decide +kernel
theorem dX6_volumeAnew_5 : decode cX6_volumeAnew 5 = .ok (.getfield 10, 3) := by decide +kernel
theorem dX6_volumeAnew_8 : decode cX6_volumeAnew 8 = .ok (.iload_n 1, 1) := by decide +kernel
theorem dX6_volumeAnew_9 : decode cX6_volumeAnew 9 = .ok (.invokevirtual 96, 3) := by decide +kernel
theorem dX6_volumeAnew_12 : decode cX6_volumeAnew 12 = .ok (.ireturn, 1) := by decide +kernel
set_option maxRecDepth 20000 in
theorem ggX6_weigh_X6_refuseNoStation : GoodIn wsX6_weigh wsX6_refuseNoStation := goodIn_ca (goodIn_r _ [7, 8, 9] (by decide +kernel) (by decide +kernel)) (goodIn_sub (fun _ h => List.mem_cons_of_mem _ (List.mem_append_left _ (List.mem_append_right _ h))) (by decide +kernel))
set_option maxRecDepth 20000 in
theorem gX6_weigh_X6_refuseNoStation : GoodIn wsX6_weigh (va_wsS RX6 62 yX6_refuseNoStation wsX6_refuseNoStation) := goodIn_app (goodIn_of _ (by decide +kernel)) ggX6_weigh_X6_refuseNoStation
set_option maxRecDepth 20000 in
theorem ggX6_weigh_X6_refuseOutside : GoodIn wsX6_weigh wsX6_refuseOutside := goodIn_ca (goodIn_r _ [12, 13, 14] (by decide +kernel) (by decide +kernel)) (goodIn_sub (fun _ h => List.mem_cons_of_mem _ (List.mem_append_right _ h)) (by decide +kernel))
set_option maxRecDepth 20000 in
theorem gX6_weigh_X6_refuseOutside : GoodIn wsX6_weigh (va_wsS RX6 69 yX6_refuseOutside wsX6_refuseOutside) := goodIn_app (goodIn_of _ (by decide +kernel)) ggX6_weigh_X6_refuseOutside
set_option maxRecDepth 20000 in
theorem ggX6_weigh_X3_isFull : GoodIn wsX6_weigh wsX3_isFull := goodIn_r _ [18, 19, 34, 35, 36, 37, 38] (by decide +kernel) (by decide +kernel)
set_option maxRecDepth 20000 in
theorem gX6_weigh_X3_isFull_n99 : GoodIn wsX6_weigh (wsX3_isFull) := ggX6_weigh_X3_isFull
set_option maxRecDepth 20000 in
theorem ggX6_weigh_X3_add : GoodIn wsX6_weigh wsX3_add := goodIn_r _ [22, 23, 19, 24, 34, 35, 36, 37, 38] (by decide +kernel) (by decide +kernel)
set_option maxRecDepth 20000 in
theorem gX6_weigh_X3_add_n110 : GoodIn wsX6_weigh (wsX3_add) := ggX6_weigh_X3_add
theorem dX6_weigh_0 : decode cX6_weigh 0 = .ok (.iload_n 1, 1) := by decide +kernel
theorem dX6_weigh_1 : decode cX6_weigh 1 = .ok (.invokestatic 62, 3) := by decide +kernel
theorem dX6_weigh_4 : decode cX6_weigh 4 = .ok (.iload_n 2, 1) := by decide +kernel
theorem dX6_weigh_5 : decode cX6_weigh 5 = .ok (.iconst 0, 1) := by decide +kernel
theorem dX6_weigh_6 : decode cX6_weigh 6 = .ok (.sipush 999, 3) := by decide +kernel
theorem dX6_weigh_9 : decode cX6_weigh 9 = .ok (.invokestatic 69, 3) := by decide +kernel
theorem dX6_weigh_12 : decode cX6_weigh 12 = .ok (.aload_n 0, 1) := by decide +kernel
theorem dX6_weigh_13 : decode cX6_weigh 13 = .ok (.getfield 26, 3) := by decide +kernel
theorem dX6_weigh_16 : decode cX6_weigh 16 = .ok (.invokevirtual 99, 3) := by decide +kernel
theorem dX6_weigh_19 : decode cX6_weigh 19 = .ok (.ifCond .eq 13, 3) := by decide +kernel
theorem dX6_weigh_22 : decode cX6_weigh 22 = .ok (.new 103, 3) := by decide +kernel
theorem dX6_weigh_25 : decode cX6_weigh 25 = .ok (.dup, 1) := by decide +kernel
theorem dX6_weigh_26 : decode cX6_weigh 26 = .ok (.ldc 105, 2) := by decide +kernel
theorem dX6_weigh_28 : decode cX6_weigh 28 = .ok (.invokespecial 107, 3) := by decide +kernel
theorem dX6_weigh_31 : decode cX6_weigh 31 = .ok (.athrow, 1) := by decide +kernel
theorem dX6_weigh_32 : decode cX6_weigh 32 = .ok (.aload_n 0, 1) := by decide +kernel
theorem dX6_weigh_33 : decode cX6_weigh 33 = .ok (.getfield 26, 3) := by decide +kernel
theorem dX6_weigh_36 : decode cX6_weigh 36 = .ok (.iload_n 1, 1) := by decide +kernel
theorem dX6_weigh_37 : decode cX6_weigh 37 = .ok (.iload_n 2, 1) := by decide +kernel
theorem dX6_weigh_38 : decode cX6_weigh 38 = .ok (.invokevirtual 110, 3) := by decide +kernel
theorem dX6_weigh_41 : decode cX6_weigh 41 = .ok (.ireturn, 1) := by decide +kernel
set_option maxRecDepth 20000 in
theorem ggX6_change_X6_refuseNoWeight : GoodIn wsX6_change wsX6_refuseNoWeight := goodIn_ca (goodIn_r _ [6, 7, 8, 1, 23, 24, 25, 26, 27, 28, 29, 30, 31, 32, 33, 34, 35, 36] (by decide +kernel) (by decide +kernel)) (goodIn_sub (fun _ h => List.mem_cons_of_mem _ (List.mem_append_left _ (List.mem_append_right _ h))) (by decide +kernel))
set_option maxRecDepth 20000 in
theorem gX6_change_X6_refuseNoWeight : GoodIn wsX6_change (wsV RX6 113 RX6 yX6_refuseNoWeight wsX6_refuseNoWeight) := goodIn_app (goodIn_of _ (by decide +kernel)) ggX6_change_X6_refuseNoWeight
set_option maxRecDepth 20000 in
theorem ggX6_change_X6_refuseNoStation : GoodIn wsX6_change wsX6_refuseNoStation := goodIn_ca (goodIn_r _ [11, 7, 8] (by decide +kernel) (by decide +kernel)) (goodIn_sub (fun _ h => List.mem_cons_of_mem _ (List.mem_append_left _ (List.mem_append_right _ h))) (by decide +kernel))
set_option maxRecDepth 20000 in
theorem gX6_change_X6_refuseNoStation : GoodIn wsX6_change (va_wsS RX6 62 yX6_refuseNoStation wsX6_refuseNoStation) := goodIn_app (goodIn_of _ (by decide +kernel)) ggX6_change_X6_refuseNoStation
set_option maxRecDepth 20000 in
theorem ggX6_change_X6_refuseOutside : GoodIn wsX6_change wsX6_refuseOutside := goodIn_ca (goodIn_r _ [14, 15, 16] (by decide +kernel) (by decide +kernel)) (goodIn_sub (fun _ h => List.mem_cons_of_mem _ (List.mem_append_right _ h)) (by decide +kernel))
set_option maxRecDepth 20000 in
theorem gX6_change_X6_refuseOutside : GoodIn wsX6_change (va_wsS RX6 69 yX6_refuseOutside wsX6_refuseOutside) := goodIn_app (goodIn_of _ (by decide +kernel)) ggX6_change_X6_refuseOutside
set_option maxRecDepth 20000 in
theorem ggX6_change_X3_replace : GoodIn wsX6_change wsX3_replace := goodIn_r _ [20, 21, 22, 32, 33, 34, 35, 36] (by decide +kernel) (by decide +kernel)
set_option maxRecDepth 20000 in
theorem gX6_change_X3_replace_n116 : GoodIn wsX6_change (wsX3_replace) := ggX6_change_X3_replace
theorem dX6_change_0 : decode cX6_change 0 = .ok (.aload_n 0, 1) := by decide +kernel
theorem dX6_change_1 : decode cX6_change 1 = .ok (.iload_n 1, 1) := by decide +kernel
theorem dX6_change_2 : decode cX6_change 2 = .ok (.invokevirtual 113, 3) := by decide +kernel
theorem dX6_change_5 : decode cX6_change 5 = .ok (.iload_n 2, 1) := by decide +kernel
theorem dX6_change_6 : decode cX6_change 6 = .ok (.invokestatic 62, 3) := by decide +kernel
theorem dX6_change_9 : decode cX6_change 9 = .ok (.iload_n 3, 1) := by decide +kernel
theorem dX6_change_10 : decode cX6_change 10 = .ok (.iconst 0, 1) := by decide +kernel
theorem dX6_change_11 : decode cX6_change 11 = .ok (.sipush 999, 3) := by decide +kernel
theorem dX6_change_14 : decode cX6_change 14 = .ok (.invokestatic 69, 3) := by decide +kernel
theorem dX6_change_17 : decode cX6_change 17 = .ok (.aload_n 0, 1) := by decide +kernel
theorem dX6_change_18 : decode cX6_change 18 = .ok (.getfield 26, 3) := by decide +kernel
theorem dX6_change_21 : decode cX6_change 21 = .ok (.iload_n 1, 1) := by decide +kernel
theorem dX6_change_22 : decode cX6_change 22 = .ok (.iload_n 2, 1) := by decide +kernel
theorem dX6_change_23 : decode cX6_change 23 = .ok (.iload_n 3, 1) := by decide +kernel
theorem dX6_change_24 : decode cX6_change 24 = .ok (.invokevirtual 116, 3) := by decide +kernel
theorem dX6_change_27 : decode cX6_change 27 = .ok (.ireturn, 1) := by decide +kernel
set_option maxRecDepth 20000 in
theorem ggX6_ballast_X6_refuseOutside : GoodIn wsX6_ballast wsX6_refuseOutside := goodIn_ca (goodIn_r _ [7, 8, 9] (by decide +kernel) (by decide +kernel)) (goodIn_sub (fun _ h => List.mem_cons_of_mem _ (List.mem_append_right _ h)) (by decide +kernel))
set_option maxRecDepth 20000 in
theorem gX6_ballast_X6_refuseOutside : GoodIn wsX6_ballast (va_wsS RX6 69 yX6_refuseOutside wsX6_refuseOutside) := goodIn_app (goodIn_of _ (by decide +kernel)) ggX6_ballast_X6_refuseOutside
set_option maxRecDepth 20000 in
theorem ggX6_ballast_X2_measure : GoodIn wsX6_ballast wsX2_measure := goodIn_r _ [13, 14, 15, 16, 17, 18, 19, 20, 21, 22, 23, 24, 25, 26, 27, 74, 75, 76] (by decide +kernel) (by decide +kernel)
set_option maxRecDepth 20000 in
theorem gX6_ballast_X2_measure_n120 : GoodIn wsX6_ballast (wsX2_measure) := ggX6_ballast_X2_measure
set_option maxRecDepth 20000 in
theorem ggX6_ballast_X2_setBallast : GoodIn wsX6_ballast wsX2_setBallast := goodIn_r _ [30, 31, 32, 33, 34, 35, 36, 37, 38, 39, 40, 41, 42, 43, 44, 45, 46, 47, 11, 48, 14, 49, 50, 51, 52, 15, 53, 54, 55, 56, 57, 58, 59, 69, 70, 71, 72, 73, 74, 75] (by decide +kernel) (by decide +kernel)
set_option maxRecDepth 20000 in
theorem gX6_ballast_X2_setBallast_n124 : GoodIn wsX6_ballast (wsX2_setBallast) := ggX6_ballast_X2_setBallast
theorem dX6_ballast_0 : decode cX6_ballast 0 = .ok (.iload_n 1, 1) := by decide +kernel
theorem dX6_ballast_1 : decode cX6_ballast 1 = .ok (.iconst 0, 1) := by decide +kernel
theorem dX6_ballast_2 : decode cX6_ballast 2 = .ok (.bipush 99, 2) := by decide +kernel
theorem dX6_ballast_4 : decode cX6_ballast 4 = .ok (.invokestatic 69, 3) := by decide +kernel
theorem dX6_ballast_7 : decode cX6_ballast 7 = .ok (.aload_n 0, 1) := by decide +kernel
theorem dX6_ballast_8 : decode cX6_ballast 8 = .ok (.getfield 33, 3) := by decide +kernel
theorem dX6_ballast_11 : decode cX6_ballast 11 = .ok (.aload_n 0, 1) := by decide +kernel
theorem dX6_ballast_12 : decode cX6_ballast 12 = .ok (.getfield 10, 3) := by decide +kernel
theorem dX6_ballast_15 : decode cX6_ballast 15 = .ok (.invokevirtual 120, 3) := by decide +kernel
theorem dX6_ballast_18 : decode cX6_ballast 18 = .ok (.aload_n 0, 1) := by decide +kernel
theorem dX6_ballast_19 : decode cX6_ballast 19 = .ok (.getfield 33, 3) := by decide +kernel
theorem dX6_ballast_22 : decode cX6_ballast 22 = .ok (.aload_n 0, 1) := by decide +kernel
theorem dX6_ballast_23 : decode cX6_ballast 23 = .ok (.getfield 26, 3) := by decide +kernel
theorem dX6_ballast_26 : decode cX6_ballast 26 = .ok (.iload_n 1, 1) := by decide +kernel
theorem dX6_ballast_27 : decode cX6_ballast 27 = .ok (.invokevirtual 124, 3) := by decide +kernel
theorem dX6_ballast_30 : decode cX6_ballast 30 = .ok (.bipush 10, 2) := by decide +kernel
theorem dX6_ballast_32 : decode cX6_ballast 32 = .ok (.aload_n 0, 1) := by decide +kernel
theorem dX6_ballast_33 : decode cX6_ballast 33 = .ok (.getfield 26, 3) := by decide +kernel
theorem dX6_ballast_36 : decode cX6_ballast 36 = .ok (.getfield 128, 3) := by decide +kernel
theorem dX6_ballast_39 : decode cX6_ballast 39 = .ok (.imul, 1) := by decide +kernel
theorem dX6_ballast_40 : decode cX6_ballast 40 = .ok (.aload_n 0, 1) := by decide +kernel
theorem dX6_ballast_41 : decode cX6_ballast 41 = .ok (.getfield 26, 3) := by decide +kernel
theorem dX6_ballast_44 : decode cX6_ballast 44 = .ok (.getfield 131, 3) := by decide +kernel
theorem dX6_ballast_47 : decode cX6_ballast 47 = .ok (.iadd, 1) := by decide +kernel
theorem dX6_ballast_48 : decode cX6_ballast 48 = .ok (.ireturn, 1) := by decide +kernel
set_option maxRecDepth 20000 in
theorem ggX6_draught_X2_measure : GoodIn wsX6_draught wsX2_measure := goodIn_r _ [7, 8, 9, 10, 11, 12, 13, 14, 15, 16, 17, 18, 19, 20, 21, 45, 46, 47] (by decide +kernel) (by decide +kernel)
set_option maxRecDepth 20000 in
theorem gX6_draught_X2_measure_n120 : GoodIn wsX6_draught (wsX2_measure) := ggX6_draught_X2_measure
set_option maxRecDepth 20000 in
theorem ggX6_draught_X3_wholeLoad : GoodIn wsX6_draught wsX3_wholeLoad := goodIn_r _ [25, 26, 27, 28, 29, 23, 30, 31, 32, 48, 49, 50, 51, 52] (by decide +kernel) (by decide +kernel)
set_option maxRecDepth 20000 in
theorem gX6_draught_X3_wholeLoad_n134 : GoodIn wsX6_draught (wsX3_wholeLoad) := ggX6_draught_X3_wholeLoad
set_option maxRecDepth 20000 in
theorem ggX6_draught_X2_draughtUnder : GoodIn wsX6_draught wsX2_draughtUnder := goodIn_r _ [35, 8, 45, 46] (by decide +kernel) (by decide +kernel)
set_option maxRecDepth 20000 in
theorem gX6_draught_X2_draughtUnder_n138 : GoodIn wsX6_draught (wsX2_draughtUnder) := ggX6_draught_X2_draughtUnder
theorem dX6_draught_0 : decode cX6_draught 0 = .ok (.aload_n 0, 1) := by decide +kernel
theorem dX6_draught_1 : decode cX6_draught 1 = .ok (.getfield 33, 3) := by decide +kernel
theorem dX6_draught_4 : decode cX6_draught 4 = .ok (.aload_n 0, 1) := by decide +kernel
theorem dX6_draught_5 : decode cX6_draught 5 = .ok (.getfield 10, 3) := by decide +kernel
theorem dX6_draught_8 : decode cX6_draught 8 = .ok (.invokevirtual 120, 3) := by decide +kernel
theorem dX6_draught_11 : decode cX6_draught 11 = .ok (.aload_n 0, 1) := by decide +kernel
theorem dX6_draught_12 : decode cX6_draught 12 = .ok (.getfield 33, 3) := by decide +kernel
theorem dX6_draught_15 : decode cX6_draught 15 = .ok (.aload_n 0, 1) := by decide +kernel
theorem dX6_draught_16 : decode cX6_draught 16 = .ok (.getfield 26, 3) := by decide +kernel
theorem dX6_draught_19 : decode cX6_draught 19 = .ok (.invokevirtual 134, 3) := by decide +kernel
theorem dX6_draught_22 : decode cX6_draught 22 = .ok (.invokevirtual 138, 3) := by decide +kernel
theorem dX6_draught_25 : decode cX6_draught 25 = .ok (.ireturn, 1) := by decide +kernel
set_option maxRecDepth 20000 in
theorem ggX6_trim_X2_measure : GoodIn wsX6_trim wsX2_measure := goodIn_r _ [7, 8, 9, 10, 11, 12, 13, 14, 15, 16, 17, 18, 19, 20, 21, 65, 66, 67] (by decide +kernel) (by decide +kernel)
set_option maxRecDepth 20000 in
theorem gX6_trim_X2_measure_n120 : GoodIn wsX6_trim (wsX2_measure) := ggX6_trim_X2_measure
set_option maxRecDepth 20000 in
theorem ggX6_trim_X3_wholeLoad : GoodIn wsX6_trim wsX3_wholeLoad := goodIn_r _ [25, 26, 27, 28, 29, 23, 30, 31, 32, 68, 69, 70, 71, 72] (by decide +kernel) (by decide +kernel)
set_option maxRecDepth 20000 in
theorem gX6_trim_X3_wholeLoad_n134 : GoodIn wsX6_trim (wsX3_wholeLoad) := ggX6_trim_X3_wholeLoad
set_option maxRecDepth 20000 in
theorem ggX6_trim_X3_wholeMoment : GoodIn wsX6_trim wsX3_wholeMoment := goodIn_r _ [35, 26, 36, 37, 38, 39, 23, 40, 31, 32, 41, 68, 69, 70, 71, 72] (by decide +kernel) (by decide +kernel)
set_option maxRecDepth 20000 in
theorem gX6_trim_X3_wholeMoment_n141 : GoodIn wsX6_trim (wsX3_wholeMoment) := ggX6_trim_X3_wholeMoment
set_option maxRecDepth 20000 in
theorem ggX6_trim_X2_trimUnder : GoodIn wsX6_trim wsX2_trimUnder := goodIn_r _ [44, 9, 8, 45, 46, 47, 5, 48, 49, 50, 51, 52, 53, 54, 55, 65, 66] (by decide +kernel) (by decide +kernel)
set_option maxRecDepth 20000 in
theorem gX6_trim_X2_trimUnder_n144 : GoodIn wsX6_trim (wsX2_trimUnder) := ggX6_trim_X2_trimUnder
theorem dX6_trim_0 : decode cX6_trim 0 = .ok (.aload_n 0, 1) := by decide +kernel
theorem dX6_trim_1 : decode cX6_trim 1 = .ok (.getfield 33, 3) := by decide +kernel
theorem dX6_trim_4 : decode cX6_trim 4 = .ok (.aload_n 0, 1) := by decide +kernel
theorem dX6_trim_5 : decode cX6_trim 5 = .ok (.getfield 10, 3) := by decide +kernel
theorem dX6_trim_8 : decode cX6_trim 8 = .ok (.invokevirtual 120, 3) := by decide +kernel
theorem dX6_trim_11 : decode cX6_trim 11 = .ok (.aload_n 0, 1) := by decide +kernel
theorem dX6_trim_12 : decode cX6_trim 12 = .ok (.getfield 33, 3) := by decide +kernel
theorem dX6_trim_15 : decode cX6_trim 15 = .ok (.aload_n 0, 1) := by decide +kernel
theorem dX6_trim_16 : decode cX6_trim 16 = .ok (.getfield 26, 3) := by decide +kernel
theorem dX6_trim_19 : decode cX6_trim 19 = .ok (.invokevirtual 134, 3) := by decide +kernel
theorem dX6_trim_22 : decode cX6_trim 22 = .ok (.aload_n 0, 1) := by decide +kernel
theorem dX6_trim_23 : decode cX6_trim 23 = .ok (.getfield 26, 3) := by decide +kernel
theorem dX6_trim_26 : decode cX6_trim 26 = .ok (.invokevirtual 141, 3) := by decide +kernel
theorem dX6_trim_29 : decode cX6_trim 29 = .ok (.invokevirtual 144, 3) := by decide +kernel
theorem dX6_trim_32 : decode cX6_trim 32 = .ok (.ireturn, 1) := by decide +kernel
set_option maxRecDepth 20000 in
theorem ggX6_strake_X6_refuseNoStrake : GoodIn wsX6_strake wsX6_refuseNoStrake := goodIn_ca (goodIn_r _ [5, 6, 7] (by decide +kernel) (by decide +kernel)) (goodIn_sub (fun _ h => List.mem_cons_of_mem _ (List.mem_append_right _ h)) (by decide +kernel))
set_option maxRecDepth 20000 in
theorem gX6_strake_X6_refuseNoStrake : GoodIn wsX6_strake (va_wsS RX6 147 yX6_refuseNoStrake wsX6_refuseNoStrake) := goodIn_app (goodIn_of _ (by decide +kernel)) ggX6_strake_X6_refuseNoStrake
set_option maxRecDepth 20000 in
theorem ggX6_strake_X4_strakeLength : GoodIn wsX6_strake wsX4_strakeLength := goodIn_r _ [11, 12, 13, 14, 15, 16, 26] (by decide +kernel) (by decide +kernel)
set_option maxRecDepth 20000 in
theorem gX6_strake_X4_strakeLength_n150 : GoodIn wsX6_strake (wsX4_strakeLength) := ggX6_strake_X4_strakeLength
theorem dX6_strake_0 : decode cX6_strake 0 = .ok (.iload_n 1, 1) := by decide +kernel
theorem dX6_strake_1 : decode cX6_strake 1 = .ok (.invokestatic 147, 3) := by decide +kernel
theorem dX6_strake_4 : decode cX6_strake 4 = .ok (.aload_n 0, 1) := by decide +kernel
theorem dX6_strake_5 : decode cX6_strake 5 = .ok (.getfield 10, 3) := by decide +kernel
theorem dX6_strake_8 : decode cX6_strake 8 = .ok (.iload_n 1, 1) := by decide +kernel
theorem dX6_strake_9 : decode cX6_strake 9 = .ok (.invokevirtual 150, 3) := by decide +kernel
theorem dX6_strake_12 : decode cX6_strake 12 = .ok (.ireturn, 1) := by decide +kernel
set_option maxRecDepth 20000 in
theorem ggX6_planks_X6_refuseOutside : GoodIn wsX6_planks wsX6_refuseOutside := goodIn_ca (goodIn_r _ [6, 7, 8] (by decide +kernel) (by decide +kernel)) (goodIn_sub (fun _ h => List.mem_cons_of_mem _ (List.mem_append_right _ h)) (by decide +kernel))
set_option maxRecDepth 20000 in
theorem gX6_planks_X6_refuseOutside : GoodIn wsX6_planks (va_wsS RX6 69 yX6_refuseOutside wsX6_refuseOutside) := goodIn_app (goodIn_of _ (by decide +kernel)) ggX6_planks_X6_refuseOutside
set_option maxRecDepth 20000 in
theorem ggX6_planks_X5_cutAll : GoodIn wsX6_planks wsX5_cutAll := goodIn_r _ [12, 13, 14, 15, 16, 17, 18, 19, 20, 10, 21, 22, 23, 24, 25, 26, 27, 28, 29, 30, 31, 32, 33, 34, 35, 36, 46, 47, 48, 49, 50, 51, 52, 53] (by decide +kernel) (by decide +kernel)
set_option maxRecDepth 20000 in
theorem gX6_planks_X5_cutAll_n156 : GoodIn wsX6_planks (wsX5_cutAll) := ggX6_planks_X5_cutAll
theorem dX6_planks_0 : decode cX6_planks 0 = .ok (.iload_n 1, 1) := by decide +kernel
theorem dX6_planks_1 : decode cX6_planks 1 = .ok (.bipush 100, 2) := by decide +kernel
theorem dX6_planks_3 : decode cX6_planks 3 = .ok (.sipush 4000, 3) := by decide +kernel
theorem dX6_planks_6 : decode cX6_planks 6 = .ok (.invokestatic 69, 3) := by decide +kernel
theorem dX6_planks_9 : decode cX6_planks 9 = .ok (.aload_n 0, 1) := by decide +kernel
theorem dX6_planks_10 : decode cX6_planks 10 = .ok (.getfield 40, 3) := by decide +kernel
theorem dX6_planks_13 : decode cX6_planks 13 = .ok (.iload_n 1, 1) := by decide +kernel
theorem dX6_planks_14 : decode cX6_planks 14 = .ok (.putfield 153, 3) := by decide +kernel
theorem dX6_planks_17 : decode cX6_planks 17 = .ok (.aload_n 0, 1) := by decide +kernel
theorem dX6_planks_18 : decode cX6_planks 18 = .ok (.getfield 40, 3) := by decide +kernel
theorem dX6_planks_21 : decode cX6_planks 21 = .ok (.aload_n 0, 1) := by decide +kernel
theorem dX6_planks_22 : decode cX6_planks 22 = .ok (.getfield 10, 3) := by decide +kernel
theorem dX6_planks_25 : decode cX6_planks 25 = .ok (.invokevirtual 156, 3) := by decide +kernel
theorem dX6_planks_28 : decode cX6_planks 28 = .ok (.aload_n 0, 1) := by decide +kernel
theorem dX6_planks_29 : decode cX6_planks 29 = .ok (.getfield 40, 3) := by decide +kernel
theorem dX6_planks_32 : decode cX6_planks 32 = .ok (.getfield 159, 3) := by decide +kernel
theorem dX6_planks_35 : decode cX6_planks 35 = .ok (.ireturn, 1) := by decide +kernel
set_option maxRecDepth 20000 in
theorem ggX6_plankOf_X6_refuseNoStrake : GoodIn wsX6_plankOf wsX6_refuseNoStrake := goodIn_ca (goodIn_r _ [6, 7, 8] (by decide +kernel) (by decide +kernel)) (goodIn_sub (fun _ h => List.mem_cons_of_mem _ (List.mem_append_right _ h)) (by decide +kernel))
set_option maxRecDepth 20000 in
theorem gX6_plankOf_X6_refuseNoStrake : GoodIn wsX6_plankOf (va_wsS RX6 147 yX6_refuseNoStrake wsX6_refuseNoStrake) := goodIn_app (goodIn_of _ (by decide +kernel)) ggX6_plankOf_X6_refuseNoStrake
set_option maxRecDepth 20000 in
theorem ggX6_plankOf_X5_cutAll : GoodIn wsX6_plankOf wsX5_cutAll := goodIn_r _ [12, 13, 14, 15, 16, 17, 18, 19, 20, 10, 21, 22, 23, 24, 25, 26, 27, 28, 29, 30, 31, 32, 33, 34, 35, 36, 46, 47, 48, 49, 50, 51, 52, 53] (by decide +kernel) (by decide +kernel)
set_option maxRecDepth 20000 in
theorem gX6_plankOf_X5_cutAll_n156 : GoodIn wsX6_plankOf (wsX5_cutAll) := ggX6_plankOf_X5_cutAll
theorem dX6_plankOf_0 : decode cX6_plankOf 0 = .ok (.iload_n 1, 1) := by decide +kernel
theorem dX6_plankOf_1 : decode cX6_plankOf 1 = .ok (.invokestatic 147, 3) := by decide +kernel
theorem dX6_plankOf_4 : decode cX6_plankOf 4 = .ok (.aload_n 0, 1) := by decide +kernel
theorem dX6_plankOf_5 : decode cX6_plankOf 5 = .ok (.getfield 40, 3) := by decide +kernel
theorem dX6_plankOf_8 : decode cX6_plankOf 8 = .ok (.aload_n 0, 1) := by decide +kernel
theorem dX6_plankOf_9 : decode cX6_plankOf 9 = .ok (.getfield 10, 3) := by decide +kernel
theorem dX6_plankOf_12 : decode cX6_plankOf 12 = .ok (.invokevirtual 156, 3) := by decide +kernel
theorem dX6_plankOf_15 : decode cX6_plankOf 15 = .ok (.iload_n 2, 1) := by decide +kernel
theorem dX6_plankOf_16 : decode cX6_plankOf 16 = .ok (.ifCond .eq 15, 3) := by decide +kernel
theorem dX6_plankOf_19 : decode cX6_plankOf 19 = .ok (.aload_n 0, 1) := by decide +kernel
theorem dX6_plankOf_20 : decode cX6_plankOf 20 = .ok (.getfield 40, 3) := by decide +kernel
theorem dX6_plankOf_23 : decode cX6_plankOf 23 = .ok (.getfield 162, 3) := by decide +kernel
theorem dX6_plankOf_26 : decode cX6_plankOf 26 = .ok (.iload_n 1, 1) := by decide +kernel
theorem dX6_plankOf_27 : decode cX6_plankOf 27 = .ok (.iaload, 1) := by decide +kernel
theorem dX6_plankOf_28 : decode cX6_plankOf 28 = .ok (.goto 12, 3) := by decide +kernel
theorem dX6_plankOf_31 : decode cX6_plankOf 31 = .ok (.aload_n 0, 1) := by decide +kernel
theorem dX6_plankOf_32 : decode cX6_plankOf 32 = .ok (.getfield 40, 3) := by decide +kernel
theorem dX6_plankOf_35 : decode cX6_plankOf 35 = .ok (.getfield 166, 3) := by decide +kernel
theorem dX6_plankOf_38 : decode cX6_plankOf 38 = .ok (.iload_n 1, 1) := by decide +kernel
theorem dX6_plankOf_39 : decode cX6_plankOf 39 = .ok (.iaload, 1) := by decide +kernel
theorem dX6_plankOf_40 : decode cX6_plankOf 40 = .ok (.ireturn, 1) := by decide +kernel
set_option maxRecDepth 20000 in
theorem ggX6_tide_X6_refuseOutside : GoodIn wsX6_tide wsX6_refuseOutside := goodIn_ca (goodIn_r _ [7, 8, 9] (by decide +kernel) (by decide +kernel)) (goodIn_sub (fun _ h => List.mem_cons_of_mem _ (List.mem_append_right _ h)) (by decide +kernel))
set_option maxRecDepth 20000 in
theorem gX6_tide_X6_refuseOutside : GoodIn wsX6_tide (va_wsS RX6 69 yX6_refuseOutside wsX6_refuseOutside) := goodIn_app (goodIn_of _ (by decide +kernel)) ggX6_tide_X6_refuseOutside
set_option maxRecDepth 20000 in
theorem ggX6_tide_X0_hasRoomFor : GoodIn wsX6_tide wsX0_hasRoomFor := goodIn_r _ [13, 14, 15, 16, 17, 11, 18, 19, 40, 41, 42] (by decide +kernel) (by decide +kernel)
set_option maxRecDepth 20000 in
theorem gX6_tide_X0_hasRoomFor_n169 : GoodIn wsX6_tide (wsX0_hasRoomFor) := ggX6_tide_X0_hasRoomFor
set_option maxRecDepth 20000 in
theorem ggX6_tide_X0_heightOn : GoodIn wsX6_tide wsX0_heightOn := goodIn_r _ [22, 23, 15, 16, 17, 11, 18, 14, 19, 24, 25, 26, 27, 40, 41, 42] (by decide +kernel) (by decide +kernel)
set_option maxRecDepth 20000 in
theorem gX6_tide_X0_heightOn_n175 : GoodIn wsX6_tide (wsX0_heightOn) := ggX6_tide_X0_heightOn
set_option maxRecDepth 20000 in
theorem ggX6_tide_X0_tell : GoodIn wsX6_tide wsX0_tell := goodIn_r _ [30, 14, 19, 23, 15, 16, 17, 11, 18, 40, 41, 42] (by decide +kernel) (by decide +kernel)
set_option maxRecDepth 20000 in
theorem gX6_tide_X0_tell_n178 : GoodIn wsX6_tide (wsX0_tell) := ggX6_tide_X0_tell
theorem dX6_tide_0 : decode cX6_tide 0 = .ok (.iload_n 1, 1) := by decide +kernel
theorem dX6_tide_1 : decode cX6_tide 1 = .ok (.iconst 0, 1) := by decide +kernel
theorem dX6_tide_2 : decode cX6_tide 2 = .ok (.sipush 9999, 3) := by decide +kernel
theorem dX6_tide_5 : decode cX6_tide 5 = .ok (.invokestatic 69, 3) := by decide +kernel
theorem dX6_tide_8 : decode cX6_tide 8 = .ok (.iload_n 2, 1) := by decide +kernel
theorem dX6_tide_9 : decode cX6_tide 9 = .ok (.iconst 0, 1) := by decide +kernel
theorem dX6_tide_10 : decode cX6_tide 10 = .ok (.bipush 99, 2) := by decide +kernel
theorem dX6_tide_12 : decode cX6_tide 12 = .ok (.invokestatic 69, 3) := by decide +kernel
theorem dX6_tide_15 : decode cX6_tide 15 = .ok (.aload_n 0, 1) := by decide +kernel
theorem dX6_tide_16 : decode cX6_tide 16 = .ok (.getfield 47, 3) := by decide +kernel
theorem dX6_tide_19 : decode cX6_tide 19 = .ok (.iload_n 1, 1) := by decide +kernel
theorem dX6_tide_20 : decode cX6_tide 20 = .ok (.invokevirtual 169, 3) := by decide +kernel
theorem dX6_tide_23 : decode cX6_tide 23 = .ok (.ifCond .ne 13, 3) := by decide +kernel
theorem dX6_tide_26 : decode cX6_tide 26 = .ok (.new 103, 3) := by decide +kernel
theorem dX6_tide_29 : decode cX6_tide 29 = .ok (.dup, 1) := by decide +kernel
theorem dX6_tide_30 : decode cX6_tide 30 = .ok (.ldc 173, 2) := by decide +kernel
theorem dX6_tide_32 : decode cX6_tide 32 = .ok (.invokespecial 107, 3) := by decide +kernel
theorem dX6_tide_35 : decode cX6_tide 35 = .ok (.athrow, 1) := by decide +kernel
theorem dX6_tide_36 : decode cX6_tide 36 = .ok (.aload_n 0, 1) := by decide +kernel
theorem dX6_tide_37 : decode cX6_tide 37 = .ok (.getfield 47, 3) := by decide +kernel
theorem dX6_tide_40 : decode cX6_tide 40 = .ok (.iload_n 1, 1) := by decide +kernel
theorem dX6_tide_41 : decode cX6_tide 41 = .ok (.invokevirtual 175, 3) := by decide +kernel
theorem dX6_tide_44 : decode cX6_tide 44 = .ok (.istore_n 3, 1) := by decide +kernel
theorem dX6_tide_45 : decode cX6_tide 45 = .ok (.aload_n 0, 1) := by decide +kernel
theorem dX6_tide_46 : decode cX6_tide 46 = .ok (.getfield 47, 3) := by decide +kernel
theorem dX6_tide_49 : decode cX6_tide 49 = .ok (.iload_n 1, 1) := by decide +kernel
theorem dX6_tide_50 : decode cX6_tide 50 = .ok (.iload_n 2, 1) := by decide +kernel
theorem dX6_tide_51 : decode cX6_tide 51 = .ok (.invokevirtual 178, 3) := by decide +kernel
theorem dX6_tide_54 : decode cX6_tide 54 = .ok (.iload_n 3, 1) := by decide +kernel
theorem dX6_tide_55 : decode cX6_tide 55 = .ok (.ireturn, 1) := by decide +kernel
set_option maxRecDepth 20000 in
theorem ggX6_sill_X6_refuseOutside : GoodIn wsX6_sill wsX6_refuseOutside := goodIn_ca (goodIn_r _ [5, 6, 7] (by decide +kernel) (by decide +kernel)) (goodIn_sub (fun _ h => List.mem_cons_of_mem _ (List.mem_append_right _ h)) (by decide +kernel))
set_option maxRecDepth 20000 in
theorem gX6_sill_X6_refuseOutside : GoodIn wsX6_sill (va_wsS RX6 69 yX6_refuseOutside wsX6_refuseOutside) := goodIn_app (goodIn_of _ (by decide +kernel)) ggX6_sill_X6_refuseOutside
theorem dX6_sill_0 : decode cX6_sill 0 = .ok (.iload_n 1, 1) := by decide +kernel
theorem dX6_sill_1 : decode cX6_sill 1 = .ok (.iconst 0, 1) := by decide +kernel
theorem dX6_sill_2 : decode cX6_sill 2 = .ok (.bipush 50, 2) := by decide +kernel
theorem dX6_sill_4 : decode cX6_sill 4 = .ok (.invokestatic 69, 3) := by decide +kernel
theorem dX6_sill_7 : decode cX6_sill 7 = .ok (.aload_n 0, 1) := by decide +kernel
theorem dX6_sill_8 : decode cX6_sill 8 = .ok (.getfield 51, 3) := by decide +kernel
theorem dX6_sill_11 : decode cX6_sill 11 = .ok (.istore_n 2, 1) := by decide +kernel
theorem dX6_sill_12 : decode cX6_sill 12 = .ok (.aload_n 0, 1) := by decide +kernel
theorem dX6_sill_13 : decode cX6_sill 13 = .ok (.iload_n 1, 1) := by decide +kernel
theorem dX6_sill_14 : decode cX6_sill 14 = .ok (.putfield 51, 3) := by decide +kernel
theorem dX6_sill_17 : decode cX6_sill 17 = .ok (.iload_n 2, 1) := by decide +kernel
theorem dX6_sill_18 : decode cX6_sill 18 = .ok (.ireturn, 1) := by decide +kernel
set_option maxRecDepth 20000 in
theorem ggX6_needed_X6_draught : GoodIn wsX6_needed wsX6_draught := goodIn_r _ [10, 11, 12, 13, 14, 15, 16, 17, 18, 19, 20, 21, 22, 23, 24, 25, 26, 27, 28, 29, 30, 31, 32, 33, 34, 35, 36, 37, 38, 39, 40, 41, 42, 43, 44, 45, 70, 71, 72, 73, 74, 75, 76, 77, 78, 79, 80, 81, 82, 83, 84, 85, 86] (by decide +kernel) (by decide +kernel)
set_option maxRecDepth 20000 in
theorem gX6_needed_X6_draught : GoodIn wsX6_needed (wsV RX6 182 RX6 yX6_draught wsX6_draught) := goodIn_app (goodIn_of _ (by decide +kernel)) ggX6_needed_X6_draught
set_option maxRecDepth 20000 in
theorem ggX6_needed_X6_trim : GoodIn wsX6_needed wsX6_trim := goodIn_r _ [49, 11, 12, 13, 14, 15, 16, 17, 18, 19, 20, 21, 22, 23, 24, 25, 26, 27, 28, 29, 30, 31, 32, 33, 34, 35, 36, 37, 38, 39, 40, 41, 42, 50, 51, 52, 53, 54, 55, 56, 57, 58, 59, 60, 61, 62, 43, 44, 45, 63, 64, 65, 66, 67, 68, 69, 70, 71, 72, 73, 74, 75, 76, 77, 78, 79, 80, 81, 82, 83, 84, 85, 86] (by decide +kernel) (by decide +kernel)
set_option maxRecDepth 20000 in
theorem gX6_needed_X6_trim : GoodIn wsX6_needed (wsV RX6 185 RX6 yX6_trim wsX6_trim) := goodIn_app (goodIn_of _ (by decide +kernel)) ggX6_needed_X6_trim
theorem dX6_needed_0 : decode cX6_needed 0 = .ok (.aload_n 0, 1) := by decide +kernel
theorem dX6_needed_1 : decode cX6_needed 1 = .ok (.invokevirtual 182, 3) := by decide +kernel
theorem dX6_needed_4 : decode cX6_needed 4 = .ok (.istore_n 1, 1) := by decide +kernel
theorem dX6_needed_5 : decode cX6_needed 5 = .ok (.iload_n 1, 1) := by decide +kernel
theorem dX6_needed_6 : decode cX6_needed 6 = .ok (.iconst (-1), 1) := by decide +kernel
theorem dX6_needed_7 : decode cX6_needed 7 = .ok (.if_icmp .ne 5, 3) := by decide +kernel
theorem dX6_needed_10 : decode cX6_needed 10 = .ok (.iconst (-1), 1) := by decide +kernel
theorem dX6_needed_11 : decode cX6_needed 11 = .ok (.ireturn, 1) := by decide +kernel
theorem dX6_needed_12 : decode cX6_needed 12 = .ok (.bipush 10, 2) := by decide +kernel
theorem dX6_needed_14 : decode cX6_needed 14 = .ok (.iload_n 1, 1) := by decide +kernel
theorem dX6_needed_15 : decode cX6_needed 15 = .ok (.imul, 1) := by decide +kernel
theorem dX6_needed_16 : decode cX6_needed 16 = .ok (.aload_n 0, 1) := by decide +kernel
theorem dX6_needed_17 : decode cX6_needed 17 = .ok (.getfield 51, 3) := by decide +kernel
theorem dX6_needed_20 : decode cX6_needed 20 = .ok (.iadd, 1) := by decide +kernel
theorem dX6_needed_21 : decode cX6_needed 21 = .ok (.aload_n 0, 1) := by decide +kernel
theorem dX6_needed_22 : decode cX6_needed 22 = .ok (.invokevirtual 185, 3) := by decide +kernel
theorem dX6_needed_25 : decode cX6_needed 25 = .ok (.invokestatic 188, 3) := by decide +kernel
theorem dX6_needed_28 : decode cX6_needed 28 = .ok (.bipush 10, 2) := by decide +kernel
theorem dX6_needed_30 : decode cX6_needed 30 = .ok (.idiv, 1) := by decide +kernel
theorem dX6_needed_31 : decode cX6_needed 31 = .ok (.iadd, 1) := by decide +kernel
theorem dX6_needed_32 : decode cX6_needed 32 = .ok (.ireturn, 1) := by decide +kernel
set_option maxRecDepth 20000 in
theorem ggX6_day_X6_needed : GoodIn wsX6_day wsX6_needed := goodIn_r _ [8, 9, 10, 11, 12, 13, 14, 15, 16, 7, 17, 18, 19, 20, 21, 22, 23, 24, 25, 26, 27, 28, 29, 30, 31, 32, 33, 34, 35, 36, 37, 38, 39, 40, 41, 42, 43, 44, 45, 46, 47, 48, 49, 50, 51, 52, 53, 54, 55, 56, 57, 58, 59, 60, 61, 62, 63, 64, 65, 66, 67, 68, 69, 70, 71, 72, 73, 74, 75, 76, 91, 92, 93, 94, 95, 96, 97, 98, 99, 100, 101, 102, 103, 104, 105, 106, 107] (by decide +kernel) (by decide +kernel)
set_option maxRecDepth 20000 in
theorem gX6_day_X6_needed : GoodIn wsX6_day (wsV RX6 193 RX6 yX6_needed wsX6_needed) := goodIn_app (goodIn_of _ (by decide +kernel)) ggX6_day_X6_needed
set_option maxRecDepth 20000 in
theorem ggX6_day_X0_heightOn : GoodIn wsX6_day wsX0_heightOn := goodIn_r _ [80, 81, 82, 83, 84, 78, 85, 86, 87, 88, 89, 75, 90, 108, 109, 110] (by decide +kernel) (by decide +kernel)
set_option maxRecDepth 20000 in
theorem gX6_day_X0_heightOn_n175 : GoodIn wsX6_day (wsX0_heightOn) := ggX6_day_X0_heightOn
theorem dX6_day_0 : decode cX6_day 0 = .ok (.aload_n 0, 1) := by decide +kernel
theorem dX6_day_1 : decode cX6_day 1 = .ok (.invokevirtual 193, 3) := by decide +kernel
theorem dX6_day_4 : decode cX6_day 4 = .ok (.istore_n 1, 1) := by decide +kernel
theorem dX6_day_5 : decode cX6_day 5 = .ok (.aload_n 0, 1) := by decide +kernel
theorem dX6_day_6 : decode cX6_day 6 = .ok (.getfield 58, 3) := by decide +kernel
theorem dX6_day_9 : decode cX6_day 9 = .ok (.ifCond .ne 8, 3) := by decide +kernel
theorem dX6_day_12 : decode cX6_day 12 = .ok (.iload_n 1, 1) := by decide +kernel
theorem dX6_day_13 : decode cX6_day 13 = .ok (.iconst (-1), 1) := by decide +kernel
theorem dX6_day_14 : decode cX6_day 14 = .ok (.if_icmp .ne 5, 3) := by decide +kernel
theorem dX6_day_17 : decode cX6_day 17 = .ok (.iconst (-1), 1) := by decide +kernel
theorem dX6_day_18 : decode cX6_day 18 = .ok (.ireturn, 1) := by decide +kernel
theorem dX6_day_19 : decode cX6_day 19 = .ok (.iconst 0, 1) := by decide +kernel
theorem dX6_day_20 : decode cX6_day 20 = .ok (.istore_n 2, 1) := by decide +kernel
theorem dX6_day_21 : decode cX6_day 21 = .ok (.iload_n 2, 1) := by decide +kernel
theorem dX6_day_22 : decode cX6_day 22 = .ok (.bipush 99, 2) := by decide +kernel
theorem dX6_day_24 : decode cX6_day 24 = .ok (.if_icmp .gt 33, 3) := by decide +kernel
theorem dX6_day_27 : decode cX6_day 27 = .ok (.aload_n 0, 1) := by decide +kernel
theorem dX6_day_28 : decode cX6_day 28 = .ok (.getfield 47, 3) := by decide +kernel
theorem dX6_day_31 : decode cX6_day 31 = .ok (.aload_n 0, 1) := by decide +kernel
theorem dX6_day_32 : decode cX6_day 32 = .ok (.getfield 55, 3) := by decide +kernel
theorem dX6_day_35 : decode cX6_day 35 = .ok (.iload_n 2, 1) := by decide +kernel
theorem dX6_day_36 : decode cX6_day 36 = .ok (.iadd, 1) := by decide +kernel
theorem dX6_day_37 : decode cX6_day 37 = .ok (.invokevirtual 175, 3) := by decide +kernel
theorem dX6_day_40 : decode cX6_day 40 = .ok (.iload_n 1, 1) := by decide +kernel
theorem dX6_day_41 : decode cX6_day 41 = .ok (.if_icmp .lt 10, 3) := by decide +kernel
theorem dX6_day_44 : decode cX6_day 44 = .ok (.aload_n 0, 1) := by decide +kernel
theorem dX6_day_45 : decode cX6_day 45 = .ok (.getfield 55, 3) := by decide +kernel
theorem dX6_day_48 : decode cX6_day 48 = .ok (.iload_n 2, 1) := by decide +kernel
theorem dX6_day_49 : decode cX6_day 49 = .ok (.iadd, 1) := by decide +kernel
theorem dX6_day_50 : decode cX6_day 50 = .ok (.ireturn, 1) := by decide +kernel
theorem dX6_day_51 : decode cX6_day 51 = .ok (.iinc 2 1, 3) := by decide +kernel
theorem dX6_day_54 : decode cX6_day 54 = .ok (.goto (-33), 3) := by decide +kernel
theorem dX6_day_57 : decode cX6_day 57 = .ok (.iconst (-1), 1) := by decide +kernel
theorem dX6_day_58 : decode cX6_day 58 = .ok (.ireturn, 1) := by decide +kernel
set_option maxRecDepth 20000 in
theorem ggX6_launch_X6_refuseLaunched : GoodIn wsX6_launch wsX6_refuseLaunched := goodIn_ca (goodIn_r _ [10, 1, 2, 5, 97, 98, 99, 100, 101, 102, 103, 104, 105] (by decide +kernel) (by decide +kernel)) (goodIn_sub (fun _ h => List.mem_cons_of_mem _ (List.mem_append_right _ h)) (by decide +kernel))
set_option maxRecDepth 20000 in
theorem gX6_launch_X6_refuseLaunched : GoodIn wsX6_launch (wsV RX6 73 RX6 yX6_refuseLaunched wsX6_refuseLaunched) := goodIn_app (goodIn_of _ (by decide +kernel)) ggX6_launch_X6_refuseLaunched
set_option maxRecDepth 20000 in
theorem ggX6_launch_X6_needed : GoodIn wsX6_launch wsX6_needed := goodIn_r _ [14, 15, 16, 17, 18, 19, 20, 21, 22, 9, 23, 24, 25, 26, 27, 28, 29, 30, 31, 32, 33, 34, 35, 36, 37, 38, 39, 40, 41, 42, 43, 44, 45, 46, 47, 48, 49, 50, 51, 52, 53, 54, 55, 56, 57, 58, 59, 60, 61, 62, 63, 64, 65, 66, 67, 68, 69, 70, 71, 72, 73, 74, 75, 76, 77, 78, 79, 80, 81, 82, 97, 98, 99, 100, 101, 102, 103, 104, 105, 106, 107, 108, 109, 110, 111, 112, 113] (by decide +kernel) (by decide +kernel)
set_option maxRecDepth 20000 in
theorem gX6_launch_X6_needed : GoodIn wsX6_launch (wsV RX6 193 RX6 yX6_needed wsX6_needed) := goodIn_app (goodIn_of _ (by decide +kernel)) ggX6_launch_X6_needed
set_option maxRecDepth 20000 in
theorem ggX6_launch_X0_heightOn : GoodIn wsX6_launch wsX0_heightOn := goodIn_r _ [86, 87, 88, 89, 90, 84, 91, 92, 93, 94, 95, 81, 96, 114, 115, 116] (by decide +kernel) (by decide +kernel)
set_option maxRecDepth 20000 in
theorem gX6_launch_X0_heightOn_n175 : GoodIn wsX6_launch (wsX0_heightOn) := ggX6_launch_X0_heightOn
theorem dX6_launch_0 : decode cX6_launch 0 = .ok (.aload_n 0, 1) := by decide +kernel
theorem dX6_launch_1 : decode cX6_launch 1 = .ok (.invokevirtual 73, 3) := by decide +kernel
theorem dX6_launch_4 : decode cX6_launch 4 = .ok (.aload_n 0, 1) := by decide +kernel
theorem dX6_launch_5 : decode cX6_launch 5 = .ok (.invokevirtual 193, 3) := by decide +kernel
theorem dX6_launch_8 : decode cX6_launch 8 = .ok (.istore_n 1, 1) := by decide +kernel
theorem dX6_launch_9 : decode cX6_launch 9 = .ok (.iload_n 1, 1) := by decide +kernel
theorem dX6_launch_10 : decode cX6_launch 10 = .ok (.iconst (-1), 1) := by decide +kernel
theorem dX6_launch_11 : decode cX6_launch 11 = .ok (.if_icmp .ne 13, 3) := by decide +kernel
theorem dX6_launch_14 : decode cX6_launch 14 = .ok (.new 103, 3) := by decide +kernel
theorem dX6_launch_17 : decode cX6_launch 17 = .ok (.dup, 1) := by decide +kernel
theorem dX6_launch_18 : decode cX6_launch 18 = .ok (.ldc 196, 2) := by decide +kernel
theorem dX6_launch_20 : decode cX6_launch 20 = .ok (.invokespecial 107, 3) := by decide +kernel
theorem dX6_launch_23 : decode cX6_launch 23 = .ok (.athrow, 1) := by decide +kernel
theorem dX6_launch_24 : decode cX6_launch 24 = .ok (.aload_n 0, 1) := by decide +kernel
theorem dX6_launch_25 : decode cX6_launch 25 = .ok (.getfield 47, 3) := by decide +kernel
theorem dX6_launch_28 : decode cX6_launch 28 = .ok (.aload_n 0, 1) := by decide +kernel
theorem dX6_launch_29 : decode cX6_launch 29 = .ok (.getfield 55, 3) := by decide +kernel
theorem dX6_launch_32 : decode cX6_launch 32 = .ok (.invokevirtual 175, 3) := by decide +kernel
theorem dX6_launch_35 : decode cX6_launch 35 = .ok (.iload_n 1, 1) := by decide +kernel
theorem dX6_launch_36 : decode cX6_launch 36 = .ok (.isub, 1) := by decide +kernel
theorem dX6_launch_37 : decode cX6_launch 37 = .ok (.istore_n 2, 1) := by decide +kernel
theorem dX6_launch_38 : decode cX6_launch 38 = .ok (.iload_n 2, 1) := by decide +kernel
theorem dX6_launch_39 : decode cX6_launch 39 = .ok (.ifCond .ge 13, 3) := by decide +kernel
theorem dX6_launch_42 : decode cX6_launch 42 = .ok (.new 103, 3) := by decide +kernel
theorem dX6_launch_45 : decode cX6_launch 45 = .ok (.dup, 1) := by decide +kernel
theorem dX6_launch_46 : decode cX6_launch 46 = .ok (.ldc 198, 2) := by decide +kernel
theorem dX6_launch_48 : decode cX6_launch 48 = .ok (.invokespecial 107, 3) := by decide +kernel
theorem dX6_launch_51 : decode cX6_launch 51 = .ok (.athrow, 1) := by decide +kernel
theorem dX6_launch_52 : decode cX6_launch 52 = .ok (.aload_n 0, 1) := by decide +kernel
theorem dX6_launch_53 : decode cX6_launch 53 = .ok (.iconst 1, 1) := by decide +kernel
theorem dX6_launch_54 : decode cX6_launch 54 = .ok (.putfield 58, 3) := by decide +kernel
theorem dX6_launch_57 : decode cX6_launch 57 = .ok (.iload_n 2, 1) := by decide +kernel
theorem dX6_launch_58 : decode cX6_launch 58 = .ok (.ireturn, 1) := by decide +kernel
set_option maxRecDepth 20000 in
theorem ggX6_pass_X6_refuseOutside : GoodIn wsX6_pass wsX6_refuseOutside := goodIn_ca (goodIn_r _ [7, 8, 9] (by decide +kernel) (by decide +kernel)) (goodIn_sub (fun _ h => List.mem_cons_of_mem _ (List.mem_append_right _ h)) (by decide +kernel))
set_option maxRecDepth 20000 in
theorem gX6_pass_X6_refuseOutside : GoodIn wsX6_pass (va_wsS RX6 69 yX6_refuseOutside wsX6_refuseOutside) := goodIn_app (goodIn_of _ (by decide +kernel)) ggX6_pass_X6_refuseOutside
theorem dX6_pass_0 : decode cX6_pass 0 = .ok (.iload_n 1, 1) := by decide +kernel
theorem dX6_pass_1 : decode cX6_pass 1 = .ok (.iconst 1, 1) := by decide +kernel
theorem dX6_pass_2 : decode cX6_pass 2 = .ok (.bipush 99, 2) := by decide +kernel
theorem dX6_pass_4 : decode cX6_pass 4 = .ok (.invokestatic 69, 3) := by decide +kernel
theorem dX6_pass_7 : decode cX6_pass 7 = .ok (.aload_n 0, 1) := by decide +kernel
theorem dX6_pass_8 : decode cX6_pass 8 = .ok (.getfield 55, 3) := by decide +kernel
theorem dX6_pass_11 : decode cX6_pass 11 = .ok (.iload_n 1, 1) := by decide +kernel
theorem dX6_pass_12 : decode cX6_pass 12 = .ok (.iadd, 1) := by decide +kernel
theorem dX6_pass_13 : decode cX6_pass 13 = .ok (.sipush 9000, 3) := by decide +kernel
theorem dX6_pass_16 : decode cX6_pass 16 = .ok (.if_icmp .le 13, 3) := by decide +kernel
theorem dX6_pass_19 : decode cX6_pass 19 = .ok (.new 103, 3) := by decide +kernel
theorem dX6_pass_22 : decode cX6_pass 22 = .ok (.dup, 1) := by decide +kernel
theorem dX6_pass_23 : decode cX6_pass 23 = .ok (.ldc 200, 2) := by decide +kernel
theorem dX6_pass_25 : decode cX6_pass 25 = .ok (.invokespecial 107, 3) := by decide +kernel
theorem dX6_pass_28 : decode cX6_pass 28 = .ok (.athrow, 1) := by decide +kernel
theorem dX6_pass_29 : decode cX6_pass 29 = .ok (.aload_n 0, 1) := by decide +kernel
theorem dX6_pass_30 : decode cX6_pass 30 = .ok (.dup, 1) := by decide +kernel
theorem dX6_pass_31 : decode cX6_pass 31 = .ok (.getfield 55, 3) := by decide +kernel
theorem dX6_pass_34 : decode cX6_pass 34 = .ok (.iload_n 1, 1) := by decide +kernel
theorem dX6_pass_35 : decode cX6_pass 35 = .ok (.iadd, 1) := by decide +kernel
theorem dX6_pass_36 : decode cX6_pass 36 = .ok (.putfield 55, 3) := by decide +kernel
theorem dX6_pass_39 : decode cX6_pass 39 = .ok (.aload_n 0, 1) := by decide +kernel
theorem dX6_pass_40 : decode cX6_pass 40 = .ok (.getfield 55, 3) := by decide +kernel
theorem dX6_pass_43 : decode cX6_pass 43 = .ok (.ireturn, 1) := by decide +kernel
theorem dX6_refuseNoStation_0 : decode cX6_refuseNoStation 0 = .ok (.iload_n 0, 1) := by decide +kernel
theorem dX6_refuseNoStation_1 : decode cX6_refuseNoStation 1 = .ok (.ifCond .lt 9, 3) := by decide +kernel
theorem dX6_refuseNoStation_4 : decode cX6_refuseNoStation 4 = .ok (.iload_n 0, 1) := by decide +kernel
theorem dX6_refuseNoStation_5 : decode cX6_refuseNoStation 5 = .ok (.bipush 9, 2) := by decide +kernel
theorem dX6_refuseNoStation_7 : decode cX6_refuseNoStation 7 = .ok (.if_icmp .lt 13, 3) := by decide +kernel
theorem dX6_refuseNoStation_10 : decode cX6_refuseNoStation 10 = .ok (.new 202, 3) := by decide +kernel
theorem dX6_refuseNoStation_13 : decode cX6_refuseNoStation 13 = .ok (.dup, 1) := by decide +kernel
theorem dX6_refuseNoStation_14 : decode cX6_refuseNoStation 14 = .ok (.ldc 204, 2) := by decide +kernel
theorem dX6_refuseNoStation_16 : decode cX6_refuseNoStation 16 = .ok (.invokespecial 206, 3) := by decide +kernel
theorem dX6_refuseNoStation_19 : decode cX6_refuseNoStation 19 = .ok (.athrow, 1) := by decide +kernel
theorem dX6_refuseNoStation_20 : decode cX6_refuseNoStation 20 = .ok (.return_, 1) := by decide +kernel
theorem dX6_refuseNoWaterline_0 : decode cX6_refuseNoWaterline 0 = .ok (.iload_n 0, 1) := by decide +kernel
theorem dX6_refuseNoWaterline_1 : decode cX6_refuseNoWaterline 1 = .ok (.ifCond .lt 9, 3) := by decide +kernel
theorem dX6_refuseNoWaterline_4 : decode cX6_refuseNoWaterline 4 = .ok (.iload_n 0, 1) := by decide +kernel
theorem dX6_refuseNoWaterline_5 : decode cX6_refuseNoWaterline 5 = .ok (.bipush 6, 2) := by decide +kernel
theorem dX6_refuseNoWaterline_7 : decode cX6_refuseNoWaterline 7 = .ok (.if_icmp .lt 13, 3) := by decide +kernel
theorem dX6_refuseNoWaterline_10 : decode cX6_refuseNoWaterline 10 = .ok (.new 202, 3) := by decide +kernel
theorem dX6_refuseNoWaterline_13 : decode cX6_refuseNoWaterline 13 = .ok (.dup, 1) := by decide +kernel
theorem dX6_refuseNoWaterline_14 : decode cX6_refuseNoWaterline 14 = .ok (.ldc 207, 2) := by decide +kernel
theorem dX6_refuseNoWaterline_16 : decode cX6_refuseNoWaterline 16 = .ok (.invokespecial 206, 3) := by decide +kernel
theorem dX6_refuseNoWaterline_19 : decode cX6_refuseNoWaterline 19 = .ok (.athrow, 1) := by decide +kernel
theorem dX6_refuseNoWaterline_20 : decode cX6_refuseNoWaterline 20 = .ok (.return_, 1) := by decide +kernel
theorem dX6_refuseNoStrake_0 : decode cX6_refuseNoStrake 0 = .ok (.iload_n 0, 1) := by decide +kernel
theorem dX6_refuseNoStrake_1 : decode cX6_refuseNoStrake 1 = .ok (.ifCond .lt 8, 3) := by decide +kernel
theorem dX6_refuseNoStrake_4 : decode cX6_refuseNoStrake 4 = .ok (.iload_n 0, 1) := by decide +kernel
theorem dX6_refuseNoStrake_5 : decode cX6_refuseNoStrake 5 = .ok (.iconst 5, 1) := by decide +kernel
theorem dX6_refuseNoStrake_6 : decode cX6_refuseNoStrake 6 = .ok (.if_icmp .lt 13, 3) := by decide +kernel
theorem dX6_refuseNoStrake_9 : decode cX6_refuseNoStrake 9 = .ok (.new 202, 3) := by decide +kernel
theorem dX6_refuseNoStrake_12 : decode cX6_refuseNoStrake 12 = .ok (.dup, 1) := by decide +kernel
theorem dX6_refuseNoStrake_13 : decode cX6_refuseNoStrake 13 = .ok (.ldc 209, 2) := by decide +kernel
theorem dX6_refuseNoStrake_15 : decode cX6_refuseNoStrake 15 = .ok (.invokespecial 206, 3) := by decide +kernel
theorem dX6_refuseNoStrake_18 : decode cX6_refuseNoStrake 18 = .ok (.athrow, 1) := by decide +kernel
theorem dX6_refuseNoStrake_19 : decode cX6_refuseNoStrake 19 = .ok (.return_, 1) := by decide +kernel
theorem dX6_refuseNoWeight_0 : decode cX6_refuseNoWeight 0 = .ok (.iload_n 1, 1) := by decide +kernel
theorem dX6_refuseNoWeight_1 : decode cX6_refuseNoWeight 1 = .ok (.ifCond .lt 14, 3) := by decide +kernel
theorem dX6_refuseNoWeight_4 : decode cX6_refuseNoWeight 4 = .ok (.iload_n 1, 1) := by decide +kernel
theorem dX6_refuseNoWeight_5 : decode cX6_refuseNoWeight 5 = .ok (.aload_n 0, 1) := by decide +kernel
theorem dX6_refuseNoWeight_6 : decode cX6_refuseNoWeight 6 = .ok (.getfield 26, 3) := by decide +kernel
theorem dX6_refuseNoWeight_9 : decode cX6_refuseNoWeight 9 = .ok (.getfield 211, 3) := by decide +kernel
theorem dX6_refuseNoWeight_12 : decode cX6_refuseNoWeight 12 = .ok (.if_icmp .lt 13, 3) := by decide +kernel
theorem dX6_refuseNoWeight_15 : decode cX6_refuseNoWeight 15 = .ok (.new 202, 3) := by decide +kernel
theorem dX6_refuseNoWeight_18 : decode cX6_refuseNoWeight 18 = .ok (.dup, 1) := by decide +kernel
theorem dX6_refuseNoWeight_19 : decode cX6_refuseNoWeight 19 = .ok (.ldc 214, 2) := by decide +kernel
theorem dX6_refuseNoWeight_21 : decode cX6_refuseNoWeight 21 = .ok (.invokespecial 206, 3) := by decide +kernel
theorem dX6_refuseNoWeight_24 : decode cX6_refuseNoWeight 24 = .ok (.athrow, 1) := by decide +kernel
theorem dX6_refuseNoWeight_25 : decode cX6_refuseNoWeight 25 = .ok (.return_, 1) := by decide +kernel
theorem dX6_refuseOutside_0 : decode cX6_refuseOutside 0 = .ok (.iload_n 0, 1) := by decide +kernel
theorem dX6_refuseOutside_1 : decode cX6_refuseOutside 1 = .ok (.iload_n 1, 1) := by decide +kernel
theorem dX6_refuseOutside_2 : decode cX6_refuseOutside 2 = .ok (.if_icmp .lt 8, 3) := by decide +kernel
theorem dX6_refuseOutside_5 : decode cX6_refuseOutside 5 = .ok (.iload_n 0, 1) := by decide +kernel
theorem dX6_refuseOutside_6 : decode cX6_refuseOutside 6 = .ok (.iload_n 2, 1) := by decide +kernel
theorem dX6_refuseOutside_7 : decode cX6_refuseOutside 7 = .ok (.if_icmp .le 13, 3) := by decide +kernel
theorem dX6_refuseOutside_10 : decode cX6_refuseOutside 10 = .ok (.new 216, 3) := by decide +kernel
theorem dX6_refuseOutside_13 : decode cX6_refuseOutside 13 = .ok (.dup, 1) := by decide +kernel
theorem dX6_refuseOutside_14 : decode cX6_refuseOutside 14 = .ok (.ldc 218, 2) := by decide +kernel
theorem dX6_refuseOutside_16 : decode cX6_refuseOutside 16 = .ok (.invokespecial 220, 3) := by decide +kernel
theorem dX6_refuseOutside_19 : decode cX6_refuseOutside 19 = .ok (.athrow, 1) := by decide +kernel
theorem dX6_refuseOutside_20 : decode cX6_refuseOutside 20 = .ok (.return_, 1) := by decide +kernel
theorem dX6_refuseLaunched_0 : decode cX6_refuseLaunched 0 = .ok (.aload_n 0, 1) := by decide +kernel
theorem dX6_refuseLaunched_1 : decode cX6_refuseLaunched 1 = .ok (.getfield 58, 3) := by decide +kernel
theorem dX6_refuseLaunched_4 : decode cX6_refuseLaunched 4 = .ok (.ifCond .eq 13, 3) := by decide +kernel
theorem dX6_refuseLaunched_7 : decode cX6_refuseLaunched 7 = .ok (.new 103, 3) := by decide +kernel
theorem dX6_refuseLaunched_10 : decode cX6_refuseLaunched 10 = .ok (.dup, 1) := by decide +kernel
theorem dX6_refuseLaunched_11 : decode cX6_refuseLaunched 11 = .ok (.ldc 221, 2) := by decide +kernel
theorem dX6_refuseLaunched_13 : decode cX6_refuseLaunched 13 = .ok (.invokespecial 107, 3) := by decide +kernel
theorem dX6_refuseLaunched_16 : decode cX6_refuseLaunched 16 = .ok (.athrow, 1) := by decide +kernel
theorem dX6_refuseLaunched_17 : decode cX6_refuseLaunched 17 = .ok (.return_, 1) := by decide +kernel
theorem dX6_squareOfBend_0 : decode cX6_squareOfBend 0 = .ok (.iload_n 0, 1) := by decide +kernel
theorem dX6_squareOfBend_1 : decode cX6_squareOfBend 1 = .ok (.iload_n 2, 1) := by decide +kernel
theorem dX6_squareOfBend_2 : decode cX6_squareOfBend 2 = .ok (.iadd, 1) := by decide +kernel
theorem dX6_squareOfBend_3 : decode cX6_squareOfBend 3 = .ok (.iconst 2, 1) := by decide +kernel
theorem dX6_squareOfBend_4 : decode cX6_squareOfBend 4 = .ok (.iload_n 1, 1) := by decide +kernel
theorem dX6_squareOfBend_5 : decode cX6_squareOfBend 5 = .ok (.imul, 1) := by decide +kernel
theorem dX6_squareOfBend_6 : decode cX6_squareOfBend 6 = .ok (.isub, 1) := by decide +kernel
theorem dX6_squareOfBend_7 : decode cX6_squareOfBend 7 = .ok (.istore_n 3, 1) := by decide +kernel
theorem dX6_squareOfBend_8 : decode cX6_squareOfBend 8 = .ok (.iload_n 3, 1) := by decide +kernel
theorem dX6_squareOfBend_9 : decode cX6_squareOfBend 9 = .ok (.iload_n 3, 1) := by decide +kernel
theorem dX6_squareOfBend_10 : decode cX6_squareOfBend 10 = .ok (.imul, 1) := by decide +kernel
theorem dX6_squareOfBend_11 : decode cX6_squareOfBend 11 = .ok (.ireturn, 1) := by decide +kernel
set_option maxRecDepth 20000 in
theorem ggX6_bendOfLine_X6_squareOfBend : GoodIn wsX6_bendOfLine wsX6_squareOfBend := goodIn_r _ [4] (by decide +kernel) (by decide +kernel)
set_option maxRecDepth 20000 in
theorem gX6_bendOfLine_X6_squareOfBend : GoodIn wsX6_bendOfLine (va_wsS RX6 223 yX6_squareOfBend wsX6_squareOfBend) := goodIn_app (goodIn_of _ (by decide +kernel)) ggX6_bendOfLine_X6_squareOfBend
theorem dX6_bendOfLine_0 : decode cX6_bendOfLine 0 = .ok (.iconst 0, 1) := by decide +kernel
theorem dX6_bendOfLine_1 : decode cX6_bendOfLine 1 = .ok (.istore_n 1, 1) := by decide +kernel
theorem dX6_bendOfLine_2 : decode cX6_bendOfLine 2 = .ok (.iconst 1, 1) := by decide +kernel
theorem dX6_bendOfLine_3 : decode cX6_bendOfLine 3 = .ok (.istore_n 2, 1) := by decide +kernel
theorem dX6_bendOfLine_4 : decode cX6_bendOfLine 4 = .ok (.iload_n 2, 1) := by decide +kernel
theorem dX6_bendOfLine_5 : decode cX6_bendOfLine 5 = .ok (.bipush 8, 2) := by decide +kernel
theorem dX6_bendOfLine_7 : decode cX6_bendOfLine 7 = .ok (.if_icmp .ge 28, 3) := by decide +kernel
theorem dX6_bendOfLine_10 : decode cX6_bendOfLine 10 = .ok (.iload_n 1, 1) := by decide +kernel
theorem dX6_bendOfLine_11 : decode cX6_bendOfLine 11 = .ok (.aload_n 0, 1) := by decide +kernel
theorem dX6_bendOfLine_12 : decode cX6_bendOfLine 12 = .ok (.iload_n 2, 1) := by decide +kernel
theorem dX6_bendOfLine_13 : decode cX6_bendOfLine 13 = .ok (.iconst 1, 1) := by decide +kernel
theorem dX6_bendOfLine_14 : decode cX6_bendOfLine 14 = .ok (.isub, 1) := by decide +kernel
theorem dX6_bendOfLine_15 : decode cX6_bendOfLine 15 = .ok (.iaload, 1) := by decide +kernel
theorem dX6_bendOfLine_16 : decode cX6_bendOfLine 16 = .ok (.aload_n 0, 1) := by decide +kernel
theorem dX6_bendOfLine_17 : decode cX6_bendOfLine 17 = .ok (.iload_n 2, 1) := by decide +kernel
theorem dX6_bendOfLine_18 : decode cX6_bendOfLine 18 = .ok (.iaload, 1) := by decide +kernel
theorem dX6_bendOfLine_19 : decode cX6_bendOfLine 19 = .ok (.aload_n 0, 1) := by decide +kernel
theorem dX6_bendOfLine_20 : decode cX6_bendOfLine 20 = .ok (.iload_n 2, 1) := by decide +kernel
theorem dX6_bendOfLine_21 : decode cX6_bendOfLine 21 = .ok (.iconst 1, 1) := by decide +kernel
theorem dX6_bendOfLine_22 : decode cX6_bendOfLine 22 = .ok (.iadd, 1) := by decide +kernel
theorem dX6_bendOfLine_23 : decode cX6_bendOfLine 23 = .ok (.iaload, 1) := by decide +kernel
theorem dX6_bendOfLine_24 : decode cX6_bendOfLine 24 = .ok (.invokestatic 223, 3) := by decide +kernel
theorem dX6_bendOfLine_27 : decode cX6_bendOfLine 27 = .ok (.iadd, 1) := by decide +kernel
theorem dX6_bendOfLine_28 : decode cX6_bendOfLine 28 = .ok (.istore_n 1, 1) := by decide +kernel
theorem dX6_bendOfLine_29 : decode cX6_bendOfLine 29 = .ok (.iinc 2 1, 3) := by decide +kernel
theorem dX6_bendOfLine_32 : decode cX6_bendOfLine 32 = .ok (.goto (-28), 3) := by decide +kernel
theorem dX6_bendOfLine_35 : decode cX6_bendOfLine 35 = .ok (.iload_n 1, 1) := by decide +kernel
theorem dX6_bendOfLine_36 : decode cX6_bendOfLine 36 = .ok (.ireturn, 1) := by decide +kernel
theorem dJ9_floorDiv_7cf53_0 : decode cJ9_floorDiv_7cf53 0 = .ok (.iload_n 0, 1) := by decide +kernel
theorem dJ9_floorDiv_7cf53_1 : decode cJ9_floorDiv_7cf53 1 = .ok (.iload_n 1, 1) := by decide +kernel
theorem dJ9_floorDiv_7cf53_2 : decode cJ9_floorDiv_7cf53 2 = .ok (.idiv, 1) := by decide +kernel
theorem dJ9_floorDiv_7cf53_3 : decode cJ9_floorDiv_7cf53 3 = .ok (.istore_n 2, 1) := by decide +kernel
theorem dJ9_floorDiv_7cf53_4 : decode cJ9_floorDiv_7cf53 4 = .ok (.iload_n 0, 1) := by decide +kernel
theorem dJ9_floorDiv_7cf53_5 : decode cJ9_floorDiv_7cf53 5 = .ok (.iload_n 1, 1) := by decide +kernel
theorem dJ9_floorDiv_7cf53_6 : decode cJ9_floorDiv_7cf53 6 = .ok (.ixor, 1) := by decide +kernel
theorem dJ9_floorDiv_7cf53_7 : decode cJ9_floorDiv_7cf53 7 = .ok (.ifCond .ge 14, 3) := by decide +kernel
theorem dJ9_floorDiv_7cf53_10 : decode cJ9_floorDiv_7cf53 10 = .ok (.iload_n 2, 1) := by decide +kernel
theorem dJ9_floorDiv_7cf53_11 : decode cJ9_floorDiv_7cf53 11 = .ok (.iload_n 1, 1) := by decide +kernel
theorem dJ9_floorDiv_7cf53_12 : decode cJ9_floorDiv_7cf53 12 = .ok (.imul, 1) := by decide +kernel
theorem dJ9_floorDiv_7cf53_13 : decode cJ9_floorDiv_7cf53 13 = .ok (.iload_n 0, 1) := by decide +kernel
theorem dJ9_floorDiv_7cf53_14 : decode cJ9_floorDiv_7cf53 14 = .ok (.if_icmp .eq 7, 3) := by decide +kernel
theorem dJ9_floorDiv_7cf53_17 : decode cJ9_floorDiv_7cf53 17 = .ok (.iload_n 2, 1) := by decide +kernel
theorem dJ9_floorDiv_7cf53_18 : decode cJ9_floorDiv_7cf53 18 = .ok (.iconst 1, 1) := by decide +kernel
theorem dJ9_floorDiv_7cf53_19 : decode cJ9_floorDiv_7cf53 19 = .ok (.isub, 1) := by decide +kernel
theorem dJ9_floorDiv_7cf53_20 : decode cJ9_floorDiv_7cf53 20 = .ok (.ireturn, 1) := by decide +kernel
theorem dJ9_floorDiv_7cf53_21 : decode cJ9_floorDiv_7cf53 21 = .ok (.iload_n 2, 1) := by decide +kernel
theorem dJ9_floorDiv_7cf53_22 : decode cJ9_floorDiv_7cf53 22 = .ok (.ireturn, 1) := by decide +kernel
theorem dJ9_floorMod_7cf53_0 : decode cJ9_floorMod_7cf53 0 = .ok (.iload_n 0, 1) := by decide +kernel
theorem dJ9_floorMod_7cf53_1 : decode cJ9_floorMod_7cf53 1 = .ok (.iload_n 1, 1) := by decide +kernel
theorem dJ9_floorMod_7cf53_2 : decode cJ9_floorMod_7cf53 2 = .ok (.irem, 1) := by decide +kernel
theorem dJ9_floorMod_7cf53_3 : decode cJ9_floorMod_7cf53 3 = .ok (.istore_n 2, 1) := by decide +kernel
theorem dJ9_floorMod_7cf53_4 : decode cJ9_floorMod_7cf53 4 = .ok (.iload_n 0, 1) := by decide +kernel
theorem dJ9_floorMod_7cf53_5 : decode cJ9_floorMod_7cf53 5 = .ok (.iload_n 1, 1) := by decide +kernel
theorem dJ9_floorMod_7cf53_6 : decode cJ9_floorMod_7cf53 6 = .ok (.ixor, 1) := by decide +kernel
theorem dJ9_floorMod_7cf53_7 : decode cJ9_floorMod_7cf53 7 = .ok (.ifCond .ge 11, 3) := by decide +kernel
theorem dJ9_floorMod_7cf53_10 : decode cJ9_floorMod_7cf53 10 = .ok (.iload_n 2, 1) := by decide +kernel
theorem dJ9_floorMod_7cf53_11 : decode cJ9_floorMod_7cf53 11 = .ok (.ifCond .eq 7, 3) := by decide +kernel
theorem dJ9_floorMod_7cf53_14 : decode cJ9_floorMod_7cf53 14 = .ok (.iload_n 2, 1) := by decide +kernel
theorem dJ9_floorMod_7cf53_15 : decode cJ9_floorMod_7cf53 15 = .ok (.iload_n 1, 1) := by decide +kernel
theorem dJ9_floorMod_7cf53_16 : decode cJ9_floorMod_7cf53 16 = .ok (.iadd, 1) := by decide +kernel
theorem dJ9_floorMod_7cf53_17 : decode cJ9_floorMod_7cf53 17 = .ok (.ireturn, 1) := by decide +kernel
theorem dJ9_floorMod_7cf53_18 : decode cJ9_floorMod_7cf53 18 = .ok (.iload_n 2, 1) := by decide +kernel
theorem dJ9_floorMod_7cf53_19 : decode cJ9_floorMod_7cf53 19 = .ok (.ireturn, 1) := by decide +kernel
theorem dJ9_abs_0f7a4_0 : decode cJ9_abs_0f7a4 0 = .ok (.iload_n 0, 1) := by decide +kernel
theorem dJ9_abs_0f7a4_1 : decode cJ9_abs_0f7a4 1 = .ok (.ifCond .ge 8, 3) := by decide +kernel
theorem dJ9_abs_0f7a4_4 : decode cJ9_abs_0f7a4 4 = .ok (.iload_n 0, 1) := by decide +kernel
theorem dJ9_abs_0f7a4_5 : decode cJ9_abs_0f7a4 5 = .ok (.ineg, 1) := by decide +kernel
theorem dJ9_abs_0f7a4_6 : decode cJ9_abs_0f7a4 6 = .ok (.goto 4, 3) := by decide +kernel
theorem dJ9_abs_0f7a4_9 : decode cJ9_abs_0f7a4 9 = .ok (.iload_n 0, 1) := by decide +kernel
theorem dJ9_abs_0f7a4_10 : decode cJ9_abs_0f7a4 10 = .ok (.ireturn, 1) := by decide +kernel
theorem dJ9_max_7cf53_0 : decode cJ9_max_7cf53 0 = .ok (.iload_n 0, 1) := by decide +kernel
theorem dJ9_max_7cf53_1 : decode cJ9_max_7cf53 1 = .ok (.iload_n 1, 1) := by decide +kernel
theorem dJ9_max_7cf53_2 : decode cJ9_max_7cf53 2 = .ok (.if_icmp .lt 7, 3) := by decide +kernel
theorem dJ9_max_7cf53_5 : decode cJ9_max_7cf53 5 = .ok (.iload_n 0, 1) := by decide +kernel
theorem dJ9_max_7cf53_6 : decode cJ9_max_7cf53 6 = .ok (.goto 4, 3) := by decide +kernel
theorem dJ9_max_7cf53_9 : decode cJ9_max_7cf53 9 = .ok (.iload_n 1, 1) := by decide +kernel
theorem dJ9_max_7cf53_10 : decode cJ9_max_7cf53 10 = .ok (.ireturn, 1) := by decide +kernel
theorem dJ9_min_7cf53_0 : decode cJ9_min_7cf53 0 = .ok (.iload_n 0, 1) := by decide +kernel
theorem dJ9_min_7cf53_1 : decode cJ9_min_7cf53 1 = .ok (.iload_n 1, 1) := by decide +kernel
theorem dJ9_min_7cf53_2 : decode cJ9_min_7cf53 2 = .ok (.if_icmp .gt 7, 3) := by decide +kernel
theorem dJ9_min_7cf53_5 : decode cJ9_min_7cf53 5 = .ok (.iload_n 0, 1) := by decide +kernel
theorem dJ9_min_7cf53_6 : decode cJ9_min_7cf53 6 = .ok (.goto 4, 3) := by decide +kernel
theorem dJ9_min_7cf53_9 : decode cJ9_min_7cf53 9 = .ok (.iload_n 1, 1) := by decide +kernel
theorem dJ9_min_7cf53_10 : decode cJ9_min_7cf53 10 = .ok (.ireturn, 1) := by decide +kernel
theorem dL_cell_0 : decode cL_cell 0 = .ok (.iload_n 1, 1) := by decide +kernel
theorem dL_cell_1 : decode cL_cell 1 = .ok (.aload_n 0, 1) := by decide +kernel
theorem dL_cell_2 : decode cL_cell 2 = .ok (.arraylength, 1) := by decide +kernel
theorem dL_cell_3 : decode cL_cell 3 = .ok (.if_icmp .ge 9, 3) := by decide +kernel
theorem dL_cell_6 : decode cL_cell 6 = .ok (.aload_n 0, 1) := by decide +kernel
theorem dL_cell_7 : decode cL_cell 7 = .ok (.iload_n 1, 1) := by decide +kernel
theorem dL_cell_8 : decode cL_cell 8 = .ok (.iaload, 1) := by decide +kernel
theorem dL_cell_9 : decode cL_cell 9 = .ok (.goto 10, 3) := by decide +kernel
theorem dL_cell_12 : decode cL_cell 12 = .ok (.ldc 7, 2) := by decide +kernel
theorem dL_cell_14 : decode cL_cell 14 = .ok (.iload_n 1, 1) := by decide +kernel
theorem dL_cell_15 : decode cL_cell 15 = .ok (.bipush 11, 2) := by decide +kernel
theorem dL_cell_17 : decode cL_cell 17 = .ok (.iadd, 1) := by decide +kernel
theorem dL_cell_18 : decode cL_cell 18 = .ok (.imul, 1) := by decide +kernel
theorem dL_cell_19 : decode cL_cell 19 = .ok (.ireturn, 1) := by decide +kernel
theorem dL_low_0 : decode cL_low 0 = .ok (.iload_n 0, 1) := by decide +kernel
theorem dL_low_1 : decode cL_low 1 = .ok (.iconst 1, 1) := by decide +kernel
theorem dL_low_2 : decode cL_low 2 = .ok (.iushr, 1) := by decide +kernel
theorem dL_low_3 : decode cL_low 3 = .ok (.iload_n 1, 1) := by decide +kernel
theorem dL_low_4 : decode cL_low 4 = .ok (.irem, 1) := by decide +kernel
theorem dL_low_5 : decode cL_low 5 = .ok (.ireturn, 1) := by decide +kernel
set_option maxRecDepth 20000 in
theorem ggL_offset_X6_offset : GoodIn wsL_offset wsX6_offset := goodIn_ca (goodIn_ca (goodIn_ca (goodIn_r _ [11, 12, 13, 14, 10, 15, 16, 17, 18, 19, 20, 21, 22, 23, 24, 25, 26, 27, 28, 29, 30, 31, 32, 33, 34, 35, 36, 37, 38, 39, 40, 41, 42] (by decide +kernel) (by decide +kernel)) (goodIn_sub (fun _ h => List.mem_cons_of_mem _ (List.mem_append_left _ (List.mem_append_left _ (List.mem_append_right _ h)))) (by decide +kernel))) (goodIn_sub (fun _ h => List.mem_cons_of_mem _ (List.mem_append_left _ (List.mem_append_right _ h))) (by decide +kernel))) (goodIn_sub (fun _ h => List.mem_cons_of_mem _ (List.mem_append_right _ h)) (by decide +kernel))
set_option maxRecDepth 20000 in
theorem gL_offset_X6_offset : GoodIn wsL_offset (wsV RL 8 RX6 yX6_offset wsX6_offset) := goodIn_app (goodIn_of _ (by decide +kernel)) ggL_offset_X6_offset
theorem dL_offset_0 : decode cL_offset 0 = .ok (.aload_n 0, 1) := by decide +kernel
theorem dL_offset_1 : decode cL_offset 1 = .ok (.iload_n 1, 1) := by decide +kernel
theorem dL_offset_2 : decode cL_offset 2 = .ok (.iload_n 2, 1) := by decide +kernel
theorem dL_offset_3 : decode cL_offset 3 = .ok (.iload_n 3, 1) := by decide +kernel
theorem dL_offset_4 : decode cL_offset 4 = .ok (.invokevirtual 8, 3) := by decide +kernel
theorem dL_offset_7 : decode cL_offset 7 = .ok (.istore 4, 2) := by decide +kernel
theorem dL_offset_9 : decode cL_offset 9 = .ok (.goto 18, 3) := by decide +kernel
theorem dL_offset_12 : decode cL_offset 12 = .ok (.astore 5, 2) := by decide +kernel
theorem dL_offset_14 : decode cL_offset 14 = .ok (.ldc 16, 2) := by decide +kernel
theorem dL_offset_16 : decode cL_offset 16 = .ok (.ireturn, 1) := by decide +kernel
theorem dL_offset_17 : decode cL_offset 17 = .ok (.astore 5, 2) := by decide +kernel
theorem dL_offset_19 : decode cL_offset 19 = .ok (.ldc 19, 2) := by decide +kernel
theorem dL_offset_21 : decode cL_offset 21 = .ok (.ireturn, 1) := by decide +kernel
theorem dL_offset_22 : decode cL_offset 22 = .ok (.astore 5, 2) := by decide +kernel
theorem dL_offset_24 : decode cL_offset 24 = .ok (.ldc 22, 2) := by decide +kernel
theorem dL_offset_26 : decode cL_offset 26 = .ok (.ireturn, 1) := by decide +kernel
theorem dL_offset_27 : decode cL_offset 27 = .ok (.iload 4, 2) := by decide +kernel
theorem dL_offset_29 : decode cL_offset 29 = .ok (.ireturn, 1) := by decide +kernel
set_option maxRecDepth 20000 in
theorem ggL_half_X6_half : GoodIn wsL_half wsX6_half := goodIn_ca (goodIn_r _ [7, 8, 9, 10, 6, 11, 12, 13, 14, 15, 16, 17, 18, 19, 20, 21, 22, 23, 24, 25, 26] (by decide +kernel) (by decide +kernel)) (goodIn_sub (fun _ h => List.mem_cons_of_mem _ (List.mem_append_right _ h)) (by decide +kernel))
set_option maxRecDepth 20000 in
theorem gL_half_X6_half : GoodIn wsL_half (wsV RL 23 RX6 yX6_half wsX6_half) := goodIn_app (goodIn_of _ (by decide +kernel)) ggL_half_X6_half
theorem dL_half_0 : decode cL_half 0 = .ok (.aload_n 0, 1) := by decide +kernel
theorem dL_half_1 : decode cL_half 1 = .ok (.iload_n 1, 1) := by decide +kernel
theorem dL_half_2 : decode cL_half 2 = .ok (.iload_n 2, 1) := by decide +kernel
theorem dL_half_3 : decode cL_half 3 = .ok (.invokevirtual 23, 3) := by decide +kernel
theorem dL_half_6 : decode cL_half 6 = .ok (.istore_n 3, 1) := by decide +kernel
theorem dL_half_7 : decode cL_half 7 = .ok (.goto 8, 3) := by decide +kernel
theorem dL_half_10 : decode cL_half 10 = .ok (.astore 4, 2) := by decide +kernel
theorem dL_half_12 : decode cL_half 12 = .ok (.ldc 16, 2) := by decide +kernel
theorem dL_half_14 : decode cL_half 14 = .ok (.ireturn, 1) := by decide +kernel
theorem dL_half_15 : decode cL_half 15 = .ok (.iload_n 3, 1) := by decide +kernel
theorem dL_half_16 : decode cL_half 16 = .ok (.ireturn, 1) := by decide +kernel
set_option maxRecDepth 20000 in
theorem ggL_bend_X6_bend : GoodIn wsL_bend wsX6_bend := goodIn_ca (goodIn_r _ [7, 8, 9, 10, 6, 11, 12, 13, 14, 15, 16, 17, 18, 19, 20, 21, 22, 23, 24, 25, 26, 27, 28, 29] (by decide +kernel) (by decide +kernel)) (goodIn_sub (fun _ h => List.mem_cons_of_mem _ (List.mem_append_right _ h)) (by decide +kernel))
set_option maxRecDepth 20000 in
theorem gL_bend_X6_bend : GoodIn wsL_bend (wsV RL 27 RX6 yX6_bend wsX6_bend) := goodIn_app (goodIn_of _ (by decide +kernel)) ggL_bend_X6_bend
theorem dL_bend_0 : decode cL_bend 0 = .ok (.aload_n 0, 1) := by decide +kernel
theorem dL_bend_1 : decode cL_bend 1 = .ok (.iload_n 1, 1) := by decide +kernel
theorem dL_bend_2 : decode cL_bend 2 = .ok (.invokevirtual 27, 3) := by decide +kernel
theorem dL_bend_5 : decode cL_bend 5 = .ok (.istore_n 2, 1) := by decide +kernel
theorem dL_bend_6 : decode cL_bend 6 = .ok (.goto 7, 3) := by decide +kernel
theorem dL_bend_9 : decode cL_bend 9 = .ok (.astore_n 3, 1) := by decide +kernel
theorem dL_bend_10 : decode cL_bend 10 = .ok (.ldc 16, 2) := by decide +kernel
theorem dL_bend_12 : decode cL_bend 12 = .ok (.ireturn, 1) := by decide +kernel
theorem dL_bend_13 : decode cL_bend 13 = .ok (.iload_n 2, 1) := by decide +kernel
theorem dL_bend_14 : decode cL_bend 14 = .ok (.ireturn, 1) := by decide +kernel
set_option maxRecDepth 20000 in
theorem ggL_fair_X6_fair : GoodIn wsL_fair wsX6_fair := goodIn_ca (goodIn_ca (goodIn_ca (goodIn_r _ [11, 12, 13, 14, 15, 10, 16, 17, 18, 19, 20, 21, 22, 23, 24, 25, 26, 27, 28, 29, 30, 31, 32, 33, 34, 35, 36, 37, 38, 39, 40, 41, 42, 43, 44, 45, 46, 47, 48, 49, 50, 51, 52, 53, 54, 55, 56, 57, 58, 59, 60, 61, 62, 63, 64, 65, 66, 67, 68, 69, 70, 71, 72, 73, 74, 75, 76, 77, 78, 79, 80] (by decide +kernel) (by decide +kernel)) (goodIn_sub (fun _ h => List.mem_cons_of_mem _ (List.mem_append_left _ (List.mem_append_left _ (List.mem_append_right _ h)))) (by decide +kernel))) (goodIn_sub (fun _ h => List.mem_cons_of_mem _ (List.mem_append_left _ (List.mem_append_right _ h))) (by decide +kernel))) (goodIn_sub (fun _ h => List.mem_cons_of_mem _ (List.mem_append_right _ h)) (by decide +kernel))
set_option maxRecDepth 20000 in
theorem gL_fair_X6_fair : GoodIn wsL_fair (wsV RL 31 RX6 yX6_fair wsX6_fair) := goodIn_app (goodIn_of _ (by decide +kernel)) ggL_fair_X6_fair
theorem dL_fair_0 : decode cL_fair 0 = .ok (.aload_n 0, 1) := by decide +kernel
theorem dL_fair_1 : decode cL_fair 1 = .ok (.iload_n 1, 1) := by decide +kernel
theorem dL_fair_2 : decode cL_fair 2 = .ok (.iload_n 2, 1) := by decide +kernel
theorem dL_fair_3 : decode cL_fair 3 = .ok (.invokevirtual 31, 3) := by decide +kernel
theorem dL_fair_6 : decode cL_fair 6 = .ok (.istore_n 3, 1) := by decide +kernel
theorem dL_fair_7 : decode cL_fair 7 = .ok (.goto 18, 3) := by decide +kernel
theorem dL_fair_10 : decode cL_fair 10 = .ok (.astore 4, 2) := by decide +kernel
