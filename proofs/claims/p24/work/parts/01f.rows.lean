theorem dL_fair_12 : decode cL_fair 12 = .ok (.ldc 16, 2) := by decide +kernel
theorem dL_fair_14 : decode cL_fair 14 = .ok (.ireturn, 1) := by decide +kernel
theorem dL_fair_15 : decode cL_fair 15 = .ok (.astore 4, 2) := by decide +kernel
theorem dL_fair_17 : decode cL_fair 17 = .ok (.ldc 19, 2) := by decide +kernel
theorem dL_fair_19 : decode cL_fair 19 = .ok (.ireturn, 1) := by decide +kernel
theorem dL_fair_20 : decode cL_fair 20 = .ok (.astore 4, 2) := by decide +kernel
theorem dL_fair_22 : decode cL_fair 22 = .ok (.ldc 22, 2) := by decide +kernel
theorem dL_fair_24 : decode cL_fair 24 = .ok (.ireturn, 1) := by decide +kernel
theorem dL_fair_25 : decode cL_fair 25 = .ok (.iload_n 3, 1) := by decide +kernel
theorem dL_fair_26 : decode cL_fair 26 = .ok (.ireturn, 1) := by decide +kernel
set_option maxRecDepth 20000 in
theorem ggL_area_X6_area : GoodIn wsL_area wsX6_area := goodIn_ca (goodIn_r _ [7, 8, 9, 10, 6, 11, 12, 13, 14, 15, 16, 17, 18, 19, 20, 21, 22, 23, 24, 25, 26, 27, 28, 29, 30, 31] (by decide +kernel) (by decide +kernel)) (goodIn_sub (fun _ h => List.mem_cons_of_mem _ (List.mem_append_right _ h)) (by decide +kernel))
set_option maxRecDepth 20000 in
theorem gL_area_X6_area : GoodIn wsL_area (wsV RL 34 RX6 yX6_area wsX6_area) := goodIn_app (goodIn_of _ (by decide +kernel)) ggL_area_X6_area
theorem dL_area_0 : decode cL_area 0 = .ok (.aload_n 0, 1) := by decide +kernel
theorem dL_area_1 : decode cL_area 1 = .ok (.iload_n 1, 1) := by decide +kernel
theorem dL_area_2 : decode cL_area 2 = .ok (.iload_n 2, 1) := by decide +kernel
theorem dL_area_3 : decode cL_area 3 = .ok (.invokevirtual 34, 3) := by decide +kernel
theorem dL_area_6 : decode cL_area 6 = .ok (.istore_n 3, 1) := by decide +kernel
theorem dL_area_7 : decode cL_area 7 = .ok (.goto 8, 3) := by decide +kernel
theorem dL_area_10 : decode cL_area 10 = .ok (.astore 4, 2) := by decide +kernel
theorem dL_area_12 : decode cL_area 12 = .ok (.ldc 16, 2) := by decide +kernel
theorem dL_area_14 : decode cL_area 14 = .ok (.ireturn, 1) := by decide +kernel
theorem dL_area_15 : decode cL_area 15 = .ok (.iload_n 3, 1) := by decide +kernel
theorem dL_area_16 : decode cL_area 16 = .ok (.ireturn, 1) := by decide +kernel
set_option maxRecDepth 20000 in
theorem ggL_volume_X6_volume : GoodIn wsL_volume wsX6_volume := goodIn_ca (goodIn_r _ [7, 8, 9, 10, 6, 11, 12, 13, 14, 15, 16, 17, 18, 19, 20, 21, 22, 23, 24, 25, 26, 27, 28, 29, 30, 31, 32] (by decide +kernel) (by decide +kernel)) (goodIn_sub (fun _ h => List.mem_cons_of_mem _ (List.mem_append_right _ h)) (by decide +kernel))
set_option maxRecDepth 20000 in
theorem gL_volume_X6_volume : GoodIn wsL_volume (wsV RL 37 RX6 yX6_volume wsX6_volume) := goodIn_app (goodIn_of _ (by decide +kernel)) ggL_volume_X6_volume
theorem dL_volume_0 : decode cL_volume 0 = .ok (.aload_n 0, 1) := by decide +kernel
theorem dL_volume_1 : decode cL_volume 1 = .ok (.iload_n 1, 1) := by decide +kernel
theorem dL_volume_2 : decode cL_volume 2 = .ok (.invokevirtual 37, 3) := by decide +kernel
theorem dL_volume_5 : decode cL_volume 5 = .ok (.istore_n 2, 1) := by decide +kernel
theorem dL_volume_6 : decode cL_volume 6 = .ok (.goto 7, 3) := by decide +kernel
theorem dL_volume_9 : decode cL_volume 9 = .ok (.astore_n 3, 1) := by decide +kernel
theorem dL_volume_10 : decode cL_volume 10 = .ok (.ldc 16, 2) := by decide +kernel
theorem dL_volume_12 : decode cL_volume 12 = .ok (.ireturn, 1) := by decide +kernel
theorem dL_volume_13 : decode cL_volume 13 = .ok (.iload_n 2, 1) := by decide +kernel
theorem dL_volume_14 : decode cL_volume 14 = .ok (.ireturn, 1) := by decide +kernel
set_option maxRecDepth 20000 in
theorem ggL_volumeAnew_X6_volumeAnew : GoodIn wsL_volumeAnew wsX6_volumeAnew := goodIn_ca (goodIn_r _ [7, 8, 9, 10, 6, 11, 12, 13, 14, 15, 16, 17, 18, 19, 20, 21, 22, 23, 24, 25, 26, 27, 28, 29, 30, 31, 32] (by decide +kernel) (by decide +kernel)) (goodIn_sub (fun _ h => List.mem_cons_of_mem _ (List.mem_append_right _ h)) (by decide +kernel))
set_option maxRecDepth 20000 in
theorem gL_volumeAnew_X6_volumeAnew : GoodIn wsL_volumeAnew (wsV RL 40 RX6 yX6_volumeAnew wsX6_volumeAnew) := goodIn_app (goodIn_of _ (by decide +kernel)) ggL_volumeAnew_X6_volumeAnew
theorem dL_volumeAnew_0 : decode cL_volumeAnew 0 = .ok (.aload_n 0, 1) := by decide +kernel
theorem dL_volumeAnew_1 : decode cL_volumeAnew 1 = .ok (.iload_n 1, 1) := by decide +kernel
theorem dL_volumeAnew_2 : decode cL_volumeAnew 2 = .ok (.invokevirtual 40, 3) := by decide +kernel
theorem dL_volumeAnew_5 : decode cL_volumeAnew 5 = .ok (.istore_n 2, 1) := by decide +kernel
theorem dL_volumeAnew_6 : decode cL_volumeAnew 6 = .ok (.goto 7, 3) := by decide +kernel
theorem dL_volumeAnew_9 : decode cL_volumeAnew 9 = .ok (.astore_n 3, 1) := by decide +kernel
theorem dL_volumeAnew_10 : decode cL_volumeAnew 10 = .ok (.ldc 16, 2) := by decide +kernel
theorem dL_volumeAnew_12 : decode cL_volumeAnew 12 = .ok (.ireturn, 1) := by decide +kernel
theorem dL_volumeAnew_13 : decode cL_volumeAnew 13 = .ok (.iload_n 2, 1) := by decide +kernel
theorem dL_volumeAnew_14 : decode cL_volumeAnew 14 = .ok (.ireturn, 1) := by decide +kernel
set_option maxRecDepth 20000 in
theorem ggL_weigh_X6_weigh : GoodIn wsL_weigh wsX6_weigh := goodIn_ca (goodIn_ca (goodIn_ca (goodIn_r _ [11, 12, 13, 14, 15, 16, 10, 17, 18, 19, 20, 21, 22, 23, 24, 25, 26, 27, 28, 29, 30, 31, 32, 33, 34, 35, 36, 37, 38, 39, 40, 41, 42, 43, 44, 45, 46, 47, 48] (by decide +kernel) (by decide +kernel)) (goodIn_sub (fun _ h => List.mem_cons_of_mem _ (List.mem_append_left _ (List.mem_append_left _ (List.mem_append_right _ h)))) (by decide +kernel))) (goodIn_sub (fun _ h => List.mem_cons_of_mem _ (List.mem_append_left _ (List.mem_append_right _ h))) (by decide +kernel))) (goodIn_sub (fun _ h => List.mem_cons_of_mem _ (List.mem_append_right _ h)) (by decide +kernel))
set_option maxRecDepth 20000 in
theorem gL_weigh_X6_weigh : GoodIn wsL_weigh (wsV RL 43 RX6 yX6_weigh wsX6_weigh) := goodIn_app (goodIn_of _ (by decide +kernel)) ggL_weigh_X6_weigh
theorem dL_weigh_0 : decode cL_weigh 0 = .ok (.aload_n 0, 1) := by decide +kernel
theorem dL_weigh_1 : decode cL_weigh 1 = .ok (.iload_n 1, 1) := by decide +kernel
theorem dL_weigh_2 : decode cL_weigh 2 = .ok (.iload_n 2, 1) := by decide +kernel
theorem dL_weigh_3 : decode cL_weigh 3 = .ok (.invokevirtual 43, 3) := by decide +kernel
theorem dL_weigh_6 : decode cL_weigh 6 = .ok (.istore_n 3, 1) := by decide +kernel
theorem dL_weigh_7 : decode cL_weigh 7 = .ok (.goto 18, 3) := by decide +kernel
theorem dL_weigh_10 : decode cL_weigh 10 = .ok (.astore 4, 2) := by decide +kernel
theorem dL_weigh_12 : decode cL_weigh 12 = .ok (.ldc 16, 2) := by decide +kernel
theorem dL_weigh_14 : decode cL_weigh 14 = .ok (.ireturn, 1) := by decide +kernel
theorem dL_weigh_15 : decode cL_weigh 15 = .ok (.astore 4, 2) := by decide +kernel
theorem dL_weigh_17 : decode cL_weigh 17 = .ok (.ldc 19, 2) := by decide +kernel
theorem dL_weigh_19 : decode cL_weigh 19 = .ok (.ireturn, 1) := by decide +kernel
theorem dL_weigh_20 : decode cL_weigh 20 = .ok (.astore 4, 2) := by decide +kernel
theorem dL_weigh_22 : decode cL_weigh 22 = .ok (.ldc 22, 2) := by decide +kernel
theorem dL_weigh_24 : decode cL_weigh 24 = .ok (.ireturn, 1) := by decide +kernel
theorem dL_weigh_25 : decode cL_weigh 25 = .ok (.iload_n 3, 1) := by decide +kernel
theorem dL_weigh_26 : decode cL_weigh 26 = .ok (.ireturn, 1) := by decide +kernel
set_option maxRecDepth 20000 in
theorem ggL_change_X6_change : GoodIn wsL_change wsX6_change := goodIn_ca (goodIn_ca (goodIn_r _ [9, 10, 11, 12, 13, 8, 14, 15, 16, 17, 18, 19, 20, 21, 22, 23, 24, 25, 26, 27, 28, 29, 30, 31, 32, 33, 34, 35, 36, 37, 38, 39, 40, 41, 42, 43, 44] (by decide +kernel) (by decide +kernel)) (goodIn_sub (fun _ h => List.mem_cons_of_mem _ (List.mem_append_left _ (List.mem_append_right _ h))) (by decide +kernel))) (goodIn_sub (fun _ h => List.mem_cons_of_mem _ (List.mem_append_right _ h)) (by decide +kernel))
set_option maxRecDepth 20000 in
theorem gL_change_X6_change : GoodIn wsL_change (wsV RL 46 RX6 yX6_change wsX6_change) := goodIn_app (goodIn_of _ (by decide +kernel)) ggL_change_X6_change
theorem dL_change_0 : decode cL_change 0 = .ok (.aload_n 0, 1) := by decide +kernel
theorem dL_change_1 : decode cL_change 1 = .ok (.iload_n 1, 1) := by decide +kernel
theorem dL_change_2 : decode cL_change 2 = .ok (.iload_n 2, 1) := by decide +kernel
theorem dL_change_3 : decode cL_change 3 = .ok (.iload_n 3, 1) := by decide +kernel
theorem dL_change_4 : decode cL_change 4 = .ok (.invokevirtual 46, 3) := by decide +kernel
theorem dL_change_7 : decode cL_change 7 = .ok (.istore 4, 2) := by decide +kernel
theorem dL_change_9 : decode cL_change 9 = .ok (.goto 13, 3) := by decide +kernel
theorem dL_change_12 : decode cL_change 12 = .ok (.astore 5, 2) := by decide +kernel
theorem dL_change_14 : decode cL_change 14 = .ok (.ldc 16, 2) := by decide +kernel
theorem dL_change_16 : decode cL_change 16 = .ok (.ireturn, 1) := by decide +kernel
theorem dL_change_17 : decode cL_change 17 = .ok (.astore 5, 2) := by decide +kernel
theorem dL_change_19 : decode cL_change 19 = .ok (.ldc 19, 2) := by decide +kernel
theorem dL_change_21 : decode cL_change 21 = .ok (.ireturn, 1) := by decide +kernel
theorem dL_change_22 : decode cL_change 22 = .ok (.iload 4, 2) := by decide +kernel
theorem dL_change_24 : decode cL_change 24 = .ok (.ireturn, 1) := by decide +kernel
set_option maxRecDepth 20000 in
theorem ggL_ballast_X6_ballast : GoodIn wsL_ballast wsX6_ballast := goodIn_ca (goodIn_r _ [7, 8, 9, 10, 11, 12, 6, 13, 14, 15, 16, 17, 18, 19, 20, 21, 22, 23, 24, 25, 26, 27, 28, 29, 30, 31, 32, 33, 34, 35, 36, 37, 38, 39, 40, 41, 42, 43, 44, 45, 46, 47, 48, 49, 50, 51, 52, 53, 54, 55, 56, 57, 58, 59, 60, 61, 62, 63, 64, 65, 66, 67, 68, 69, 70, 71, 72, 73, 74, 75, 76, 77, 78, 79, 80, 81, 82] (by decide +kernel) (by decide +kernel)) (goodIn_sub (fun _ h => List.mem_cons_of_mem _ (List.mem_append_right _ h)) (by decide +kernel))
set_option maxRecDepth 20000 in
theorem gL_ballast_X6_ballast : GoodIn wsL_ballast (wsV RL 49 RX6 yX6_ballast wsX6_ballast) := goodIn_app (goodIn_of _ (by decide +kernel)) ggL_ballast_X6_ballast
theorem dL_ballast_0 : decode cL_ballast 0 = .ok (.aload_n 0, 1) := by decide +kernel
theorem dL_ballast_1 : decode cL_ballast 1 = .ok (.iload_n 1, 1) := by decide +kernel
theorem dL_ballast_2 : decode cL_ballast 2 = .ok (.invokevirtual 49, 3) := by decide +kernel
theorem dL_ballast_5 : decode cL_ballast 5 = .ok (.istore_n 2, 1) := by decide +kernel
theorem dL_ballast_6 : decode cL_ballast 6 = .ok (.goto 7, 3) := by decide +kernel
theorem dL_ballast_9 : decode cL_ballast 9 = .ok (.astore_n 3, 1) := by decide +kernel
theorem dL_ballast_10 : decode cL_ballast 10 = .ok (.ldc 19, 2) := by decide +kernel
theorem dL_ballast_12 : decode cL_ballast 12 = .ok (.ireturn, 1) := by decide +kernel
theorem dL_ballast_13 : decode cL_ballast 13 = .ok (.iload_n 2, 1) := by decide +kernel
theorem dL_ballast_14 : decode cL_ballast 14 = .ok (.ireturn, 1) := by decide +kernel
set_option maxRecDepth 20000 in
theorem ggL_strake_X6_strake : GoodIn wsL_strake wsX6_strake := goodIn_ca (goodIn_r _ [7, 8, 9, 10, 6, 11, 12, 13, 14, 15, 16, 17, 18, 19, 20, 21, 22, 23, 24, 25, 26, 27, 28, 29, 30, 31, 32] (by decide +kernel) (by decide +kernel)) (goodIn_sub (fun _ h => List.mem_cons_of_mem _ (List.mem_append_right _ h)) (by decide +kernel))
set_option maxRecDepth 20000 in
theorem gL_strake_X6_strake : GoodIn wsL_strake (wsV RL 52 RX6 yX6_strake wsX6_strake) := goodIn_app (goodIn_of _ (by decide +kernel)) ggL_strake_X6_strake
theorem dL_strake_0 : decode cL_strake 0 = .ok (.aload_n 0, 1) := by decide +kernel
theorem dL_strake_1 : decode cL_strake 1 = .ok (.iload_n 1, 1) := by decide +kernel
theorem dL_strake_2 : decode cL_strake 2 = .ok (.invokevirtual 52, 3) := by decide +kernel
theorem dL_strake_5 : decode cL_strake 5 = .ok (.istore_n 2, 1) := by decide +kernel
theorem dL_strake_6 : decode cL_strake 6 = .ok (.goto 7, 3) := by decide +kernel
theorem dL_strake_9 : decode cL_strake 9 = .ok (.astore_n 3, 1) := by decide +kernel
theorem dL_strake_10 : decode cL_strake 10 = .ok (.ldc 16, 2) := by decide +kernel
theorem dL_strake_12 : decode cL_strake 12 = .ok (.ireturn, 1) := by decide +kernel
theorem dL_strake_13 : decode cL_strake 13 = .ok (.iload_n 2, 1) := by decide +kernel
theorem dL_strake_14 : decode cL_strake 14 = .ok (.ireturn, 1) := by decide +kernel
set_option maxRecDepth 20000 in
theorem ggL_planks_X6_planks : GoodIn wsL_planks wsX6_planks := goodIn_ca (goodIn_r _ [7, 8, 9, 10, 11, 6, 12, 13, 14, 15, 16, 17, 18, 19, 20, 21, 22, 23, 24, 25, 26, 27, 28, 29, 30, 31, 32, 33, 34, 35, 36, 37, 38, 39, 40, 41, 42, 43, 44, 45, 46, 47, 48, 49, 50, 51, 52, 53, 54, 55, 56, 57, 58, 59] (by decide +kernel) (by decide +kernel)) (goodIn_sub (fun _ h => List.mem_cons_of_mem _ (List.mem_append_right _ h)) (by decide +kernel))
set_option maxRecDepth 20000 in
theorem gL_planks_X6_planks : GoodIn wsL_planks (wsV RL 55 RX6 yX6_planks wsX6_planks) := goodIn_app (goodIn_of _ (by decide +kernel)) ggL_planks_X6_planks
theorem dL_planks_0 : decode cL_planks 0 = .ok (.aload_n 0, 1) := by decide +kernel
theorem dL_planks_1 : decode cL_planks 1 = .ok (.iload_n 1, 1) := by decide +kernel
theorem dL_planks_2 : decode cL_planks 2 = .ok (.invokevirtual 55, 3) := by decide +kernel
theorem dL_planks_5 : decode cL_planks 5 = .ok (.istore_n 2, 1) := by decide +kernel
theorem dL_planks_6 : decode cL_planks 6 = .ok (.goto 7, 3) := by decide +kernel
theorem dL_planks_9 : decode cL_planks 9 = .ok (.astore_n 3, 1) := by decide +kernel
theorem dL_planks_10 : decode cL_planks 10 = .ok (.ldc 19, 2) := by decide +kernel
theorem dL_planks_12 : decode cL_planks 12 = .ok (.ireturn, 1) := by decide +kernel
theorem dL_planks_13 : decode cL_planks 13 = .ok (.iload_n 2, 1) := by decide +kernel
theorem dL_planks_14 : decode cL_planks 14 = .ok (.ireturn, 1) := by decide +kernel
set_option maxRecDepth 20000 in
theorem ggL_plankOf_X6_plankOf : GoodIn wsL_plankOf wsX6_plankOf := goodIn_ca (goodIn_r _ [7, 8, 9, 10, 11, 6, 12, 13, 14, 15, 16, 17, 18, 19, 20, 21, 22, 23, 24, 25, 26, 27, 28, 29, 30, 31, 32, 33, 34, 35, 36, 37, 38, 39, 40, 41, 42, 43, 44, 45, 46, 47, 48, 49, 50, 51, 52, 53, 54, 55, 56, 57, 58, 59] (by decide +kernel) (by decide +kernel)) (goodIn_sub (fun _ h => List.mem_cons_of_mem _ (List.mem_append_right _ h)) (by decide +kernel))
set_option maxRecDepth 20000 in
theorem gL_plankOf_X6_plankOf : GoodIn wsL_plankOf (wsV RL 58 RX6 yX6_plankOf wsX6_plankOf) := goodIn_app (goodIn_of _ (by decide +kernel)) ggL_plankOf_X6_plankOf
theorem dL_plankOf_0 : decode cL_plankOf 0 = .ok (.aload_n 0, 1) := by decide +kernel
theorem dL_plankOf_1 : decode cL_plankOf 1 = .ok (.iload_n 1, 1) := by decide +kernel
theorem dL_plankOf_2 : decode cL_plankOf 2 = .ok (.iload_n 2, 1) := by decide +kernel
theorem dL_plankOf_3 : decode cL_plankOf 3 = .ok (.invokevirtual 58, 3) := by decide +kernel
theorem dL_plankOf_6 : decode cL_plankOf 6 = .ok (.istore_n 3, 1) := by decide +kernel
theorem dL_plankOf_7 : decode cL_plankOf 7 = .ok (.goto 8, 3) := by decide +kernel
theorem dL_plankOf_10 : decode cL_plankOf 10 = .ok (.astore 4, 2) := by decide +kernel
theorem dL_plankOf_12 : decode cL_plankOf 12 = .ok (.ldc 16, 2) := by decide +kernel
theorem dL_plankOf_14 : decode cL_plankOf 14 = .ok (.ireturn, 1) := by decide +kernel
theorem dL_plankOf_15 : decode cL_plankOf 15 = .ok (.iload_n 3, 1) := by decide +kernel
theorem dL_plankOf_16 : decode cL_plankOf 16 = .ok (.ireturn, 1) := by decide +kernel
set_option maxRecDepth 20000 in
theorem ggL_tide_X6_tide : GoodIn wsL_tide wsX6_tide := goodIn_ca (goodIn_ca (goodIn_r _ [9, 10, 11, 12, 13, 14, 8, 15, 16, 17, 18, 19, 20, 21, 22, 23, 24, 25, 26, 27, 28, 29, 30, 31, 32, 33, 34, 35, 36, 37, 38, 39, 40, 41, 42, 43, 44, 45, 46, 47, 48, 49, 50] (by decide +kernel) (by decide +kernel)) (goodIn_sub (fun _ h => List.mem_cons_of_mem _ (List.mem_append_left _ (List.mem_append_right _ h))) (by decide +kernel))) (goodIn_sub (fun _ h => List.mem_cons_of_mem _ (List.mem_append_right _ h)) (by decide +kernel))
set_option maxRecDepth 20000 in
theorem gL_tide_X6_tide : GoodIn wsL_tide (wsV RL 62 RX6 yX6_tide wsX6_tide) := goodIn_app (goodIn_of _ (by decide +kernel)) ggL_tide_X6_tide
theorem dL_tide_0 : decode cL_tide 0 = .ok (.aload_n 0, 1) := by decide +kernel
theorem dL_tide_1 : decode cL_tide 1 = .ok (.iload_n 1, 1) := by decide +kernel
theorem dL_tide_2 : decode cL_tide 2 = .ok (.iload_n 2, 1) := by decide +kernel
theorem dL_tide_3 : decode cL_tide 3 = .ok (.invokevirtual 62, 3) := by decide +kernel
theorem dL_tide_6 : decode cL_tide 6 = .ok (.istore_n 3, 1) := by decide +kernel
theorem dL_tide_7 : decode cL_tide 7 = .ok (.goto 13, 3) := by decide +kernel
theorem dL_tide_10 : decode cL_tide 10 = .ok (.astore 4, 2) := by decide +kernel
theorem dL_tide_12 : decode cL_tide 12 = .ok (.ldc 19, 2) := by decide +kernel
theorem dL_tide_14 : decode cL_tide 14 = .ok (.ireturn, 1) := by decide +kernel
theorem dL_tide_15 : decode cL_tide 15 = .ok (.astore 4, 2) := by decide +kernel
theorem dL_tide_17 : decode cL_tide 17 = .ok (.ldc 22, 2) := by decide +kernel
theorem dL_tide_19 : decode cL_tide 19 = .ok (.ireturn, 1) := by decide +kernel
theorem dL_tide_20 : decode cL_tide 20 = .ok (.iload_n 3, 1) := by decide +kernel
theorem dL_tide_21 : decode cL_tide 21 = .ok (.ireturn, 1) := by decide +kernel
set_option maxRecDepth 20000 in
theorem ggL_sill_X6_sill : GoodIn wsL_sill wsX6_sill := goodIn_ca (goodIn_r _ [7, 8, 9, 10, 6, 11, 12, 13, 14, 15, 16, 17, 18, 19, 20, 21, 22] (by decide +kernel) (by decide +kernel)) (goodIn_sub (fun _ h => List.mem_cons_of_mem _ (List.mem_append_right _ h)) (by decide +kernel))
set_option maxRecDepth 20000 in
theorem gL_sill_X6_sill : GoodIn wsL_sill (wsV RL 65 RX6 yX6_sill wsX6_sill) := goodIn_app (goodIn_of _ (by decide +kernel)) ggL_sill_X6_sill
theorem dL_sill_0 : decode cL_sill 0 = .ok (.aload_n 0, 1) := by decide +kernel
theorem dL_sill_1 : decode cL_sill 1 = .ok (.iload_n 1, 1) := by decide +kernel
theorem dL_sill_2 : decode cL_sill 2 = .ok (.invokevirtual 65, 3) := by decide +kernel
theorem dL_sill_5 : decode cL_sill 5 = .ok (.istore_n 2, 1) := by decide +kernel
theorem dL_sill_6 : decode cL_sill 6 = .ok (.goto 7, 3) := by decide +kernel
theorem dL_sill_9 : decode cL_sill 9 = .ok (.astore_n 3, 1) := by decide +kernel
theorem dL_sill_10 : decode cL_sill 10 = .ok (.ldc 19, 2) := by decide +kernel
theorem dL_sill_12 : decode cL_sill 12 = .ok (.ireturn, 1) := by decide +kernel
theorem dL_sill_13 : decode cL_sill 13 = .ok (.iload_n 2, 1) := by decide +kernel
theorem dL_sill_14 : decode cL_sill 14 = .ok (.ireturn, 1) := by decide +kernel
set_option maxRecDepth 20000 in
theorem ggL_launch_X6_launch : GoodIn wsL_launch wsX6_launch := goodIn_ca (goodIn_r _ [7, 8, 9, 10, 11, 12, 13, 14, 15, 6, 16, 17, 18, 19, 20, 21, 22, 23, 24, 25, 26, 27, 28, 29, 30, 31, 32, 33, 34, 35, 36, 37, 38, 39, 40, 41, 42, 43, 44, 45, 46, 47, 48, 49, 50, 51, 52, 53, 54, 55, 56, 57, 58, 59, 60, 61, 62, 63, 64, 65, 66, 67, 68, 69, 70, 71, 72, 73, 74, 75, 76, 77, 78, 79, 80, 81, 82, 83, 84, 85, 86, 87, 88, 89, 90, 91, 92, 93, 94, 95, 96, 97, 98, 99, 100, 101, 102, 103, 104, 105, 106, 107, 108, 109, 110, 111, 112, 113, 114, 115, 116, 117, 118, 119, 120, 121, 122] (by decide +kernel) (by decide +kernel)) (goodIn_sub (fun _ h => List.mem_cons_of_mem _ (List.mem_append_right _ h)) (by decide +kernel))
set_option maxRecDepth 20000 in
theorem gL_launch_X6_launch : GoodIn wsL_launch (wsV RL 68 RX6 yX6_launch wsX6_launch) := goodIn_app (goodIn_of _ (by decide +kernel)) ggL_launch_X6_launch
theorem dL_launch_0 : decode cL_launch 0 = .ok (.aload_n 0, 1) := by decide +kernel
theorem dL_launch_1 : decode cL_launch 1 = .ok (.invokevirtual 68, 3) := by decide +kernel
theorem dL_launch_4 : decode cL_launch 4 = .ok (.istore_n 1, 1) := by decide +kernel
theorem dL_launch_5 : decode cL_launch 5 = .ok (.goto 7, 3) := by decide +kernel
theorem dL_launch_8 : decode cL_launch 8 = .ok (.astore_n 2, 1) := by decide +kernel
theorem dL_launch_9 : decode cL_launch 9 = .ok (.ldc 22, 2) := by decide +kernel
theorem dL_launch_11 : decode cL_launch 11 = .ok (.ireturn, 1) := by decide +kernel
theorem dL_launch_12 : decode cL_launch 12 = .ok (.iload_n 1, 1) := by decide +kernel
theorem dL_launch_13 : decode cL_launch 13 = .ok (.ireturn, 1) := by decide +kernel
set_option maxRecDepth 20000 in
theorem ggL_pass_X6_pass : GoodIn wsL_pass wsX6_pass := goodIn_ca (goodIn_ca (goodIn_r _ [9, 10, 11, 12, 13, 14, 8, 15, 16, 17, 18, 19, 20, 21, 22, 23, 24, 25, 26] (by decide +kernel) (by decide +kernel)) (goodIn_sub (fun _ h => List.mem_cons_of_mem _ (List.mem_append_left _ (List.mem_append_right _ h))) (by decide +kernel))) (goodIn_sub (fun _ h => List.mem_cons_of_mem _ (List.mem_append_right _ h)) (by decide +kernel))
set_option maxRecDepth 20000 in
theorem gL_pass_X6_pass : GoodIn wsL_pass (wsV RL 72 RX6 yX6_pass wsX6_pass) := goodIn_app (goodIn_of _ (by decide +kernel)) ggL_pass_X6_pass
theorem dL_pass_0 : decode cL_pass 0 = .ok (.aload_n 0, 1) := by decide +kernel
theorem dL_pass_1 : decode cL_pass 1 = .ok (.iload_n 1, 1) := by decide +kernel
theorem dL_pass_2 : decode cL_pass 2 = .ok (.invokevirtual 72, 3) := by decide +kernel
theorem dL_pass_5 : decode cL_pass 5 = .ok (.istore_n 2, 1) := by decide +kernel
theorem dL_pass_6 : decode cL_pass 6 = .ok (.goto 11, 3) := by decide +kernel
theorem dL_pass_9 : decode cL_pass 9 = .ok (.astore_n 3, 1) := by decide +kernel
theorem dL_pass_10 : decode cL_pass 10 = .ok (.ldc 19, 2) := by decide +kernel
theorem dL_pass_12 : decode cL_pass 12 = .ok (.ireturn, 1) := by decide +kernel
theorem dL_pass_13 : decode cL_pass 13 = .ok (.astore_n 3, 1) := by decide +kernel
theorem dL_pass_14 : decode cL_pass 14 = .ok (.ldc 22, 2) := by decide +kernel
theorem dL_pass_16 : decode cL_pass 16 = .ok (.ireturn, 1) := by decide +kernel
theorem dL_pass_17 : decode cL_pass 17 = .ok (.iload_n 2, 1) := by decide +kernel
theorem dL_pass_18 : decode cL_pass 18 = .ok (.ireturn, 1) := by decide +kernel
theorem dL_bendOf_0 : decode cL_bendOf 0 = .ok (.iconst 0, 1) := by decide +kernel
theorem dL_bendOf_1 : decode cL_bendOf 1 = .ok (.istore_n 2, 1) := by decide +kernel
theorem dL_bendOf_2 : decode cL_bendOf 2 = .ok (.bipush 9, 2) := by decide +kernel
theorem dL_bendOf_4 : decode cL_bendOf 4 = .ok (.iload_n 0, 1) := by decide +kernel
theorem dL_bendOf_5 : decode cL_bendOf 5 = .ok (.imul, 1) := by decide +kernel
theorem dL_bendOf_6 : decode cL_bendOf 6 = .ok (.iconst 1, 1) := by decide +kernel
theorem dL_bendOf_7 : decode cL_bendOf 7 = .ok (.iadd, 1) := by decide +kernel
theorem dL_bendOf_8 : decode cL_bendOf 8 = .ok (.istore_n 3, 1) := by decide +kernel
theorem dL_bendOf_9 : decode cL_bendOf 9 = .ok (.iload_n 3, 1) := by decide +kernel
theorem dL_bendOf_10 : decode cL_bendOf 10 = .ok (.bipush 9, 2) := by decide +kernel
theorem dL_bendOf_12 : decode cL_bendOf 12 = .ok (.iload_n 0, 1) := by decide +kernel
theorem dL_bendOf_13 : decode cL_bendOf 13 = .ok (.imul, 1) := by decide +kernel
theorem dL_bendOf_14 : decode cL_bendOf 14 = .ok (.bipush 8, 2) := by decide +kernel
theorem dL_bendOf_16 : decode cL_bendOf 16 = .ok (.iadd, 1) := by decide +kernel
theorem dL_bendOf_17 : decode cL_bendOf 17 = .ok (.if_icmp .ge 38, 3) := by decide +kernel
theorem dL_bendOf_20 : decode cL_bendOf 20 = .ok (.aload_n 1, 1) := by decide +kernel
theorem dL_bendOf_21 : decode cL_bendOf 21 = .ok (.iload_n 3, 1) := by decide +kernel
theorem dL_bendOf_22 : decode cL_bendOf 22 = .ok (.iconst 1, 1) := by decide +kernel
theorem dL_bendOf_23 : decode cL_bendOf 23 = .ok (.iadd, 1) := by decide +kernel
theorem dL_bendOf_24 : decode cL_bendOf 24 = .ok (.iaload, 1) := by decide +kernel
theorem dL_bendOf_25 : decode cL_bendOf 25 = .ok (.aload_n 1, 1) := by decide +kernel
theorem dL_bendOf_26 : decode cL_bendOf 26 = .ok (.iload_n 3, 1) := by decide +kernel
theorem dL_bendOf_27 : decode cL_bendOf 27 = .ok (.iaload, 1) := by decide +kernel
theorem dL_bendOf_28 : decode cL_bendOf 28 = .ok (.isub, 1) := by decide +kernel
theorem dL_bendOf_29 : decode cL_bendOf 29 = .ok (.aload_n 1, 1) := by decide +kernel
theorem dL_bendOf_30 : decode cL_bendOf 30 = .ok (.iload_n 3, 1) := by decide +kernel
theorem dL_bendOf_31 : decode cL_bendOf 31 = .ok (.iaload, 1) := by decide +kernel
theorem dL_bendOf_32 : decode cL_bendOf 32 = .ok (.aload_n 1, 1) := by decide +kernel
theorem dL_bendOf_33 : decode cL_bendOf 33 = .ok (.iload_n 3, 1) := by decide +kernel
theorem dL_bendOf_34 : decode cL_bendOf 34 = .ok (.iconst 1, 1) := by decide +kernel
theorem dL_bendOf_35 : decode cL_bendOf 35 = .ok (.isub, 1) := by decide +kernel
theorem dL_bendOf_36 : decode cL_bendOf 36 = .ok (.iaload, 1) := by decide +kernel
theorem dL_bendOf_37 : decode cL_bendOf 37 = .ok (.isub, 1) := by decide +kernel
theorem dL_bendOf_38 : decode cL_bendOf 38 = .ok (.isub, 1) := by decide +kernel
theorem dL_bendOf_39 : decode cL_bendOf 39 = .ok (.istore 4, 2) := by decide +kernel
theorem dL_bendOf_41 : decode cL_bendOf 41 = .ok (.iload_n 2, 1) := by decide +kernel
theorem dL_bendOf_42 : decode cL_bendOf 42 = .ok (.iload 4, 2) := by decide +kernel
theorem dL_bendOf_44 : decode cL_bendOf 44 = .ok (.iload 4, 2) := by decide +kernel
theorem dL_bendOf_46 : decode cL_bendOf 46 = .ok (.imul, 1) := by decide +kernel
theorem dL_bendOf_47 : decode cL_bendOf 47 = .ok (.iadd, 1) := by decide +kernel
theorem dL_bendOf_48 : decode cL_bendOf 48 = .ok (.istore_n 2, 1) := by decide +kernel
theorem dL_bendOf_49 : decode cL_bendOf 49 = .ok (.iinc 3 1, 3) := by decide +kernel
theorem dL_bendOf_52 : decode cL_bendOf 52 = .ok (.goto (-43), 3) := by decide +kernel
theorem dL_bendOf_55 : decode cL_bendOf 55 = .ok (.iload_n 2, 1) := by decide +kernel
theorem dL_bendOf_56 : decode cL_bendOf 56 = .ok (.ireturn, 1) := by decide +kernel
set_option maxRecDepth 20000 in
theorem ggL_fairs_L_may : GoodIn wsL_fairs wsL_may := goodIn_r _ [8] (by decide +kernel) (by decide +kernel)
set_option maxRecDepth 20000 in
theorem gL_fairs_L_may : GoodIn wsL_fairs (va_wsS RL 75 yL_may wsL_may) := goodIn_app (goodIn_of _ (by decide +kernel)) ggL_fairs_L_may
theorem dL_fairs_0 : decode cL_fairs 0 = .ok (.bipush 25, 2) := by decide +kernel
theorem dL_fairs_2 : decode cL_fairs 2 = .ok (.newarray .long, 2) := by decide +kernel
theorem dL_fairs_4 : decode cL_fairs 4 = .ok (.astore_n 3, 1) := by decide +kernel
theorem dL_fairs_5 : decode cL_fairs 5 = .ok (.bipush 25, 2) := by decide +kernel
theorem dL_fairs_7 : decode cL_fairs 7 = .ok (.newarray .int, 2) := by decide +kernel
theorem dL_fairs_9 : decode cL_fairs 9 = .ok (.astore 4, 2) := by decide +kernel
theorem dL_fairs_11 : decode cL_fairs 11 = .ok (.iconst 0, 1) := by decide +kernel
theorem dL_fairs_12 : decode cL_fairs 12 = .ok (.istore 5, 2) := by decide +kernel
theorem dL_fairs_14 : decode cL_fairs 14 = .ok (.iload 5, 2) := by decide +kernel
theorem dL_fairs_16 : decode cL_fairs 16 = .ok (.bipush 25, 2) := by decide +kernel
theorem dL_fairs_18 : decode cL_fairs 18 = .ok (.if_icmp .ge 67, 3) := by decide +kernel
theorem dL_fairs_21 : decode cL_fairs 21 = .ok (.aload 4, 2) := by decide +kernel
theorem dL_fairs_23 : decode cL_fairs 23 = .ok (.iload 5, 2) := by decide +kernel
theorem dL_fairs_25 : decode cL_fairs 25 = .ok (.iload_n 0, 1) := by decide +kernel
theorem dL_fairs_26 : decode cL_fairs 26 = .ok (.iconst 0, 1) := by decide +kernel
theorem dL_fairs_27 : decode cL_fairs 27 = .ok (.iload 5, 2) := by decide +kernel
theorem dL_fairs_29 : decode cL_fairs 29 = .ok (.iconst 5, 1) := by decide +kernel
theorem dL_fairs_30 : decode cL_fairs 30 = .ok (.idiv, 1) := by decide +kernel
theorem dL_fairs_31 : decode cL_fairs 31 = .ok (.iload_n 1, 1) := by decide +kernel
theorem dL_fairs_32 : decode cL_fairs 32 = .ok (.aload_n 2, 1) := by decide +kernel
theorem dL_fairs_33 : decode cL_fairs 33 = .ok (.invokestatic 75, 3) := by decide +kernel
theorem dL_fairs_36 : decode cL_fairs 36 = .ok (.ifCond .eq 21, 3) := by decide +kernel
theorem dL_fairs_39 : decode cL_fairs 39 = .ok (.iload_n 0, 1) := by decide +kernel
theorem dL_fairs_40 : decode cL_fairs 40 = .ok (.iconst 1, 1) := by decide +kernel
theorem dL_fairs_41 : decode cL_fairs 41 = .ok (.iload 5, 2) := by decide +kernel
theorem dL_fairs_43 : decode cL_fairs 43 = .ok (.iconst 5, 1) := by decide +kernel
theorem dL_fairs_44 : decode cL_fairs 44 = .ok (.irem, 1) := by decide +kernel
theorem dL_fairs_45 : decode cL_fairs 45 = .ok (.iload_n 1, 1) := by decide +kernel
theorem dL_fairs_46 : decode cL_fairs 46 = .ok (.aload_n 2, 1) := by decide +kernel
theorem dL_fairs_47 : decode cL_fairs 47 = .ok (.invokestatic 75, 3) := by decide +kernel
theorem dL_fairs_50 : decode cL_fairs 50 = .ok (.ifCond .eq 7, 3) := by decide +kernel
theorem dL_fairs_53 : decode cL_fairs 53 = .ok (.iconst 0, 1) := by decide +kernel
theorem dL_fairs_54 : decode cL_fairs 54 = .ok (.goto 5, 3) := by decide +kernel
theorem dL_fairs_57 : decode cL_fairs 57 = .ok (.ldc 81, 2) := by decide +kernel
theorem dL_fairs_59 : decode cL_fairs 59 = .ok (.iastore, 1) := by decide +kernel
theorem dL_fairs_60 : decode cL_fairs 60 = .ok (.aload_n 3, 1) := by decide +kernel
theorem dL_fairs_61 : decode cL_fairs 61 = .ok (.iload 5, 2) := by decide +kernel
theorem dL_fairs_63 : decode cL_fairs 63 = .ok (.ldc2_w 82, 3) := by decide +kernel
theorem dL_fairs_66 : decode cL_fairs 66 = .ok (.iload 5, 2) := by decide +kernel
theorem dL_fairs_68 : decode cL_fairs 68 = .ok (.iconst 5, 1) := by decide +kernel
theorem dL_fairs_69 : decode cL_fairs 69 = .ok (.idiv, 1) := by decide +kernel
theorem dL_fairs_70 : decode cL_fairs 70 = .ok (.i2l, 1) := by decide +kernel
theorem dL_fairs_71 : decode cL_fairs 71 = .ok (.lmul, 1) := by decide +kernel
theorem dL_fairs_72 : decode cL_fairs 72 = .ok (.iload 5, 2) := by decide +kernel
theorem dL_fairs_74 : decode cL_fairs 74 = .ok (.iconst 5, 1) := by decide +kernel
theorem dL_fairs_75 : decode cL_fairs 75 = .ok (.irem, 1) := by decide +kernel
theorem dL_fairs_76 : decode cL_fairs 76 = .ok (.i2l, 1) := by decide +kernel
theorem dL_fairs_77 : decode cL_fairs 77 = .ok (.ladd, 1) := by decide +kernel
theorem dL_fairs_78 : decode cL_fairs 78 = .ok (.lastore, 1) := by decide +kernel
theorem dL_fairs_79 : decode cL_fairs 79 = .ok (.iinc 5 1, 3) := by decide +kernel
theorem dL_fairs_82 : decode cL_fairs 82 = .ok (.goto (-68), 3) := by decide +kernel
theorem dL_fairs_85 : decode cL_fairs 85 = .ok (.iconst 2, 1) := by decide +kernel
theorem dL_fairs_86 : decode cL_fairs 86 = .ok (.istore 5, 2) := by decide +kernel
theorem dL_fairs_88 : decode cL_fairs 88 = .ok (.iload 5, 2) := by decide +kernel
theorem dL_fairs_90 : decode cL_fairs 90 = .ok (.bipush 9, 2) := by decide +kernel
theorem dL_fairs_92 : decode cL_fairs 92 = .ok (.if_icmp .ge 224, 3) := by decide +kernel
theorem dL_fairs_95 : decode cL_fairs 95 = .ok (.bipush 25, 2) := by decide +kernel
theorem dL_fairs_97 : decode cL_fairs 97 = .ok (.newarray .long, 2) := by decide +kernel
theorem dL_fairs_99 : decode cL_fairs 99 = .ok (.astore 6, 2) := by decide +kernel
theorem dL_fairs_101 : decode cL_fairs 101 = .ok (.bipush 25, 2) := by decide +kernel
theorem dL_fairs_103 : decode cL_fairs 103 = .ok (.newarray .int, 2) := by decide +kernel
theorem dL_fairs_105 : decode cL_fairs 105 = .ok (.astore 7, 2) := by decide +kernel
theorem dL_fairs_107 : decode cL_fairs 107 = .ok (.iconst 0, 1) := by decide +kernel
theorem dL_fairs_108 : decode cL_fairs 108 = .ok (.istore 8, 2) := by decide +kernel
theorem dL_fairs_110 : decode cL_fairs 110 = .ok (.iload 8, 2) := by decide +kernel
theorem dL_fairs_112 : decode cL_fairs 112 = .ok (.bipush 25, 2) := by decide +kernel
theorem dL_fairs_114 : decode cL_fairs 114 = .ok (.if_icmp .ge 189, 3) := by decide +kernel
theorem dL_fairs_117 : decode cL_fairs 117 = .ok (.aload 7, 2) := by decide +kernel
theorem dL_fairs_119 : decode cL_fairs 119 = .ok (.iload 8, 2) := by decide +kernel
theorem dL_fairs_121 : decode cL_fairs 121 = .ok (.ldc 81, 2) := by decide +kernel
theorem dL_fairs_123 : decode cL_fairs 123 = .ok (.iastore, 1) := by decide +kernel
theorem dL_fairs_124 : decode cL_fairs 124 = .ok (.iload_n 0, 1) := by decide +kernel
theorem dL_fairs_125 : decode cL_fairs 125 = .ok (.iload 5, 2) := by decide +kernel
theorem dL_fairs_127 : decode cL_fairs 127 = .ok (.iload 8, 2) := by decide +kernel
theorem dL_fairs_129 : decode cL_fairs 129 = .ok (.iconst 5, 1) := by decide +kernel
theorem dL_fairs_130 : decode cL_fairs 130 = .ok (.irem, 1) := by decide +kernel
theorem dL_fairs_131 : decode cL_fairs 131 = .ok (.iload_n 1, 1) := by decide +kernel
theorem dL_fairs_132 : decode cL_fairs 132 = .ok (.aload_n 2, 1) := by decide +kernel
theorem dL_fairs_133 : decode cL_fairs 133 = .ok (.invokestatic 75, 3) := by decide +kernel
theorem dL_fairs_136 : decode cL_fairs 136 = .ok (.ifCond .ne 6, 3) := by decide +kernel
theorem dL_fairs_139 : decode cL_fairs 139 = .ok (.goto 158, 3) := by decide +kernel
theorem dL_fairs_142 : decode cL_fairs 142 = .ok (.iconst 0, 1) := by decide +kernel
theorem dL_fairs_143 : decode cL_fairs 143 = .ok (.istore 9, 2) := by decide +kernel
theorem dL_fairs_145 : decode cL_fairs 145 = .ok (.iload 9, 2) := by decide +kernel
theorem dL_fairs_147 : decode cL_fairs 147 = .ok (.iconst 5, 1) := by decide +kernel
theorem dL_fairs_148 : decode cL_fairs 148 = .ok (.if_icmp .ge 149, 3) := by decide +kernel
theorem dL_fairs_151 : decode cL_fairs 151 = .ok (.iconst 5, 1) := by decide +kernel
theorem dL_fairs_152 : decode cL_fairs 152 = .ok (.iload 9, 2) := by decide +kernel
theorem dL_fairs_154 : decode cL_fairs 154 = .ok (.imul, 1) := by decide +kernel
theorem dL_fairs_155 : decode cL_fairs 155 = .ok (.iload 8, 2) := by decide +kernel
theorem dL_fairs_157 : decode cL_fairs 157 = .ok (.iconst 5, 1) := by decide +kernel
theorem dL_fairs_158 : decode cL_fairs 158 = .ok (.idiv, 1) := by decide +kernel
theorem dL_fairs_159 : decode cL_fairs 159 = .ok (.iadd, 1) := by decide +kernel
theorem dL_fairs_160 : decode cL_fairs 160 = .ok (.istore 10, 2) := by decide +kernel
theorem dL_fairs_162 : decode cL_fairs 162 = .ok (.aload_n 2, 1) := by decide +kernel
theorem dL_fairs_163 : decode cL_fairs 163 = .ok (.bipush 9, 2) := by decide +kernel
theorem dL_fairs_165 : decode cL_fairs 165 = .ok (.iload_n 0, 1) := by decide +kernel
theorem dL_fairs_166 : decode cL_fairs 166 = .ok (.imul, 1) := by decide +kernel
theorem dL_fairs_167 : decode cL_fairs 167 = .ok (.iload 5, 2) := by decide +kernel
theorem dL_fairs_169 : decode cL_fairs 169 = .ok (.iadd, 1) := by decide +kernel
theorem dL_fairs_170 : decode cL_fairs 170 = .ok (.iconst 2, 1) := by decide +kernel
theorem dL_fairs_171 : decode cL_fairs 171 = .ok (.isub, 1) := by decide +kernel
theorem dL_fairs_172 : decode cL_fairs 172 = .ok (.iaload, 1) := by decide +kernel
theorem dL_fairs_173 : decode cL_fairs 173 = .ok (.iload 9, 2) := by decide +kernel
theorem dL_fairs_175 : decode cL_fairs 175 = .ok (.iadd, 1) := by decide +kernel
theorem dL_fairs_176 : decode cL_fairs 176 = .ok (.aload_n 2, 1) := by decide +kernel
theorem dL_fairs_177 : decode cL_fairs 177 = .ok (.bipush 9, 2) := by decide +kernel
theorem dL_fairs_179 : decode cL_fairs 179 = .ok (.iload_n 0, 1) := by decide +kernel
theorem dL_fairs_180 : decode cL_fairs 180 = .ok (.imul, 1) := by decide +kernel
theorem dL_fairs_181 : decode cL_fairs 181 = .ok (.iload 5, 2) := by decide +kernel
theorem dL_fairs_183 : decode cL_fairs 183 = .ok (.iadd, 1) := by decide +kernel
theorem dL_fairs_184 : decode cL_fairs 184 = .ok (.iaload, 1) := by decide +kernel
theorem dL_fairs_185 : decode cL_fairs 185 = .ok (.iadd, 1) := by decide +kernel
theorem dL_fairs_186 : decode cL_fairs 186 = .ok (.iload 8, 2) := by decide +kernel
theorem dL_fairs_188 : decode cL_fairs 188 = .ok (.iconst 5, 1) := by decide +kernel
theorem dL_fairs_189 : decode cL_fairs 189 = .ok (.irem, 1) := by decide +kernel
theorem dL_fairs_190 : decode cL_fairs 190 = .ok (.iadd, 1) := by decide +kernel
theorem dL_fairs_191 : decode cL_fairs 191 = .ok (.iconst 2, 1) := by decide +kernel
theorem dL_fairs_192 : decode cL_fairs 192 = .ok (.aload_n 2, 1) := by decide +kernel
theorem dL_fairs_193 : decode cL_fairs 193 = .ok (.bipush 9, 2) := by decide +kernel
theorem dL_fairs_195 : decode cL_fairs 195 = .ok (.iload_n 0, 1) := by decide +kernel
theorem dL_fairs_196 : decode cL_fairs 196 = .ok (.imul, 1) := by decide +kernel
theorem dL_fairs_197 : decode cL_fairs 197 = .ok (.iload 5, 2) := by decide +kernel
theorem dL_fairs_199 : decode cL_fairs 199 = .ok (.iadd, 1) := by decide +kernel
theorem dL_fairs_200 : decode cL_fairs 200 = .ok (.iconst 1, 1) := by decide +kernel
theorem dL_fairs_201 : decode cL_fairs 201 = .ok (.isub, 1) := by decide +kernel
theorem dL_fairs_202 : decode cL_fairs 202 = .ok (.iaload, 1) := by decide +kernel
theorem dL_fairs_203 : decode cL_fairs 203 = .ok (.imul, 1) := by decide +kernel
theorem dL_fairs_204 : decode cL_fairs 204 = .ok (.isub, 1) := by decide +kernel
theorem dL_fairs_205 : decode cL_fairs 205 = .ok (.iconst 2, 1) := by decide +kernel
theorem dL_fairs_206 : decode cL_fairs 206 = .ok (.iload 8, 2) := by decide +kernel
theorem dL_fairs_208 : decode cL_fairs 208 = .ok (.iconst 5, 1) := by decide +kernel
theorem dL_fairs_209 : decode cL_fairs 209 = .ok (.idiv, 1) := by decide +kernel
theorem dL_fairs_210 : decode cL_fairs 210 = .ok (.imul, 1) := by decide +kernel
theorem dL_fairs_211 : decode cL_fairs 211 = .ok (.isub, 1) := by decide +kernel
theorem dL_fairs_212 : decode cL_fairs 212 = .ok (.istore 11, 2) := by decide +kernel
theorem dL_fairs_214 : decode cL_fairs 214 = .ok (.aload 4, 2) := by decide +kernel
theorem dL_fairs_216 : decode cL_fairs 216 = .ok (.iload 10, 2) := by decide +kernel
theorem dL_fairs_218 : decode cL_fairs 218 = .ok (.iaload, 1) := by decide +kernel
theorem dL_fairs_219 : decode cL_fairs 219 = .ok (.iload 11, 2) := by decide +kernel
theorem dL_fairs_221 : decode cL_fairs 221 = .ok (.iload 11, 2) := by decide +kernel
theorem dL_fairs_223 : decode cL_fairs 223 = .ok (.imul, 1) := by decide +kernel
theorem dL_fairs_224 : decode cL_fairs 224 = .ok (.iadd, 1) := by decide +kernel
theorem dL_fairs_225 : decode cL_fairs 225 = .ok (.istore 12, 2) := by decide +kernel
theorem dL_fairs_227 : decode cL_fairs 227 = .ok (.ldc2_w 82, 3) := by decide +kernel
theorem dL_fairs_230 : decode cL_fairs 230 = .ok (.aload_n 3, 1) := by decide +kernel
theorem dL_fairs_231 : decode cL_fairs 231 = .ok (.iload 10, 2) := by decide +kernel
theorem dL_fairs_233 : decode cL_fairs 233 = .ok (.laload, 1) := by decide +kernel
theorem dL_fairs_234 : decode cL_fairs 234 = .ok (.lmul, 1) := by decide +kernel
theorem dL_fairs_235 : decode cL_fairs 235 = .ok (.iload 8, 2) := by decide +kernel
theorem dL_fairs_237 : decode cL_fairs 237 = .ok (.iconst 5, 1) := by decide +kernel
theorem dL_fairs_238 : decode cL_fairs 238 = .ok (.irem, 1) := by decide +kernel
theorem dL_fairs_239 : decode cL_fairs 239 = .ok (.i2l, 1) := by decide +kernel
theorem dL_fairs_240 : decode cL_fairs 240 = .ok (.ladd, 1) := by decide +kernel
theorem dL_fairs_241 : decode cL_fairs 241 = .ok (.lstore 13, 2) := by decide +kernel
theorem dL_fairs_243 : decode cL_fairs 243 = .ok (.iload 12, 2) := by decide +kernel
theorem dL_fairs_245 : decode cL_fairs 245 = .ok (.aload 7, 2) := by decide +kernel
theorem dL_fairs_247 : decode cL_fairs 247 = .ok (.iload 8, 2) := by decide +kernel
theorem dL_fairs_249 : decode cL_fairs 249 = .ok (.iaload, 1) := by decide +kernel
theorem dL_fairs_250 : decode cL_fairs 250 = .ok (.if_icmp .gt 41, 3) := by decide +kernel
theorem dL_fairs_253 : decode cL_fairs 253 = .ok (.iload 12, 2) := by decide +kernel
theorem dL_fairs_255 : decode cL_fairs 255 = .ok (.aload 7, 2) := by decide +kernel
theorem dL_fairs_257 : decode cL_fairs 257 = .ok (.iload 8, 2) := by decide +kernel
theorem dL_fairs_259 : decode cL_fairs 259 = .ok (.iaload, 1) := by decide +kernel
theorem dL_fairs_260 : decode cL_fairs 260 = .ok (.if_icmp .ne 17, 3) := by decide +kernel
theorem dL_fairs_263 : decode cL_fairs 263 = .ok (.lload 13, 2) := by decide +kernel
theorem dL_fairs_265 : decode cL_fairs 265 = .ok (.aload 6, 2) := by decide +kernel
theorem dL_fairs_267 : decode cL_fairs 267 = .ok (.iload 8, 2) := by decide +kernel
theorem dL_fairs_269 : decode cL_fairs 269 = .ok (.laload, 1) := by decide +kernel
theorem dL_fairs_270 : decode cL_fairs 270 = .ok (.lcmp, 1) := by decide +kernel
theorem dL_fairs_271 : decode cL_fairs 271 = .ok (.ifCond .lt 6, 3) := by decide +kernel
theorem dL_fairs_274 : decode cL_fairs 274 = .ok (.goto 17, 3) := by decide +kernel
theorem dL_fairs_277 : decode cL_fairs 277 = .ok (.aload 7, 2) := by decide +kernel
theorem dL_fairs_279 : decode cL_fairs 279 = .ok (.iload 8, 2) := by decide +kernel
theorem dL_fairs_281 : decode cL_fairs 281 = .ok (.iload 12, 2) := by decide +kernel
theorem dL_fairs_283 : decode cL_fairs 283 = .ok (.iastore, 1) := by decide +kernel
theorem dL_fairs_284 : decode cL_fairs 284 = .ok (.aload 6, 2) := by decide +kernel
theorem dL_fairs_286 : decode cL_fairs 286 = .ok (.iload 8, 2) := by decide +kernel
theorem dL_fairs_288 : decode cL_fairs 288 = .ok (.lload 13, 2) := by decide +kernel
theorem dL_fairs_290 : decode cL_fairs 290 = .ok (.lastore, 1) := by decide +kernel
theorem dL_fairs_291 : decode cL_fairs 291 = .ok (.iinc 9 1, 3) := by decide +kernel
theorem dL_fairs_294 : decode cL_fairs 294 = .ok (.goto (-149), 3) := by decide +kernel
theorem dL_fairs_297 : decode cL_fairs 297 = .ok (.iinc 8 1, 3) := by decide +kernel
theorem dL_fairs_300 : decode cL_fairs 300 = .ok (.goto (-190), 3) := by decide +kernel
theorem dL_fairs_303 : decode cL_fairs 303 = .ok (.aload 6, 2) := by decide +kernel
theorem dL_fairs_305 : decode cL_fairs 305 = .ok (.astore_n 3, 1) := by decide +kernel
theorem dL_fairs_306 : decode cL_fairs 306 = .ok (.aload 7, 2) := by decide +kernel
theorem dL_fairs_308 : decode cL_fairs 308 = .ok (.astore 4, 2) := by decide +kernel
theorem dL_fairs_310 : decode cL_fairs 310 = .ok (.iinc 5 1, 3) := by decide +kernel
theorem dL_fairs_313 : decode cL_fairs 313 = .ok (.goto (-225), 3) := by decide +kernel
theorem dL_fairs_316 : decode cL_fairs 316 = .ok (.iconst 0, 1) := by decide +kernel
theorem dL_fairs_317 : decode cL_fairs 317 = .ok (.istore 5, 2) := by decide +kernel
theorem dL_fairs_319 : decode cL_fairs 319 = .ok (.iconst 1, 1) := by decide +kernel
theorem dL_fairs_320 : decode cL_fairs 320 = .ok (.istore 6, 2) := by decide +kernel
theorem dL_fairs_322 : decode cL_fairs 322 = .ok (.iload 6, 2) := by decide +kernel
theorem dL_fairs_324 : decode cL_fairs 324 = .ok (.bipush 25, 2) := by decide +kernel
theorem dL_fairs_326 : decode cL_fairs 326 = .ok (.if_icmp .ge 51, 3) := by decide +kernel
theorem dL_fairs_329 : decode cL_fairs 329 = .ok (.aload 4, 2) := by decide +kernel
theorem dL_fairs_331 : decode cL_fairs 331 = .ok (.iload 6, 2) := by decide +kernel
theorem dL_fairs_333 : decode cL_fairs 333 = .ok (.iaload, 1) := by decide +kernel
theorem dL_fairs_334 : decode cL_fairs 334 = .ok (.aload 4, 2) := by decide +kernel
theorem dL_fairs_336 : decode cL_fairs 336 = .ok (.iload 5, 2) := by decide +kernel
theorem dL_fairs_338 : decode cL_fairs 338 = .ok (.iaload, 1) := by decide +kernel
theorem dL_fairs_339 : decode cL_fairs 339 = .ok (.if_icmp .lt 28, 3) := by decide +kernel
theorem dL_fairs_342 : decode cL_fairs 342 = .ok (.aload 4, 2) := by decide +kernel
theorem dL_fairs_344 : decode cL_fairs 344 = .ok (.iload 6, 2) := by decide +kernel
theorem dL_fairs_346 : decode cL_fairs 346 = .ok (.iaload, 1) := by decide +kernel
theorem dL_fairs_347 : decode cL_fairs 347 = .ok (.aload 4, 2) := by decide +kernel
theorem dL_fairs_349 : decode cL_fairs 349 = .ok (.iload 5, 2) := by decide +kernel
theorem dL_fairs_351 : decode cL_fairs 351 = .ok (.iaload, 1) := by decide +kernel
theorem dL_fairs_352 : decode cL_fairs 352 = .ok (.if_icmp .ne 19, 3) := by decide +kernel
theorem dL_fairs_355 : decode cL_fairs 355 = .ok (.aload_n 3, 1) := by decide +kernel
theorem dL_fairs_356 : decode cL_fairs 356 = .ok (.iload 6, 2) := by decide +kernel
theorem dL_fairs_358 : decode cL_fairs 358 = .ok (.laload, 1) := by decide +kernel
theorem dL_fairs_359 : decode cL_fairs 359 = .ok (.aload_n 3, 1) := by decide +kernel
theorem dL_fairs_360 : decode cL_fairs 360 = .ok (.iload 5, 2) := by decide +kernel
theorem dL_fairs_362 : decode cL_fairs 362 = .ok (.laload, 1) := by decide +kernel
theorem dL_fairs_363 : decode cL_fairs 363 = .ok (.lcmp, 1) := by decide +kernel
theorem dL_fairs_364 : decode cL_fairs 364 = .ok (.ifCond .ge 7, 3) := by decide +kernel
theorem dL_fairs_367 : decode cL_fairs 367 = .ok (.iload 6, 2) := by decide +kernel
theorem dL_fairs_369 : decode cL_fairs 369 = .ok (.istore 5, 2) := by decide +kernel
theorem dL_fairs_371 : decode cL_fairs 371 = .ok (.iinc 6 1, 3) := by decide +kernel
theorem dL_fairs_374 : decode cL_fairs 374 = .ok (.goto (-52), 3) := by decide +kernel
theorem dL_fairs_377 : decode cL_fairs 377 = .ok (.aload_n 3, 1) := by decide +kernel
theorem dL_fairs_378 : decode cL_fairs 378 = .ok (.iload 5, 2) := by decide +kernel
theorem dL_fairs_380 : decode cL_fairs 380 = .ok (.laload, 1) := by decide +kernel
theorem dL_fairs_381 : decode cL_fairs 381 = .ok (.lstore 6, 2) := by decide +kernel
theorem dL_fairs_383 : decode cL_fairs 383 = .ok (.bipush 8, 2) := by decide +kernel
theorem dL_fairs_385 : decode cL_fairs 385 = .ok (.istore 8, 2) := by decide +kernel
theorem dL_fairs_387 : decode cL_fairs 387 = .ok (.iload 8, 2) := by decide +kernel
theorem dL_fairs_389 : decode cL_fairs 389 = .ok (.ifCond .lt 38, 3) := by decide +kernel
theorem dL_fairs_392 : decode cL_fairs 392 = .ok (.aload_n 2, 1) := by decide +kernel
theorem dL_fairs_393 : decode cL_fairs 393 = .ok (.bipush 9, 2) := by decide +kernel
theorem dL_fairs_395 : decode cL_fairs 395 = .ok (.iload_n 0, 1) := by decide +kernel
theorem dL_fairs_396 : decode cL_fairs 396 = .ok (.imul, 1) := by decide +kernel
theorem dL_fairs_397 : decode cL_fairs 397 = .ok (.iload 8, 2) := by decide +kernel
theorem dL_fairs_399 : decode cL_fairs 399 = .ok (.iadd, 1) := by decide +kernel
theorem dL_fairs_400 : decode cL_fairs 400 = .ok (.dup2, 1) := by decide +kernel
theorem dL_fairs_401 : decode cL_fairs 401 = .ok (.iaload, 1) := by decide +kernel
theorem dL_fairs_402 : decode cL_fairs 402 = .ok (.lload 6, 2) := by decide +kernel
theorem dL_fairs_404 : decode cL_fairs 404 = .ok (.ldc2_w 82, 3) := by decide +kernel
theorem dL_fairs_407 : decode cL_fairs 407 = .ok (.lrem, 1) := by decide +kernel
theorem dL_fairs_408 : decode cL_fairs 408 = .ok (.l2i, 1) := by decide +kernel
theorem dL_fairs_409 : decode cL_fairs 409 = .ok (.iconst 2, 1) := by decide +kernel
theorem dL_fairs_410 : decode cL_fairs 410 = .ok (.isub, 1) := by decide +kernel
theorem dL_fairs_411 : decode cL_fairs 411 = .ok (.iadd, 1) := by decide +kernel
theorem dL_fairs_412 : decode cL_fairs 412 = .ok (.iastore, 1) := by decide +kernel
theorem dL_fairs_413 : decode cL_fairs 413 = .ok (.lload 6, 2) := by decide +kernel
theorem dL_fairs_415 : decode cL_fairs 415 = .ok (.ldc2_w 82, 3) := by decide +kernel
theorem dL_fairs_418 : decode cL_fairs 418 = .ok (.ldiv, 1) := by decide +kernel
theorem dL_fairs_419 : decode cL_fairs 419 = .ok (.lstore 6, 2) := by decide +kernel
theorem dL_fairs_421 : decode cL_fairs 421 = .ok (.iinc 8 (-1), 3) := by decide +kernel
theorem dL_fairs_424 : decode cL_fairs 424 = .ok (.goto (-37), 3) := by decide +kernel
theorem dL_fairs_427 : decode cL_fairs 427 = .ok (.return_, 1) := by decide +kernel
theorem dL_may_0 : decode cL_may 0 = .ok (.aload 4, 2) := by decide +kernel
theorem dL_may_2 : decode cL_may 2 = .ok (.bipush 9, 2) := by decide +kernel
theorem dL_may_4 : decode cL_may 4 = .ok (.iload_n 0, 1) := by decide +kernel
theorem dL_may_5 : decode cL_may 5 = .ok (.imul, 1) := by decide +kernel
theorem dL_may_6 : decode cL_may 6 = .ok (.iload_n 1, 1) := by decide +kernel
theorem dL_may_7 : decode cL_may 7 = .ok (.iadd, 1) := by decide +kernel
theorem dL_may_8 : decode cL_may 8 = .ok (.iaload, 1) := by decide +kernel
theorem dL_may_9 : decode cL_may 9 = .ok (.iload_n 2, 1) := by decide +kernel
theorem dL_may_10 : decode cL_may 10 = .ok (.iadd, 1) := by decide +kernel
theorem dL_may_11 : decode cL_may 11 = .ok (.iconst 2, 1) := by decide +kernel
theorem dL_may_12 : decode cL_may 12 = .ok (.isub, 1) := by decide +kernel
theorem dL_may_13 : decode cL_may 13 = .ok (.istore 5, 2) := by decide +kernel
theorem dL_may_15 : decode cL_may 15 = .ok (.iload_n 2, 1) := by decide +kernel
theorem dL_may_16 : decode cL_may 16 = .ok (.iconst 2, 1) := by decide +kernel
theorem dL_may_17 : decode cL_may 17 = .ok (.iload_n 3, 1) := by decide +kernel
theorem dL_may_18 : decode cL_may 18 = .ok (.isub, 1) := by decide +kernel
theorem dL_may_19 : decode cL_may 19 = .ok (.if_icmp .lt 27, 3) := by decide +kernel
theorem dL_may_22 : decode cL_may 22 = .ok (.iload_n 2, 1) := by decide +kernel
theorem dL_may_23 : decode cL_may 23 = .ok (.iconst 2, 1) := by decide +kernel
theorem dL_may_24 : decode cL_may 24 = .ok (.iload_n 3, 1) := by decide +kernel
theorem dL_may_25 : decode cL_may 25 = .ok (.iadd, 1) := by decide +kernel
theorem dL_may_26 : decode cL_may 26 = .ok (.if_icmp .gt 20, 3) := by decide +kernel
theorem dL_may_29 : decode cL_may 29 = .ok (.iload 5, 2) := by decide +kernel
theorem dL_may_31 : decode cL_may 31 = .ok (.ifCond .lt 15, 3) := by decide +kernel
theorem dL_may_34 : decode cL_may 34 = .ok (.iload 5, 2) := by decide +kernel
theorem dL_may_36 : decode cL_may 36 = .ok (.sipush 200, 3) := by decide +kernel
theorem dL_may_39 : decode cL_may 39 = .ok (.if_icmp .gt 7, 3) := by decide +kernel
theorem dL_may_42 : decode cL_may 42 = .ok (.iconst 1, 1) := by decide +kernel
theorem dL_may_43 : decode cL_may 43 = .ok (.goto 4, 3) := by decide +kernel
theorem dL_may_46 : decode cL_may 46 = .ok (.iconst 0, 1) := by decide +kernel
theorem dL_may_47 : decode cL_may 47 = .ok (.ireturn, 1) := by decide +kernel
theorem dL_volumeOf_0 : decode cL_volumeOf 0 = .ok (.iconst 0, 1) := by decide +kernel
theorem dL_volumeOf_1 : decode cL_volumeOf 1 = .ok (.istore_n 3, 1) := by decide +kernel
theorem dL_volumeOf_2 : decode cL_volumeOf 2 = .ok (.iconst 0, 1) := by decide +kernel
theorem dL_volumeOf_3 : decode cL_volumeOf 3 = .ok (.istore 4, 2) := by decide +kernel
theorem dL_volumeOf_5 : decode cL_volumeOf 5 = .ok (.iload 4, 2) := by decide +kernel
theorem dL_volumeOf_7 : decode cL_volumeOf 7 = .ok (.iload_n 0, 1) := by decide +kernel
theorem dL_volumeOf_8 : decode cL_volumeOf 8 = .ok (.if_icmp .ge 94, 3) := by decide +kernel
theorem dL_volumeOf_11 : decode cL_volumeOf 11 = .ok (.iconst 0, 1) := by decide +kernel
theorem dL_volumeOf_12 : decode cL_volumeOf 12 = .ok (.istore 5, 2) := by decide +kernel
theorem dL_volumeOf_14 : decode cL_volumeOf 14 = .ok (.iload 5, 2) := by decide +kernel
theorem dL_volumeOf_16 : decode cL_volumeOf 16 = .ok (.bipush 8, 2) := by decide +kernel
theorem dL_volumeOf_18 : decode cL_volumeOf 18 = .ok (.if_icmp .ge 78, 3) := by decide +kernel
theorem dL_volumeOf_21 : decode cL_volumeOf 21 = .ok (.iload_n 3, 1) := by decide +kernel
theorem dL_volumeOf_22 : decode cL_volumeOf 22 = .ok (.aload_n 1, 1) := by decide +kernel
theorem dL_volumeOf_23 : decode cL_volumeOf 23 = .ok (.bipush 9, 2) := by decide +kernel
theorem dL_volumeOf_25 : decode cL_volumeOf 25 = .ok (.iload 4, 2) := by decide +kernel
theorem dL_volumeOf_27 : decode cL_volumeOf 27 = .ok (.imul, 1) := by decide +kernel
theorem dL_volumeOf_28 : decode cL_volumeOf 28 = .ok (.iload 5, 2) := by decide +kernel
theorem dL_volumeOf_30 : decode cL_volumeOf 30 = .ok (.iadd, 1) := by decide +kernel
theorem dL_volumeOf_31 : decode cL_volumeOf 31 = .ok (.iaload, 1) := by decide +kernel
theorem dL_volumeOf_32 : decode cL_volumeOf 32 = .ok (.aload_n 1, 1) := by decide +kernel
theorem dL_volumeOf_33 : decode cL_volumeOf 33 = .ok (.bipush 9, 2) := by decide +kernel
theorem dL_volumeOf_35 : decode cL_volumeOf 35 = .ok (.iload 4, 2) := by decide +kernel
theorem dL_volumeOf_37 : decode cL_volumeOf 37 = .ok (.imul, 1) := by decide +kernel
theorem dL_volumeOf_38 : decode cL_volumeOf 38 = .ok (.iload 5, 2) := by decide +kernel
theorem dL_volumeOf_40 : decode cL_volumeOf 40 = .ok (.iadd, 1) := by decide +kernel
theorem dL_volumeOf_41 : decode cL_volumeOf 41 = .ok (.iconst 1, 1) := by decide +kernel
theorem dL_volumeOf_42 : decode cL_volumeOf 42 = .ok (.iadd, 1) := by decide +kernel
theorem dL_volumeOf_43 : decode cL_volumeOf 43 = .ok (.iaload, 1) := by decide +kernel
theorem dL_volumeOf_44 : decode cL_volumeOf 44 = .ok (.iadd, 1) := by decide +kernel
theorem dL_volumeOf_45 : decode cL_volumeOf 45 = .ok (.aload_n 1, 1) := by decide +kernel
theorem dL_volumeOf_46 : decode cL_volumeOf 46 = .ok (.bipush 9, 2) := by decide +kernel
theorem dL_volumeOf_48 : decode cL_volumeOf 48 = .ok (.iload 4, 2) := by decide +kernel
theorem dL_volumeOf_50 : decode cL_volumeOf 50 = .ok (.imul, 1) := by decide +kernel
theorem dL_volumeOf_51 : decode cL_volumeOf 51 = .ok (.bipush 9, 2) := by decide +kernel
theorem dL_volumeOf_53 : decode cL_volumeOf 53 = .ok (.iadd, 1) := by decide +kernel
theorem dL_volumeOf_54 : decode cL_volumeOf 54 = .ok (.iload 5, 2) := by decide +kernel
theorem dL_volumeOf_56 : decode cL_volumeOf 56 = .ok (.iadd, 1) := by decide +kernel
theorem dL_volumeOf_57 : decode cL_volumeOf 57 = .ok (.iaload, 1) := by decide +kernel
theorem dL_volumeOf_58 : decode cL_volumeOf 58 = .ok (.iadd, 1) := by decide +kernel
theorem dL_volumeOf_59 : decode cL_volumeOf 59 = .ok (.aload_n 1, 1) := by decide +kernel
theorem dL_volumeOf_60 : decode cL_volumeOf 60 = .ok (.bipush 9, 2) := by decide +kernel
theorem dL_volumeOf_62 : decode cL_volumeOf 62 = .ok (.iload 4, 2) := by decide +kernel
theorem dL_volumeOf_64 : decode cL_volumeOf 64 = .ok (.imul, 1) := by decide +kernel
theorem dL_volumeOf_65 : decode cL_volumeOf 65 = .ok (.bipush 10, 2) := by decide +kernel
theorem dL_volumeOf_67 : decode cL_volumeOf 67 = .ok (.iadd, 1) := by decide +kernel
theorem dL_volumeOf_68 : decode cL_volumeOf 68 = .ok (.iload 5, 2) := by decide +kernel
theorem dL_volumeOf_70 : decode cL_volumeOf 70 = .ok (.iadd, 1) := by decide +kernel
theorem dL_volumeOf_71 : decode cL_volumeOf 71 = .ok (.iaload, 1) := by decide +kernel
theorem dL_volumeOf_72 : decode cL_volumeOf 72 = .ok (.iadd, 1) := by decide +kernel
theorem dL_volumeOf_73 : decode cL_volumeOf 73 = .ok (.iload_n 2, 1) := by decide +kernel
theorem dL_volumeOf_74 : decode cL_volumeOf 74 = .ok (.ifCond .eq 12, 3) := by decide +kernel
theorem dL_volumeOf_77 : decode cL_volumeOf 77 = .ok (.iconst 2, 1) := by decide +kernel
theorem dL_volumeOf_78 : decode cL_volumeOf 78 = .ok (.iload 5, 2) := by decide +kernel
theorem dL_volumeOf_80 : decode cL_volumeOf 80 = .ok (.imul, 1) := by decide +kernel
theorem dL_volumeOf_81 : decode cL_volumeOf 81 = .ok (.iconst 1, 1) := by decide +kernel
theorem dL_volumeOf_82 : decode cL_volumeOf 82 = .ok (.iadd, 1) := by decide +kernel
theorem dL_volumeOf_83 : decode cL_volumeOf 83 = .ok (.goto 4, 3) := by decide +kernel
theorem dL_volumeOf_86 : decode cL_volumeOf 86 = .ok (.iconst 1, 1) := by decide +kernel
theorem dL_volumeOf_87 : decode cL_volumeOf 87 = .ok (.imul, 1) := by decide +kernel
theorem dL_volumeOf_88 : decode cL_volumeOf 88 = .ok (.iadd, 1) := by decide +kernel
theorem dL_volumeOf_89 : decode cL_volumeOf 89 = .ok (.istore_n 3, 1) := by decide +kernel
theorem dL_volumeOf_90 : decode cL_volumeOf 90 = .ok (.iinc 5 1, 3) := by decide +kernel
theorem dL_volumeOf_93 : decode cL_volumeOf 93 = .ok (.goto (-79), 3) := by decide +kernel
theorem dL_volumeOf_96 : decode cL_volumeOf 96 = .ok (.iinc 4 1, 3) := by decide +kernel
theorem dL_volumeOf_99 : decode cL_volumeOf 99 = .ok (.goto (-94), 3) := by decide +kernel
theorem dL_volumeOf_102 : decode cL_volumeOf 102 = .ok (.iload_n 3, 1) := by decide +kernel
theorem dL_volumeOf_103 : decode cL_volumeOf 103 = .ok (.ireturn, 1) := by decide +kernel
set_option maxRecDepth 20000 in
theorem ggL_draught_L_volumeOf : GoodIn wsL_draught wsL_volumeOf := goodIn_r _ [4] (by decide +kernel) (by decide +kernel)
set_option maxRecDepth 20000 in
theorem gL_draught_L_volumeOf : GoodIn wsL_draught (va_wsS RL 84 yL_volumeOf wsL_volumeOf) := goodIn_app (goodIn_of _ (by decide +kernel)) ggL_draught_L_volumeOf
theorem dL_draught_0 : decode cL_draught 0 = .ok (.iconst 0, 1) := by decide +kernel
theorem dL_draught_1 : decode cL_draught 1 = .ok (.istore_n 2, 1) := by decide +kernel
theorem dL_draught_2 : decode cL_draught 2 = .ok (.iconst 0, 1) := by decide +kernel
theorem dL_draught_3 : decode cL_draught 3 = .ok (.istore_n 3, 1) := by decide +kernel
theorem dL_draught_4 : decode cL_draught 4 = .ok (.iload_n 3, 1) := by decide +kernel
theorem dL_draught_5 : decode cL_draught 5 = .ok (.bipush 17, 2) := by decide +kernel
theorem dL_draught_7 : decode cL_draught 7 = .ok (.if_icmp .ge 18, 3) := by decide +kernel
theorem dL_draught_10 : decode cL_draught 10 = .ok (.iload_n 2, 1) := by decide +kernel
theorem dL_draught_11 : decode cL_draught 11 = .ok (.bipush 10, 2) := by decide +kernel
theorem dL_draught_13 : decode cL_draught 13 = .ok (.aload_n 1, 1) := by decide +kernel
theorem dL_draught_14 : decode cL_draught 14 = .ok (.iload_n 3, 1) := by decide +kernel
theorem dL_draught_15 : decode cL_draught 15 = .ok (.iaload, 1) := by decide +kernel
theorem dL_draught_16 : decode cL_draught 16 = .ok (.imul, 1) := by decide +kernel
theorem dL_draught_17 : decode cL_draught 17 = .ok (.iadd, 1) := by decide +kernel
theorem dL_draught_18 : decode cL_draught 18 = .ok (.istore_n 2, 1) := by decide +kernel
theorem dL_draught_19 : decode cL_draught 19 = .ok (.iinc 3 1, 3) := by decide +kernel
theorem dL_draught_22 : decode cL_draught 22 = .ok (.goto (-18), 3) := by decide +kernel
theorem dL_draught_25 : decode cL_draught 25 = .ok (.iconst 0, 1) := by decide +kernel
theorem dL_draught_26 : decode cL_draught 26 = .ok (.istore_n 3, 1) := by decide +kernel
theorem dL_draught_27 : decode cL_draught 27 = .ok (.iload_n 3, 1) := by decide +kernel
theorem dL_draught_28 : decode cL_draught 28 = .ok (.bipush 6, 2) := by decide +kernel
theorem dL_draught_30 : decode cL_draught 30 = .ok (.if_icmp .ge 21, 3) := by decide +kernel
theorem dL_draught_33 : decode cL_draught 33 = .ok (.iload_n 3, 1) := by decide +kernel
theorem dL_draught_34 : decode cL_draught 34 = .ok (.aload_n 0, 1) := by decide +kernel
theorem dL_draught_35 : decode cL_draught 35 = .ok (.iconst 0, 1) := by decide +kernel
theorem dL_draught_36 : decode cL_draught 36 = .ok (.invokestatic 84, 3) := by decide +kernel
theorem dL_draught_39 : decode cL_draught 39 = .ok (.iload_n 2, 1) := by decide +kernel
theorem dL_draught_40 : decode cL_draught 40 = .ok (.if_icmp .lt 5, 3) := by decide +kernel
theorem dL_draught_43 : decode cL_draught 43 = .ok (.iload_n 3, 1) := by decide +kernel
theorem dL_draught_44 : decode cL_draught 44 = .ok (.ireturn, 1) := by decide +kernel
theorem dL_draught_45 : decode cL_draught 45 = .ok (.iinc 3 1, 3) := by decide +kernel
theorem dL_draught_48 : decode cL_draught 48 = .ok (.goto (-21), 3) := by decide +kernel
theorem dL_draught_51 : decode cL_draught 51 = .ok (.iconst (-1), 1) := by decide +kernel
theorem dL_draught_52 : decode cL_draught 52 = .ok (.ireturn, 1) := by decide +kernel
set_option maxRecDepth 20000 in
theorem ggL_trim_L_draught : GoodIn wsL_trim wsL_draught := goodIn_r _ [4, 5, 6, 3, 7] (by decide +kernel) (by decide +kernel)
set_option maxRecDepth 20000 in
theorem gL_trim_L_draught : GoodIn wsL_trim (va_wsS RL 88 yL_draught wsL_draught) := goodIn_app (goodIn_of _ (by decide +kernel)) ggL_trim_L_draught
set_option maxRecDepth 20000 in
theorem ggL_trim_L_volumeOf : GoodIn wsL_trim wsL_volumeOf := goodIn_r _ [7] (by decide +kernel) (by decide +kernel)
set_option maxRecDepth 20000 in
theorem gL_trim_L_volumeOf : GoodIn wsL_trim (va_wsS RL 84 yL_volumeOf wsL_volumeOf) := goodIn_app (goodIn_of _ (by decide +kernel)) ggL_trim_L_volumeOf
theorem dL_trim_0 : decode cL_trim 0 = .ok (.aload_n 0, 1) := by decide +kernel
theorem dL_trim_1 : decode cL_trim 1 = .ok (.aload_n 2, 1) := by decide +kernel
theorem dL_trim_2 : decode cL_trim 2 = .ok (.invokestatic 88, 3) := by decide +kernel
theorem dL_trim_5 : decode cL_trim 5 = .ok (.istore_n 3, 1) := by decide +kernel
theorem dL_trim_6 : decode cL_trim 6 = .ok (.iload_n 3, 1) := by decide +kernel
theorem dL_trim_7 : decode cL_trim 7 = .ok (.iconst (-1), 1) := by decide +kernel
theorem dL_trim_8 : decode cL_trim 8 = .ok (.if_icmp .ne 5, 3) := by decide +kernel
