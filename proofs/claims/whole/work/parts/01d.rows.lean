theorem dX5_cutAll_47 : decode cX5_cutAll 47 = .ok (.getfield 15, 3) := by decide +kernel
theorem dX5_cutAll_50 : decode cX5_cutAll 50 = .ok (.iload_n 3, 1) := by decide +kernel
theorem dX5_cutAll_51 : decode cX5_cutAll 51 = .ok (.iaload, 1) := by decide +kernel
theorem dX5_cutAll_52 : decode cX5_cutAll 52 = .ok (.invokevirtual 38, 3) := by decide +kernel
theorem dX5_cutAll_55 : decode cX5_cutAll 55 = .ok (.iastore, 1) := by decide +kernel
theorem dX5_cutAll_56 : decode cX5_cutAll 56 = .ok (.iinc 2 1, 3) := by decide +kernel
theorem dX5_cutAll_59 : decode cX5_cutAll 59 = .ok (.goto (-47), 3) := by decide +kernel
theorem dX5_cutAll_62 : decode cX5_cutAll 62 = .ok (.return_, 1) := by decide +kernel
set_option maxRecDepth 20000 in
theorem ggX5_sortByLength_X4_strakeLength : GoodIn wsX5_sortByLength wsX4_strakeLength := goodIn_r _ [6, 7, 8, 9, 10, 11, 19] (by decide +kernel) (by decide +kernel)
set_option maxRecDepth 20000 in
theorem gX5_sortByLength_X4_strakeLength_n42 : GoodIn wsX5_sortByLength (wsX4_strakeLength) := ggX5_sortByLength_X4_strakeLength
theorem dX5_sortByLength_0 : decode cX5_sortByLength 0 = .ok (.iconst 0, 1) := by decide +kernel
theorem dX5_sortByLength_1 : decode cX5_sortByLength 1 = .ok (.istore_n 2, 1) := by decide +kernel
theorem dX5_sortByLength_2 : decode cX5_sortByLength 2 = .ok (.iload_n 2, 1) := by decide +kernel
theorem dX5_sortByLength_3 : decode cX5_sortByLength 3 = .ok (.iconst 5, 1) := by decide +kernel
theorem dX5_sortByLength_4 : decode cX5_sortByLength 4 = .ok (.if_icmp .ge 75, 3) := by decide +kernel
theorem dX5_sortByLength_7 : decode cX5_sortByLength 7 = .ok (.aload_n 0, 1) := by decide +kernel
theorem dX5_sortByLength_8 : decode cX5_sortByLength 8 = .ok (.getfield 15, 3) := by decide +kernel
theorem dX5_sortByLength_11 : decode cX5_sortByLength 11 = .ok (.iload_n 2, 1) := by decide +kernel
theorem dX5_sortByLength_12 : decode cX5_sortByLength 12 = .ok (.aload_n 1, 1) := by decide +kernel
theorem dX5_sortByLength_13 : decode cX5_sortByLength 13 = .ok (.iload_n 2, 1) := by decide +kernel
theorem dX5_sortByLength_14 : decode cX5_sortByLength 14 = .ok (.invokevirtual 42, 3) := by decide +kernel
theorem dX5_sortByLength_17 : decode cX5_sortByLength 17 = .ok (.iastore, 1) := by decide +kernel
theorem dX5_sortByLength_18 : decode cX5_sortByLength 18 = .ok (.iload_n 2, 1) := by decide +kernel
theorem dX5_sortByLength_19 : decode cX5_sortByLength 19 = .ok (.istore_n 3, 1) := by decide +kernel
theorem dX5_sortByLength_20 : decode cX5_sortByLength 20 = .ok (.iload_n 3, 1) := by decide +kernel
theorem dX5_sortByLength_21 : decode cX5_sortByLength 21 = .ok (.ifCond .le 45, 3) := by decide +kernel
theorem dX5_sortByLength_24 : decode cX5_sortByLength 24 = .ok (.aload_n 0, 1) := by decide +kernel
theorem dX5_sortByLength_25 : decode cX5_sortByLength 25 = .ok (.getfield 15, 3) := by decide +kernel
theorem dX5_sortByLength_28 : decode cX5_sortByLength 28 = .ok (.aload_n 0, 1) := by decide +kernel
theorem dX5_sortByLength_29 : decode cX5_sortByLength 29 = .ok (.getfield 18, 3) := by decide +kernel
theorem dX5_sortByLength_32 : decode cX5_sortByLength 32 = .ok (.iload_n 3, 1) := by decide +kernel
theorem dX5_sortByLength_33 : decode cX5_sortByLength 33 = .ok (.iconst 1, 1) := by decide +kernel
theorem dX5_sortByLength_34 : decode cX5_sortByLength 34 = .ok (.isub, 1) := by decide +kernel
theorem dX5_sortByLength_35 : decode cX5_sortByLength 35 = .ok (.iaload, 1) := by decide +kernel
theorem dX5_sortByLength_36 : decode cX5_sortByLength 36 = .ok (.iaload, 1) := by decide +kernel
theorem dX5_sortByLength_37 : decode cX5_sortByLength 37 = .ok (.aload_n 0, 1) := by decide +kernel
theorem dX5_sortByLength_38 : decode cX5_sortByLength 38 = .ok (.getfield 15, 3) := by decide +kernel
theorem dX5_sortByLength_41 : decode cX5_sortByLength 41 = .ok (.iload_n 2, 1) := by decide +kernel
theorem dX5_sortByLength_42 : decode cX5_sortByLength 42 = .ok (.iaload, 1) := by decide +kernel
theorem dX5_sortByLength_43 : decode cX5_sortByLength 43 = .ok (.if_icmp .ge 23, 3) := by decide +kernel
theorem dX5_sortByLength_46 : decode cX5_sortByLength 46 = .ok (.aload_n 0, 1) := by decide +kernel
theorem dX5_sortByLength_47 : decode cX5_sortByLength 47 = .ok (.getfield 18, 3) := by decide +kernel
theorem dX5_sortByLength_50 : decode cX5_sortByLength 50 = .ok (.iload_n 3, 1) := by decide +kernel
theorem dX5_sortByLength_51 : decode cX5_sortByLength 51 = .ok (.aload_n 0, 1) := by decide +kernel
theorem dX5_sortByLength_52 : decode cX5_sortByLength 52 = .ok (.getfield 18, 3) := by decide +kernel
theorem dX5_sortByLength_55 : decode cX5_sortByLength 55 = .ok (.iload_n 3, 1) := by decide +kernel
theorem dX5_sortByLength_56 : decode cX5_sortByLength 56 = .ok (.iconst 1, 1) := by decide +kernel
theorem dX5_sortByLength_57 : decode cX5_sortByLength 57 = .ok (.isub, 1) := by decide +kernel
theorem dX5_sortByLength_58 : decode cX5_sortByLength 58 = .ok (.iaload, 1) := by decide +kernel
theorem dX5_sortByLength_59 : decode cX5_sortByLength 59 = .ok (.iastore, 1) := by decide +kernel
theorem dX5_sortByLength_60 : decode cX5_sortByLength 60 = .ok (.iinc 3 (-1), 3) := by decide +kernel
theorem dX5_sortByLength_63 : decode cX5_sortByLength 63 = .ok (.goto (-43), 3) := by decide +kernel
theorem dX5_sortByLength_66 : decode cX5_sortByLength 66 = .ok (.aload_n 0, 1) := by decide +kernel
theorem dX5_sortByLength_67 : decode cX5_sortByLength 67 = .ok (.getfield 18, 3) := by decide +kernel
theorem dX5_sortByLength_70 : decode cX5_sortByLength 70 = .ok (.iload_n 3, 1) := by decide +kernel
theorem dX5_sortByLength_71 : decode cX5_sortByLength 71 = .ok (.iload_n 2, 1) := by decide +kernel
theorem dX5_sortByLength_72 : decode cX5_sortByLength 72 = .ok (.iastore, 1) := by decide +kernel
theorem dX5_sortByLength_73 : decode cX5_sortByLength 73 = .ok (.iinc 2 1, 3) := by decide +kernel
theorem dX5_sortByLength_76 : decode cX5_sortByLength 76 = .ok (.goto (-74), 3) := by decide +kernel
theorem dX5_sortByLength_79 : decode cX5_sortByLength 79 = .ok (.return_, 1) := by decide +kernel
theorem dX5_cut_0 : decode cX5_cut 0 = .ok (.iload_n 1, 1) := by decide +kernel
theorem dX5_cut_1 : decode cX5_cut 1 = .ok (.istore_n 2, 1) := by decide +kernel
theorem dX5_cut_2 : decode cX5_cut 2 = .ok (.iload_n 2, 1) := by decide +kernel
theorem dX5_cut_3 : decode cX5_cut 3 = .ok (.aload_n 0, 1) := by decide +kernel
theorem dX5_cut_4 : decode cX5_cut 4 = .ok (.getfield 27, 3) := by decide +kernel
theorem dX5_cut_7 : decode cX5_cut 7 = .ok (.if_icmp .le 43, 3) := by decide +kernel
theorem dX5_cut_10 : decode cX5_cut 10 = .ok (.aload_n 0, 1) := by decide +kernel
theorem dX5_cut_11 : decode cX5_cut 11 = .ok (.getfield 31, 3) := by decide +kernel
theorem dX5_cut_14 : decode cX5_cut 14 = .ok (.sipush 170, 3) := by decide +kernel
theorem dX5_cut_17 : decode cX5_cut 17 = .ok (.if_icmp .ge 33, 3) := by decide +kernel
theorem dX5_cut_20 : decode cX5_cut 20 = .ok (.aload_n 0, 1) := by decide +kernel
theorem dX5_cut_21 : decode cX5_cut 21 = .ok (.getfield 11, 3) := by decide +kernel
theorem dX5_cut_24 : decode cX5_cut 24 = .ok (.aload_n 0, 1) := by decide +kernel
theorem dX5_cut_25 : decode cX5_cut 25 = .ok (.getfield 31, 3) := by decide +kernel
theorem dX5_cut_28 : decode cX5_cut 28 = .ok (.iconst 0, 1) := by decide +kernel
theorem dX5_cut_29 : decode cX5_cut 29 = .ok (.iastore, 1) := by decide +kernel
theorem dX5_cut_30 : decode cX5_cut 30 = .ok (.aload_n 0, 1) := by decide +kernel
theorem dX5_cut_31 : decode cX5_cut 31 = .ok (.dup, 1) := by decide +kernel
theorem dX5_cut_32 : decode cX5_cut 32 = .ok (.getfield 31, 3) := by decide +kernel
theorem dX5_cut_35 : decode cX5_cut 35 = .ok (.iconst 1, 1) := by decide +kernel
theorem dX5_cut_36 : decode cX5_cut 36 = .ok (.iadd, 1) := by decide +kernel
theorem dX5_cut_37 : decode cX5_cut 37 = .ok (.putfield 31, 3) := by decide +kernel
theorem dX5_cut_40 : decode cX5_cut 40 = .ok (.iload_n 2, 1) := by decide +kernel
theorem dX5_cut_41 : decode cX5_cut 41 = .ok (.aload_n 0, 1) := by decide +kernel
theorem dX5_cut_42 : decode cX5_cut 42 = .ok (.getfield 27, 3) := by decide +kernel
theorem dX5_cut_45 : decode cX5_cut 45 = .ok (.isub, 1) := by decide +kernel
theorem dX5_cut_46 : decode cX5_cut 46 = .ok (.istore_n 2, 1) := by decide +kernel
theorem dX5_cut_47 : decode cX5_cut 47 = .ok (.goto (-45), 3) := by decide +kernel
theorem dX5_cut_50 : decode cX5_cut 50 = .ok (.iconst 0, 1) := by decide +kernel
theorem dX5_cut_51 : decode cX5_cut 51 = .ok (.istore_n 3, 1) := by decide +kernel
theorem dX5_cut_52 : decode cX5_cut 52 = .ok (.iload_n 3, 1) := by decide +kernel
theorem dX5_cut_53 : decode cX5_cut 53 = .ok (.aload_n 0, 1) := by decide +kernel
theorem dX5_cut_54 : decode cX5_cut 54 = .ok (.getfield 31, 3) := by decide +kernel
theorem dX5_cut_57 : decode cX5_cut 57 = .ok (.if_icmp .ge 31, 3) := by decide +kernel
theorem dX5_cut_60 : decode cX5_cut 60 = .ok (.aload_n 0, 1) := by decide +kernel
theorem dX5_cut_61 : decode cX5_cut 61 = .ok (.getfield 11, 3) := by decide +kernel
theorem dX5_cut_64 : decode cX5_cut 64 = .ok (.iload_n 3, 1) := by decide +kernel
theorem dX5_cut_65 : decode cX5_cut 65 = .ok (.iaload, 1) := by decide +kernel
theorem dX5_cut_66 : decode cX5_cut 66 = .ok (.iload_n 2, 1) := by decide +kernel
theorem dX5_cut_67 : decode cX5_cut 67 = .ok (.if_icmp .lt 15, 3) := by decide +kernel
theorem dX5_cut_70 : decode cX5_cut 70 = .ok (.aload_n 0, 1) := by decide +kernel
theorem dX5_cut_71 : decode cX5_cut 71 = .ok (.getfield 11, 3) := by decide +kernel
theorem dX5_cut_74 : decode cX5_cut 74 = .ok (.iload_n 3, 1) := by decide +kernel
theorem dX5_cut_75 : decode cX5_cut 75 = .ok (.dup2, 1) := by decide +kernel
theorem dX5_cut_76 : decode cX5_cut 76 = .ok (.iaload, 1) := by decide +kernel
theorem dX5_cut_77 : decode cX5_cut 77 = .ok (.iload_n 2, 1) := by decide +kernel
theorem dX5_cut_78 : decode cX5_cut 78 = .ok (.isub, 1) := by decide +kernel
theorem dX5_cut_79 : decode cX5_cut 79 = .ok (.iastore, 1) := by decide +kernel
theorem dX5_cut_80 : decode cX5_cut 80 = .ok (.iload_n 3, 1) := by decide +kernel
theorem dX5_cut_81 : decode cX5_cut 81 = .ok (.ireturn, 1) := by decide +kernel
theorem dX5_cut_82 : decode cX5_cut 82 = .ok (.iinc 3 1, 3) := by decide +kernel
theorem dX5_cut_85 : decode cX5_cut 85 = .ok (.goto (-33), 3) := by decide +kernel
theorem dX5_cut_88 : decode cX5_cut 88 = .ok (.aload_n 0, 1) := by decide +kernel
theorem dX5_cut_89 : decode cX5_cut 89 = .ok (.getfield 31, 3) := by decide +kernel
theorem dX5_cut_92 : decode cX5_cut 92 = .ok (.sipush 170, 3) := by decide +kernel
theorem dX5_cut_95 : decode cX5_cut 95 = .ok (.if_icmp .lt 5, 3) := by decide +kernel
theorem dX5_cut_98 : decode cX5_cut 98 = .ok (.iconst (-1), 1) := by decide +kernel
theorem dX5_cut_99 : decode cX5_cut 99 = .ok (.ireturn, 1) := by decide +kernel
theorem dX5_cut_100 : decode cX5_cut 100 = .ok (.aload_n 0, 1) := by decide +kernel
theorem dX5_cut_101 : decode cX5_cut 101 = .ok (.getfield 11, 3) := by decide +kernel
theorem dX5_cut_104 : decode cX5_cut 104 = .ok (.aload_n 0, 1) := by decide +kernel
theorem dX5_cut_105 : decode cX5_cut 105 = .ok (.getfield 31, 3) := by decide +kernel
theorem dX5_cut_108 : decode cX5_cut 108 = .ok (.aload_n 0, 1) := by decide +kernel
theorem dX5_cut_109 : decode cX5_cut 109 = .ok (.getfield 27, 3) := by decide +kernel
theorem dX5_cut_112 : decode cX5_cut 112 = .ok (.iload_n 2, 1) := by decide +kernel
theorem dX5_cut_113 : decode cX5_cut 113 = .ok (.isub, 1) := by decide +kernel
theorem dX5_cut_114 : decode cX5_cut 114 = .ok (.iastore, 1) := by decide +kernel
theorem dX5_cut_115 : decode cX5_cut 115 = .ok (.aload_n 0, 1) := by decide +kernel
theorem dX5_cut_116 : decode cX5_cut 116 = .ok (.dup, 1) := by decide +kernel
theorem dX5_cut_117 : decode cX5_cut 117 = .ok (.getfield 31, 3) := by decide +kernel
theorem dX5_cut_120 : decode cX5_cut 120 = .ok (.iconst 1, 1) := by decide +kernel
theorem dX5_cut_121 : decode cX5_cut 121 = .ok (.iadd, 1) := by decide +kernel
theorem dX5_cut_122 : decode cX5_cut 122 = .ok (.putfield 31, 3) := by decide +kernel
theorem dX5_cut_125 : decode cX5_cut 125 = .ok (.aload_n 0, 1) := by decide +kernel
theorem dX5_cut_126 : decode cX5_cut 126 = .ok (.getfield 31, 3) := by decide +kernel
theorem dX5_cut_129 : decode cX5_cut 129 = .ok (.iconst 1, 1) := by decide +kernel
theorem dX5_cut_130 : decode cX5_cut 130 = .ok (.isub, 1) := by decide +kernel
theorem dX5_cut_131 : decode cX5_cut 131 = .ok (.ireturn, 1) := by decide +kernel
set_option maxRecDepth 20000 in
theorem ggX6_init_X4_init : GoodIn wsX6_init wsX4_init := goodIn_r _ [32, 33, 2, 3, 34, 35, 36, 73] (by decide +kernel) (by decide +kernel)
set_option maxRecDepth 20000 in
theorem gX6_init_X4_init_n9 : GoodIn wsX6_init (wsX4_init) := ggX6_init_X4_init
set_option maxRecDepth 20000 in
theorem ggX6_init_X1_init : GoodIn wsX6_init wsX1_init := goodIn_r _ [38, 39, 2, 3, 40, 35, 41, 42, 43, 83, 84, 85] (by decide +kernel) (by decide +kernel)
set_option maxRecDepth 20000 in
theorem gX6_init_X1_init_n18 : GoodIn wsX6_init (wsX1_init) := ggX6_init_X1_init
set_option maxRecDepth 20000 in
theorem ggX6_init_X3_init : GoodIn wsX6_init wsX3_init := goodIn_r _ [45, 46, 2, 3, 35, 47, 48, 49, 50, 51, 86, 87, 88, 89, 90] (by decide +kernel) (by decide +kernel)
set_option maxRecDepth 20000 in
theorem gX6_init_X3_init_n25 : GoodIn wsX6_init (wsX3_init) := ggX6_init_X3_init
set_option maxRecDepth 20000 in
theorem ggX6_init_X2_init : GoodIn wsX6_init wsX2_init := goodIn_r _ [53, 54, 2, 3, 35, 55, 56, 91, 92] (by decide +kernel) (by decide +kernel)
set_option maxRecDepth 20000 in
theorem gX6_init_X2_init_n32 : GoodIn wsX6_init (wsX2_init) := ggX6_init_X2_init
set_option maxRecDepth 20000 in
theorem ggX6_init_X5_init : GoodIn wsX6_init wsX5_init := goodIn_r _ [58, 59, 2, 3, 35, 60, 61, 62, 63, 64, 65, 66, 93, 94, 95, 96, 97, 98, 99] (by decide +kernel) (by decide +kernel)
set_option maxRecDepth 20000 in
theorem gX6_init_X5_init_n39 : GoodIn wsX6_init (wsX5_init) := ggX6_init_X5_init
set_option maxRecDepth 20000 in
theorem ggX6_init_X0_init : GoodIn wsX6_init wsX0_init := goodIn_r _ [68, 69, 2, 3, 35, 70, 71, 72, 100, 101, 102] (by decide +kernel) (by decide +kernel)
set_option maxRecDepth 20000 in
theorem gX6_init_X0_init_n46 : GoodIn wsX6_init (wsX0_init) := ggX6_init_X0_init
theorem dX6_init_0 : decode cX6_init 0 = .ok (.aload_n 0, 1) := by decide +kernel
theorem dX6_init_1 : decode cX6_init 1 = .ok (.invokespecial 1, 3) := by decide +kernel
theorem dX6_init_4 : decode cX6_init 4 = .ok (.aload_n 0, 1) := by decide +kernel
theorem dX6_init_5 : decode cX6_init 5 = .ok (.new 7, 3) := by decide +kernel
theorem dX6_init_8 : decode cX6_init 8 = .ok (.dup, 1) := by decide +kernel
theorem dX6_init_9 : decode cX6_init 9 = .ok (.invokespecial 9, 3) := by decide +kernel
theorem dX6_init_12 : decode cX6_init 12 = .ok (.putfield 10, 3) := by decide +kernel
theorem dX6_init_15 : decode cX6_init 15 = .ok (.aload_n 0, 1) := by decide +kernel
theorem dX6_init_16 : decode cX6_init 16 = .ok (.new 16, 3) := by decide +kernel
theorem dX6_init_19 : decode cX6_init 19 = .ok (.dup, 1) := by decide +kernel
theorem dX6_init_20 : decode cX6_init 20 = .ok (.invokespecial 18, 3) := by decide +kernel
theorem dX6_init_23 : decode cX6_init 23 = .ok (.putfield 19, 3) := by decide +kernel
theorem dX6_init_26 : decode cX6_init 26 = .ok (.aload_n 0, 1) := by decide +kernel
theorem dX6_init_27 : decode cX6_init 27 = .ok (.new 23, 3) := by decide +kernel
theorem dX6_init_30 : decode cX6_init 30 = .ok (.dup, 1) := by decide +kernel
theorem dX6_init_31 : decode cX6_init 31 = .ok (.invokespecial 25, 3) := by decide +kernel
theorem dX6_init_34 : decode cX6_init 34 = .ok (.putfield 26, 3) := by decide +kernel
theorem dX6_init_37 : decode cX6_init 37 = .ok (.aload_n 0, 1) := by decide +kernel
theorem dX6_init_38 : decode cX6_init 38 = .ok (.new 30, 3) := by decide +kernel
theorem dX6_init_41 : decode cX6_init 41 = .ok (.dup, 1) := by decide +kernel
theorem dX6_init_42 : decode cX6_init 42 = .ok (.invokespecial 32, 3) := by decide +kernel
theorem dX6_init_45 : decode cX6_init 45 = .ok (.putfield 33, 3) := by decide +kernel
theorem dX6_init_48 : decode cX6_init 48 = .ok (.aload_n 0, 1) := by decide +kernel
theorem dX6_init_49 : decode cX6_init 49 = .ok (.new 37, 3) := by decide +kernel
theorem dX6_init_52 : decode cX6_init 52 = .ok (.dup, 1) := by decide +kernel
theorem dX6_init_53 : decode cX6_init 53 = .ok (.invokespecial 39, 3) := by decide +kernel
theorem dX6_init_56 : decode cX6_init 56 = .ok (.putfield 40, 3) := by decide +kernel
theorem dX6_init_59 : decode cX6_init 59 = .ok (.aload_n 0, 1) := by decide +kernel
theorem dX6_init_60 : decode cX6_init 60 = .ok (.new 44, 3) := by decide +kernel
theorem dX6_init_63 : decode cX6_init 63 = .ok (.dup, 1) := by decide +kernel
theorem dX6_init_64 : decode cX6_init 64 = .ok (.invokespecial 46, 3) := by decide +kernel
theorem dX6_init_67 : decode cX6_init 67 = .ok (.putfield 47, 3) := by decide +kernel
theorem dX6_init_70 : decode cX6_init 70 = .ok (.aload_n 0, 1) := by decide +kernel
theorem dX6_init_71 : decode cX6_init 71 = .ok (.iconst 0, 1) := by decide +kernel
theorem dX6_init_72 : decode cX6_init 72 = .ok (.putfield 51, 3) := by decide +kernel
theorem dX6_init_75 : decode cX6_init 75 = .ok (.aload_n 0, 1) := by decide +kernel
theorem dX6_init_76 : decode cX6_init 76 = .ok (.iconst 0, 1) := by decide +kernel
theorem dX6_init_77 : decode cX6_init 77 = .ok (.putfield 55, 3) := by decide +kernel
theorem dX6_init_80 : decode cX6_init 80 = .ok (.aload_n 0, 1) := by decide +kernel
theorem dX6_init_81 : decode cX6_init 81 = .ok (.iconst 0, 1) := by decide +kernel
theorem dX6_init_82 : decode cX6_init 82 = .ok (.putfield 58, 3) := by decide +kernel
theorem dX6_init_85 : decode cX6_init 85 = .ok (.return_, 1) := by decide +kernel
set_option maxRecDepth 20000 in
theorem ggX6_offset_X6_refuseNoStation : GoodIn wsX6_offset wsX6_refuseNoStation := goodIn_ca (goodIn_r _ [5, 6, 7] (by decide +kernel) (by decide +kernel)) (goodIn_sub (fun _ h => List.mem_cons_of_mem _ (List.mem_append_left _ (List.mem_append_left _ (List.mem_append_right _ h)))) (by decide +kernel))
set_option maxRecDepth 20000 in
theorem gX6_offset_X6_refuseNoStation : GoodIn wsX6_offset (va_wsS RX6 62 yX6_refuseNoStation wsX6_refuseNoStation) := goodIn_app (goodIn_of _ (by decide +kernel)) ggX6_offset_X6_refuseNoStation
set_option maxRecDepth 20000 in
theorem ggX6_offset_X6_refuseNoWaterline : GoodIn wsX6_offset wsX6_refuseNoWaterline := goodIn_ca (goodIn_r _ [10, 6, 7] (by decide +kernel) (by decide +kernel)) (goodIn_sub (fun _ h => List.mem_cons_of_mem _ (List.mem_append_left _ (List.mem_append_left _ (List.mem_append_right _ h)))) (by decide +kernel))
set_option maxRecDepth 20000 in
theorem gX6_offset_X6_refuseNoWaterline : GoodIn wsX6_offset (va_wsS RX6 66 yX6_refuseNoWaterline wsX6_refuseNoWaterline) := goodIn_app (goodIn_of _ (by decide +kernel)) ggX6_offset_X6_refuseNoWaterline
set_option maxRecDepth 20000 in
theorem ggX6_offset_X6_refuseOutside : GoodIn wsX6_offset wsX6_refuseOutside := goodIn_ca (goodIn_r _ [13, 14, 15] (by decide +kernel) (by decide +kernel)) (goodIn_sub (fun _ h => List.mem_cons_of_mem _ (List.mem_append_left _ (List.mem_append_right _ h))) (by decide +kernel))
set_option maxRecDepth 20000 in
theorem gX6_offset_X6_refuseOutside : GoodIn wsX6_offset (va_wsS RX6 69 yX6_refuseOutside wsX6_refuseOutside) := goodIn_app (goodIn_of _ (by decide +kernel)) ggX6_offset_X6_refuseOutside
set_option maxRecDepth 20000 in
theorem ggX6_offset_X6_refuseLaunched : GoodIn wsX6_offset wsX6_refuseLaunched := goodIn_ca (goodIn_r _ [19, 20, 21, 22, 23, 24, 25, 26, 27, 28, 29, 30, 31] (by decide +kernel) (by decide +kernel)) (goodIn_sub (fun _ h => List.mem_cons_of_mem _ (List.mem_append_right _ h)) (by decide +kernel))
set_option maxRecDepth 20000 in
theorem gX6_offset_X6_refuseLaunched : GoodIn wsX6_offset (wsV RX6 73 RX6 yX6_refuseLaunched wsX6_refuseLaunched) := goodIn_app (goodIn_of _ (by decide +kernel)) ggX6_offset_X6_refuseLaunched
theorem dX6_offset_0 : decode cX6_offset 0 = .ok (.iload_n 1, 1) := by decide +kernel
theorem dX6_offset_1 : decode cX6_offset 1 = .ok (.invokestatic 62, 3) := by decide +kernel
theorem dX6_offset_4 : decode cX6_offset 4 = .ok (.iload_n 2, 1) := by decide +kernel
theorem dX6_offset_5 : decode cX6_offset 5 = .ok (.invokestatic 66, 3) := by decide +kernel
theorem dX6_offset_8 : decode cX6_offset 8 = .ok (.iload_n 3, 1) := by decide +kernel
theorem dX6_offset_9 : decode cX6_offset 9 = .ok (.iconst 0, 1) := by decide +kernel
theorem dX6_offset_10 : decode cX6_offset 10 = .ok (.sipush 200, 3) := by decide +kernel
theorem dX6_offset_13 : decode cX6_offset 13 = .ok (.invokestatic 69, 3) := by decide +kernel
theorem dX6_offset_16 : decode cX6_offset 16 = .ok (.aload_n 0, 1) := by decide +kernel
theorem dX6_offset_17 : decode cX6_offset 17 = .ok (.invokevirtual 73, 3) := by decide +kernel
theorem dX6_offset_20 : decode cX6_offset 20 = .ok (.aload_n 0, 1) := by decide +kernel
theorem dX6_offset_21 : decode cX6_offset 21 = .ok (.getfield 10, 3) := by decide +kernel
theorem dX6_offset_24 : decode cX6_offset 24 = .ok (.getfield 76, 3) := by decide +kernel
theorem dX6_offset_27 : decode cX6_offset 27 = .ok (.iload_n 2, 1) := by decide +kernel
theorem dX6_offset_28 : decode cX6_offset 28 = .ok (.aaload, 1) := by decide +kernel
theorem dX6_offset_29 : decode cX6_offset 29 = .ok (.iload_n 1, 1) := by decide +kernel
theorem dX6_offset_30 : decode cX6_offset 30 = .ok (.iaload, 1) := by decide +kernel
theorem dX6_offset_31 : decode cX6_offset 31 = .ok (.istore 4, 2) := by decide +kernel
theorem dX6_offset_33 : decode cX6_offset 33 = .ok (.aload_n 0, 1) := by decide +kernel
theorem dX6_offset_34 : decode cX6_offset 34 = .ok (.getfield 10, 3) := by decide +kernel
theorem dX6_offset_37 : decode cX6_offset 37 = .ok (.getfield 76, 3) := by decide +kernel
theorem dX6_offset_40 : decode cX6_offset 40 = .ok (.iload_n 2, 1) := by decide +kernel
theorem dX6_offset_41 : decode cX6_offset 41 = .ok (.aaload, 1) := by decide +kernel
theorem dX6_offset_42 : decode cX6_offset 42 = .ok (.iload_n 1, 1) := by decide +kernel
theorem dX6_offset_43 : decode cX6_offset 43 = .ok (.iload_n 3, 1) := by decide +kernel
theorem dX6_offset_44 : decode cX6_offset 44 = .ok (.iastore, 1) := by decide +kernel
theorem dX6_offset_45 : decode cX6_offset 45 = .ok (.iload 4, 2) := by decide +kernel
theorem dX6_offset_47 : decode cX6_offset 47 = .ok (.ireturn, 1) := by decide +kernel
set_option maxRecDepth 20000 in
theorem ggX6_half_X6_refuseNoStation : GoodIn wsX6_half wsX6_refuseNoStation := goodIn_ca (goodIn_r _ [5, 6, 7] (by decide +kernel) (by decide +kernel)) (goodIn_sub (fun _ h => List.mem_cons_of_mem _ (List.mem_append_right _ h)) (by decide +kernel))
set_option maxRecDepth 20000 in
theorem gX6_half_X6_refuseNoStation : GoodIn wsX6_half (va_wsS RX6 62 yX6_refuseNoStation wsX6_refuseNoStation) := goodIn_app (goodIn_of _ (by decide +kernel)) ggX6_half_X6_refuseNoStation
set_option maxRecDepth 20000 in
theorem ggX6_half_X6_refuseNoWaterline : GoodIn wsX6_half wsX6_refuseNoWaterline := goodIn_ca (goodIn_r _ [10, 6, 7] (by decide +kernel) (by decide +kernel)) (goodIn_sub (fun _ h => List.mem_cons_of_mem _ (List.mem_append_right _ h)) (by decide +kernel))
set_option maxRecDepth 20000 in
theorem gX6_half_X6_refuseNoWaterline : GoodIn wsX6_half (va_wsS RX6 66 yX6_refuseNoWaterline wsX6_refuseNoWaterline) := goodIn_app (goodIn_of _ (by decide +kernel)) ggX6_half_X6_refuseNoWaterline
theorem dX6_half_0 : decode cX6_half 0 = .ok (.iload_n 1, 1) := by decide +kernel
theorem dX6_half_1 : decode cX6_half 1 = .ok (.invokestatic 62, 3) := by decide +kernel
theorem dX6_half_4 : decode cX6_half 4 = .ok (.iload_n 2, 1) := by decide +kernel
theorem dX6_half_5 : decode cX6_half 5 = .ok (.invokestatic 66, 3) := by decide +kernel
theorem dX6_half_8 : decode cX6_half 8 = .ok (.aload_n 0, 1) := by decide +kernel
theorem dX6_half_9 : decode cX6_half 9 = .ok (.getfield 10, 3) := by decide +kernel
theorem dX6_half_12 : decode cX6_half 12 = .ok (.getfield 76, 3) := by decide +kernel
theorem dX6_half_15 : decode cX6_half 15 = .ok (.iload_n 2, 1) := by decide +kernel
theorem dX6_half_16 : decode cX6_half 16 = .ok (.aaload, 1) := by decide +kernel
theorem dX6_half_17 : decode cX6_half 17 = .ok (.iload_n 1, 1) := by decide +kernel
theorem dX6_half_18 : decode cX6_half 18 = .ok (.iaload, 1) := by decide +kernel
theorem dX6_half_19 : decode cX6_half 19 = .ok (.ireturn, 1) := by decide +kernel
set_option maxRecDepth 20000 in
theorem ggX6_bend_X6_refuseNoWaterline : GoodIn wsX6_bend wsX6_refuseNoWaterline := goodIn_ca (goodIn_r _ [5, 6, 7] (by decide +kernel) (by decide +kernel)) (goodIn_sub (fun _ h => List.mem_cons_of_mem _ (List.mem_append_right _ h)) (by decide +kernel))
set_option maxRecDepth 20000 in
theorem gX6_bend_X6_refuseNoWaterline : GoodIn wsX6_bend (va_wsS RX6 66 yX6_refuseNoWaterline wsX6_refuseNoWaterline) := goodIn_app (goodIn_of _ (by decide +kernel)) ggX6_bend_X6_refuseNoWaterline
set_option maxRecDepth 20000 in
theorem ggX6_bend_X6_bendOfLine : GoodIn wsX6_bend wsX6_bendOfLine := goodIn_r _ [10, 11, 12, 4, 13] (by decide +kernel) (by decide +kernel)
set_option maxRecDepth 20000 in
theorem gX6_bend_X6_bendOfLine : GoodIn wsX6_bend (va_wsS RX6 80 yX6_bendOfLine wsX6_bendOfLine) := goodIn_app (goodIn_of _ (by decide +kernel)) ggX6_bend_X6_bendOfLine
theorem dX6_bend_0 : decode cX6_bend 0 = .ok (.iload_n 1, 1) := by decide +kernel
theorem dX6_bend_1 : decode cX6_bend 1 = .ok (.invokestatic 66, 3) := by decide +kernel
theorem dX6_bend_4 : decode cX6_bend 4 = .ok (.aload_n 0, 1) := by decide +kernel
theorem dX6_bend_5 : decode cX6_bend 5 = .ok (.getfield 10, 3) := by decide +kernel
theorem dX6_bend_8 : decode cX6_bend 8 = .ok (.getfield 76, 3) := by decide +kernel
theorem dX6_bend_11 : decode cX6_bend 11 = .ok (.iload_n 1, 1) := by decide +kernel
theorem dX6_bend_12 : decode cX6_bend 12 = .ok (.aaload, 1) := by decide +kernel
theorem dX6_bend_13 : decode cX6_bend 13 = .ok (.invokestatic 80, 3) := by decide +kernel
theorem dX6_bend_16 : decode cX6_bend 16 = .ok (.ireturn, 1) := by decide +kernel
set_option maxRecDepth 20000 in
theorem ggX6_fair_X6_refuseNoWaterline : GoodIn wsX6_fair wsX6_refuseNoWaterline := goodIn_ca (goodIn_r _ [6, 7, 8] (by decide +kernel) (by decide +kernel)) (goodIn_sub (fun _ h => List.mem_cons_of_mem _ (List.mem_append_left _ (List.mem_append_left _ (List.mem_append_right _ h)))) (by decide +kernel))
set_option maxRecDepth 20000 in
theorem gX6_fair_X6_refuseNoWaterline : GoodIn wsX6_fair (va_wsS RX6 66 yX6_refuseNoWaterline wsX6_refuseNoWaterline) := goodIn_app (goodIn_of _ (by decide +kernel)) ggX6_fair_X6_refuseNoWaterline
set_option maxRecDepth 20000 in
theorem ggX6_fair_X6_refuseOutside : GoodIn wsX6_fair wsX6_refuseOutside := goodIn_ca (goodIn_r _ [11, 12, 13] (by decide +kernel) (by decide +kernel)) (goodIn_sub (fun _ h => List.mem_cons_of_mem _ (List.mem_append_left _ (List.mem_append_right _ h))) (by decide +kernel))
set_option maxRecDepth 20000 in
theorem gX6_fair_X6_refuseOutside : GoodIn wsX6_fair (va_wsS RX6 69 yX6_refuseOutside wsX6_refuseOutside) := goodIn_app (goodIn_of _ (by decide +kernel)) ggX6_fair_X6_refuseOutside
set_option maxRecDepth 20000 in
theorem ggX6_fair_X6_refuseLaunched : GoodIn wsX6_fair wsX6_refuseLaunched := goodIn_ca (goodIn_r _ [17, 18, 19, 20, 58, 59, 60, 61, 62, 63, 64, 65, 66] (by decide +kernel) (by decide +kernel)) (goodIn_sub (fun _ h => List.mem_cons_of_mem _ (List.mem_append_right _ h)) (by decide +kernel))
set_option maxRecDepth 20000 in
theorem gX6_fair_X6_refuseLaunched : GoodIn wsX6_fair (wsV RX6 73 RX6 yX6_refuseLaunched wsX6_refuseLaunched) := goodIn_app (goodIn_of _ (by decide +kernel)) ggX6_fair_X6_refuseLaunched
set_option maxRecDepth 20000 in
theorem ggX6_fair_X6_bendOfLine : GoodIn wsX6_fair wsX6_bendOfLine := goodIn_r _ [23, 24, 25, 5, 26] (by decide +kernel) (by decide +kernel)
set_option maxRecDepth 20000 in
theorem gX6_fair_X6_bendOfLine : GoodIn wsX6_fair (va_wsS RX6 80 yX6_bendOfLine wsX6_bendOfLine) := goodIn_app (goodIn_of _ (by decide +kernel)) ggX6_fair_X6_bendOfLine
set_option maxRecDepth 20000 in
theorem ggX6_fair_X1_straighten : GoodIn wsX6_fair wsX1_straighten := goodIn_r _ [30, 31, 32, 33, 34, 35, 36, 37, 38, 39, 40, 41, 42, 28, 43, 44, 45, 46, 47, 48, 49, 25, 5, 26, 50, 51, 52, 53, 54, 55, 56, 57, 68, 69, 70] (by decide +kernel) (by decide +kernel)
set_option maxRecDepth 20000 in
theorem gX6_fair_X1_straighten_n84 : GoodIn wsX6_fair (wsX1_straighten) := ggX6_fair_X1_straighten
theorem dX6_fair_0 : decode cX6_fair 0 = .ok (.iload_n 1, 1) := by decide +kernel
theorem dX6_fair_1 : decode cX6_fair 1 = .ok (.invokestatic 66, 3) := by decide +kernel
theorem dX6_fair_4 : decode cX6_fair 4 = .ok (.iload_n 2, 1) := by decide +kernel
theorem dX6_fair_5 : decode cX6_fair 5 = .ok (.iconst 0, 1) := by decide +kernel
theorem dX6_fair_6 : decode cX6_fair 6 = .ok (.iconst 2, 1) := by decide +kernel
theorem dX6_fair_7 : decode cX6_fair 7 = .ok (.invokestatic 69, 3) := by decide +kernel
theorem dX6_fair_10 : decode cX6_fair 10 = .ok (.aload_n 0, 1) := by decide +kernel
theorem dX6_fair_11 : decode cX6_fair 11 = .ok (.invokevirtual 73, 3) := by decide +kernel
theorem dX6_fair_14 : decode cX6_fair 14 = .ok (.aload_n 0, 1) := by decide +kernel
theorem dX6_fair_15 : decode cX6_fair 15 = .ok (.getfield 10, 3) := by decide +kernel
theorem dX6_fair_18 : decode cX6_fair 18 = .ok (.getfield 76, 3) := by decide +kernel
theorem dX6_fair_21 : decode cX6_fair 21 = .ok (.iload_n 1, 1) := by decide +kernel
theorem dX6_fair_22 : decode cX6_fair 22 = .ok (.aaload, 1) := by decide +kernel
theorem dX6_fair_23 : decode cX6_fair 23 = .ok (.astore_n 3, 1) := by decide +kernel
theorem dX6_fair_24 : decode cX6_fair 24 = .ok (.aload_n 3, 1) := by decide +kernel
theorem dX6_fair_25 : decode cX6_fair 25 = .ok (.invokestatic 80, 3) := by decide +kernel
theorem dX6_fair_28 : decode cX6_fair 28 = .ok (.istore 4, 2) := by decide +kernel
theorem dX6_fair_30 : decode cX6_fair 30 = .ok (.aload_n 0, 1) := by decide +kernel
theorem dX6_fair_31 : decode cX6_fair 31 = .ok (.getfield 19, 3) := by decide +kernel
theorem dX6_fair_34 : decode cX6_fair 34 = .ok (.aload_n 3, 1) := by decide +kernel
theorem dX6_fair_35 : decode cX6_fair 35 = .ok (.iload_n 2, 1) := by decide +kernel
theorem dX6_fair_36 : decode cX6_fair 36 = .ok (.invokevirtual 84, 3) := by decide +kernel
theorem dX6_fair_39 : decode cX6_fair 39 = .ok (.iload 4, 2) := by decide +kernel
theorem dX6_fair_41 : decode cX6_fair 41 = .ok (.aload_n 3, 1) := by decide +kernel
theorem dX6_fair_42 : decode cX6_fair 42 = .ok (.invokestatic 80, 3) := by decide +kernel
theorem dX6_fair_45 : decode cX6_fair 45 = .ok (.isub, 1) := by decide +kernel
theorem dX6_fair_46 : decode cX6_fair 46 = .ok (.ireturn, 1) := by decide +kernel
set_option maxRecDepth 20000 in
theorem ggX6_area_X6_refuseNoStation : GoodIn wsX6_area wsX6_refuseNoStation := goodIn_ca (goodIn_r _ [5, 6, 7] (by decide +kernel) (by decide +kernel)) (goodIn_sub (fun _ h => List.mem_cons_of_mem _ (List.mem_append_right _ h)) (by decide +kernel))
set_option maxRecDepth 20000 in
theorem gX6_area_X6_refuseNoStation : GoodIn wsX6_area (va_wsS RX6 62 yX6_refuseNoStation wsX6_refuseNoStation) := goodIn_app (goodIn_of _ (by decide +kernel)) ggX6_area_X6_refuseNoStation
set_option maxRecDepth 20000 in
theorem ggX6_area_X6_refuseNoWaterline : GoodIn wsX6_area wsX6_refuseNoWaterline := goodIn_ca (goodIn_r _ [10, 6, 7] (by decide +kernel) (by decide +kernel)) (goodIn_sub (fun _ h => List.mem_cons_of_mem _ (List.mem_append_right _ h)) (by decide +kernel))
set_option maxRecDepth 20000 in
theorem gX6_area_X6_refuseNoWaterline : GoodIn wsX6_area (va_wsS RX6 66 yX6_refuseNoWaterline wsX6_refuseNoWaterline) := goodIn_app (goodIn_of _ (by decide +kernel)) ggX6_area_X6_refuseNoWaterline
set_option maxRecDepth 20000 in
theorem ggX6_area_X4_areaUpTo : GoodIn wsX6_area wsX4_areaUpTo := goodIn_r _ [14, 15, 25] (by decide +kernel) (by decide +kernel)
set_option maxRecDepth 20000 in
theorem gX6_area_X4_areaUpTo_n88 : GoodIn wsX6_area (wsX4_areaUpTo) := ggX6_area_X4_areaUpTo
theorem dX6_area_0 : decode cX6_area 0 = .ok (.iload_n 1, 1) := by decide +kernel
theorem dX6_area_1 : decode cX6_area 1 = .ok (.invokestatic 62, 3) := by decide +kernel
theorem dX6_area_4 : decode cX6_area 4 = .ok (.iload_n 2, 1) := by decide +kernel
theorem dX6_area_5 : decode cX6_area 5 = .ok (.invokestatic 66, 3) := by decide +kernel
theorem dX6_area_8 : decode cX6_area 8 = .ok (.aload_n 0, 1) := by decide +kernel
theorem dX6_area_9 : decode cX6_area 9 = .ok (.getfield 10, 3) := by decide +kernel
theorem dX6_area_12 : decode cX6_area 12 = .ok (.iload_n 1, 1) := by decide +kernel
theorem dX6_area_13 : decode cX6_area 13 = .ok (.iload_n 2, 1) := by decide +kernel
theorem dX6_area_14 : decode cX6_area 14 = .ok (.invokevirtual 88, 3) := by decide +kernel
theorem dX6_area_17 : decode cX6_area 17 = .ok (.ireturn, 1) := by decide +kernel
set_option maxRecDepth 20000 in
theorem ggX6_volume_X6_refuseNoWaterline : GoodIn wsX6_volume wsX6_refuseNoWaterline := goodIn_ca (goodIn_r _ [5, 6, 7] (by decide +kernel) (by decide +kernel)) (goodIn_sub (fun _ h => List.mem_cons_of_mem _ (List.mem_append_right _ h)) (by decide +kernel))
set_option maxRecDepth 20000 in
theorem gX6_volume_X6_refuseNoWaterline : GoodIn wsX6_volume (va_wsS RX6 66 yX6_refuseNoWaterline wsX6_refuseNoWaterline) := goodIn_app (goodIn_of _ (by decide +kernel)) ggX6_volume_X6_refuseNoWaterline
set_option maxRecDepth 20000 in
theorem ggX6_volume_X4_volumeUpTo : GoodIn wsX6_volume wsX4_volumeUpTo := goodIn_r _ [11, 12, 13, 14, 9, 15, 16, 26] (by decide +kernel) (by decide +kernel)
set_option maxRecDepth 20000 in
theorem gX6_volume_X4_volumeUpTo_n92 : GoodIn wsX6_volume (wsX4_volumeUpTo) := ggX6_volume_X4_volumeUpTo
theorem dX6_volume_0 : decode cX6_volume 0 = .ok (.iload_n 1, 1) := by decide +kernel
theorem dX6_volume_1 : decode cX6_volume 1 = .ok (.invokestatic 66, 3) := by decide +kernel
theorem dX6_volume_4 : decode cX6_volume 4 = .ok (.aload_n 0, 1) := by decide +kernel
theorem dX6_volume_5 : decode cX6_volume 5 = .ok (.getfield 10, 3) := by decide +kernel
theorem dX6_volume_8 : decode cX6_volume 8 = .ok (.iload_n 1, 1) := by decide +kernel
theorem dX6_volume_9 : decode cX6_volume 9 = .ok (.invokevirtual 92, 3) := by decide +kernel
theorem dX6_volume_12 : decode cX6_volume 12 = .ok (.ireturn, 1) := by decide +kernel
set_option maxRecDepth 20000 in
theorem ggX6_volumeAnew_X6_refuseNoWaterline : GoodIn wsX6_volumeAnew wsX6_refuseNoWaterline := goodIn_ca (goodIn_r _ [5, 6, 7] (by decide +kernel) (by decide +kernel)) (goodIn_sub (fun _ h => List.mem_cons_of_mem _ (List.mem_append_right _ h)) (by decide +kernel))
set_option maxRecDepth 20000 in
theorem gX6_volumeAnew_X6_refuseNoWaterline : GoodIn wsX6_volumeAnew (va_wsS RX6 66 yX6_refuseNoWaterline wsX6_refuseNoWaterline) := goodIn_app (goodIn_of _ (by decide +kernel)) ggX6_volumeAnew_X6_refuseNoWaterline
set_option maxRecDepth 20000 in
theorem ggX6_volumeAnew_X4_volumeBySlices : GoodIn wsX6_volumeAnew wsX4_volumeBySlices := goodIn_r _ [11, 12, 13, 14, 9, 15, 16, 26] (by decide +kernel) (by decide +kernel)
set_option maxRecDepth 20000 in
theorem gX6_volumeAnew_X4_volumeBySlices_n96 : GoodIn wsX6_volumeAnew (wsX4_volumeBySlices) := ggX6_volumeAnew_X4_volumeBySlices
theorem dX6_volumeAnew_0 : decode cX6_volumeAnew 0 = .ok (.iload_n 1, 1) := by decide +kernel
theorem dX6_volumeAnew_1 : decode cX6_volumeAnew 1 = .ok (.invokestatic 66, 3) := by decide +kernel
theorem dX6_volumeAnew_4 : decode cX6_volumeAnew 4 = .ok (.aload_n 0, 1) := by decide +kernel
theorem dX6_volumeAnew_5 : decode cX6_volumeAnew 5 = .ok (.getfield 10, 3) := by decide +kernel
theorem dX6_volumeAnew_8 : decode cX6_volumeAnew 8 = .ok (.iload_n 1, 1) := by decide +kernel
theorem dX6_volumeAnew_9 : decode cX6_volumeAnew 9 = .ok (.invokevirtual 96, 3) := by decide +kernel
theorem dX6_volumeAnew_12 : decode cX6_volumeAnew 12 = .ok (.ireturn, 1) := by decide +kernel
set_option maxRecDepth 20000 in
theorem ggX6_weigh_X6_refuseNoStation : GoodIn wsX6_weigh wsX6_refuseNoStation := goodIn_ca (goodIn_r _ [7, 8, 9] (by decide +kernel) (by decide +kernel)) (goodIn_sub (fun _ h => List.mem_cons_of_mem _ (List.mem_append_left _ (List.mem_append_right _ h))) (by decide +kernel))
set_option maxRecDepth 20000 in
theorem gX6_weigh_X6_refuseNoStation : GoodIn wsX6_weigh (va_wsS RX6 62 yX6_refuseNoStation wsX6_refuseNoStation) := goodIn_app (goodIn_of _ (by decide +kernel)) ggX6_weigh_X6_refuseNoStation
set_option maxRecDepth 20000 in
theorem ggX6_weigh_X6_refuseOutside : GoodIn wsX6_weigh wsX6_refuseOutside := goodIn_ca (goodIn_r _ [12, 13, 14] (by decide +kernel) (by decide +kernel)) (goodIn_sub (fun _ h => List.mem_cons_of_mem _ (List.mem_append_right _ h)) (by decide +kernel))
set_option maxRecDepth 20000 in
theorem gX6_weigh_X6_refuseOutside : GoodIn wsX6_weigh (va_wsS RX6 69 yX6_refuseOutside wsX6_refuseOutside) := goodIn_app (goodIn_of _ (by decide +kernel)) ggX6_weigh_X6_refuseOutside
set_option maxRecDepth 20000 in
theorem ggX6_weigh_X3_isFull : GoodIn wsX6_weigh wsX3_isFull := goodIn_r _ [18, 19, 34, 35, 36, 37, 38] (by decide +kernel) (by decide +kernel)
set_option maxRecDepth 20000 in
theorem gX6_weigh_X3_isFull_n99 : GoodIn wsX6_weigh (wsX3_isFull) := ggX6_weigh_X3_isFull
set_option maxRecDepth 20000 in
theorem ggX6_weigh_X3_add : GoodIn wsX6_weigh wsX3_add := goodIn_r _ [22, 23, 19, 24, 34, 35, 36, 37, 38] (by decide +kernel) (by decide +kernel)
set_option maxRecDepth 20000 in
theorem gX6_weigh_X3_add_n110 : GoodIn wsX6_weigh (wsX3_add) := ggX6_weigh_X3_add
theorem dX6_weigh_0 : decode cX6_weigh 0 = .ok (.iload_n 1, 1) := by decide +kernel
theorem dX6_weigh_1 : decode cX6_weigh 1 = .ok (.invokestatic 62, 3) := by decide +kernel
theorem dX6_weigh_4 : decode cX6_weigh 4 = .ok (.iload_n 2, 1) := by decide +kernel
theorem dX6_weigh_5 : decode cX6_weigh 5 = .ok (.iconst 0, 1) := by decide +kernel
theorem dX6_weigh_6 : decode cX6_weigh 6 = .ok (.sipush 999, 3) := by decide +kernel
theorem dX6_weigh_9 : decode cX6_weigh 9 = .ok (.invokestatic 69, 3) := by decide +kernel
theorem dX6_weigh_12 : decode cX6_weigh 12 = .ok (.aload_n 0, 1) := by decide +kernel
theorem dX6_weigh_13 : decode cX6_weigh 13 = .ok (.getfield 26, 3) := by decide +kernel
theorem dX6_weigh_16 : decode cX6_weigh 16 = .ok (.invokevirtual 99, 3) := by decide +kernel
theorem dX6_weigh_19 : decode cX6_weigh 19 = .ok (.ifCond .eq 13, 3) := by decide +kernel
theorem dX6_weigh_22 : decode cX6_weigh 22 = .ok (.new 103, 3) := by decide +kernel
theorem dX6_weigh_25 : decode cX6_weigh 25 = .ok (.dup, 1) := by decide +kernel
theorem dX6_weigh_26 : decode cX6_weigh 26 = .ok (.ldc 105, 2) := by decide +kernel
theorem dX6_weigh_28 : decode cX6_weigh 28 = .ok (.invokespecial 107, 3) := by decide +kernel
theorem dX6_weigh_31 : decode cX6_weigh 31 = .ok (.athrow, 1) := by decide +kernel
theorem dX6_weigh_32 : decode cX6_weigh 32 = .ok (.aload_n 0, 1) := by decide +kernel
theorem dX6_weigh_33 : decode cX6_weigh 33 = .ok (.getfield 26, 3) := by decide +kernel
theorem dX6_weigh_36 : decode cX6_weigh 36 = .ok (.iload_n 1, 1) := by decide +kernel
theorem dX6_weigh_37 : decode cX6_weigh 37 = .ok (.iload_n 2, 1) := by decide +kernel
theorem dX6_weigh_38 : decode cX6_weigh 38 = .ok (.invokevirtual 110, 3) := by decide +kernel
theorem dX6_weigh_41 : decode cX6_weigh 41 = .ok (.ireturn, 1) := by decide +kernel
set_option maxRecDepth 20000 in
theorem ggX6_change_X6_refuseNoWeight : GoodIn wsX6_change wsX6_refuseNoWeight := goodIn_ca (goodIn_r _ [6, 7, 8, 1, 23, 24, 25, 26, 27, 28, 29, 30, 31, 32, 33, 34, 35, 36] (by decide +kernel) (by decide +kernel)) (goodIn_sub (fun _ h => List.mem_cons_of_mem _ (List.mem_append_left _ (List.mem_append_right _ h))) (by decide +kernel))
set_option maxRecDepth 20000 in
theorem gX6_change_X6_refuseNoWeight : GoodIn wsX6_change (wsV RX6 113 RX6 yX6_refuseNoWeight wsX6_refuseNoWeight) := goodIn_app (goodIn_of _ (by decide +kernel)) ggX6_change_X6_refuseNoWeight
set_option maxRecDepth 20000 in
theorem ggX6_change_X6_refuseNoStation : GoodIn wsX6_change wsX6_refuseNoStation := goodIn_ca (goodIn_r _ [11, 7, 8] (by decide +kernel) (by decide +kernel)) (goodIn_sub (fun _ h => List.mem_cons_of_mem _ (List.mem_append_left _ (List.mem_append_right _ h))) (by decide +kernel))
set_option maxRecDepth 20000 in
theorem gX6_change_X6_refuseNoStation : GoodIn wsX6_change (va_wsS RX6 62 yX6_refuseNoStation wsX6_refuseNoStation) := goodIn_app (goodIn_of _ (by decide +kernel)) ggX6_change_X6_refuseNoStation
set_option maxRecDepth 20000 in
theorem ggX6_change_X6_refuseOutside : GoodIn wsX6_change wsX6_refuseOutside := goodIn_ca (goodIn_r _ [14, 15, 16] (by decide +kernel) (by decide +kernel)) (goodIn_sub (fun _ h => List.mem_cons_of_mem _ (List.mem_append_right _ h)) (by decide +kernel))
set_option maxRecDepth 20000 in
theorem gX6_change_X6_refuseOutside : GoodIn wsX6_change (va_wsS RX6 69 yX6_refuseOutside wsX6_refuseOutside) := goodIn_app (goodIn_of _ (by decide +kernel)) ggX6_change_X6_refuseOutside
set_option maxRecDepth 20000 in
theorem ggX6_change_X3_replace : GoodIn wsX6_change wsX3_replace := goodIn_r _ [20, 21, 22, 32, 33, 34, 35, 36] (by decide +kernel) (by decide +kernel)
set_option maxRecDepth 20000 in
theorem gX6_change_X3_replace_n116 : GoodIn wsX6_change (wsX3_replace) := ggX6_change_X3_replace
theorem dX6_change_0 : decode cX6_change 0 = .ok (.aload_n 0, 1) := by decide +kernel
theorem dX6_change_1 : decode cX6_change 1 = .ok (.iload_n 1, 1) := by decide +kernel
theorem dX6_change_2 : decode cX6_change 2 = .ok (.invokevirtual 113, 3) := by decide +kernel
theorem dX6_change_5 : decode cX6_change 5 = .ok (.iload_n 2, 1) := by decide +kernel
theorem dX6_change_6 : decode cX6_change 6 = .ok (.invokestatic 62, 3) := by decide +kernel
theorem dX6_change_9 : decode cX6_change 9 = .ok (.iload_n 3, 1) := by decide +kernel
theorem dX6_change_10 : decode cX6_change 10 = .ok (.iconst 0, 1) := by decide +kernel
theorem dX6_change_11 : decode cX6_change 11 = .ok (.sipush 999, 3) := by decide +kernel
theorem dX6_change_14 : decode cX6_change 14 = .ok (.invokestatic 69, 3) := by decide +kernel
theorem dX6_change_17 : decode cX6_change 17 = .ok (.aload_n 0, 1) := by decide +kernel
theorem dX6_change_18 : decode cX6_change 18 = .ok (.getfield 26, 3) := by decide +kernel
theorem dX6_change_21 : decode cX6_change 21 = .ok (.iload_n 1, 1) := by decide +kernel
theorem dX6_change_22 : decode cX6_change 22 = .ok (.iload_n 2, 1) := by decide +kernel
theorem dX6_change_23 : decode cX6_change 23 = .ok (.iload_n 3, 1) := by decide +kernel
theorem dX6_change_24 : decode cX6_change 24 = .ok (.invokevirtual 116, 3) := by decide +kernel
theorem dX6_change_27 : decode cX6_change 27 = .ok (.ireturn, 1) := by decide +kernel
set_option maxRecDepth 20000 in
theorem ggX6_ballast_X6_refuseOutside : GoodIn wsX6_ballast wsX6_refuseOutside := goodIn_ca (goodIn_r _ [7, 8, 9] (by decide +kernel) (by decide +kernel)) (goodIn_sub (fun _ h => List.mem_cons_of_mem _ (List.mem_append_right _ h)) (by decide +kernel))
set_option maxRecDepth 20000 in
theorem gX6_ballast_X6_refuseOutside : GoodIn wsX6_ballast (va_wsS RX6 69 yX6_refuseOutside wsX6_refuseOutside) := goodIn_app (goodIn_of _ (by decide +kernel)) ggX6_ballast_X6_refuseOutside
set_option maxRecDepth 20000 in
theorem ggX6_ballast_X2_measure : GoodIn wsX6_ballast wsX2_measure := goodIn_r _ [13, 14, 15, 16, 17, 18, 19, 20, 21, 22, 23, 24, 25, 26, 27, 74, 75, 76] (by decide +kernel) (by decide +kernel)
set_option maxRecDepth 20000 in
theorem gX6_ballast_X2_measure_n120 : GoodIn wsX6_ballast (wsX2_measure) := ggX6_ballast_X2_measure
set_option maxRecDepth 20000 in
theorem ggX6_ballast_X2_setBallast : GoodIn wsX6_ballast wsX2_setBallast := goodIn_r _ [30, 31, 32, 33, 34, 35, 36, 37, 38, 39, 40, 41, 42, 43, 44, 45, 46, 47, 11, 48, 14, 49, 50, 51, 52, 15, 53, 54, 55, 56, 57, 58, 59, 69, 70, 71, 72, 73, 74, 75] (by decide +kernel) (by decide +kernel)
set_option maxRecDepth 20000 in
theorem gX6_ballast_X2_setBallast_n124 : GoodIn wsX6_ballast (wsX2_setBallast) := ggX6_ballast_X2_setBallast
theorem dX6_ballast_0 : decode cX6_ballast 0 = .ok (.iload_n 1, 1) := by decide +kernel
theorem dX6_ballast_1 : decode cX6_ballast 1 = .ok (.iconst 0, 1) := by decide +kernel
theorem dX6_ballast_2 : decode cX6_ballast 2 = .ok (.bipush 99, 2) := by decide +kernel
theorem dX6_ballast_4 : decode cX6_ballast 4 = .ok (.invokestatic 69, 3) := by decide +kernel
theorem dX6_ballast_7 : decode cX6_ballast 7 = .ok (.aload_n 0, 1) := by decide +kernel
theorem dX6_ballast_8 : decode cX6_ballast 8 = .ok (.getfield 33, 3) := by decide +kernel
theorem dX6_ballast_11 : decode cX6_ballast 11 = .ok (.aload_n 0, 1) := by decide +kernel
theorem dX6_ballast_12 : decode cX6_ballast 12 = .ok (.getfield 10, 3) := by decide +kernel
theorem dX6_ballast_15 : decode cX6_ballast 15 = .ok (.invokevirtual 120, 3) := by decide +kernel
theorem dX6_ballast_18 : decode cX6_ballast 18 = .ok (.aload_n 0, 1) := by decide +kernel
theorem dX6_ballast_19 : decode cX6_ballast 19 = .ok (.getfield 33, 3) := by decide +kernel
theorem dX6_ballast_22 : decode cX6_ballast 22 = .ok (.aload_n 0, 1) := by decide +kernel
theorem dX6_ballast_23 : decode cX6_ballast 23 = .ok (.getfield 26, 3) := by decide +kernel
theorem dX6_ballast_26 : decode cX6_ballast 26 = .ok (.iload_n 1, 1) := by decide +kernel
theorem dX6_ballast_27 : decode cX6_ballast 27 = .ok (.invokevirtual 124, 3) := by decide +kernel
theorem dX6_ballast_30 : decode cX6_ballast 30 = .ok (.bipush 10, 2) := by decide +kernel
theorem dX6_ballast_32 : decode cX6_ballast 32 = .ok (.aload_n 0, 1) := by decide +kernel
theorem dX6_ballast_33 : decode cX6_ballast 33 = .ok (.getfield 26, 3) := by decide +kernel
theorem dX6_ballast_36 : decode cX6_ballast 36 = .ok (.getfield 128, 3) := by decide +kernel
theorem dX6_ballast_39 : decode cX6_ballast 39 = .ok (.imul, 1) := by decide +kernel
theorem dX6_ballast_40 : decode cX6_ballast 40 = .ok (.aload_n 0, 1) := by decide +kernel
theorem dX6_ballast_41 : decode cX6_ballast 41 = .ok (.getfield 26, 3) := by decide +kernel
theorem dX6_ballast_44 : decode cX6_ballast 44 = .ok (.getfield 131, 3) := by decide +kernel
theorem dX6_ballast_47 : decode cX6_ballast 47 = .ok (.iadd, 1) := by decide +kernel
theorem dX6_ballast_48 : decode cX6_ballast 48 = .ok (.ireturn, 1) := by decide +kernel
set_option maxRecDepth 20000 in
theorem ggX6_draught_X2_measure : GoodIn wsX6_draught wsX2_measure := goodIn_r _ [7, 8, 9, 10, 11, 12, 13, 14, 15, 16, 17, 18, 19, 20, 21, 45, 46, 47] (by decide +kernel) (by decide +kernel)
set_option maxRecDepth 20000 in
theorem gX6_draught_X2_measure_n120 : GoodIn wsX6_draught (wsX2_measure) := ggX6_draught_X2_measure
set_option maxRecDepth 20000 in
theorem ggX6_draught_X3_wholeLoad : GoodIn wsX6_draught wsX3_wholeLoad := goodIn_r _ [25, 26, 27, 28, 29, 23, 30, 31, 32, 48, 49, 50, 51, 52] (by decide +kernel) (by decide +kernel)
set_option maxRecDepth 20000 in
theorem gX6_draught_X3_wholeLoad_n134 : GoodIn wsX6_draught (wsX3_wholeLoad) := ggX6_draught_X3_wholeLoad
set_option maxRecDepth 20000 in
theorem ggX6_draught_X2_draughtUnder : GoodIn wsX6_draught wsX2_draughtUnder := goodIn_r _ [35, 8, 45, 46] (by decide +kernel) (by decide +kernel)
set_option maxRecDepth 20000 in
theorem gX6_draught_X2_draughtUnder_n138 : GoodIn wsX6_draught (wsX2_draughtUnder) := ggX6_draught_X2_draughtUnder
theorem dX6_draught_0 : decode cX6_draught 0 = .ok (.aload_n 0, 1) := by decide +kernel
theorem dX6_draught_1 : decode cX6_draught 1 = .ok (.getfield 33, 3) := by decide +kernel
theorem dX6_draught_4 : decode cX6_draught 4 = .ok (.aload_n 0, 1) := by decide +kernel
theorem dX6_draught_5 : decode cX6_draught 5 = .ok (.getfield 10, 3) := by decide +kernel
theorem dX6_draught_8 : decode cX6_draught 8 = .ok (.invokevirtual 120, 3) := by decide +kernel
theorem dX6_draught_11 : decode cX6_draught 11 = .ok (.aload_n 0, 1) := by decide +kernel
theorem dX6_draught_12 : decode cX6_draught 12 = .ok (.getfield 33, 3) := by decide +kernel
theorem dX6_draught_15 : decode cX6_draught 15 = .ok (.aload_n 0, 1) := by decide +kernel
theorem dX6_draught_16 : decode cX6_draught 16 = .ok (.getfield 26, 3) := by decide +kernel
theorem dX6_draught_19 : decode cX6_draught 19 = .ok (.invokevirtual 134, 3) := by decide +kernel
theorem dX6_draught_22 : decode cX6_draught 22 = .ok (.invokevirtual 138, 3) := by decide +kernel
theorem dX6_draught_25 : decode cX6_draught 25 = .ok (.ireturn, 1) := by decide +kernel
set_option maxRecDepth 20000 in
theorem ggX6_trim_X2_measure : GoodIn wsX6_trim wsX2_measure := goodIn_r _ [7, 8, 9, 10, 11, 12, 13, 14, 15, 16, 17, 18, 19, 20, 21, 65, 66, 67] (by decide +kernel) (by decide +kernel)
set_option maxRecDepth 20000 in
theorem gX6_trim_X2_measure_n120 : GoodIn wsX6_trim (wsX2_measure) := ggX6_trim_X2_measure
set_option maxRecDepth 20000 in
theorem ggX6_trim_X3_wholeLoad : GoodIn wsX6_trim wsX3_wholeLoad := goodIn_r _ [25, 26, 27, 28, 29, 23, 30, 31, 32, 68, 69, 70, 71, 72] (by decide +kernel) (by decide +kernel)
set_option maxRecDepth 20000 in
theorem gX6_trim_X3_wholeLoad_n134 : GoodIn wsX6_trim (wsX3_wholeLoad) := ggX6_trim_X3_wholeLoad
set_option maxRecDepth 20000 in
theorem ggX6_trim_X3_wholeMoment : GoodIn wsX6_trim wsX3_wholeMoment := goodIn_r _ [35, 26, 36, 37, 38, 39, 23, 40, 31, 32, 41, 68, 69, 70, 71, 72] (by decide +kernel) (by decide +kernel)
set_option maxRecDepth 20000 in
theorem gX6_trim_X3_wholeMoment_n141 : GoodIn wsX6_trim (wsX3_wholeMoment) := ggX6_trim_X3_wholeMoment
set_option maxRecDepth 20000 in
theorem ggX6_trim_X2_trimUnder : GoodIn wsX6_trim wsX2_trimUnder := goodIn_r _ [44, 9, 8, 45, 46, 47, 5, 48, 49, 50, 51, 52, 53, 54, 55, 65, 66] (by decide +kernel) (by decide +kernel)
set_option maxRecDepth 20000 in
theorem gX6_trim_X2_trimUnder_n144 : GoodIn wsX6_trim (wsX2_trimUnder) := ggX6_trim_X2_trimUnder
theorem dX6_trim_0 : decode cX6_trim 0 = .ok (.aload_n 0, 1) := by decide +kernel
theorem dX6_trim_1 : decode cX6_trim 1 = .ok (.getfield 33, 3) := by decide +kernel
theorem dX6_trim_4 : decode cX6_trim 4 = .ok (.aload_n 0, 1) := by decide +kernel
theorem dX6_trim_5 : decode cX6_trim 5 = .ok (.getfield 10, 3) := by decide +kernel
theorem dX6_trim_8 : decode cX6_trim 8 = .ok (.invokevirtual 120, 3) := by decide +kernel
theorem dX6_trim_11 : decode cX6_trim 11 = .ok (.aload_n 0, 1) := by decide +kernel
theorem dX6_trim_12 : decode cX6_trim 12 = .ok (.getfield 33, 3) := by decide +kernel
theorem dX6_trim_15 : decode cX6_trim 15 = .ok (.aload_n 0, 1) := by decide +kernel
theorem dX6_trim_16 : decode cX6_trim 16 = .ok (.getfield 26, 3) := by decide +kernel
theorem dX6_trim_19 : decode cX6_trim 19 = .ok (.invokevirtual 134, 3) := by decide +kernel
theorem dX6_trim_22 : decode cX6_trim 22 = .ok (.aload_n 0, 1) := by decide +kernel
theorem dX6_trim_23 : decode cX6_trim 23 = .ok (.getfield 26, 3) := by decide +kernel
theorem dX6_trim_26 : decode cX6_trim 26 = .ok (.invokevirtual 141, 3) := by decide +kernel
theorem dX6_trim_29 : decode cX6_trim 29 = .ok (.invokevirtual 144, 3) := by decide +kernel
theorem dX6_trim_32 : decode cX6_trim 32 = .ok (.ireturn, 1) := by decide +kernel
set_option maxRecDepth 20000 in
theorem ggX6_strake_X6_refuseNoStrake : GoodIn wsX6_strake wsX6_refuseNoStrake := goodIn_ca (goodIn_r _ [5, 6, 7] (by decide +kernel) (by decide +kernel)) (goodIn_sub (fun _ h => List.mem_cons_of_mem _ (List.mem_append_right _ h)) (by decide +kernel))
set_option maxRecDepth 20000 in
theorem gX6_strake_X6_refuseNoStrake : GoodIn wsX6_strake (va_wsS RX6 147 yX6_refuseNoStrake wsX6_refuseNoStrake) := goodIn_app (goodIn_of _ (by decide +kernel)) ggX6_strake_X6_refuseNoStrake
set_option maxRecDepth 20000 in
theorem ggX6_strake_X4_strakeLength : GoodIn wsX6_strake wsX4_strakeLength := goodIn_r _ [11, 12, 13, 14, 15, 16, 26] (by decide +kernel) (by decide +kernel)
set_option maxRecDepth 20000 in
theorem gX6_strake_X4_strakeLength_n150 : GoodIn wsX6_strake (wsX4_strakeLength) := ggX6_strake_X4_strakeLength
theorem dX6_strake_0 : decode cX6_strake 0 = .ok (.iload_n 1, 1) := by decide +kernel
theorem dX6_strake_1 : decode cX6_strake 1 = .ok (.invokestatic 147, 3) := by decide +kernel
theorem dX6_strake_4 : decode cX6_strake 4 = .ok (.aload_n 0, 1) := by decide +kernel
theorem dX6_strake_5 : decode cX6_strake 5 = .ok (.getfield 10, 3) := by decide +kernel
theorem dX6_strake_8 : decode cX6_strake 8 = .ok (.iload_n 1, 1) := by decide +kernel
theorem dX6_strake_9 : decode cX6_strake 9 = .ok (.invokevirtual 150, 3) := by decide +kernel
theorem dX6_strake_12 : decode cX6_strake 12 = .ok (.ireturn, 1) := by decide +kernel
set_option maxRecDepth 20000 in
theorem ggX6_planks_X6_refuseOutside : GoodIn wsX6_planks wsX6_refuseOutside := goodIn_ca (goodIn_r _ [6, 7, 8] (by decide +kernel) (by decide +kernel)) (goodIn_sub (fun _ h => List.mem_cons_of_mem _ (List.mem_append_right _ h)) (by decide +kernel))
set_option maxRecDepth 20000 in
theorem gX6_planks_X6_refuseOutside : GoodIn wsX6_planks (va_wsS RX6 69 yX6_refuseOutside wsX6_refuseOutside) := goodIn_app (goodIn_of _ (by decide +kernel)) ggX6_planks_X6_refuseOutside
set_option maxRecDepth 20000 in
theorem ggX6_planks_X5_cutAll : GoodIn wsX6_planks wsX5_cutAll := goodIn_r _ [12, 13, 14, 15, 16, 17, 18, 19, 20, 10, 21, 22, 23, 24, 25, 26, 27, 28, 29, 30, 31, 32, 33, 34, 35, 36, 46, 47, 48, 49, 50, 51, 52, 53] (by decide +kernel) (by decide +kernel)
set_option maxRecDepth 20000 in
theorem gX6_planks_X5_cutAll_n156 : GoodIn wsX6_planks (wsX5_cutAll) := ggX6_planks_X5_cutAll
theorem dX6_planks_0 : decode cX6_planks 0 = .ok (.iload_n 1, 1) := by decide +kernel
theorem dX6_planks_1 : decode cX6_planks 1 = .ok (.bipush 100, 2) := by decide +kernel
theorem dX6_planks_3 : decode cX6_planks 3 = .ok (.sipush 4000, 3) := by decide +kernel
theorem dX6_planks_6 : decode cX6_planks 6 = .ok (.invokestatic 69, 3) := by decide +kernel
theorem dX6_planks_9 : decode cX6_planks 9 = .ok (.aload_n 0, 1) := by decide +kernel
theorem dX6_planks_10 : decode cX6_planks 10 = .ok (.getfield 40, 3) := by decide +kernel
theorem dX6_planks_13 : decode cX6_planks 13 = .ok (.iload_n 1, 1) := by decide +kernel
theorem dX6_planks_14 : decode cX6_planks 14 = .ok (.putfield 153, 3) := by decide +kernel
theorem dX6_planks_17 : decode cX6_planks 17 = .ok (.aload_n 0, 1) := by decide +kernel
theorem dX6_planks_18 : decode cX6_planks 18 = .ok (.getfield 40, 3) := by decide +kernel
theorem dX6_planks_21 : decode cX6_planks 21 = .ok (.aload_n 0, 1) := by decide +kernel
theorem dX6_planks_22 : decode cX6_planks 22 = .ok (.getfield 10, 3) := by decide +kernel
theorem dX6_planks_25 : decode cX6_planks 25 = .ok (.invokevirtual 156, 3) := by decide +kernel
theorem dX6_planks_28 : decode cX6_planks 28 = .ok (.aload_n 0, 1) := by decide +kernel
theorem dX6_planks_29 : decode cX6_planks 29 = .ok (.getfield 40, 3) := by decide +kernel
theorem dX6_planks_32 : decode cX6_planks 32 = .ok (.getfield 159, 3) := by decide +kernel
theorem dX6_planks_35 : decode cX6_planks 35 = .ok (.ireturn, 1) := by decide +kernel
set_option maxRecDepth 20000 in
theorem ggX6_plankOf_X6_refuseNoStrake : GoodIn wsX6_plankOf wsX6_refuseNoStrake := goodIn_ca (goodIn_r _ [6, 7, 8] (by decide +kernel) (by decide +kernel)) (goodIn_sub (fun _ h => List.mem_cons_of_mem _ (List.mem_append_right _ h)) (by decide +kernel))
set_option maxRecDepth 20000 in
theorem gX6_plankOf_X6_refuseNoStrake : GoodIn wsX6_plankOf (va_wsS RX6 147 yX6_refuseNoStrake wsX6_refuseNoStrake) := goodIn_app (goodIn_of _ (by decide +kernel)) ggX6_plankOf_X6_refuseNoStrake
set_option maxRecDepth 20000 in
theorem ggX6_plankOf_X5_cutAll : GoodIn wsX6_plankOf wsX5_cutAll := goodIn_r _ [12, 13, 14, 15, 16, 17, 18, 19, 20, 10, 21, 22, 23, 24, 25, 26, 27, 28, 29, 30, 31, 32, 33, 34, 35, 36, 46, 47, 48, 49, 50, 51, 52, 53] (by decide +kernel) (by decide +kernel)
set_option maxRecDepth 20000 in
theorem gX6_plankOf_X5_cutAll_n156 : GoodIn wsX6_plankOf (wsX5_cutAll) := ggX6_plankOf_X5_cutAll
theorem dX6_plankOf_0 : decode cX6_plankOf 0 = .ok (.iload_n 1, 1) := by decide +kernel
theorem dX6_plankOf_1 : decode cX6_plankOf 1 = .ok (.invokestatic 147, 3) := by decide +kernel
theorem dX6_plankOf_4 : decode cX6_plankOf 4 = .ok (.aload_n 0, 1) := by decide +kernel
theorem dX6_plankOf_5 : decode cX6_plankOf 5 = .ok (.getfield 40, 3) := by decide +kernel
theorem dX6_plankOf_8 : decode cX6_plankOf 8 = .ok (.aload_n 0, 1) := by decide +kernel
theorem dX6_plankOf_9 : decode cX6_plankOf 9 = .ok (.getfield 10, 3) := by decide +kernel
theorem dX6_plankOf_12 : decode cX6_plankOf 12 = .ok (.invokevirtual 156, 3) := by decide +kernel
theorem dX6_plankOf_15 : decode cX6_plankOf 15 = .ok (.iload_n 2, 1) := by decide +kernel
theorem dX6_plankOf_16 : decode cX6_plankOf 16 = .ok (.ifCond .eq 15, 3) := by decide +kernel
theorem dX6_plankOf_19 : decode cX6_plankOf 19 = .ok (.aload_n 0, 1) := by decide +kernel
theorem dX6_plankOf_20 : decode cX6_plankOf 20 = .ok (.getfield 40, 3) := by decide +kernel
theorem dX6_plankOf_23 : decode cX6_plankOf 23 = .ok (.getfield 162, 3) := by decide +kernel
theorem dX6_plankOf_26 : decode cX6_plankOf 26 = .ok (.iload_n 1, 1) := by decide +kernel
theorem dX6_plankOf_27 : decode cX6_plankOf 27 = .ok (.iaload, 1) := by decide +kernel
theorem dX6_plankOf_28 : decode cX6_plankOf 28 = .ok (.goto 12, 3) := by decide +kernel
theorem dX6_plankOf_31 : decode cX6_plankOf 31 = .ok (.aload_n 0, 1) := by decide +kernel
theorem dX6_plankOf_32 : decode cX6_plankOf 32 = .ok (.getfield 40, 3) := by decide +kernel
theorem dX6_plankOf_35 : decode cX6_plankOf 35 = .ok (.getfield 166, 3) := by decide +kernel
theorem dX6_plankOf_38 : decode cX6_plankOf 38 = .ok (.iload_n 1, 1) := by decide +kernel
theorem dX6_plankOf_39 : decode cX6_plankOf 39 = .ok (.iaload, 1) := by decide +kernel
theorem dX6_plankOf_40 : decode cX6_plankOf 40 = .ok (.ireturn, 1) := by decide +kernel
set_option maxRecDepth 20000 in
theorem ggX6_tide_X6_refuseOutside : GoodIn wsX6_tide wsX6_refuseOutside := goodIn_ca (goodIn_r _ [7, 8, 9] (by decide +kernel) (by decide +kernel)) (goodIn_sub (fun _ h => List.mem_cons_of_mem _ (List.mem_append_right _ h)) (by decide +kernel))
set_option maxRecDepth 20000 in
theorem gX6_tide_X6_refuseOutside : GoodIn wsX6_tide (va_wsS RX6 69 yX6_refuseOutside wsX6_refuseOutside) := goodIn_app (goodIn_of _ (by decide +kernel)) ggX6_tide_X6_refuseOutside
set_option maxRecDepth 20000 in
theorem ggX6_tide_X0_hasRoomFor : GoodIn wsX6_tide wsX0_hasRoomFor := goodIn_r _ [13, 14, 15, 16, 17, 11, 18, 19, 40, 41, 42] (by decide +kernel) (by decide +kernel)
set_option maxRecDepth 20000 in
theorem gX6_tide_X0_hasRoomFor_n169 : GoodIn wsX6_tide (wsX0_hasRoomFor) := ggX6_tide_X0_hasRoomFor
set_option maxRecDepth 20000 in
theorem ggX6_tide_X0_heightOn : GoodIn wsX6_tide wsX0_heightOn := goodIn_r _ [22, 23, 15, 16, 17, 11, 18, 14, 19, 24, 25, 26, 27, 40, 41, 42] (by decide +kernel) (by decide +kernel)
set_option maxRecDepth 20000 in
theorem gX6_tide_X0_heightOn_n175 : GoodIn wsX6_tide (wsX0_heightOn) := ggX6_tide_X0_heightOn
set_option maxRecDepth 20000 in
theorem ggX6_tide_X0_tell : GoodIn wsX6_tide wsX0_tell := goodIn_r _ [30, 14, 19, 23, 15, 16, 17, 11, 18, 40, 41, 42] (by decide +kernel) (by decide +kernel)
set_option maxRecDepth 20000 in
theorem gX6_tide_X0_tell_n178 : GoodIn wsX6_tide (wsX0_tell) := ggX6_tide_X0_tell
theorem dX6_tide_0 : decode cX6_tide 0 = .ok (.iload_n 1, 1) := by decide +kernel
theorem dX6_tide_1 : decode cX6_tide 1 = .ok (.iconst 0, 1) := by decide +kernel
theorem dX6_tide_2 : decode cX6_tide 2 = .ok (.sipush 9999, 3) := by decide +kernel
theorem dX6_tide_5 : decode cX6_tide 5 = .ok (.invokestatic 69, 3) := by decide +kernel
theorem dX6_tide_8 : decode cX6_tide 8 = .ok (.iload_n 2, 1) := by decide +kernel
theorem dX6_tide_9 : decode cX6_tide 9 = .ok (.iconst 0, 1) := by decide +kernel
theorem dX6_tide_10 : decode cX6_tide 10 = .ok (.bipush 99, 2) := by decide +kernel
theorem dX6_tide_12 : decode cX6_tide 12 = .ok (.invokestatic 69, 3) := by decide +kernel
theorem dX6_tide_15 : decode cX6_tide 15 = .ok (.aload_n 0, 1) := by decide +kernel
theorem dX6_tide_16 : decode cX6_tide 16 = .ok (.getfield 47, 3) := by decide +kernel
theorem dX6_tide_19 : decode cX6_tide 19 = .ok (.iload_n 1, 1) := by decide +kernel
theorem dX6_tide_20 : decode cX6_tide 20 = .ok (.invokevirtual 169, 3) := by decide +kernel
theorem dX6_tide_23 : decode cX6_tide 23 = .ok (.ifCond .ne 13, 3) := by decide +kernel
theorem dX6_tide_26 : decode cX6_tide 26 = .ok (.new 103, 3) := by decide +kernel
theorem dX6_tide_29 : decode cX6_tide 29 = .ok (.dup, 1) := by decide +kernel
theorem dX6_tide_30 : decode cX6_tide 30 = .ok (.ldc 173, 2) := by decide +kernel
theorem dX6_tide_32 : decode cX6_tide 32 = .ok (.invokespecial 107, 3) := by decide +kernel
theorem dX6_tide_35 : decode cX6_tide 35 = .ok (.athrow, 1) := by decide +kernel
theorem dX6_tide_36 : decode cX6_tide 36 = .ok (.aload_n 0, 1) := by decide +kernel
theorem dX6_tide_37 : decode cX6_tide 37 = .ok (.getfield 47, 3) := by decide +kernel
theorem dX6_tide_40 : decode cX6_tide 40 = .ok (.iload_n 1, 1) := by decide +kernel
theorem dX6_tide_41 : decode cX6_tide 41 = .ok (.invokevirtual 175, 3) := by decide +kernel
theorem dX6_tide_44 : decode cX6_tide 44 = .ok (.istore_n 3, 1) := by decide +kernel
theorem dX6_tide_45 : decode cX6_tide 45 = .ok (.aload_n 0, 1) := by decide +kernel
theorem dX6_tide_46 : decode cX6_tide 46 = .ok (.getfield 47, 3) := by decide +kernel
theorem dX6_tide_49 : decode cX6_tide 49 = .ok (.iload_n 1, 1) := by decide +kernel
theorem dX6_tide_50 : decode cX6_tide 50 = .ok (.iload_n 2, 1) := by decide +kernel
theorem dX6_tide_51 : decode cX6_tide 51 = .ok (.invokevirtual 178, 3) := by decide +kernel
theorem dX6_tide_54 : decode cX6_tide 54 = .ok (.iload_n 3, 1) := by decide +kernel
theorem dX6_tide_55 : decode cX6_tide 55 = .ok (.ireturn, 1) := by decide +kernel
set_option maxRecDepth 20000 in
theorem ggX6_sill_X6_refuseOutside : GoodIn wsX6_sill wsX6_refuseOutside := goodIn_ca (goodIn_r _ [5, 6, 7] (by decide +kernel) (by decide +kernel)) (goodIn_sub (fun _ h => List.mem_cons_of_mem _ (List.mem_append_right _ h)) (by decide +kernel))
set_option maxRecDepth 20000 in
theorem gX6_sill_X6_refuseOutside : GoodIn wsX6_sill (va_wsS RX6 69 yX6_refuseOutside wsX6_refuseOutside) := goodIn_app (goodIn_of _ (by decide +kernel)) ggX6_sill_X6_refuseOutside
theorem dX6_sill_0 : decode cX6_sill 0 = .ok (.iload_n 1, 1) := by decide +kernel
theorem dX6_sill_1 : decode cX6_sill 1 = .ok (.iconst 0, 1) := by decide +kernel
theorem dX6_sill_2 : decode cX6_sill 2 = .ok (.bipush 50, 2) := by decide +kernel
theorem dX6_sill_4 : decode cX6_sill 4 = .ok (.invokestatic 69, 3) := by decide +kernel
theorem dX6_sill_7 : decode cX6_sill 7 = .ok (.aload_n 0, 1) := by decide +kernel
theorem dX6_sill_8 : decode cX6_sill 8 = .ok (.getfield 51, 3) := by decide +kernel
theorem dX6_sill_11 : decode cX6_sill 11 = .ok (.istore_n 2, 1) := by decide +kernel
theorem dX6_sill_12 : decode cX6_sill 12 = .ok (.aload_n 0, 1) := by decide +kernel
theorem dX6_sill_13 : decode cX6_sill 13 = .ok (.iload_n 1, 1) := by decide +kernel
theorem dX6_sill_14 : decode cX6_sill 14 = .ok (.putfield 51, 3) := by decide +kernel
theorem dX6_sill_17 : decode cX6_sill 17 = .ok (.iload_n 2, 1) := by decide +kernel
theorem dX6_sill_18 : decode cX6_sill 18 = .ok (.ireturn, 1) := by decide +kernel
set_option maxRecDepth 20000 in
theorem ggX6_needed_X6_draught : GoodIn wsX6_needed wsX6_draught := goodIn_r _ [10, 11, 12, 13, 14, 15, 16, 17, 18, 19, 20, 21, 22, 23, 24, 25, 26, 27, 28, 29, 30, 31, 32, 33, 34, 35, 36, 37, 38, 39, 40, 41, 42, 43, 44, 45, 70, 71, 72, 73, 74, 75, 76, 77, 78, 79, 80, 81, 82, 83, 84, 85, 86] (by decide +kernel) (by decide +kernel)
set_option maxRecDepth 20000 in
theorem gX6_needed_X6_draught : GoodIn wsX6_needed (wsV RX6 182 RX6 yX6_draught wsX6_draught) := goodIn_app (goodIn_of _ (by decide +kernel)) ggX6_needed_X6_draught
set_option maxRecDepth 20000 in
theorem ggX6_needed_X6_trim : GoodIn wsX6_needed wsX6_trim := goodIn_r _ [49, 11, 12, 13, 14, 15, 16, 17, 18, 19, 20, 21, 22, 23, 24, 25, 26, 27, 28, 29, 30, 31, 32, 33, 34, 35, 36, 37, 38, 39, 40, 41, 42, 50, 51, 52, 53, 54, 55, 56, 57, 58, 59, 60, 61, 62, 43, 44, 45, 63, 64, 65, 66, 67, 68, 69, 70, 71, 72, 73, 74, 75, 76, 77, 78, 79, 80, 81, 82, 83, 84, 85, 86] (by decide +kernel) (by decide +kernel)
set_option maxRecDepth 20000 in
theorem gX6_needed_X6_trim : GoodIn wsX6_needed (wsV RX6 185 RX6 yX6_trim wsX6_trim) := goodIn_app (goodIn_of _ (by decide +kernel)) ggX6_needed_X6_trim
theorem dX6_needed_0 : decode cX6_needed 0 = .ok (.aload_n 0, 1) := by decide +kernel
theorem dX6_needed_1 : decode cX6_needed 1 = .ok (.invokevirtual 182, 3) := by decide +kernel
theorem dX6_needed_4 : decode cX6_needed 4 = .ok (.istore_n 1, 1) := by decide +kernel
theorem dX6_needed_5 : decode cX6_needed 5 = .ok (.iload_n 1, 1) := by decide +kernel
theorem dX6_needed_6 : decode cX6_needed 6 = .ok (.iconst (-1), 1) := by decide +kernel
theorem dX6_needed_7 : decode cX6_needed 7 = .ok (.if_icmp .ne 5, 3) := by decide +kernel
theorem dX6_needed_10 : decode cX6_needed 10 = .ok (.iconst (-1), 1) := by decide +kernel
theorem dX6_needed_11 : decode cX6_needed 11 = .ok (.ireturn, 1) := by decide +kernel
theorem dX6_needed_12 : decode cX6_needed 12 = .ok (.bipush 10, 2) := by decide +kernel
theorem dX6_needed_14 : decode cX6_needed 14 = .ok (.iload_n 1, 1) := by decide +kernel
theorem dX6_needed_15 : decode cX6_needed 15 = .ok (.imul, 1) := by decide +kernel
theorem dX6_needed_16 : decode cX6_needed 16 = .ok (.aload_n 0, 1) := by decide +kernel
theorem dX6_needed_17 : decode cX6_needed 17 = .ok (.getfield 51, 3) := by decide +kernel
theorem dX6_needed_20 : decode cX6_needed 20 = .ok (.iadd, 1) := by decide +kernel
theorem dX6_needed_21 : decode cX6_needed 21 = .ok (.aload_n 0, 1) := by decide +kernel
theorem dX6_needed_22 : decode cX6_needed 22 = .ok (.invokevirtual 185, 3) := by decide +kernel
theorem dX6_needed_25 : decode cX6_needed 25 = .ok (.invokestatic 188, 3) := by decide +kernel
theorem dX6_needed_28 : decode cX6_needed 28 = .ok (.bipush 10, 2) := by decide +kernel
theorem dX6_needed_30 : decode cX6_needed 30 = .ok (.idiv, 1) := by decide +kernel
theorem dX6_needed_31 : decode cX6_needed 31 = .ok (.iadd, 1) := by decide +kernel
theorem dX6_needed_32 : decode cX6_needed 32 = .ok (.ireturn, 1) := by decide +kernel
set_option maxRecDepth 20000 in
theorem ggX6_day_X6_needed : GoodIn wsX6_day wsX6_needed := goodIn_r _ [8, 9, 10, 11, 12, 13, 14, 15, 16, 7, 17, 18, 19, 20, 21, 22, 23, 24, 25, 26, 27, 28, 29, 30, 31, 32, 33, 34, 35, 36, 37, 38, 39, 40, 41, 42, 43, 44, 45, 46, 47, 48, 49, 50, 51, 52, 53, 54, 55, 56, 57, 58, 59, 60, 61, 62, 63, 64, 65, 66, 67, 68, 69, 70, 71, 72, 73, 74, 75, 76, 91, 92, 93, 94, 95, 96, 97, 98, 99, 100, 101, 102, 103, 104, 105, 106, 107] (by decide +kernel) (by decide +kernel)
set_option maxRecDepth 20000 in
theorem gX6_day_X6_needed : GoodIn wsX6_day (wsV RX6 193 RX6 yX6_needed wsX6_needed) := goodIn_app (goodIn_of _ (by decide +kernel)) ggX6_day_X6_needed
set_option maxRecDepth 20000 in
theorem ggX6_day_X0_heightOn : GoodIn wsX6_day wsX0_heightOn := goodIn_r _ [80, 81, 82, 83, 84, 78, 85, 86, 87, 88, 89, 75, 90, 108, 109, 110] (by decide +kernel) (by decide +kernel)
set_option maxRecDepth 20000 in
theorem gX6_day_X0_heightOn_n175 : GoodIn wsX6_day (wsX0_heightOn) := ggX6_day_X0_heightOn
theorem dX6_day_0 : decode cX6_day 0 = .ok (.aload_n 0, 1) := by decide +kernel
theorem dX6_day_1 : decode cX6_day 1 = .ok (.invokevirtual 193, 3) := by decide +kernel
theorem dX6_day_4 : decode cX6_day 4 = .ok (.istore_n 1, 1) := by decide +kernel
theorem dX6_day_5 : decode cX6_day 5 = .ok (.aload_n 0, 1) := by decide +kernel
theorem dX6_day_6 : decode cX6_day 6 = .ok (.getfield 58, 3) := by decide +kernel
theorem dX6_day_9 : decode cX6_day 9 = .ok (.ifCond .ne 8, 3) := by decide +kernel
theorem dX6_day_12 : decode cX6_day 12 = .ok (.iload_n 1, 1) := by decide +kernel
theorem dX6_day_13 : decode cX6_day 13 = .ok (.iconst (-1), 1) := by decide +kernel
theorem dX6_day_14 : decode cX6_day 14 = .ok (.if_icmp .ne 5, 3) := by decide +kernel
theorem dX6_day_17 : decode cX6_day 17 = .ok (.iconst (-1), 1) := by decide +kernel
theorem dX6_day_18 : decode cX6_day 18 = .ok (.ireturn, 1) := by decide +kernel
theorem dX6_day_19 : decode cX6_day 19 = .ok (.iconst 0, 1) := by decide +kernel
theorem dX6_day_20 : decode cX6_day 20 = .ok (.istore_n 2, 1) := by decide +kernel
theorem dX6_day_21 : decode cX6_day 21 = .ok (.iload_n 2, 1) := by decide +kernel
theorem dX6_day_22 : decode cX6_day 22 = .ok (.bipush 99, 2) := by decide +kernel
theorem dX6_day_24 : decode cX6_day 24 = .ok (.if_icmp .gt 33, 3) := by decide +kernel
theorem dX6_day_27 : decode cX6_day 27 = .ok (.aload_n 0, 1) := by decide +kernel
theorem dX6_day_28 : decode cX6_day 28 = .ok (.getfield 47, 3) := by decide +kernel
theorem dX6_day_31 : decode cX6_day 31 = .ok (.aload_n 0, 1) := by decide +kernel
theorem dX6_day_32 : decode cX6_day 32 = .ok (.getfield 55, 3) := by decide +kernel
theorem dX6_day_35 : decode cX6_day 35 = .ok (.iload_n 2, 1) := by decide +kernel
theorem dX6_day_36 : decode cX6_day 36 = .ok (.iadd, 1) := by decide +kernel
theorem dX6_day_37 : decode cX6_day 37 = .ok (.invokevirtual 175, 3) := by decide +kernel
theorem dX6_day_40 : decode cX6_day 40 = .ok (.iload_n 1, 1) := by decide +kernel
theorem dX6_day_41 : decode cX6_day 41 = .ok (.if_icmp .lt 10, 3) := by decide +kernel
theorem dX6_day_44 : decode cX6_day 44 = .ok (.aload_n 0, 1) := by decide +kernel
theorem dX6_day_45 : decode cX6_day 45 = .ok (.getfield 55, 3) := by decide +kernel
theorem dX6_day_48 : decode cX6_day 48 = .ok (.iload_n 2, 1) := by decide +kernel
theorem dX6_day_49 : decode cX6_day 49 = .ok (.iadd, 1) := by decide +kernel
theorem dX6_day_50 : decode cX6_day 50 = .ok (.ireturn, 1) := by decide +kernel
theorem dX6_day_51 : decode cX6_day 51 = .ok (.iinc 2 1, 3) := by decide +kernel
theorem dX6_day_54 : decode cX6_day 54 = .ok (.goto (-33), 3) := by decide +kernel
theorem dX6_day_57 : decode cX6_day 57 = .ok (.iconst (-1), 1) := by decide +kernel
theorem dX6_day_58 : decode cX6_day 58 = .ok (.ireturn, 1) := by decide +kernel
set_option maxRecDepth 20000 in
theorem ggX6_launch_X6_refuseLaunched : GoodIn wsX6_launch wsX6_refuseLaunched := goodIn_ca (goodIn_r _ [10, 1, 2, 5, 97, 98, 99, 100, 101, 102, 103, 104, 105] (by decide +kernel) (by decide +kernel)) (goodIn_sub (fun _ h => List.mem_cons_of_mem _ (List.mem_append_right _ h)) (by decide +kernel))
set_option maxRecDepth 20000 in
theorem gX6_launch_X6_refuseLaunched : GoodIn wsX6_launch (wsV RX6 73 RX6 yX6_refuseLaunched wsX6_refuseLaunched) := goodIn_app (goodIn_of _ (by decide +kernel)) ggX6_launch_X6_refuseLaunched
set_option maxRecDepth 20000 in
theorem ggX6_launch_X6_needed : GoodIn wsX6_launch wsX6_needed := goodIn_r _ [14, 15, 16, 17, 18, 19, 20, 21, 22, 9, 23, 24, 25, 26, 27, 28, 29, 30, 31, 32, 33, 34, 35, 36, 37, 38, 39, 40, 41, 42, 43, 44, 45, 46, 47, 48, 49, 50, 51, 52, 53, 54, 55, 56, 57, 58, 59, 60, 61, 62, 63, 64, 65, 66, 67, 68, 69, 70, 71, 72, 73, 74, 75, 76, 77, 78, 79, 80, 81, 82, 97, 98, 99, 100, 101, 102, 103, 104, 105, 106, 107, 108, 109, 110, 111, 112, 113] (by decide +kernel) (by decide +kernel)
set_option maxRecDepth 20000 in
theorem gX6_launch_X6_needed : GoodIn wsX6_launch (wsV RX6 193 RX6 yX6_needed wsX6_needed) := goodIn_app (goodIn_of _ (by decide +kernel)) ggX6_launch_X6_needed
set_option maxRecDepth 20000 in
theorem ggX6_launch_X0_heightOn : GoodIn wsX6_launch wsX0_heightOn := goodIn_r _ [86, 87, 88, 89, 90, 84, 91, 92, 93, 94, 95, 81, 96, 114, 115, 116] (by decide +kernel) (by decide +kernel)
set_option maxRecDepth 20000 in
theorem gX6_launch_X0_heightOn_n175 : GoodIn wsX6_launch (wsX0_heightOn) := ggX6_launch_X0_heightOn
theorem dX6_launch_0 : decode cX6_launch 0 = .ok (.aload_n 0, 1) := by decide +kernel
theorem dX6_launch_1 : decode cX6_launch 1 = .ok (.invokevirtual 73, 3) := by decide +kernel
theorem dX6_launch_4 : decode cX6_launch 4 = .ok (.aload_n 0, 1) := by decide +kernel
theorem dX6_launch_5 : decode cX6_launch 5 = .ok (.invokevirtual 193, 3) := by decide +kernel
theorem dX6_launch_8 : decode cX6_launch 8 = .ok (.istore_n 1, 1) := by decide +kernel
theorem dX6_launch_9 : decode cX6_launch 9 = .ok (.iload_n 1, 1) := by decide +kernel
theorem dX6_launch_10 : decode cX6_launch 10 = .ok (.iconst (-1), 1) := by decide +kernel
theorem dX6_launch_11 : decode cX6_launch 11 = .ok (.if_icmp .ne 13, 3) := by decide +kernel
theorem dX6_launch_14 : decode cX6_launch 14 = .ok (.new 103, 3) := by decide +kernel
theorem dX6_launch_17 : decode cX6_launch 17 = .ok (.dup, 1) := by decide +kernel
theorem dX6_launch_18 : decode cX6_launch 18 = .ok (.ldc 196, 2) := by decide +kernel
theorem dX6_launch_20 : decode cX6_launch 20 = .ok (.invokespecial 107, 3) := by decide +kernel
theorem dX6_launch_23 : decode cX6_launch 23 = .ok (.athrow, 1) := by decide +kernel
theorem dX6_launch_24 : decode cX6_launch 24 = .ok (.aload_n 0, 1) := by decide +kernel
theorem dX6_launch_25 : decode cX6_launch 25 = .ok (.getfield 47, 3) := by decide +kernel
theorem dX6_launch_28 : decode cX6_launch 28 = .ok (.aload_n 0, 1) := by decide +kernel
theorem dX6_launch_29 : decode cX6_launch 29 = .ok (.getfield 55, 3) := by decide +kernel
theorem dX6_launch_32 : decode cX6_launch 32 = .ok (.invokevirtual 175, 3) := by decide +kernel
theorem dX6_launch_35 : decode cX6_launch 35 = .ok (.iload_n 1, 1) := by decide +kernel
theorem dX6_launch_36 : decode cX6_launch 36 = .ok (.isub, 1) := by decide +kernel
theorem dX6_launch_37 : decode cX6_launch 37 = .ok (.istore_n 2, 1) := by decide +kernel
theorem dX6_launch_38 : decode cX6_launch 38 = .ok (.iload_n 2, 1) := by decide +kernel
theorem dX6_launch_39 : decode cX6_launch 39 = .ok (.ifCond .ge 13, 3) := by decide +kernel
theorem dX6_launch_42 : decode cX6_launch 42 = .ok (.new 103, 3) := by decide +kernel
theorem dX6_launch_45 : decode cX6_launch 45 = .ok (.dup, 1) := by decide +kernel
theorem dX6_launch_46 : decode cX6_launch 46 = .ok (.ldc 198, 2) := by decide +kernel
theorem dX6_launch_48 : decode cX6_launch 48 = .ok (.invokespecial 107, 3) := by decide +kernel
theorem dX6_launch_51 : decode cX6_launch 51 = .ok (.athrow, 1) := by decide +kernel
theorem dX6_launch_52 : decode cX6_launch 52 = .ok (.aload_n 0, 1) := by decide +kernel
theorem dX6_launch_53 : decode cX6_launch 53 = .ok (.iconst 1, 1) := by decide +kernel
theorem dX6_launch_54 : decode cX6_launch 54 = .ok (.putfield 58, 3) := by decide +kernel
theorem dX6_launch_57 : decode cX6_launch 57 = .ok (.iload_n 2, 1) := by decide +kernel
theorem dX6_launch_58 : decode cX6_launch 58 = .ok (.ireturn, 1) := by decide +kernel
set_option maxRecDepth 20000 in
theorem ggX6_pass_X6_refuseOutside : GoodIn wsX6_pass wsX6_refuseOutside := goodIn_ca (goodIn_r _ [7, 8, 9] (by decide +kernel) (by decide +kernel)) (goodIn_sub (fun _ h => List.mem_cons_of_mem _ (List.mem_append_right _ h)) (by decide +kernel))
set_option maxRecDepth 20000 in
theorem gX6_pass_X6_refuseOutside : GoodIn wsX6_pass (va_wsS RX6 69 yX6_refuseOutside wsX6_refuseOutside) := goodIn_app (goodIn_of _ (by decide +kernel)) ggX6_pass_X6_refuseOutside
theorem dX6_pass_0 : decode cX6_pass 0 = .ok (.iload_n 1, 1) := by decide +kernel
theorem dX6_pass_1 : decode cX6_pass 1 = .ok (.iconst 1, 1) := by decide +kernel
theorem dX6_pass_2 : decode cX6_pass 2 = .ok (.bipush 99, 2) := by decide +kernel
theorem dX6_pass_4 : decode cX6_pass 4 = .ok (.invokestatic 69, 3) := by decide +kernel
theorem dX6_pass_7 : decode cX6_pass 7 = .ok (.aload_n 0, 1) := by decide +kernel
theorem dX6_pass_8 : decode cX6_pass 8 = .ok (.getfield 55, 3) := by decide +kernel
theorem dX6_pass_11 : decode cX6_pass 11 = .ok (.iload_n 1, 1) := by decide +kernel
theorem dX6_pass_12 : decode cX6_pass 12 = .ok (.iadd, 1) := by decide +kernel
theorem dX6_pass_13 : decode cX6_pass 13 = .ok (.sipush 9000, 3) := by decide +kernel
theorem dX6_pass_16 : decode cX6_pass 16 = .ok (.if_icmp .le 13, 3) := by decide +kernel
theorem dX6_pass_19 : decode cX6_pass 19 = .ok (.new 103, 3) := by decide +kernel
theorem dX6_pass_22 : decode cX6_pass 22 = .ok (.dup, 1) := by decide +kernel
theorem dX6_pass_23 : decode cX6_pass 23 = .ok (.ldc 200, 2) := by decide +kernel
theorem dX6_pass_25 : decode cX6_pass 25 = .ok (.invokespecial 107, 3) := by decide +kernel
theorem dX6_pass_28 : decode cX6_pass 28 = .ok (.athrow, 1) := by decide +kernel
theorem dX6_pass_29 : decode cX6_pass 29 = .ok (.aload_n 0, 1) := by decide +kernel
theorem dX6_pass_30 : decode cX6_pass 30 = .ok (.dup, 1) := by decide +kernel
theorem dX6_pass_31 : decode cX6_pass 31 = .ok (.getfield 55, 3) := by decide +kernel
theorem dX6_pass_34 : decode cX6_pass 34 = .ok (.iload_n 1, 1) := by decide +kernel
theorem dX6_pass_35 : decode cX6_pass 35 = .ok (.iadd, 1) := by decide +kernel
theorem dX6_pass_36 : decode cX6_pass 36 = .ok (.putfield 55, 3) := by decide +kernel
theorem dX6_pass_39 : decode cX6_pass 39 = .ok (.aload_n 0, 1) := by decide +kernel
theorem dX6_pass_40 : decode cX6_pass 40 = .ok (.getfield 55, 3) := by decide +kernel
theorem dX6_pass_43 : decode cX6_pass 43 = .ok (.ireturn, 1) := by decide +kernel
theorem dX6_refuseNoStation_0 : decode cX6_refuseNoStation 0 = .ok (.iload_n 0, 1) := by decide +kernel
theorem dX6_refuseNoStation_1 : decode cX6_refuseNoStation 1 = .ok (.ifCond .lt 9, 3) := by decide +kernel
theorem dX6_refuseNoStation_4 : decode cX6_refuseNoStation 4 = .ok (.iload_n 0, 1) := by decide +kernel
theorem dX6_refuseNoStation_5 : decode cX6_refuseNoStation 5 = .ok (.bipush 9, 2) := by decide +kernel
theorem dX6_refuseNoStation_7 : decode cX6_refuseNoStation 7 = .ok (.if_icmp .lt 13, 3) := by decide +kernel
theorem dX6_refuseNoStation_10 : decode cX6_refuseNoStation 10 = .ok (.new 202, 3) := by decide +kernel
theorem dX6_refuseNoStation_13 : decode cX6_refuseNoStation 13 = .ok (.dup, 1) := by decide +kernel
theorem dX6_refuseNoStation_14 : decode cX6_refuseNoStation 14 = .ok (.ldc 204, 2) := by decide +kernel
theorem dX6_refuseNoStation_16 : decode cX6_refuseNoStation 16 = .ok (.invokespecial 206, 3) := by decide +kernel
theorem dX6_refuseNoStation_19 : decode cX6_refuseNoStation 19 = .ok (.athrow, 1) := by decide +kernel
theorem dX6_refuseNoStation_20 : decode cX6_refuseNoStation 20 = .ok (.return_, 1) := by decide +kernel
theorem dX6_refuseNoWaterline_0 : decode cX6_refuseNoWaterline 0 = .ok (.iload_n 0, 1) := by decide +kernel
theorem dX6_refuseNoWaterline_1 : decode cX6_refuseNoWaterline 1 = .ok (.ifCond .lt 9, 3) := by decide +kernel
theorem dX6_refuseNoWaterline_4 : decode cX6_refuseNoWaterline 4 = .ok (.iload_n 0, 1) := by decide +kernel
theorem dX6_refuseNoWaterline_5 : decode cX6_refuseNoWaterline 5 = .ok (.bipush 6, 2) := by decide +kernel
theorem dX6_refuseNoWaterline_7 : decode cX6_refuseNoWaterline 7 = .ok (.if_icmp .lt 13, 3) := by decide +kernel
theorem dX6_refuseNoWaterline_10 : decode cX6_refuseNoWaterline 10 = .ok (.new 202, 3) := by decide +kernel
theorem dX6_refuseNoWaterline_13 : decode cX6_refuseNoWaterline 13 = .ok (.dup, 1) := by decide +kernel
theorem dX6_refuseNoWaterline_14 : decode cX6_refuseNoWaterline 14 = .ok (.ldc 207, 2) := by decide +kernel
theorem dX6_refuseNoWaterline_16 : decode cX6_refuseNoWaterline 16 = .ok (.invokespecial 206, 3) := by decide +kernel
theorem dX6_refuseNoWaterline_19 : decode cX6_refuseNoWaterline 19 = .ok (.athrow, 1) := by decide +kernel
theorem dX6_refuseNoWaterline_20 : decode cX6_refuseNoWaterline 20 = .ok (.return_, 1) := by decide +kernel
theorem dX6_refuseNoStrake_0 : decode cX6_refuseNoStrake 0 = .ok (.iload_n 0, 1) := by decide +kernel
theorem dX6_refuseNoStrake_1 : decode cX6_refuseNoStrake 1 = .ok (.ifCond .lt 8, 3) := by decide +kernel
theorem dX6_refuseNoStrake_4 : decode cX6_refuseNoStrake 4 = .ok (.iload_n 0, 1) := by decide +kernel
theorem dX6_refuseNoStrake_5 : decode cX6_refuseNoStrake 5 = .ok (.iconst 5, 1) := by decide +kernel
theorem dX6_refuseNoStrake_6 : decode cX6_refuseNoStrake 6 = .ok (.if_icmp .lt 13, 3) := by decide +kernel
theorem dX6_refuseNoStrake_9 : decode cX6_refuseNoStrake 9 = .ok (.new 202, 3) := by decide +kernel
theorem dX6_refuseNoStrake_12 : decode cX6_refuseNoStrake 12 = .ok (.dup, 1) := by decide +kernel
theorem dX6_refuseNoStrake_13 : decode cX6_refuseNoStrake 13 = .ok (.ldc 209, 2) := by decide +kernel
theorem dX6_refuseNoStrake_15 : decode cX6_refuseNoStrake 15 = .ok (.invokespecial 206, 3) := by decide +kernel
theorem dX6_refuseNoStrake_18 : decode cX6_refuseNoStrake 18 = .ok (.athrow, 1) := by decide +kernel
theorem dX6_refuseNoStrake_19 : decode cX6_refuseNoStrake 19 = .ok (.return_, 1) := by decide +kernel
theorem dX6_refuseNoWeight_0 : decode cX6_refuseNoWeight 0 = .ok (.iload_n 1, 1) := by decide +kernel
theorem dX6_refuseNoWeight_1 : decode cX6_refuseNoWeight 1 = .ok (.ifCond .lt 14, 3) := by decide +kernel
theorem dX6_refuseNoWeight_4 : decode cX6_refuseNoWeight 4 = .ok (.iload_n 1, 1) := by decide +kernel
theorem dX6_refuseNoWeight_5 : decode cX6_refuseNoWeight 5 = .ok (.aload_n 0, 1) := by decide +kernel
theorem dX6_refuseNoWeight_6 : decode cX6_refuseNoWeight 6 = .ok (.getfield 26, 3) := by decide +kernel
theorem dX6_refuseNoWeight_9 : decode cX6_refuseNoWeight 9 = .ok (.getfield 211, 3) := by decide +kernel
theorem dX6_refuseNoWeight_12 : decode cX6_refuseNoWeight 12 = .ok (.if_icmp .lt 13, 3) := by decide +kernel
theorem dX6_refuseNoWeight_15 : decode cX6_refuseNoWeight 15 = .ok (.new 202, 3) := by decide +kernel
theorem dX6_refuseNoWeight_18 : decode cX6_refuseNoWeight 18 = .ok (.dup, 1) := by decide +kernel
theorem dX6_refuseNoWeight_19 : decode cX6_refuseNoWeight 19 = .ok (.ldc 214, 2) := by decide +kernel
theorem dX6_refuseNoWeight_21 : decode cX6_refuseNoWeight 21 = .ok (.invokespecial 206, 3) := by decide +kernel
theorem dX6_refuseNoWeight_24 : decode cX6_refuseNoWeight 24 = .ok (.athrow, 1) := by decide +kernel
theorem dX6_refuseNoWeight_25 : decode cX6_refuseNoWeight 25 = .ok (.return_, 1) := by decide +kernel
theorem dX6_refuseOutside_0 : decode cX6_refuseOutside 0 = .ok (.iload_n 0, 1) := by decide +kernel
theorem dX6_refuseOutside_1 : decode cX6_refuseOutside 1 = .ok (.iload_n 1, 1) := by decide +kernel
theorem dX6_refuseOutside_2 : decode cX6_refuseOutside 2 = .ok (.if_icmp .lt 8, 3) := by decide +kernel
theorem dX6_refuseOutside_5 : decode cX6_refuseOutside 5 = .ok (.iload_n 0, 1) := by decide +kernel
theorem dX6_refuseOutside_6 : decode cX6_refuseOutside 6 = .ok (.iload_n 2, 1) := by decide +kernel
theorem dX6_refuseOutside_7 : decode cX6_refuseOutside 7 = .ok (.if_icmp .le 13, 3) := by decide +kernel
theorem dX6_refuseOutside_10 : decode cX6_refuseOutside 10 = .ok (.new 216, 3) := by decide +kernel
theorem dX6_refuseOutside_13 : decode cX6_refuseOutside 13 = .ok (.dup, 1) := by decide +kernel
theorem dX6_refuseOutside_14 : decode cX6_refuseOutside 14 = .ok (.ldc 218, 2) := by decide +kernel
theorem dX6_refuseOutside_16 : decode cX6_refuseOutside 16 = .ok (.invokespecial 220, 3) := by decide +kernel
theorem dX6_refuseOutside_19 : decode cX6_refuseOutside 19 = .ok (.athrow, 1) := by decide +kernel
theorem dX6_refuseOutside_20 : decode cX6_refuseOutside 20 = .ok (.return_, 1) := by decide +kernel
theorem dX6_refuseLaunched_0 : decode cX6_refuseLaunched 0 = .ok (.aload_n 0, 1) := by decide +kernel
theorem dX6_refuseLaunched_1 : decode cX6_refuseLaunched 1 = .ok (.getfield 58, 3) := by decide +kernel
theorem dX6_refuseLaunched_4 : decode cX6_refuseLaunched 4 = .ok (.ifCond .eq 13, 3) := by decide +kernel
theorem dX6_refuseLaunched_7 : decode cX6_refuseLaunched 7 = .ok (.new 103, 3) := by decide +kernel
theorem dX6_refuseLaunched_10 : decode cX6_refuseLaunched 10 = .ok (.dup, 1) := by decide +kernel
theorem dX6_refuseLaunched_11 : decode cX6_refuseLaunched 11 = .ok (.ldc 221, 2) := by decide +kernel
theorem dX6_refuseLaunched_13 : decode cX6_refuseLaunched 13 = .ok (.invokespecial 107, 3) := by decide +kernel
theorem dX6_refuseLaunched_16 : decode cX6_refuseLaunched 16 = .ok (.athrow, 1) := by decide +kernel
theorem dX6_refuseLaunched_17 : decode cX6_refuseLaunched 17 = .ok (.return_, 1) := by decide +kernel
theorem dX6_squareOfBend_0 : decode cX6_squareOfBend 0 = .ok (.iload_n 0, 1) := by decide +kernel
theorem dX6_squareOfBend_1 : decode cX6_squareOfBend 1 = .ok (.iload_n 2, 1) := by decide +kernel
theorem dX6_squareOfBend_2 : decode cX6_squareOfBend 2 = .ok (.iadd, 1) := by decide +kernel
theorem dX6_squareOfBend_3 : decode cX6_squareOfBend 3 = .ok (.iconst 2, 1) := by decide +kernel
theorem dX6_squareOfBend_4 : decode cX6_squareOfBend 4 = .ok (.iload_n 1, 1) := by decide +kernel
theorem dX6_squareOfBend_5 : decode cX6_squareOfBend 5 = .ok (.imul, 1) := by decide +kernel
theorem dX6_squareOfBend_6 : decode cX6_squareOfBend 6 = .ok (.isub, 1) := by decide +kernel
theorem dX6_squareOfBend_7 : decode cX6_squareOfBend 7 = .ok (.istore_n 3, 1) := by decide +kernel
theorem dX6_squareOfBend_8 : decode cX6_squareOfBend 8 = .ok (.iload_n 3, 1) := by decide +kernel
theorem dX6_squareOfBend_9 : decode cX6_squareOfBend 9 = .ok (.iload_n 3, 1) := by decide +kernel
theorem dX6_squareOfBend_10 : decode cX6_squareOfBend 10 = .ok (.imul, 1) := by decide +kernel
theorem dX6_squareOfBend_11 : decode cX6_squareOfBend 11 = .ok (.ireturn, 1) := by decide +kernel
set_option maxRecDepth 20000 in
theorem ggX6_bendOfLine_X6_squareOfBend : GoodIn wsX6_bendOfLine wsX6_squareOfBend := goodIn_r _ [4] (by decide +kernel) (by decide +kernel)
set_option maxRecDepth 20000 in
theorem gX6_bendOfLine_X6_squareOfBend : GoodIn wsX6_bendOfLine (va_wsS RX6 223 yX6_squareOfBend wsX6_squareOfBend) := goodIn_app (goodIn_of _ (by decide +kernel)) ggX6_bendOfLine_X6_squareOfBend
theorem dX6_bendOfLine_0 : decode cX6_bendOfLine 0 = .ok (.iconst 0, 1) := by decide +kernel
theorem dX6_bendOfLine_1 : decode cX6_bendOfLine 1 = .ok (.istore_n 1, 1) := by decide +kernel
theorem dX6_bendOfLine_2 : decode cX6_bendOfLine 2 = .ok (.iconst 1, 1) := by decide +kernel
theorem dX6_bendOfLine_3 : decode cX6_bendOfLine 3 = .ok (.istore_n 2, 1) := by decide +kernel
theorem dX6_bendOfLine_4 : decode cX6_bendOfLine 4 = .ok (.iload_n 2, 1) := by decide +kernel
theorem dX6_bendOfLine_5 : decode cX6_bendOfLine 5 = .ok (.bipush 8, 2) := by decide +kernel
theorem dX6_bendOfLine_7 : decode cX6_bendOfLine 7 = .ok (.if_icmp .ge 28, 3) := by decide +kernel
theorem dX6_bendOfLine_10 : decode cX6_bendOfLine 10 = .ok (.iload_n 1, 1) := by decide +kernel
theorem dX6_bendOfLine_11 : decode cX6_bendOfLine 11 = .ok (.aload_n 0, 1) := by decide +kernel
theorem dX6_bendOfLine_12 : decode cX6_bendOfLine 12 = .ok (.iload_n 2, 1) := by decide +kernel
theorem dX6_bendOfLine_13 : decode cX6_bendOfLine 13 = .ok (.iconst 1, 1) := by decide +kernel
theorem dX6_bendOfLine_14 : decode cX6_bendOfLine 14 = .ok (.isub, 1) := by decide +kernel
theorem dX6_bendOfLine_15 : decode cX6_bendOfLine 15 = .ok (.iaload, 1) := by decide +kernel
theorem dX6_bendOfLine_16 : decode cX6_bendOfLine 16 = .ok (.aload_n 0, 1) := by decide +kernel
theorem dX6_bendOfLine_17 : decode cX6_bendOfLine 17 = .ok (.iload_n 2, 1) := by decide +kernel
theorem dX6_bendOfLine_18 : decode cX6_bendOfLine 18 = .ok (.iaload, 1) := by decide +kernel
theorem dX6_bendOfLine_19 : decode cX6_bendOfLine 19 = .ok (.aload_n 0, 1) := by decide +kernel
theorem dX6_bendOfLine_20 : decode cX6_bendOfLine 20 = .ok (.iload_n 2, 1) := by decide +kernel
theorem dX6_bendOfLine_21 : decode cX6_bendOfLine 21 = .ok (.iconst 1, 1) := by decide +kernel
theorem dX6_bendOfLine_22 : decode cX6_bendOfLine 22 = .ok (.iadd, 1) := by decide +kernel
theorem dX6_bendOfLine_23 : decode cX6_bendOfLine 23 = .ok (.iaload, 1) := by decide +kernel
theorem dX6_bendOfLine_24 : decode cX6_bendOfLine 24 = .ok (.invokestatic 223, 3) := by decide +kernel
theorem dX6_bendOfLine_27 : decode cX6_bendOfLine 27 = .ok (.iadd, 1) := by decide +kernel
theorem dX6_bendOfLine_28 : decode cX6_bendOfLine 28 = .ok (.istore_n 1, 1) := by decide +kernel
theorem dX6_bendOfLine_29 : decode cX6_bendOfLine 29 = .ok (.iinc 2 1, 3) := by decide +kernel
theorem dX6_bendOfLine_32 : decode cX6_bendOfLine 32 = .ok (.goto (-28), 3) := by decide +kernel
theorem dX6_bendOfLine_35 : decode cX6_bendOfLine 35 = .ok (.iload_n 1, 1) := by decide +kernel
theorem dX6_bendOfLine_36 : decode cX6_bendOfLine 36 = .ok (.ireturn, 1) := by decide +kernel
theorem dX7_init_0 : decode cX7_init 0 = .ok (.aload_n 0, 1) := by decide +kernel
theorem dX7_init_1 : decode cX7_init 1 = .ok (.invokespecial 1, 3) := by decide +kernel
theorem dX7_init_4 : decode cX7_init 4 = .ok (.aload_n 0, 1) := by decide +kernel
theorem dX7_init_5 : decode cX7_init 5 = .ok (.bipush 54, 2) := by decide +kernel
theorem dX7_init_7 : decode cX7_init 7 = .ok (.newarray .int, 2) := by decide +kernel
theorem dX7_init_9 : decode cX7_init 9 = .ok (.putfield 7, 3) := by decide +kernel
theorem dX7_init_12 : decode cX7_init 12 = .ok (.aload_n 0, 1) := by decide +kernel
theorem dX7_init_13 : decode cX7_init 13 = .ok (.bipush 17, 2) := by decide +kernel
theorem dX7_init_15 : decode cX7_init 15 = .ok (.newarray .int, 2) := by decide +kernel
theorem dX7_init_17 : decode cX7_init 17 = .ok (.putfield 13, 3) := by decide +kernel
theorem dX7_init_20 : decode cX7_init 20 = .ok (.aload_n 0, 1) := by decide +kernel
theorem dX7_init_21 : decode cX7_init 21 = .ok (.bipush 17, 2) := by decide +kernel
theorem dX7_init_23 : decode cX7_init 23 = .ok (.newarray .int, 2) := by decide +kernel
theorem dX7_init_25 : decode cX7_init 25 = .ok (.putfield 16, 3) := by decide +kernel
theorem dX7_init_28 : decode cX7_init 28 = .ok (.aload_n 0, 1) := by decide +kernel
theorem dX7_init_29 : decode cX7_init 29 = .ok (.sipush 1000, 3) := by decide +kernel
theorem dX7_init_32 : decode cX7_init 32 = .ok (.putfield 19, 3) := by decide +kernel
theorem dX7_init_35 : decode cX7_init 35 = .ok (.aload_n 0, 1) := by decide +kernel
theorem dX7_init_36 : decode cX7_init 36 = .ok (.sipush 180, 3) := by decide +kernel
theorem dX7_init_39 : decode cX7_init 39 = .ok (.newarray .int, 2) := by decide +kernel
theorem dX7_init_41 : decode cX7_init 41 = .ok (.putfield 23, 3) := by decide +kernel
theorem dX7_init_44 : decode cX7_init 44 = .ok (.aload_n 0, 1) := by decide +kernel
theorem dX7_init_45 : decode cX7_init 45 = .ok (.bipush 10, 2) := by decide +kernel
theorem dX7_init_47 : decode cX7_init 47 = .ok (.newarray .int, 2) := by decide +kernel
theorem dX7_init_49 : decode cX7_init 49 = .ok (.putfield 26, 3) := by decide +kernel
theorem dX7_init_52 : decode cX7_init 52 = .ok (.aload_n 0, 1) := by decide +kernel
theorem dX7_init_53 : decode cX7_init 53 = .ok (.bipush 40, 2) := by decide +kernel
theorem dX7_init_55 : decode cX7_init 55 = .ok (.newarray .int, 2) := by decide +kernel
theorem dX7_init_57 : decode cX7_init 57 = .ok (.putfield 29, 3) := by decide +kernel
theorem dX7_init_60 : decode cX7_init 60 = .ok (.aload_n 0, 1) := by decide +kernel
theorem dX7_init_61 : decode cX7_init 61 = .ok (.bipush 40, 2) := by decide +kernel
theorem dX7_init_63 : decode cX7_init 63 = .ok (.newarray .int, 2) := by decide +kernel
theorem dX7_init_65 : decode cX7_init 65 = .ok (.putfield 32, 3) := by decide +kernel
theorem dX7_init_68 : decode cX7_init 68 = .ok (.aload_n 0, 1) := by decide +kernel
theorem dX7_init_69 : decode cX7_init 69 = .ok (.sipush 250, 3) := by decide +kernel
theorem dX7_init_72 : decode cX7_init 72 = .ok (.newarray .int, 2) := by decide +kernel
theorem dX7_init_74 : decode cX7_init 74 = .ok (.putfield 35, 3) := by decide +kernel
theorem dX7_init_77 : decode cX7_init 77 = .ok (.aload_n 0, 1) := by decide +kernel
theorem dX7_init_78 : decode cX7_init 78 = .ok (.bipush 9, 2) := by decide +kernel
theorem dX7_init_80 : decode cX7_init 80 = .ok (.newarray .int, 2) := by decide +kernel
theorem dX7_init_82 : decode cX7_init 82 = .ok (.putfield 38, 3) := by decide +kernel
theorem dX7_init_85 : decode cX7_init 85 = .ok (.aload_n 0, 1) := by decide +kernel
theorem dX7_init_86 : decode cX7_init 86 = .ok (.getfield 13, 3) := by decide +kernel
theorem dX7_init_89 : decode cX7_init 89 = .ok (.bipush 16, 2) := by decide +kernel
theorem dX7_init_91 : decode cX7_init 91 = .ok (.iconst 4, 1) := by decide +kernel
theorem dX7_init_92 : decode cX7_init 92 = .ok (.iastore, 1) := by decide +kernel
theorem dX7_init_93 : decode cX7_init 93 = .ok (.return_, 1) := by decide +kernel
theorem dX7_thrown_0 : decode cX7_thrown 0 = .ok (.aload_n 0, 1) := by decide +kernel
theorem dX7_thrown_1 : decode cX7_thrown 1 = .ok (.getfield 41, 3) := by decide +kernel
theorem dX7_thrown_4 : decode cX7_thrown 4 = .ok (.ireturn, 1) := by decide +kernel
theorem dX7_in_0 : decode cX7_in 0 = .ok (.iload_n 0, 1) := by decide +kernel
theorem dX7_in_1 : decode cX7_in 1 = .ok (.iload_n 1, 1) := by decide +kernel
theorem dX7_in_2 : decode cX7_in 2 = .ok (.if_icmp .lt 12, 3) := by decide +kernel
theorem dX7_in_5 : decode cX7_in 5 = .ok (.iload_n 0, 1) := by decide +kernel
theorem dX7_in_6 : decode cX7_in 6 = .ok (.iload_n 2, 1) := by decide +kernel
theorem dX7_in_7 : decode cX7_in 7 = .ok (.if_icmp .gt 7, 3) := by decide +kernel
theorem dX7_in_10 : decode cX7_in 10 = .ok (.iconst 1, 1) := by decide +kernel
theorem dX7_in_11 : decode cX7_in 11 = .ok (.goto 4, 3) := by decide +kernel
theorem dX7_in_14 : decode cX7_in 14 = .ok (.iconst 0, 1) := by decide +kernel
theorem dX7_in_15 : decode cX7_in 15 = .ok (.ireturn, 1) := by decide +kernel
set_option maxRecDepth 20000 in
theorem ggX7_isStation_X7_in : GoodIn wsX7_isStation wsX7_in := goodIn_r _ [4] (by decide +kernel) (by decide +kernel)
set_option maxRecDepth 20000 in
theorem gX7_isStation_X7_in : GoodIn wsX7_isStation (va_wsS RX7 44 yX7_in wsX7_in) := goodIn_app (goodIn_of _ (by decide +kernel)) ggX7_isStation_X7_in
theorem dX7_isStation_0 : decode cX7_isStation 0 = .ok (.iload_n 0, 1) := by decide +kernel
theorem dX7_isStation_1 : decode cX7_isStation 1 = .ok (.iconst 0, 1) := by decide +kernel
theorem dX7_isStation_2 : decode cX7_isStation 2 = .ok (.bipush 8, 2) := by decide +kernel
theorem dX7_isStation_4 : decode cX7_isStation 4 = .ok (.invokestatic 44, 3) := by decide +kernel
theorem dX7_isStation_7 : decode cX7_isStation 7 = .ok (.ireturn, 1) := by decide +kernel
set_option maxRecDepth 20000 in
theorem ggX7_isWaterline_X7_in : GoodIn wsX7_isWaterline wsX7_in := goodIn_r _ [4] (by decide +kernel) (by decide +kernel)
set_option maxRecDepth 20000 in
theorem gX7_isWaterline_X7_in : GoodIn wsX7_isWaterline (va_wsS RX7 44 yX7_in wsX7_in) := goodIn_app (goodIn_of _ (by decide +kernel)) ggX7_isWaterline_X7_in
theorem dX7_isWaterline_0 : decode cX7_isWaterline 0 = .ok (.iload_n 0, 1) := by decide +kernel
theorem dX7_isWaterline_1 : decode cX7_isWaterline 1 = .ok (.iconst 0, 1) := by decide +kernel
theorem dX7_isWaterline_2 : decode cX7_isWaterline 2 = .ok (.iconst 5, 1) := by decide +kernel
theorem dX7_isWaterline_3 : decode cX7_isWaterline 3 = .ok (.invokestatic 44, 3) := by decide +kernel
theorem dX7_isWaterline_6 : decode cX7_isWaterline 6 = .ok (.ireturn, 1) := by decide +kernel
theorem dX7_size_0 : decode cX7_size 0 = .ok (.iload_n 0, 1) := by decide +kernel
theorem dX7_size_1 : decode cX7_size 1 = .ok (.ifCond .ge 8, 3) := by decide +kernel
theorem dX7_size_4 : decode cX7_size 4 = .ok (.iload_n 0, 1) := by decide +kernel
theorem dX7_size_5 : decode cX7_size 5 = .ok (.ineg, 1) := by decide +kernel
theorem dX7_size_6 : decode cX7_size 6 = .ok (.goto 4, 3) := by decide +kernel
theorem dX7_size_9 : decode cX7_size 9 = .ok (.iload_n 0, 1) := by decide +kernel
theorem dX7_size_10 : decode cX7_size 10 = .ok (.ireturn, 1) := by decide +kernel
