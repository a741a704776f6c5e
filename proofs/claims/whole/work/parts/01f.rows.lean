theorem dX7_trimNow_25 : decode cX7_trimNow 25 = .ok (.aload_n 0, 1) := by decide +kernel
theorem dX7_trimNow_26 : decode cX7_trimNow 26 = .ok (.iload_n 1, 1) := by decide +kernel
theorem dX7_trimNow_27 : decode cX7_trimNow 27 = .ok (.invokevirtual 121, 3) := by decide +kernel
theorem dX7_trimNow_30 : decode cX7_trimNow 30 = .ok (.aload_n 0, 1) := by decide +kernel
theorem dX7_trimNow_31 : decode cX7_trimNow 31 = .ok (.iload_n 1, 1) := by decide +kernel
theorem dX7_trimNow_32 : decode cX7_trimNow 32 = .ok (.invokevirtual 99, 3) := by decide +kernel
theorem dX7_trimNow_35 : decode cX7_trimNow 35 = .ok (.invokestatic 118, 3) := by decide +kernel
theorem dX7_trimNow_38 : decode cX7_trimNow 38 = .ok (.isub, 1) := by decide +kernel
theorem dX7_trimNow_39 : decode cX7_trimNow 39 = .ok (.ireturn, 1) := by decide +kernel
set_option maxRecDepth 20000 in
theorem ggX7_ballast_X7_in : GoodIn wsX7_ballast wsX7_in := goodIn_r _ [8] (by decide +kernel) (by decide +kernel)
set_option maxRecDepth 20000 in
theorem gX7_ballast_X7_in : GoodIn wsX7_ballast (va_wsS RX7 44 yX7_in wsX7_in) := goodIn_app (goodIn_of _ (by decide +kernel)) ggX7_ballast_X7_in
set_option maxRecDepth 20000 in
theorem ggX7_ballast_X7_draughtNow : GoodIn wsX7_ballast wsX7_draughtNow := goodIn_r _ [12, 13, 14, 15, 7, 16, 3, 17, 18, 19, 20, 21, 22, 23, 24, 25, 26, 27, 28, 29, 48, 49, 50, 51, 52, 53, 54, 55, 56, 57, 58, 59, 60, 61, 62, 63] (by decide +kernel) (by decide +kernel)
set_option maxRecDepth 20000 in
theorem gX7_ballast_X7_draughtNow : GoodIn wsX7_ballast (wsV RX7 112 RX7 yX7_draughtNow wsX7_draughtNow) := goodIn_app (goodIn_of _ (by decide +kernel)) ggX7_ballast_X7_draughtNow
set_option maxRecDepth 20000 in
theorem ggX7_ballast_X7_trimNow : GoodIn wsX7_ballast wsX7_trimNow := goodIn_r _ [33, 9, 10, 11, 7, 12, 13, 14, 15, 16, 3, 17, 18, 19, 20, 21, 22, 23, 24, 25, 26, 27, 28, 29, 34, 35, 36, 37, 2, 38, 39, 40, 41, 42, 43, 44, 48, 49, 50, 51, 52, 53, 54, 55, 56, 57, 58, 59, 60, 61, 62, 63] (by decide +kernel) (by decide +kernel)
set_option maxRecDepth 20000 in
theorem gX7_ballast_X7_trimNow : GoodIn wsX7_ballast (wsV RX7 124 RX7 yX7_trimNow wsX7_trimNow) := goodIn_app (goodIn_of _ (by decide +kernel)) ggX7_ballast_X7_trimNow
set_option maxRecDepth 20000 in
theorem ggX7_ballast_X7_size : GoodIn wsX7_ballast wsX7_size := goodIn_r _ [47] (by decide +kernel) (by decide +kernel)
set_option maxRecDepth 20000 in
theorem gX7_ballast_X7_size : GoodIn wsX7_ballast (va_wsS RX7 70 yX7_size wsX7_size) := goodIn_app (goodIn_of _ (by decide +kernel)) ggX7_ballast_X7_size
theorem dX7_ballast_0 : decode cX7_ballast 0 = .ok (.aload_n 0, 1) := by decide +kernel
theorem dX7_ballast_1 : decode cX7_ballast 1 = .ok (.iload_n 1, 1) := by decide +kernel
theorem dX7_ballast_2 : decode cX7_ballast 2 = .ok (.iconst 0, 1) := by decide +kernel
theorem dX7_ballast_3 : decode cX7_ballast 3 = .ok (.bipush 99, 2) := by decide +kernel
theorem dX7_ballast_5 : decode cX7_ballast 5 = .ok (.invokestatic 44, 3) := by decide +kernel
theorem dX7_ballast_8 : decode cX7_ballast 8 = .ok (.ifCond .eq 7, 3) := by decide +kernel
theorem dX7_ballast_11 : decode cX7_ballast 11 = .ok (.iconst 0, 1) := by decide +kernel
theorem dX7_ballast_12 : decode cX7_ballast 12 = .ok (.goto 4, 3) := by decide +kernel
theorem dX7_ballast_15 : decode cX7_ballast 15 = .ok (.iconst 1, 1) := by decide +kernel
theorem dX7_ballast_16 : decode cX7_ballast 16 = .ok (.putfield 41, 3) := by decide +kernel
theorem dX7_ballast_19 : decode cX7_ballast 19 = .ok (.aload_n 0, 1) := by decide +kernel
theorem dX7_ballast_20 : decode cX7_ballast 20 = .ok (.getfield 41, 3) := by decide +kernel
theorem dX7_ballast_23 : decode cX7_ballast 23 = .ok (.ifCond .le 5, 3) := by decide +kernel
theorem dX7_ballast_26 : decode cX7_ballast 26 = .ok (.iconst 0, 1) := by decide +kernel
theorem dX7_ballast_27 : decode cX7_ballast 27 = .ok (.ireturn, 1) := by decide +kernel
theorem dX7_ballast_28 : decode cX7_ballast 28 = .ok (.aload_n 0, 1) := by decide +kernel
theorem dX7_ballast_29 : decode cX7_ballast 29 = .ok (.getfield 13, 3) := by decide +kernel
theorem dX7_ballast_32 : decode cX7_ballast 32 = .ok (.bipush 16, 2) := by decide +kernel
theorem dX7_ballast_34 : decode cX7_ballast 34 = .ok (.iaload, 1) := by decide +kernel
theorem dX7_ballast_35 : decode cX7_ballast 35 = .ok (.istore_n 2, 1) := by decide +kernel
theorem dX7_ballast_36 : decode cX7_ballast 36 = .ok (.aload_n 0, 1) := by decide +kernel
theorem dX7_ballast_37 : decode cX7_ballast 37 = .ok (.getfield 16, 3) := by decide +kernel
theorem dX7_ballast_40 : decode cX7_ballast 40 = .ok (.bipush 16, 2) := by decide +kernel
theorem dX7_ballast_42 : decode cX7_ballast 42 = .ok (.iaload, 1) := by decide +kernel
theorem dX7_ballast_43 : decode cX7_ballast 43 = .ok (.istore_n 3, 1) := by decide +kernel
theorem dX7_ballast_44 : decode cX7_ballast 44 = .ok (.ldc 77, 2) := by decide +kernel
theorem dX7_ballast_46 : decode cX7_ballast 46 = .ok (.istore 4, 2) := by decide +kernel
theorem dX7_ballast_48 : decode cX7_ballast 48 = .ok (.iconst 0, 1) := by decide +kernel
theorem dX7_ballast_49 : decode cX7_ballast 49 = .ok (.istore 5, 2) := by decide +kernel
theorem dX7_ballast_51 : decode cX7_ballast 51 = .ok (.iload 5, 2) := by decide +kernel
theorem dX7_ballast_53 : decode cX7_ballast 53 = .ok (.iload_n 1, 1) := by decide +kernel
theorem dX7_ballast_54 : decode cX7_ballast 54 = .ok (.if_icmp .gt 82, 3) := by decide +kernel
theorem dX7_ballast_57 : decode cX7_ballast 57 = .ok (.iconst 0, 1) := by decide +kernel
theorem dX7_ballast_58 : decode cX7_ballast 58 = .ok (.istore 6, 2) := by decide +kernel
theorem dX7_ballast_60 : decode cX7_ballast 60 = .ok (.iload 6, 2) := by decide +kernel
theorem dX7_ballast_62 : decode cX7_ballast 62 = .ok (.bipush 9, 2) := by decide +kernel
theorem dX7_ballast_64 : decode cX7_ballast 64 = .ok (.if_icmp .ge 66, 3) := by decide +kernel
theorem dX7_ballast_67 : decode cX7_ballast 67 = .ok (.aload_n 0, 1) := by decide +kernel
theorem dX7_ballast_68 : decode cX7_ballast 68 = .ok (.getfield 13, 3) := by decide +kernel
theorem dX7_ballast_71 : decode cX7_ballast 71 = .ok (.bipush 16, 2) := by decide +kernel
theorem dX7_ballast_73 : decode cX7_ballast 73 = .ok (.iload 6, 2) := by decide +kernel
theorem dX7_ballast_75 : decode cX7_ballast 75 = .ok (.iastore, 1) := by decide +kernel
theorem dX7_ballast_76 : decode cX7_ballast 76 = .ok (.aload_n 0, 1) := by decide +kernel
theorem dX7_ballast_77 : decode cX7_ballast 77 = .ok (.getfield 16, 3) := by decide +kernel
theorem dX7_ballast_80 : decode cX7_ballast 80 = .ok (.bipush 16, 2) := by decide +kernel
theorem dX7_ballast_82 : decode cX7_ballast 82 = .ok (.iload 5, 2) := by decide +kernel
theorem dX7_ballast_84 : decode cX7_ballast 84 = .ok (.iastore, 1) := by decide +kernel
theorem dX7_ballast_85 : decode cX7_ballast 85 = .ok (.aload_n 0, 1) := by decide +kernel
theorem dX7_ballast_86 : decode cX7_ballast 86 = .ok (.invokevirtual 112, 3) := by decide +kernel
theorem dX7_ballast_89 : decode cX7_ballast 89 = .ok (.iconst (-1), 1) := by decide +kernel
theorem dX7_ballast_90 : decode cX7_ballast 90 = .ok (.if_icmp .ne 8, 3) := by decide +kernel
theorem dX7_ballast_93 : decode cX7_ballast 93 = .ok (.ldc 77, 2) := by decide +kernel
theorem dX7_ballast_95 : decode cX7_ballast 95 = .ok (.goto 10, 3) := by decide +kernel
theorem dX7_ballast_98 : decode cX7_ballast 98 = .ok (.aload_n 0, 1) := by decide +kernel
theorem dX7_ballast_99 : decode cX7_ballast 99 = .ok (.invokevirtual 124, 3) := by decide +kernel
theorem dX7_ballast_102 : decode cX7_ballast 102 = .ok (.invokestatic 70, 3) := by decide +kernel
theorem dX7_ballast_105 : decode cX7_ballast 105 = .ok (.istore 7, 2) := by decide +kernel
theorem dX7_ballast_107 : decode cX7_ballast 107 = .ok (.iload 7, 2) := by decide +kernel
theorem dX7_ballast_109 : decode cX7_ballast 109 = .ok (.iload 4, 2) := by decide +kernel
theorem dX7_ballast_111 : decode cX7_ballast 111 = .ok (.if_icmp .ge 13, 3) := by decide +kernel
theorem dX7_ballast_114 : decode cX7_ballast 114 = .ok (.iload 7, 2) := by decide +kernel
theorem dX7_ballast_116 : decode cX7_ballast 116 = .ok (.istore 4, 2) := by decide +kernel
theorem dX7_ballast_118 : decode cX7_ballast 118 = .ok (.iload 6, 2) := by decide +kernel
theorem dX7_ballast_120 : decode cX7_ballast 120 = .ok (.istore_n 2, 1) := by decide +kernel
theorem dX7_ballast_121 : decode cX7_ballast 121 = .ok (.iload 5, 2) := by decide +kernel
theorem dX7_ballast_123 : decode cX7_ballast 123 = .ok (.istore_n 3, 1) := by decide +kernel
theorem dX7_ballast_124 : decode cX7_ballast 124 = .ok (.iinc 6 1, 3) := by decide +kernel
theorem dX7_ballast_127 : decode cX7_ballast 127 = .ok (.goto (-67), 3) := by decide +kernel
theorem dX7_ballast_130 : decode cX7_ballast 130 = .ok (.iinc 5 1, 3) := by decide +kernel
theorem dX7_ballast_133 : decode cX7_ballast 133 = .ok (.goto (-82), 3) := by decide +kernel
theorem dX7_ballast_136 : decode cX7_ballast 136 = .ok (.aload_n 0, 1) := by decide +kernel
theorem dX7_ballast_137 : decode cX7_ballast 137 = .ok (.getfield 13, 3) := by decide +kernel
theorem dX7_ballast_140 : decode cX7_ballast 140 = .ok (.bipush 16, 2) := by decide +kernel
theorem dX7_ballast_142 : decode cX7_ballast 142 = .ok (.iload_n 2, 1) := by decide +kernel
theorem dX7_ballast_143 : decode cX7_ballast 143 = .ok (.iastore, 1) := by decide +kernel
theorem dX7_ballast_144 : decode cX7_ballast 144 = .ok (.aload_n 0, 1) := by decide +kernel
theorem dX7_ballast_145 : decode cX7_ballast 145 = .ok (.getfield 16, 3) := by decide +kernel
theorem dX7_ballast_148 : decode cX7_ballast 148 = .ok (.bipush 16, 2) := by decide +kernel
theorem dX7_ballast_150 : decode cX7_ballast 150 = .ok (.iload_n 3, 1) := by decide +kernel
theorem dX7_ballast_151 : decode cX7_ballast 151 = .ok (.iastore, 1) := by decide +kernel
theorem dX7_ballast_152 : decode cX7_ballast 152 = .ok (.bipush 10, 2) := by decide +kernel
theorem dX7_ballast_154 : decode cX7_ballast 154 = .ok (.iload_n 3, 1) := by decide +kernel
theorem dX7_ballast_155 : decode cX7_ballast 155 = .ok (.imul, 1) := by decide +kernel
theorem dX7_ballast_156 : decode cX7_ballast 156 = .ok (.iload_n 2, 1) := by decide +kernel
theorem dX7_ballast_157 : decode cX7_ballast 157 = .ok (.iadd, 1) := by decide +kernel
theorem dX7_ballast_158 : decode cX7_ballast 158 = .ok (.ireturn, 1) := by decide +kernel
set_option maxRecDepth 20000 in
theorem ggX7_draught_X7_draughtNow : GoodIn wsX7_draught wsX7_draughtNow := goodIn_r _ [6, 7, 8, 9, 5, 10, 11, 12, 13, 14, 15, 16, 17, 18, 19, 20, 21, 22, 23, 24, 25, 26, 27, 28, 29, 30, 31, 32, 33, 34, 35, 36, 37, 38, 39, 40] (by decide +kernel) (by decide +kernel)
set_option maxRecDepth 20000 in
theorem gX7_draught_X7_draughtNow : GoodIn wsX7_draught (wsV RX7 112 RX7 yX7_draughtNow wsX7_draughtNow) := goodIn_app (goodIn_of _ (by decide +kernel)) ggX7_draught_X7_draughtNow
theorem dX7_draught_0 : decode cX7_draught 0 = .ok (.aload_n 0, 1) := by decide +kernel
theorem dX7_draught_1 : decode cX7_draught 1 = .ok (.iconst 0, 1) := by decide +kernel
theorem dX7_draught_2 : decode cX7_draught 2 = .ok (.putfield 41, 3) := by decide +kernel
theorem dX7_draught_5 : decode cX7_draught 5 = .ok (.aload_n 0, 1) := by decide +kernel
theorem dX7_draught_6 : decode cX7_draught 6 = .ok (.invokevirtual 112, 3) := by decide +kernel
theorem dX7_draught_9 : decode cX7_draught 9 = .ok (.ireturn, 1) := by decide +kernel
set_option maxRecDepth 20000 in
theorem ggX7_trim_X7_trimNow : GoodIn wsX7_trim wsX7_trimNow := goodIn_r _ [6, 7, 8, 9, 5, 10, 11, 12, 13, 14, 15, 16, 17, 18, 19, 20, 21, 22, 23, 24, 25, 26, 27, 28, 29, 30, 31, 32, 33, 34, 35, 36, 37, 38, 39, 40, 41, 42, 43, 44, 45, 46, 47, 48, 49, 50, 51, 52, 53, 54, 55, 56] (by decide +kernel) (by decide +kernel)
set_option maxRecDepth 20000 in
theorem gX7_trim_X7_trimNow : GoodIn wsX7_trim (wsV RX7 124 RX7 yX7_trimNow wsX7_trimNow) := goodIn_app (goodIn_of _ (by decide +kernel)) ggX7_trim_X7_trimNow
theorem dX7_trim_0 : decode cX7_trim 0 = .ok (.aload_n 0, 1) := by decide +kernel
theorem dX7_trim_1 : decode cX7_trim 1 = .ok (.iconst 0, 1) := by decide +kernel
theorem dX7_trim_2 : decode cX7_trim 2 = .ok (.putfield 41, 3) := by decide +kernel
theorem dX7_trim_5 : decode cX7_trim 5 = .ok (.aload_n 0, 1) := by decide +kernel
theorem dX7_trim_6 : decode cX7_trim 6 = .ok (.invokevirtual 124, 3) := by decide +kernel
theorem dX7_trim_9 : decode cX7_trim 9 = .ok (.ireturn, 1) := by decide +kernel
set_option maxRecDepth 20000 in
theorem ggX7_strakeOf_X7_halfAt : GoodIn wsX7_strakeOf wsX7_halfAt := goodIn_r _ [5, 6, 10, 11, 12, 13, 14, 15, 16, 17, 18, 19, 20, 21, 22, 23, 24, 25] (by decide +kernel) (by decide +kernel)
set_option maxRecDepth 20000 in
theorem gX7_strakeOf_X7_halfAt : GoodIn wsX7_strakeOf (wsV RX7 59 RX7 yX7_halfAt wsX7_halfAt) := goodIn_app (goodIn_of _ (by decide +kernel)) ggX7_strakeOf_X7_halfAt
set_option maxRecDepth 20000 in
theorem ggX7_strakeOf_X7_size : GoodIn wsX7_strakeOf wsX7_size := goodIn_r _ [9] (by decide +kernel) (by decide +kernel)
set_option maxRecDepth 20000 in
theorem gX7_strakeOf_X7_size : GoodIn wsX7_strakeOf (va_wsS RX7 70 yX7_size wsX7_size) := goodIn_app (goodIn_of _ (by decide +kernel)) ggX7_strakeOf_X7_size
theorem dX7_strakeOf_0 : decode cX7_strakeOf 0 = .ok (.iconst 0, 1) := by decide +kernel
theorem dX7_strakeOf_1 : decode cX7_strakeOf 1 = .ok (.istore_n 2, 1) := by decide +kernel
theorem dX7_strakeOf_2 : decode cX7_strakeOf 2 = .ok (.iconst 0, 1) := by decide +kernel
theorem dX7_strakeOf_3 : decode cX7_strakeOf 3 = .ok (.istore_n 3, 1) := by decide +kernel
theorem dX7_strakeOf_4 : decode cX7_strakeOf 4 = .ok (.iload_n 3, 1) := by decide +kernel
theorem dX7_strakeOf_5 : decode cX7_strakeOf 5 = .ok (.iconst 1, 1) := by decide +kernel
theorem dX7_strakeOf_6 : decode cX7_strakeOf 6 = .ok (.iadd, 1) := by decide +kernel
theorem dX7_strakeOf_7 : decode cX7_strakeOf 7 = .ok (.bipush 9, 2) := by decide +kernel
theorem dX7_strakeOf_9 : decode cX7_strakeOf 9 = .ok (.if_icmp .ge 33, 3) := by decide +kernel
theorem dX7_strakeOf_12 : decode cX7_strakeOf 12 = .ok (.iload_n 2, 1) := by decide +kernel
theorem dX7_strakeOf_13 : decode cX7_strakeOf 13 = .ok (.bipush 10, 2) := by decide +kernel
theorem dX7_strakeOf_15 : decode cX7_strakeOf 15 = .ok (.aload_n 0, 1) := by decide +kernel
theorem dX7_strakeOf_16 : decode cX7_strakeOf 16 = .ok (.iload_n 3, 1) := by decide +kernel
theorem dX7_strakeOf_17 : decode cX7_strakeOf 17 = .ok (.iload_n 1, 1) := by decide +kernel
theorem dX7_strakeOf_18 : decode cX7_strakeOf 18 = .ok (.invokevirtual 59, 3) := by decide +kernel
theorem dX7_strakeOf_21 : decode cX7_strakeOf 21 = .ok (.aload_n 0, 1) := by decide +kernel
theorem dX7_strakeOf_22 : decode cX7_strakeOf 22 = .ok (.iload_n 3, 1) := by decide +kernel
theorem dX7_strakeOf_23 : decode cX7_strakeOf 23 = .ok (.iconst 1, 1) := by decide +kernel
theorem dX7_strakeOf_24 : decode cX7_strakeOf 24 = .ok (.iadd, 1) := by decide +kernel
theorem dX7_strakeOf_25 : decode cX7_strakeOf 25 = .ok (.iload_n 1, 1) := by decide +kernel
theorem dX7_strakeOf_26 : decode cX7_strakeOf 26 = .ok (.invokevirtual 59, 3) := by decide +kernel
theorem dX7_strakeOf_29 : decode cX7_strakeOf 29 = .ok (.isub, 1) := by decide +kernel
theorem dX7_strakeOf_30 : decode cX7_strakeOf 30 = .ok (.invokestatic 70, 3) := by decide +kernel
theorem dX7_strakeOf_33 : decode cX7_strakeOf 33 = .ok (.iadd, 1) := by decide +kernel
theorem dX7_strakeOf_34 : decode cX7_strakeOf 34 = .ok (.iadd, 1) := by decide +kernel
theorem dX7_strakeOf_35 : decode cX7_strakeOf 35 = .ok (.istore_n 2, 1) := by decide +kernel
theorem dX7_strakeOf_36 : decode cX7_strakeOf 36 = .ok (.iinc 3 1, 3) := by decide +kernel
theorem dX7_strakeOf_39 : decode cX7_strakeOf 39 = .ok (.goto (-35), 3) := by decide +kernel
theorem dX7_strakeOf_42 : decode cX7_strakeOf 42 = .ok (.iload_n 2, 1) := by decide +kernel
theorem dX7_strakeOf_43 : decode cX7_strakeOf 43 = .ok (.ireturn, 1) := by decide +kernel
set_option maxRecDepth 20000 in
theorem ggX7_strake_X7_in : GoodIn wsX7_strake wsX7_in := goodIn_r _ [5] (by decide +kernel) (by decide +kernel)
set_option maxRecDepth 20000 in
theorem gX7_strake_X7_in : GoodIn wsX7_strake (va_wsS RX7 44 yX7_in wsX7_in) := goodIn_app (goodIn_of _ (by decide +kernel)) ggX7_strake_X7_in
set_option maxRecDepth 20000 in
theorem ggX7_strake_X7_strakeOf : GoodIn wsX7_strake wsX7_strakeOf := goodIn_r _ [9, 10, 11, 12, 4, 13, 14, 15, 16, 17, 18, 19, 20, 21, 22, 23, 24, 25, 26, 27, 28, 29, 30, 31, 32, 33] (by decide +kernel) (by decide +kernel)
set_option maxRecDepth 20000 in
theorem gX7_strake_X7_strakeOf : GoodIn wsX7_strake (wsV RX7 127 RX7 yX7_strakeOf wsX7_strakeOf) := goodIn_app (goodIn_of _ (by decide +kernel)) ggX7_strake_X7_strakeOf
theorem dX7_strake_0 : decode cX7_strake 0 = .ok (.aload_n 0, 1) := by decide +kernel
theorem dX7_strake_1 : decode cX7_strake 1 = .ok (.iload_n 1, 1) := by decide +kernel
theorem dX7_strake_2 : decode cX7_strake 2 = .ok (.iconst 0, 1) := by decide +kernel
theorem dX7_strake_3 : decode cX7_strake 3 = .ok (.iconst 4, 1) := by decide +kernel
theorem dX7_strake_4 : decode cX7_strake 4 = .ok (.invokestatic 44, 3) := by decide +kernel
theorem dX7_strake_7 : decode cX7_strake 7 = .ok (.ifCond .eq 7, 3) := by decide +kernel
theorem dX7_strake_10 : decode cX7_strake 10 = .ok (.iconst 0, 1) := by decide +kernel
theorem dX7_strake_11 : decode cX7_strake 11 = .ok (.goto 4, 3) := by decide +kernel
theorem dX7_strake_14 : decode cX7_strake 14 = .ok (.iconst 1, 1) := by decide +kernel
theorem dX7_strake_15 : decode cX7_strake 15 = .ok (.putfield 41, 3) := by decide +kernel
theorem dX7_strake_18 : decode cX7_strake 18 = .ok (.aload_n 0, 1) := by decide +kernel
theorem dX7_strake_19 : decode cX7_strake 19 = .ok (.getfield 41, 3) := by decide +kernel
theorem dX7_strake_22 : decode cX7_strake 22 = .ok (.ifCond .le 7, 3) := by decide +kernel
theorem dX7_strake_25 : decode cX7_strake 25 = .ok (.iconst 0, 1) := by decide +kernel
theorem dX7_strake_26 : decode cX7_strake 26 = .ok (.goto 8, 3) := by decide +kernel
theorem dX7_strake_29 : decode cX7_strake 29 = .ok (.aload_n 0, 1) := by decide +kernel
theorem dX7_strake_30 : decode cX7_strake 30 = .ok (.iload_n 1, 1) := by decide +kernel
theorem dX7_strake_31 : decode cX7_strake 31 = .ok (.invokevirtual 127, 3) := by decide +kernel
theorem dX7_strake_34 : decode cX7_strake 34 = .ok (.ireturn, 1) := by decide +kernel
set_option maxRecDepth 20000 in
theorem ggX7_strakeBehind_X7_strakeOf : GoodIn wsX7_strakeBehind wsX7_strakeOf := goodIn_r _ [5, 6, 7, 8, 4, 9, 10, 11, 12, 13, 14, 15, 16, 17, 18, 19, 20, 21, 22, 23, 24, 25, 26, 27, 28, 29] (by decide +kernel) (by decide +kernel)
set_option maxRecDepth 20000 in
theorem gX7_strakeBehind_X7_strakeOf : GoodIn wsX7_strakeBehind (wsV RX7 127 RX7 yX7_strakeOf wsX7_strakeOf) := goodIn_app (goodIn_of _ (by decide +kernel)) ggX7_strakeBehind_X7_strakeOf
theorem dX7_strakeBehind_0 : decode cX7_strakeBehind 0 = .ok (.iconst (-1), 1) := by decide +kernel
theorem dX7_strakeBehind_1 : decode cX7_strakeBehind 1 = .ok (.istore_n 2, 1) := by decide +kernel
theorem dX7_strakeBehind_2 : decode cX7_strakeBehind 2 = .ok (.iconst 0, 1) := by decide +kernel
theorem dX7_strakeBehind_3 : decode cX7_strakeBehind 3 = .ok (.istore_n 3, 1) := by decide +kernel
theorem dX7_strakeBehind_4 : decode cX7_strakeBehind 4 = .ok (.iload_n 3, 1) := by decide +kernel
theorem dX7_strakeBehind_5 : decode cX7_strakeBehind 5 = .ok (.iconst 5, 1) := by decide +kernel
theorem dX7_strakeBehind_6 : decode cX7_strakeBehind 6 = .ok (.if_icmp .ge 83, 3) := by decide +kernel
theorem dX7_strakeBehind_9 : decode cX7_strakeBehind 9 = .ok (.iconst 0, 1) := by decide +kernel
theorem dX7_strakeBehind_10 : decode cX7_strakeBehind 10 = .ok (.istore 4, 2) := by decide +kernel
theorem dX7_strakeBehind_12 : decode cX7_strakeBehind 12 = .ok (.iconst 0, 1) := by decide +kernel
theorem dX7_strakeBehind_13 : decode cX7_strakeBehind 13 = .ok (.istore 5, 2) := by decide +kernel
theorem dX7_strakeBehind_15 : decode cX7_strakeBehind 15 = .ok (.iload 5, 2) := by decide +kernel
theorem dX7_strakeBehind_17 : decode cX7_strakeBehind 17 = .ok (.iconst 5, 1) := by decide +kernel
theorem dX7_strakeBehind_18 : decode cX7_strakeBehind 18 = .ok (.if_icmp .ge 53, 3) := by decide +kernel
theorem dX7_strakeBehind_21 : decode cX7_strakeBehind 21 = .ok (.iload 4, 2) := by decide +kernel
theorem dX7_strakeBehind_23 : decode cX7_strakeBehind 23 = .ok (.aload_n 0, 1) := by decide +kernel
theorem dX7_strakeBehind_24 : decode cX7_strakeBehind 24 = .ok (.iload 5, 2) := by decide +kernel
theorem dX7_strakeBehind_26 : decode cX7_strakeBehind 26 = .ok (.invokevirtual 127, 3) := by decide +kernel
theorem dX7_strakeBehind_29 : decode cX7_strakeBehind 29 = .ok (.aload_n 0, 1) := by decide +kernel
theorem dX7_strakeBehind_30 : decode cX7_strakeBehind 30 = .ok (.iload_n 3, 1) := by decide +kernel
theorem dX7_strakeBehind_31 : decode cX7_strakeBehind 31 = .ok (.invokevirtual 127, 3) := by decide +kernel
theorem dX7_strakeBehind_34 : decode cX7_strakeBehind 34 = .ok (.if_icmp .gt 23, 3) := by decide +kernel
theorem dX7_strakeBehind_37 : decode cX7_strakeBehind 37 = .ok (.aload_n 0, 1) := by decide +kernel
theorem dX7_strakeBehind_38 : decode cX7_strakeBehind 38 = .ok (.iload 5, 2) := by decide +kernel
theorem dX7_strakeBehind_40 : decode cX7_strakeBehind 40 = .ok (.invokevirtual 127, 3) := by decide +kernel
theorem dX7_strakeBehind_43 : decode cX7_strakeBehind 43 = .ok (.aload_n 0, 1) := by decide +kernel
theorem dX7_strakeBehind_44 : decode cX7_strakeBehind 44 = .ok (.iload_n 3, 1) := by decide +kernel
theorem dX7_strakeBehind_45 : decode cX7_strakeBehind 45 = .ok (.invokevirtual 127, 3) := by decide +kernel
theorem dX7_strakeBehind_48 : decode cX7_strakeBehind 48 = .ok (.if_icmp .ne 13, 3) := by decide +kernel
theorem dX7_strakeBehind_51 : decode cX7_strakeBehind 51 = .ok (.iload 5, 2) := by decide +kernel
theorem dX7_strakeBehind_53 : decode cX7_strakeBehind 53 = .ok (.iload_n 3, 1) := by decide +kernel
theorem dX7_strakeBehind_54 : decode cX7_strakeBehind 54 = .ok (.if_icmp .ge 7, 3) := by decide +kernel
theorem dX7_strakeBehind_57 : decode cX7_strakeBehind 57 = .ok (.iconst 1, 1) := by decide +kernel
theorem dX7_strakeBehind_58 : decode cX7_strakeBehind 58 = .ok (.goto 4, 3) := by decide +kernel
theorem dX7_strakeBehind_61 : decode cX7_strakeBehind 61 = .ok (.iconst 0, 1) := by decide +kernel
theorem dX7_strakeBehind_62 : decode cX7_strakeBehind 62 = .ok (.iadd, 1) := by decide +kernel
theorem dX7_strakeBehind_63 : decode cX7_strakeBehind 63 = .ok (.istore 4, 2) := by decide +kernel
theorem dX7_strakeBehind_65 : decode cX7_strakeBehind 65 = .ok (.iinc 5 1, 3) := by decide +kernel
theorem dX7_strakeBehind_68 : decode cX7_strakeBehind 68 = .ok (.goto (-53), 3) := by decide +kernel
theorem dX7_strakeBehind_71 : decode cX7_strakeBehind 71 = .ok (.iload 4, 2) := by decide +kernel
theorem dX7_strakeBehind_73 : decode cX7_strakeBehind 73 = .ok (.iload_n 1, 1) := by decide +kernel
theorem dX7_strakeBehind_74 : decode cX7_strakeBehind 74 = .ok (.if_icmp .ne 7, 3) := by decide +kernel
theorem dX7_strakeBehind_77 : decode cX7_strakeBehind 77 = .ok (.iload_n 3, 1) := by decide +kernel
theorem dX7_strakeBehind_78 : decode cX7_strakeBehind 78 = .ok (.goto 4, 3) := by decide +kernel
theorem dX7_strakeBehind_81 : decode cX7_strakeBehind 81 = .ok (.iload_n 2, 1) := by decide +kernel
theorem dX7_strakeBehind_82 : decode cX7_strakeBehind 82 = .ok (.istore_n 2, 1) := by decide +kernel
theorem dX7_strakeBehind_83 : decode cX7_strakeBehind 83 = .ok (.iinc 3 1, 3) := by decide +kernel
theorem dX7_strakeBehind_86 : decode cX7_strakeBehind 86 = .ok (.goto (-82), 3) := by decide +kernel
theorem dX7_strakeBehind_89 : decode cX7_strakeBehind 89 = .ok (.iload_n 2, 1) := by decide +kernel
theorem dX7_strakeBehind_90 : decode cX7_strakeBehind 90 = .ok (.ireturn, 1) := by decide +kernel
set_option maxRecDepth 20000 in
theorem ggX7_planksNow_X7_strakeBehind : GoodIn wsX7_planksNow wsX7_strakeBehind := goodIn_r _ [8, 9, 10, 11, 7, 12, 13, 14, 15, 16, 17, 18, 19, 20, 21, 22, 23, 24, 25, 26, 27, 28, 29, 30, 31, 32, 33, 34, 35, 36] (by decide +kernel) (by decide +kernel)
set_option maxRecDepth 20000 in
theorem gX7_planksNow_X7_strakeBehind : GoodIn wsX7_planksNow (wsV RX7 130 RX7 yX7_strakeBehind wsX7_strakeBehind) := goodIn_app (goodIn_of _ (by decide +kernel)) ggX7_planksNow_X7_strakeBehind
set_option maxRecDepth 20000 in
theorem ggX7_planksNow_X7_strakeOf : GoodIn wsX7_planksNow wsX7_strakeOf := goodIn_r _ [12, 13, 14, 15, 7, 16, 17, 18, 19, 20, 21, 22, 23, 24, 25, 26, 27, 28, 29, 30, 31, 32, 33, 34, 35, 36] (by decide +kernel) (by decide +kernel)
set_option maxRecDepth 20000 in
theorem gX7_planksNow_X7_strakeOf : GoodIn wsX7_planksNow (wsV RX7 127 RX7 yX7_strakeOf wsX7_strakeOf) := goodIn_app (goodIn_of _ (by decide +kernel)) ggX7_planksNow_X7_strakeOf
theorem dX7_planksNow_0 : decode cX7_planksNow 0 = .ok (.iconst 0, 1) := by decide +kernel
theorem dX7_planksNow_1 : decode cX7_planksNow 1 = .ok (.istore_n 1, 1) := by decide +kernel
theorem dX7_planksNow_2 : decode cX7_planksNow 2 = .ok (.iconst 0, 1) := by decide +kernel
theorem dX7_planksNow_3 : decode cX7_planksNow 3 = .ok (.istore_n 2, 1) := by decide +kernel
theorem dX7_planksNow_4 : decode cX7_planksNow 4 = .ok (.iload_n 2, 1) := by decide +kernel
theorem dX7_planksNow_5 : decode cX7_planksNow 5 = .ok (.bipush 10, 2) := by decide +kernel
theorem dX7_planksNow_7 : decode cX7_planksNow 7 = .ok (.if_icmp .ge 127, 3) := by decide +kernel
theorem dX7_planksNow_10 : decode cX7_planksNow 10 = .ok (.aload_n 0, 1) := by decide +kernel
theorem dX7_planksNow_11 : decode cX7_planksNow 11 = .ok (.iload_n 2, 1) := by decide +kernel
theorem dX7_planksNow_12 : decode cX7_planksNow 12 = .ok (.iconst 2, 1) := by decide +kernel
theorem dX7_planksNow_13 : decode cX7_planksNow 13 = .ok (.idiv, 1) := by decide +kernel
theorem dX7_planksNow_14 : decode cX7_planksNow 14 = .ok (.invokevirtual 130, 3) := by decide +kernel
theorem dX7_planksNow_17 : decode cX7_planksNow 17 = .ok (.istore_n 3, 1) := by decide +kernel
theorem dX7_planksNow_18 : decode cX7_planksNow 18 = .ok (.aload_n 0, 1) := by decide +kernel
theorem dX7_planksNow_19 : decode cX7_planksNow 19 = .ok (.iload_n 3, 1) := by decide +kernel
theorem dX7_planksNow_20 : decode cX7_planksNow 20 = .ok (.invokevirtual 127, 3) := by decide +kernel
theorem dX7_planksNow_23 : decode cX7_planksNow 23 = .ok (.istore 4, 2) := by decide +kernel
theorem dX7_planksNow_25 : decode cX7_planksNow 25 = .ok (.iload 4, 2) := by decide +kernel
theorem dX7_planksNow_27 : decode cX7_planksNow 27 = .ok (.aload_n 0, 1) := by decide +kernel
theorem dX7_planksNow_28 : decode cX7_planksNow 28 = .ok (.getfield 19, 3) := by decide +kernel
theorem dX7_planksNow_31 : decode cX7_planksNow 31 = .ok (.if_icmp .le 25, 3) := by decide +kernel
theorem dX7_planksNow_34 : decode cX7_planksNow 34 = .ok (.aload_n 0, 1) := by decide +kernel
theorem dX7_planksNow_35 : decode cX7_planksNow 35 = .ok (.getfield 23, 3) := by decide +kernel
theorem dX7_planksNow_38 : decode cX7_planksNow 38 = .ok (.iload_n 1, 1) := by decide +kernel
theorem dX7_planksNow_39 : decode cX7_planksNow 39 = .ok (.iconst 0, 1) := by decide +kernel
theorem dX7_planksNow_40 : decode cX7_planksNow 40 = .ok (.iastore, 1) := by decide +kernel
theorem dX7_planksNow_41 : decode cX7_planksNow 41 = .ok (.iinc 1 1, 3) := by decide +kernel
theorem dX7_planksNow_44 : decode cX7_planksNow 44 = .ok (.iload 4, 2) := by decide +kernel
theorem dX7_planksNow_46 : decode cX7_planksNow 46 = .ok (.aload_n 0, 1) := by decide +kernel
theorem dX7_planksNow_47 : decode cX7_planksNow 47 = .ok (.getfield 19, 3) := by decide +kernel
theorem dX7_planksNow_50 : decode cX7_planksNow 50 = .ok (.isub, 1) := by decide +kernel
theorem dX7_planksNow_51 : decode cX7_planksNow 51 = .ok (.istore 4, 2) := by decide +kernel
theorem dX7_planksNow_53 : decode cX7_planksNow 53 = .ok (.goto (-28), 3) := by decide +kernel
theorem dX7_planksNow_56 : decode cX7_planksNow 56 = .ok (.iconst 0, 1) := by decide +kernel
theorem dX7_planksNow_57 : decode cX7_planksNow 57 = .ok (.istore 5, 2) := by decide +kernel
theorem dX7_planksNow_59 : decode cX7_planksNow 59 = .ok (.iload 5, 2) := by decide +kernel
theorem dX7_planksNow_61 : decode cX7_planksNow 61 = .ok (.iload_n 1, 1) := by decide +kernel
theorem dX7_planksNow_62 : decode cX7_planksNow 62 = .ok (.if_icmp .ge 21, 3) := by decide +kernel
theorem dX7_planksNow_65 : decode cX7_planksNow 65 = .ok (.aload_n 0, 1) := by decide +kernel
theorem dX7_planksNow_66 : decode cX7_planksNow 66 = .ok (.getfield 23, 3) := by decide +kernel
theorem dX7_planksNow_69 : decode cX7_planksNow 69 = .ok (.iload 5, 2) := by decide +kernel
theorem dX7_planksNow_71 : decode cX7_planksNow 71 = .ok (.iaload, 1) := by decide +kernel
theorem dX7_planksNow_72 : decode cX7_planksNow 72 = .ok (.iload 4, 2) := by decide +kernel
theorem dX7_planksNow_74 : decode cX7_planksNow 74 = .ok (.if_icmp .ge 9, 3) := by decide +kernel
theorem dX7_planksNow_77 : decode cX7_planksNow 77 = .ok (.iinc 5 1, 3) := by decide +kernel
theorem dX7_planksNow_80 : decode cX7_planksNow 80 = .ok (.goto (-21), 3) := by decide +kernel
theorem dX7_planksNow_83 : decode cX7_planksNow 83 = .ok (.iload 5, 2) := by decide +kernel
theorem dX7_planksNow_85 : decode cX7_planksNow 85 = .ok (.iload_n 1, 1) := by decide +kernel
theorem dX7_planksNow_86 : decode cX7_planksNow 86 = .ok (.if_icmp .ne 16, 3) := by decide +kernel
theorem dX7_planksNow_89 : decode cX7_planksNow 89 = .ok (.aload_n 0, 1) := by decide +kernel
theorem dX7_planksNow_90 : decode cX7_planksNow 90 = .ok (.getfield 23, 3) := by decide +kernel
theorem dX7_planksNow_93 : decode cX7_planksNow 93 = .ok (.iload_n 1, 1) := by decide +kernel
theorem dX7_planksNow_94 : decode cX7_planksNow 94 = .ok (.aload_n 0, 1) := by decide +kernel
theorem dX7_planksNow_95 : decode cX7_planksNow 95 = .ok (.getfield 19, 3) := by decide +kernel
theorem dX7_planksNow_98 : decode cX7_planksNow 98 = .ok (.iastore, 1) := by decide +kernel
theorem dX7_planksNow_99 : decode cX7_planksNow 99 = .ok (.iinc 1 1, 3) := by decide +kernel
theorem dX7_planksNow_102 : decode cX7_planksNow 102 = .ok (.aload_n 0, 1) := by decide +kernel
theorem dX7_planksNow_103 : decode cX7_planksNow 103 = .ok (.getfield 23, 3) := by decide +kernel
theorem dX7_planksNow_106 : decode cX7_planksNow 106 = .ok (.iload 5, 2) := by decide +kernel
theorem dX7_planksNow_108 : decode cX7_planksNow 108 = .ok (.dup2, 1) := by decide +kernel
theorem dX7_planksNow_109 : decode cX7_planksNow 109 = .ok (.iaload, 1) := by decide +kernel
theorem dX7_planksNow_110 : decode cX7_planksNow 110 = .ok (.iload 4, 2) := by decide +kernel
theorem dX7_planksNow_112 : decode cX7_planksNow 112 = .ok (.isub, 1) := by decide +kernel
theorem dX7_planksNow_113 : decode cX7_planksNow 113 = .ok (.iastore, 1) := by decide +kernel
theorem dX7_planksNow_114 : decode cX7_planksNow 114 = .ok (.aload_n 0, 1) := by decide +kernel
theorem dX7_planksNow_115 : decode cX7_planksNow 115 = .ok (.getfield 26, 3) := by decide +kernel
theorem dX7_planksNow_118 : decode cX7_planksNow 118 = .ok (.iconst 2, 1) := by decide +kernel
theorem dX7_planksNow_119 : decode cX7_planksNow 119 = .ok (.iload_n 3, 1) := by decide +kernel
theorem dX7_planksNow_120 : decode cX7_planksNow 120 = .ok (.imul, 1) := by decide +kernel
theorem dX7_planksNow_121 : decode cX7_planksNow 121 = .ok (.iload_n 2, 1) := by decide +kernel
theorem dX7_planksNow_122 : decode cX7_planksNow 122 = .ok (.iconst 2, 1) := by decide +kernel
theorem dX7_planksNow_123 : decode cX7_planksNow 123 = .ok (.irem, 1) := by decide +kernel
theorem dX7_planksNow_124 : decode cX7_planksNow 124 = .ok (.iadd, 1) := by decide +kernel
theorem dX7_planksNow_125 : decode cX7_planksNow 125 = .ok (.iload 5, 2) := by decide +kernel
theorem dX7_planksNow_127 : decode cX7_planksNow 127 = .ok (.iastore, 1) := by decide +kernel
theorem dX7_planksNow_128 : decode cX7_planksNow 128 = .ok (.iinc 2 1, 3) := by decide +kernel
theorem dX7_planksNow_131 : decode cX7_planksNow 131 = .ok (.goto (-127), 3) := by decide +kernel
theorem dX7_planksNow_134 : decode cX7_planksNow 134 = .ok (.iload_n 1, 1) := by decide +kernel
theorem dX7_planksNow_135 : decode cX7_planksNow 135 = .ok (.ireturn, 1) := by decide +kernel
set_option maxRecDepth 20000 in
theorem ggX7_planks_X7_in : GoodIn wsX7_planks wsX7_in := goodIn_r _ [6] (by decide +kernel) (by decide +kernel)
set_option maxRecDepth 20000 in
theorem gX7_planks_X7_in : GoodIn wsX7_planks (va_wsS RX7 44 yX7_in wsX7_in) := goodIn_app (goodIn_of _ (by decide +kernel)) ggX7_planks_X7_in
set_option maxRecDepth 20000 in
theorem ggX7_planks_X7_planksNow : GoodIn wsX7_planks wsX7_planksNow := goodIn_r _ [10, 2, 11, 12, 13, 14, 15, 5, 16, 17, 18, 19, 20, 21, 22, 23, 24, 25, 26, 27, 28, 29, 30, 31, 32, 33, 34, 35, 36, 37, 38, 39, 40, 41, 42, 43, 44] (by decide +kernel) (by decide +kernel)
set_option maxRecDepth 20000 in
theorem gX7_planks_X7_planksNow : GoodIn wsX7_planks (wsV RX7 133 RX7 yX7_planksNow wsX7_planksNow) := goodIn_app (goodIn_of _ (by decide +kernel)) ggX7_planks_X7_planksNow
theorem dX7_planks_0 : decode cX7_planks 0 = .ok (.aload_n 0, 1) := by decide +kernel
theorem dX7_planks_1 : decode cX7_planks 1 = .ok (.iload_n 1, 1) := by decide +kernel
theorem dX7_planks_2 : decode cX7_planks 2 = .ok (.bipush 100, 2) := by decide +kernel
theorem dX7_planks_4 : decode cX7_planks 4 = .ok (.sipush 4000, 3) := by decide +kernel
theorem dX7_planks_7 : decode cX7_planks 7 = .ok (.invokestatic 44, 3) := by decide +kernel
theorem dX7_planks_10 : decode cX7_planks 10 = .ok (.ifCond .eq 7, 3) := by decide +kernel
theorem dX7_planks_13 : decode cX7_planks 13 = .ok (.iconst 0, 1) := by decide +kernel
theorem dX7_planks_14 : decode cX7_planks 14 = .ok (.goto 4, 3) := by decide +kernel
theorem dX7_planks_17 : decode cX7_planks 17 = .ok (.iconst 1, 1) := by decide +kernel
theorem dX7_planks_18 : decode cX7_planks 18 = .ok (.putfield 41, 3) := by decide +kernel
theorem dX7_planks_21 : decode cX7_planks 21 = .ok (.aload_n 0, 1) := by decide +kernel
theorem dX7_planks_22 : decode cX7_planks 22 = .ok (.getfield 41, 3) := by decide +kernel
theorem dX7_planks_25 : decode cX7_planks 25 = .ok (.ifCond .le 5, 3) := by decide +kernel
theorem dX7_planks_28 : decode cX7_planks 28 = .ok (.iconst 0, 1) := by decide +kernel
theorem dX7_planks_29 : decode cX7_planks 29 = .ok (.ireturn, 1) := by decide +kernel
theorem dX7_planks_30 : decode cX7_planks 30 = .ok (.aload_n 0, 1) := by decide +kernel
theorem dX7_planks_31 : decode cX7_planks 31 = .ok (.iload_n 1, 1) := by decide +kernel
theorem dX7_planks_32 : decode cX7_planks 32 = .ok (.putfield 19, 3) := by decide +kernel
theorem dX7_planks_35 : decode cX7_planks 35 = .ok (.aload_n 0, 1) := by decide +kernel
theorem dX7_planks_36 : decode cX7_planks 36 = .ok (.invokevirtual 133, 3) := by decide +kernel
theorem dX7_planks_39 : decode cX7_planks 39 = .ok (.ireturn, 1) := by decide +kernel
set_option maxRecDepth 20000 in
theorem ggX7_plankOf_X7_in : GoodIn wsX7_plankOf wsX7_in := goodIn_r _ [6] (by decide +kernel) (by decide +kernel)
set_option maxRecDepth 20000 in
theorem gX7_plankOf_X7_in : GoodIn wsX7_plankOf (va_wsS RX7 44 yX7_in wsX7_in) := goodIn_app (goodIn_of _ (by decide +kernel)) ggX7_plankOf_X7_in
set_option maxRecDepth 20000 in
theorem ggX7_plankOf_X7_planksNow : GoodIn wsX7_plankOf wsX7_planksNow := goodIn_r _ [10, 11, 12, 2, 13, 14, 15, 5, 16, 17, 18, 19, 20, 21, 22, 23, 24, 25, 26, 27, 28, 29, 30, 31, 32, 33, 34, 35, 36, 37, 38, 39, 40, 41, 42, 43, 44] (by decide +kernel) (by decide +kernel)
set_option maxRecDepth 20000 in
theorem gX7_plankOf_X7_planksNow : GoodIn wsX7_plankOf (wsV RX7 133 RX7 yX7_planksNow wsX7_planksNow) := goodIn_app (goodIn_of _ (by decide +kernel)) ggX7_plankOf_X7_planksNow
theorem dX7_plankOf_0 : decode cX7_plankOf 0 = .ok (.aload_n 0, 1) := by decide +kernel
theorem dX7_plankOf_1 : decode cX7_plankOf 1 = .ok (.iload_n 1, 1) := by decide +kernel
theorem dX7_plankOf_2 : decode cX7_plankOf 2 = .ok (.iconst 0, 1) := by decide +kernel
theorem dX7_plankOf_3 : decode cX7_plankOf 3 = .ok (.iconst 4, 1) := by decide +kernel
theorem dX7_plankOf_4 : decode cX7_plankOf 4 = .ok (.invokestatic 44, 3) := by decide +kernel
theorem dX7_plankOf_7 : decode cX7_plankOf 7 = .ok (.ifCond .eq 7, 3) := by decide +kernel
theorem dX7_plankOf_10 : decode cX7_plankOf 10 = .ok (.iconst 0, 1) := by decide +kernel
theorem dX7_plankOf_11 : decode cX7_plankOf 11 = .ok (.goto 4, 3) := by decide +kernel
theorem dX7_plankOf_14 : decode cX7_plankOf 14 = .ok (.iconst 1, 1) := by decide +kernel
theorem dX7_plankOf_15 : decode cX7_plankOf 15 = .ok (.putfield 41, 3) := by decide +kernel
theorem dX7_plankOf_18 : decode cX7_plankOf 18 = .ok (.aload_n 0, 1) := by decide +kernel
theorem dX7_plankOf_19 : decode cX7_plankOf 19 = .ok (.getfield 41, 3) := by decide +kernel
theorem dX7_plankOf_22 : decode cX7_plankOf 22 = .ok (.ifCond .le 5, 3) := by decide +kernel
theorem dX7_plankOf_25 : decode cX7_plankOf 25 = .ok (.iconst 0, 1) := by decide +kernel
theorem dX7_plankOf_26 : decode cX7_plankOf 26 = .ok (.ireturn, 1) := by decide +kernel
theorem dX7_plankOf_27 : decode cX7_plankOf 27 = .ok (.aload_n 0, 1) := by decide +kernel
theorem dX7_plankOf_28 : decode cX7_plankOf 28 = .ok (.invokevirtual 133, 3) := by decide +kernel
theorem dX7_plankOf_31 : decode cX7_plankOf 31 = .ok (.pop, 1) := by decide +kernel
theorem dX7_plankOf_32 : decode cX7_plankOf 32 = .ok (.aload_n 0, 1) := by decide +kernel
theorem dX7_plankOf_33 : decode cX7_plankOf 33 = .ok (.getfield 26, 3) := by decide +kernel
theorem dX7_plankOf_36 : decode cX7_plankOf 36 = .ok (.iconst 2, 1) := by decide +kernel
theorem dX7_plankOf_37 : decode cX7_plankOf 37 = .ok (.iload_n 1, 1) := by decide +kernel
theorem dX7_plankOf_38 : decode cX7_plankOf 38 = .ok (.imul, 1) := by decide +kernel
theorem dX7_plankOf_39 : decode cX7_plankOf 39 = .ok (.iload_n 2, 1) := by decide +kernel
theorem dX7_plankOf_40 : decode cX7_plankOf 40 = .ok (.ifCond .eq 7, 3) := by decide +kernel
theorem dX7_plankOf_43 : decode cX7_plankOf 43 = .ok (.iconst 1, 1) := by decide +kernel
theorem dX7_plankOf_44 : decode cX7_plankOf 44 = .ok (.goto 4, 3) := by decide +kernel
theorem dX7_plankOf_47 : decode cX7_plankOf 47 = .ok (.iconst 0, 1) := by decide +kernel
theorem dX7_plankOf_48 : decode cX7_plankOf 48 = .ok (.iadd, 1) := by decide +kernel
theorem dX7_plankOf_49 : decode cX7_plankOf 49 = .ok (.iaload, 1) := by decide +kernel
theorem dX7_plankOf_50 : decode cX7_plankOf 50 = .ok (.ireturn, 1) := by decide +kernel
theorem dX7_tideOn_0 : decode cX7_tideOn 0 = .ok (.bipush 7, 2) := by decide +kernel
theorem dX7_tideOn_2 : decode cX7_tideOn 2 = .ok (.iload_n 1, 1) := by decide +kernel
theorem dX7_tideOn_3 : decode cX7_tideOn 3 = .ok (.imul, 1) := by decide +kernel
theorem dX7_tideOn_4 : decode cX7_tideOn 4 = .ok (.iconst 3, 1) := by decide +kernel
theorem dX7_tideOn_5 : decode cX7_tideOn 5 = .ok (.iadd, 1) := by decide +kernel
theorem dX7_tideOn_6 : decode cX7_tideOn 6 = .ok (.bipush 19, 2) := by decide +kernel
theorem dX7_tideOn_8 : decode cX7_tideOn 8 = .ok (.irem, 1) := by decide +kernel
theorem dX7_tideOn_9 : decode cX7_tideOn 9 = .ok (.istore_n 2, 1) := by decide +kernel
theorem dX7_tideOn_10 : decode cX7_tideOn 10 = .ok (.iconst 0, 1) := by decide +kernel
theorem dX7_tideOn_11 : decode cX7_tideOn 11 = .ok (.istore_n 3, 1) := by decide +kernel
theorem dX7_tideOn_12 : decode cX7_tideOn 12 = .ok (.iload_n 3, 1) := by decide +kernel
theorem dX7_tideOn_13 : decode cX7_tideOn 13 = .ok (.aload_n 0, 1) := by decide +kernel
theorem dX7_tideOn_14 : decode cX7_tideOn 14 = .ok (.getfield 136, 3) := by decide +kernel
theorem dX7_tideOn_17 : decode cX7_tideOn 17 = .ok (.if_icmp .ge 30, 3) := by decide +kernel
theorem dX7_tideOn_20 : decode cX7_tideOn 20 = .ok (.aload_n 0, 1) := by decide +kernel
theorem dX7_tideOn_21 : decode cX7_tideOn 21 = .ok (.getfield 29, 3) := by decide +kernel
theorem dX7_tideOn_24 : decode cX7_tideOn 24 = .ok (.iload_n 3, 1) := by decide +kernel
theorem dX7_tideOn_25 : decode cX7_tideOn 25 = .ok (.iaload, 1) := by decide +kernel
theorem dX7_tideOn_26 : decode cX7_tideOn 26 = .ok (.iload_n 1, 1) := by decide +kernel
theorem dX7_tideOn_27 : decode cX7_tideOn 27 = .ok (.if_icmp .ne 12, 3) := by decide +kernel
theorem dX7_tideOn_30 : decode cX7_tideOn 30 = .ok (.aload_n 0, 1) := by decide +kernel
theorem dX7_tideOn_31 : decode cX7_tideOn 31 = .ok (.getfield 32, 3) := by decide +kernel
theorem dX7_tideOn_34 : decode cX7_tideOn 34 = .ok (.iload_n 3, 1) := by decide +kernel
theorem dX7_tideOn_35 : decode cX7_tideOn 35 = .ok (.iaload, 1) := by decide +kernel
theorem dX7_tideOn_36 : decode cX7_tideOn 36 = .ok (.goto 4, 3) := by decide +kernel
theorem dX7_tideOn_39 : decode cX7_tideOn 39 = .ok (.iload_n 2, 1) := by decide +kernel
theorem dX7_tideOn_40 : decode cX7_tideOn 40 = .ok (.istore_n 2, 1) := by decide +kernel
theorem dX7_tideOn_41 : decode cX7_tideOn 41 = .ok (.iinc 3 1, 3) := by decide +kernel
theorem dX7_tideOn_44 : decode cX7_tideOn 44 = .ok (.goto (-32), 3) := by decide +kernel
theorem dX7_tideOn_47 : decode cX7_tideOn 47 = .ok (.iload_n 2, 1) := by decide +kernel
theorem dX7_tideOn_48 : decode cX7_tideOn 48 = .ok (.ireturn, 1) := by decide +kernel
set_option maxRecDepth 20000 in
theorem ggX7_tide_X7_in : GoodIn wsX7_tide wsX7_in := goodIn_r _ [8] (by decide +kernel) (by decide +kernel)
set_option maxRecDepth 20000 in
theorem gX7_tide_X7_in : GoodIn wsX7_tide (va_wsS RX7 44 yX7_in wsX7_in) := goodIn_app (goodIn_of _ (by decide +kernel)) ggX7_tide_X7_in
set_option maxRecDepth 20000 in
theorem ggX7_tide_X7_tideOn : GoodIn wsX7_tide wsX7_tideOn := goodIn_r _ [12, 2, 3, 4, 13, 14, 15, 16, 17, 18, 19, 20, 21, 22, 23, 24, 25, 26, 27, 28] (by decide +kernel) (by decide +kernel)
set_option maxRecDepth 20000 in
theorem gX7_tide_X7_tideOn : GoodIn wsX7_tide (wsV RX7 139 RX7 yX7_tideOn wsX7_tideOn) := goodIn_app (goodIn_of _ (by decide +kernel)) ggX7_tide_X7_tideOn
theorem dX7_tide_0 : decode cX7_tide 0 = .ok (.aload_n 0, 1) := by decide +kernel
theorem dX7_tide_1 : decode cX7_tide 1 = .ok (.iload_n 1, 1) := by decide +kernel
theorem dX7_tide_2 : decode cX7_tide 2 = .ok (.iconst 0, 1) := by decide +kernel
theorem dX7_tide_3 : decode cX7_tide 3 = .ok (.sipush 9999, 3) := by decide +kernel
theorem dX7_tide_6 : decode cX7_tide 6 = .ok (.invokestatic 44, 3) := by decide +kernel
theorem dX7_tide_9 : decode cX7_tide 9 = .ok (.ifCond .eq 17, 3) := by decide +kernel
theorem dX7_tide_12 : decode cX7_tide 12 = .ok (.iload_n 2, 1) := by decide +kernel
theorem dX7_tide_13 : decode cX7_tide 13 = .ok (.iconst 0, 1) := by decide +kernel
theorem dX7_tide_14 : decode cX7_tide 14 = .ok (.bipush 99, 2) := by decide +kernel
theorem dX7_tide_16 : decode cX7_tide 16 = .ok (.invokestatic 44, 3) := by decide +kernel
theorem dX7_tide_19 : decode cX7_tide 19 = .ok (.ifCond .eq 7, 3) := by decide +kernel
theorem dX7_tide_22 : decode cX7_tide 22 = .ok (.iconst 0, 1) := by decide +kernel
theorem dX7_tide_23 : decode cX7_tide 23 = .ok (.goto 4, 3) := by decide +kernel
theorem dX7_tide_26 : decode cX7_tide 26 = .ok (.iconst 1, 1) := by decide +kernel
theorem dX7_tide_27 : decode cX7_tide 27 = .ok (.putfield 41, 3) := by decide +kernel
theorem dX7_tide_30 : decode cX7_tide 30 = .ok (.aload_n 0, 1) := by decide +kernel
theorem dX7_tide_31 : decode cX7_tide 31 = .ok (.getfield 41, 3) := by decide +kernel
theorem dX7_tide_34 : decode cX7_tide 34 = .ok (.ifCond .le 5, 3) := by decide +kernel
theorem dX7_tide_37 : decode cX7_tide 37 = .ok (.iconst 0, 1) := by decide +kernel
theorem dX7_tide_38 : decode cX7_tide 38 = .ok (.ireturn, 1) := by decide +kernel
theorem dX7_tide_39 : decode cX7_tide 39 = .ok (.aload_n 0, 1) := by decide +kernel
theorem dX7_tide_40 : decode cX7_tide 40 = .ok (.getfield 136, 3) := by decide +kernel
theorem dX7_tide_43 : decode cX7_tide 43 = .ok (.istore_n 3, 1) := by decide +kernel
theorem dX7_tide_44 : decode cX7_tide 44 = .ok (.iconst 0, 1) := by decide +kernel
theorem dX7_tide_45 : decode cX7_tide 45 = .ok (.istore 4, 2) := by decide +kernel
theorem dX7_tide_47 : decode cX7_tide 47 = .ok (.iload 4, 2) := by decide +kernel
theorem dX7_tide_49 : decode cX7_tide 49 = .ok (.aload_n 0, 1) := by decide +kernel
theorem dX7_tide_50 : decode cX7_tide 50 = .ok (.getfield 136, 3) := by decide +kernel
theorem dX7_tide_53 : decode cX7_tide 53 = .ok (.if_icmp .ge 27, 3) := by decide +kernel
theorem dX7_tide_56 : decode cX7_tide 56 = .ok (.aload_n 0, 1) := by decide +kernel
theorem dX7_tide_57 : decode cX7_tide 57 = .ok (.getfield 29, 3) := by decide +kernel
theorem dX7_tide_60 : decode cX7_tide 60 = .ok (.iload 4, 2) := by decide +kernel
theorem dX7_tide_62 : decode cX7_tide 62 = .ok (.iaload, 1) := by decide +kernel
theorem dX7_tide_63 : decode cX7_tide 63 = .ok (.iload_n 1, 1) := by decide +kernel
theorem dX7_tide_64 : decode cX7_tide 64 = .ok (.if_icmp .ne 8, 3) := by decide +kernel
theorem dX7_tide_67 : decode cX7_tide 67 = .ok (.iload 4, 2) := by decide +kernel
theorem dX7_tide_69 : decode cX7_tide 69 = .ok (.goto 4, 3) := by decide +kernel
theorem dX7_tide_72 : decode cX7_tide 72 = .ok (.iload_n 3, 1) := by decide +kernel
theorem dX7_tide_73 : decode cX7_tide 73 = .ok (.istore_n 3, 1) := by decide +kernel
theorem dX7_tide_74 : decode cX7_tide 74 = .ok (.iinc 4 1, 3) := by decide +kernel
theorem dX7_tide_77 : decode cX7_tide 77 = .ok (.goto (-30), 3) := by decide +kernel
theorem dX7_tide_80 : decode cX7_tide 80 = .ok (.aload_n 0, 1) := by decide +kernel
theorem dX7_tide_81 : decode cX7_tide 81 = .ok (.iload_n 3, 1) := by decide +kernel
theorem dX7_tide_82 : decode cX7_tide 82 = .ok (.bipush 40, 2) := by decide +kernel
theorem dX7_tide_84 : decode cX7_tide 84 = .ok (.if_icmp .ne 7, 3) := by decide +kernel
theorem dX7_tide_87 : decode cX7_tide 87 = .ok (.iconst 2, 1) := by decide +kernel
theorem dX7_tide_88 : decode cX7_tide 88 = .ok (.goto 4, 3) := by decide +kernel
theorem dX7_tide_91 : decode cX7_tide 91 = .ok (.iconst 0, 1) := by decide +kernel
theorem dX7_tide_92 : decode cX7_tide 92 = .ok (.putfield 41, 3) := by decide +kernel
theorem dX7_tide_95 : decode cX7_tide 95 = .ok (.aload_n 0, 1) := by decide +kernel
theorem dX7_tide_96 : decode cX7_tide 96 = .ok (.getfield 41, 3) := by decide +kernel
theorem dX7_tide_99 : decode cX7_tide 99 = .ok (.ifCond .le 5, 3) := by decide +kernel
theorem dX7_tide_102 : decode cX7_tide 102 = .ok (.iconst 0, 1) := by decide +kernel
theorem dX7_tide_103 : decode cX7_tide 103 = .ok (.ireturn, 1) := by decide +kernel
theorem dX7_tide_104 : decode cX7_tide 104 = .ok (.aload_n 0, 1) := by decide +kernel
theorem dX7_tide_105 : decode cX7_tide 105 = .ok (.iload_n 1, 1) := by decide +kernel
theorem dX7_tide_106 : decode cX7_tide 106 = .ok (.invokevirtual 139, 3) := by decide +kernel
theorem dX7_tide_109 : decode cX7_tide 109 = .ok (.istore 4, 2) := by decide +kernel
theorem dX7_tide_111 : decode cX7_tide 111 = .ok (.aload_n 0, 1) := by decide +kernel
theorem dX7_tide_112 : decode cX7_tide 112 = .ok (.getfield 29, 3) := by decide +kernel
theorem dX7_tide_115 : decode cX7_tide 115 = .ok (.iload_n 3, 1) := by decide +kernel
theorem dX7_tide_116 : decode cX7_tide 116 = .ok (.iload_n 1, 1) := by decide +kernel
theorem dX7_tide_117 : decode cX7_tide 117 = .ok (.iastore, 1) := by decide +kernel
theorem dX7_tide_118 : decode cX7_tide 118 = .ok (.aload_n 0, 1) := by decide +kernel
theorem dX7_tide_119 : decode cX7_tide 119 = .ok (.getfield 32, 3) := by decide +kernel
theorem dX7_tide_122 : decode cX7_tide 122 = .ok (.iload_n 3, 1) := by decide +kernel
theorem dX7_tide_123 : decode cX7_tide 123 = .ok (.iload_n 2, 1) := by decide +kernel
theorem dX7_tide_124 : decode cX7_tide 124 = .ok (.iastore, 1) := by decide +kernel
theorem dX7_tide_125 : decode cX7_tide 125 = .ok (.aload_n 0, 1) := by decide +kernel
theorem dX7_tide_126 : decode cX7_tide 126 = .ok (.dup, 1) := by decide +kernel
theorem dX7_tide_127 : decode cX7_tide 127 = .ok (.getfield 136, 3) := by decide +kernel
theorem dX7_tide_130 : decode cX7_tide 130 = .ok (.iload_n 3, 1) := by decide +kernel
theorem dX7_tide_131 : decode cX7_tide 131 = .ok (.aload_n 0, 1) := by decide +kernel
theorem dX7_tide_132 : decode cX7_tide 132 = .ok (.getfield 136, 3) := by decide +kernel
theorem dX7_tide_135 : decode cX7_tide 135 = .ok (.if_icmp .ne 7, 3) := by decide +kernel
theorem dX7_tide_138 : decode cX7_tide 138 = .ok (.iconst 1, 1) := by decide +kernel
theorem dX7_tide_139 : decode cX7_tide 139 = .ok (.goto 4, 3) := by decide +kernel
theorem dX7_tide_142 : decode cX7_tide 142 = .ok (.iconst 0, 1) := by decide +kernel
theorem dX7_tide_143 : decode cX7_tide 143 = .ok (.iadd, 1) := by decide +kernel
theorem dX7_tide_144 : decode cX7_tide 144 = .ok (.putfield 136, 3) := by decide +kernel
theorem dX7_tide_147 : decode cX7_tide 147 = .ok (.iload 4, 2) := by decide +kernel
theorem dX7_tide_149 : decode cX7_tide 149 = .ok (.ireturn, 1) := by decide +kernel
set_option maxRecDepth 20000 in
theorem ggX7_sill_X7_in : GoodIn wsX7_sill wsX7_in := goodIn_r _ [6] (by decide +kernel) (by decide +kernel)
set_option maxRecDepth 20000 in
theorem gX7_sill_X7_in : GoodIn wsX7_sill (va_wsS RX7 44 yX7_in wsX7_in) := goodIn_app (goodIn_of _ (by decide +kernel)) ggX7_sill_X7_in
theorem dX7_sill_0 : decode cX7_sill 0 = .ok (.aload_n 0, 1) := by decide +kernel
theorem dX7_sill_1 : decode cX7_sill 1 = .ok (.iload_n 1, 1) := by decide +kernel
theorem dX7_sill_2 : decode cX7_sill 2 = .ok (.iconst 0, 1) := by decide +kernel
theorem dX7_sill_3 : decode cX7_sill 3 = .ok (.bipush 50, 2) := by decide +kernel
theorem dX7_sill_5 : decode cX7_sill 5 = .ok (.invokestatic 44, 3) := by decide +kernel
theorem dX7_sill_8 : decode cX7_sill 8 = .ok (.ifCond .eq 7, 3) := by decide +kernel
theorem dX7_sill_11 : decode cX7_sill 11 = .ok (.iconst 0, 1) := by decide +kernel
theorem dX7_sill_12 : decode cX7_sill 12 = .ok (.goto 4, 3) := by decide +kernel
theorem dX7_sill_15 : decode cX7_sill 15 = .ok (.iconst 1, 1) := by decide +kernel
theorem dX7_sill_16 : decode cX7_sill 16 = .ok (.putfield 41, 3) := by decide +kernel
theorem dX7_sill_19 : decode cX7_sill 19 = .ok (.aload_n 0, 1) := by decide +kernel
theorem dX7_sill_20 : decode cX7_sill 20 = .ok (.getfield 41, 3) := by decide +kernel
theorem dX7_sill_23 : decode cX7_sill 23 = .ok (.ifCond .le 5, 3) := by decide +kernel
theorem dX7_sill_26 : decode cX7_sill 26 = .ok (.iconst 0, 1) := by decide +kernel
theorem dX7_sill_27 : decode cX7_sill 27 = .ok (.ireturn, 1) := by decide +kernel
theorem dX7_sill_28 : decode cX7_sill 28 = .ok (.aload_n 0, 1) := by decide +kernel
theorem dX7_sill_29 : decode cX7_sill 29 = .ok (.getfield 142, 3) := by decide +kernel
theorem dX7_sill_32 : decode cX7_sill 32 = .ok (.istore_n 2, 1) := by decide +kernel
theorem dX7_sill_33 : decode cX7_sill 33 = .ok (.aload_n 0, 1) := by decide +kernel
theorem dX7_sill_34 : decode cX7_sill 34 = .ok (.iload_n 1, 1) := by decide +kernel
theorem dX7_sill_35 : decode cX7_sill 35 = .ok (.putfield 142, 3) := by decide +kernel
theorem dX7_sill_38 : decode cX7_sill 38 = .ok (.iload_n 2, 1) := by decide +kernel
theorem dX7_sill_39 : decode cX7_sill 39 = .ok (.ireturn, 1) := by decide +kernel
set_option maxRecDepth 20000 in
theorem ggX7_neededNow_X7_draughtNow : GoodIn wsX7_neededNow wsX7_draughtNow := goodIn_r _ [6, 7, 8, 9, 5, 10, 11, 12, 13, 14, 15, 16, 17, 18, 19, 20, 21, 22, 23, 24, 44, 45, 46, 47, 48, 49, 50, 51, 52, 53, 54, 55, 56, 57, 58, 59] (by decide +kernel) (by decide +kernel)
set_option maxRecDepth 20000 in
theorem gX7_neededNow_X7_draughtNow : GoodIn wsX7_neededNow (wsV RX7 112 RX7 yX7_draughtNow wsX7_draughtNow) := goodIn_app (goodIn_of _ (by decide +kernel)) ggX7_neededNow_X7_draughtNow
set_option maxRecDepth 20000 in
theorem ggX7_neededNow_X7_trimNow : GoodIn wsX7_neededNow wsX7_trimNow := goodIn_r _ [28, 2, 3, 4, 5, 6, 7, 8, 9, 10, 11, 12, 13, 14, 15, 16, 17, 18, 19, 20, 21, 22, 23, 24, 29, 30, 31, 32, 33, 34, 35, 36, 37, 38, 39, 40, 44, 45, 46, 47, 48, 49, 50, 51, 52, 53, 54, 55, 56, 57, 58, 59] (by decide +kernel) (by decide +kernel)
set_option maxRecDepth 20000 in
theorem gX7_neededNow_X7_trimNow : GoodIn wsX7_neededNow (wsV RX7 124 RX7 yX7_trimNow wsX7_trimNow) := goodIn_app (goodIn_of _ (by decide +kernel)) ggX7_neededNow_X7_trimNow
set_option maxRecDepth 20000 in
theorem ggX7_neededNow_X7_size : GoodIn wsX7_neededNow wsX7_size := goodIn_r _ [43] (by decide +kernel) (by decide +kernel)
set_option maxRecDepth 20000 in
theorem gX7_neededNow_X7_size : GoodIn wsX7_neededNow (va_wsS RX7 70 yX7_size wsX7_size) := goodIn_app (goodIn_of _ (by decide +kernel)) ggX7_neededNow_X7_size
theorem dX7_neededNow_0 : decode cX7_neededNow 0 = .ok (.aload_n 0, 1) := by decide +kernel
theorem dX7_neededNow_1 : decode cX7_neededNow 1 = .ok (.invokevirtual 112, 3) := by decide +kernel
theorem dX7_neededNow_4 : decode cX7_neededNow 4 = .ok (.istore_n 1, 1) := by decide +kernel
theorem dX7_neededNow_5 : decode cX7_neededNow 5 = .ok (.iload_n 1, 1) := by decide +kernel
theorem dX7_neededNow_6 : decode cX7_neededNow 6 = .ok (.iconst (-1), 1) := by decide +kernel
theorem dX7_neededNow_7 : decode cX7_neededNow 7 = .ok (.if_icmp .ne 7, 3) := by decide +kernel
theorem dX7_neededNow_10 : decode cX7_neededNow 10 = .ok (.iconst (-1), 1) := by decide +kernel
theorem dX7_neededNow_11 : decode cX7_neededNow 11 = .ok (.goto 23, 3) := by decide +kernel
theorem dX7_neededNow_14 : decode cX7_neededNow 14 = .ok (.bipush 10, 2) := by decide +kernel
theorem dX7_neededNow_16 : decode cX7_neededNow 16 = .ok (.iload_n 1, 1) := by decide +kernel
theorem dX7_neededNow_17 : decode cX7_neededNow 17 = .ok (.imul, 1) := by decide +kernel
theorem dX7_neededNow_18 : decode cX7_neededNow 18 = .ok (.aload_n 0, 1) := by decide +kernel
theorem dX7_neededNow_19 : decode cX7_neededNow 19 = .ok (.getfield 142, 3) := by decide +kernel
theorem dX7_neededNow_22 : decode cX7_neededNow 22 = .ok (.iadd, 1) := by decide +kernel
theorem dX7_neededNow_23 : decode cX7_neededNow 23 = .ok (.aload_n 0, 1) := by decide +kernel
theorem dX7_neededNow_24 : decode cX7_neededNow 24 = .ok (.invokevirtual 124, 3) := by decide +kernel
theorem dX7_neededNow_27 : decode cX7_neededNow 27 = .ok (.invokestatic 70, 3) := by decide +kernel
theorem dX7_neededNow_30 : decode cX7_neededNow 30 = .ok (.bipush 10, 2) := by decide +kernel
theorem dX7_neededNow_32 : decode cX7_neededNow 32 = .ok (.idiv, 1) := by decide +kernel
theorem dX7_neededNow_33 : decode cX7_neededNow 33 = .ok (.iadd, 1) := by decide +kernel
theorem dX7_neededNow_34 : decode cX7_neededNow 34 = .ok (.ireturn, 1) := by decide +kernel
set_option maxRecDepth 20000 in
theorem ggX7_needed_X7_neededNow : GoodIn wsX7_needed wsX7_neededNow := goodIn_r _ [6, 7, 8, 9, 10, 5, 11, 12, 13, 14, 15, 16, 17, 18, 19, 20, 21, 22, 23, 24, 25, 26, 27, 28, 29, 30, 31, 32, 33, 34, 35, 36, 37, 38, 39, 40, 41, 42, 43, 44, 45, 46, 47, 48, 49, 50, 51, 52, 53, 54, 55, 56, 57, 58, 59, 60, 61, 62, 63, 64] (by decide +kernel) (by decide +kernel)
set_option maxRecDepth 20000 in
theorem gX7_needed_X7_neededNow : GoodIn wsX7_needed (wsV RX7 145 RX7 yX7_neededNow wsX7_neededNow) := goodIn_app (goodIn_of _ (by decide +kernel)) ggX7_needed_X7_neededNow
theorem dX7_needed_0 : decode cX7_needed 0 = .ok (.aload_n 0, 1) := by decide +kernel
theorem dX7_needed_1 : decode cX7_needed 1 = .ok (.iconst 0, 1) := by decide +kernel
theorem dX7_needed_2 : decode cX7_needed 2 = .ok (.putfield 41, 3) := by decide +kernel
theorem dX7_needed_5 : decode cX7_needed 5 = .ok (.aload_n 0, 1) := by decide +kernel
theorem dX7_needed_6 : decode cX7_needed 6 = .ok (.invokevirtual 145, 3) := by decide +kernel
theorem dX7_needed_9 : decode cX7_needed 9 = .ok (.ireturn, 1) := by decide +kernel
set_option maxRecDepth 20000 in
theorem ggX7_day_X7_neededNow : GoodIn wsX7_day wsX7_neededNow := goodIn_r _ [8, 9, 10, 11, 12, 7, 13, 14, 15, 16, 17, 18, 19, 20, 21, 22, 23, 24, 25, 26, 27, 28, 29, 30, 31, 32, 33, 34, 35, 36, 37, 38, 39, 40, 41, 42, 43, 44, 45, 46, 47, 48, 49, 50, 58, 59, 60, 61, 62, 63, 64, 65, 66, 67, 68, 69, 70, 71, 72, 73] (by decide +kernel) (by decide +kernel)
set_option maxRecDepth 20000 in
theorem gX7_day_X7_neededNow : GoodIn wsX7_day (wsV RX7 145 RX7 yX7_neededNow wsX7_neededNow) := goodIn_app (goodIn_of _ (by decide +kernel)) ggX7_day_X7_neededNow
set_option maxRecDepth 20000 in
theorem ggX7_day_X7_tideOn : GoodIn wsX7_day wsX7_tideOn := goodIn_r _ [54, 55, 56, 57, 58, 59, 60, 61, 62, 63, 64, 65, 66, 67, 68, 69, 70, 71, 72, 73] (by decide +kernel) (by decide +kernel)
set_option maxRecDepth 20000 in
theorem gX7_day_X7_tideOn : GoodIn wsX7_day (wsV RX7 139 RX7 yX7_tideOn wsX7_tideOn) := goodIn_app (goodIn_of _ (by decide +kernel)) ggX7_day_X7_tideOn
theorem dX7_day_0 : decode cX7_day 0 = .ok (.aload_n 0, 1) := by decide +kernel
theorem dX7_day_1 : decode cX7_day 1 = .ok (.iconst 0, 1) := by decide +kernel
theorem dX7_day_2 : decode cX7_day 2 = .ok (.putfield 41, 3) := by decide +kernel
theorem dX7_day_5 : decode cX7_day 5 = .ok (.aload_n 0, 1) := by decide +kernel
theorem dX7_day_6 : decode cX7_day 6 = .ok (.invokevirtual 145, 3) := by decide +kernel
theorem dX7_day_9 : decode cX7_day 9 = .ok (.istore_n 1, 1) := by decide +kernel
theorem dX7_day_10 : decode cX7_day 10 = .ok (.iconst (-1), 1) := by decide +kernel
theorem dX7_day_11 : decode cX7_day 11 = .ok (.istore_n 2, 1) := by decide +kernel
theorem dX7_day_12 : decode cX7_day 12 = .ok (.aload_n 0, 1) := by decide +kernel
theorem dX7_day_13 : decode cX7_day 13 = .ok (.getfield 148, 3) := by decide +kernel
theorem dX7_day_16 : decode cX7_day 16 = .ok (.bipush 99, 2) := by decide +kernel
theorem dX7_day_18 : decode cX7_day 18 = .ok (.iadd, 1) := by decide +kernel
theorem dX7_day_19 : decode cX7_day 19 = .ok (.istore_n 3, 1) := by decide +kernel
theorem dX7_day_20 : decode cX7_day 20 = .ok (.iload_n 3, 1) := by decide +kernel
theorem dX7_day_21 : decode cX7_day 21 = .ok (.aload_n 0, 1) := by decide +kernel
theorem dX7_day_22 : decode cX7_day 22 = .ok (.getfield 148, 3) := by decide +kernel
theorem dX7_day_25 : decode cX7_day 25 = .ok (.if_icmp .lt 36, 3) := by decide +kernel
theorem dX7_day_28 : decode cX7_day 28 = .ok (.iload_n 1, 1) := by decide +kernel
theorem dX7_day_29 : decode cX7_day 29 = .ok (.iconst (-1), 1) := by decide +kernel
theorem dX7_day_30 : decode cX7_day 30 = .ok (.if_icmp .eq 31, 3) := by decide +kernel
theorem dX7_day_33 : decode cX7_day 33 = .ok (.aload_n 0, 1) := by decide +kernel
theorem dX7_day_34 : decode cX7_day 34 = .ok (.getfield 55, 3) := by decide +kernel
theorem dX7_day_37 : decode cX7_day 37 = .ok (.ifCond .ne 24, 3) := by decide +kernel
theorem dX7_day_40 : decode cX7_day 40 = .ok (.aload_n 0, 1) := by decide +kernel
theorem dX7_day_41 : decode cX7_day 41 = .ok (.iload_n 3, 1) := by decide +kernel
theorem dX7_day_42 : decode cX7_day 42 = .ok (.invokevirtual 139, 3) := by decide +kernel
theorem dX7_day_45 : decode cX7_day 45 = .ok (.iload_n 1, 1) := by decide +kernel
theorem dX7_day_46 : decode cX7_day 46 = .ok (.if_icmp .lt 7, 3) := by decide +kernel
theorem dX7_day_49 : decode cX7_day 49 = .ok (.iload_n 3, 1) := by decide +kernel
theorem dX7_day_50 : decode cX7_day 50 = .ok (.goto 4, 3) := by decide +kernel
theorem dX7_day_53 : decode cX7_day 53 = .ok (.iload_n 2, 1) := by decide +kernel
theorem dX7_day_54 : decode cX7_day 54 = .ok (.istore_n 2, 1) := by decide +kernel
theorem dX7_day_55 : decode cX7_day 55 = .ok (.iinc 3 (-1), 3) := by decide +kernel
theorem dX7_day_58 : decode cX7_day 58 = .ok (.goto (-38), 3) := by decide +kernel
theorem dX7_day_61 : decode cX7_day 61 = .ok (.iload_n 2, 1) := by decide +kernel
theorem dX7_day_62 : decode cX7_day 62 = .ok (.ireturn, 1) := by decide +kernel
set_option maxRecDepth 20000 in
theorem ggX7_launch_X7_neededNow : GoodIn wsX7_launch wsX7_neededNow := goodIn_r _ [8, 9, 10, 11, 12, 7, 13, 14, 15, 16, 17, 18, 19, 20, 21, 22, 23, 24, 25, 26, 27, 28, 29, 30, 31, 32, 33, 34, 35, 36, 37, 38, 39, 40, 41, 42, 43, 44, 45, 46, 47, 48, 49, 50, 58, 59, 60, 61, 62, 63, 64, 65, 66, 67, 68, 69, 70, 71, 72, 73] (by decide +kernel) (by decide +kernel)
set_option maxRecDepth 20000 in
theorem gX7_launch_X7_neededNow : GoodIn wsX7_launch (wsV RX7 145 RX7 yX7_neededNow wsX7_neededNow) := goodIn_app (goodIn_of _ (by decide +kernel)) ggX7_launch_X7_neededNow
set_option maxRecDepth 20000 in
theorem ggX7_launch_X7_tideOn : GoodIn wsX7_launch wsX7_tideOn := goodIn_r _ [54, 55, 56, 57, 58, 59, 60, 61, 62, 63, 64, 65, 66, 67, 68, 69, 70, 71, 72, 73] (by decide +kernel) (by decide +kernel)
set_option maxRecDepth 20000 in
theorem gX7_launch_X7_tideOn : GoodIn wsX7_launch (wsV RX7 139 RX7 yX7_tideOn wsX7_tideOn) := goodIn_app (goodIn_of _ (by decide +kernel)) ggX7_launch_X7_tideOn
theorem dX7_launch_0 : decode cX7_launch 0 = .ok (.aload_n 0, 1) := by decide +kernel
theorem dX7_launch_1 : decode cX7_launch 1 = .ok (.invokevirtual 145, 3) := by decide +kernel
theorem dX7_launch_4 : decode cX7_launch 4 = .ok (.istore_n 1, 1) := by decide +kernel
theorem dX7_launch_5 : decode cX7_launch 5 = .ok (.aload_n 0, 1) := by decide +kernel
theorem dX7_launch_6 : decode cX7_launch 6 = .ok (.aload_n 0, 1) := by decide +kernel
theorem dX7_launch_7 : decode cX7_launch 7 = .ok (.getfield 55, 3) := by decide +kernel
theorem dX7_launch_10 : decode cX7_launch 10 = .ok (.ifCond .ne 20, 3) := by decide +kernel
theorem dX7_launch_13 : decode cX7_launch 13 = .ok (.iload_n 1, 1) := by decide +kernel
theorem dX7_launch_14 : decode cX7_launch 14 = .ok (.iconst (-1), 1) := by decide +kernel
theorem dX7_launch_15 : decode cX7_launch 15 = .ok (.if_icmp .eq 15, 3) := by decide +kernel
theorem dX7_launch_18 : decode cX7_launch 18 = .ok (.aload_n 0, 1) := by decide +kernel
theorem dX7_launch_19 : decode cX7_launch 19 = .ok (.aload_n 0, 1) := by decide +kernel
theorem dX7_launch_20 : decode cX7_launch 20 = .ok (.getfield 148, 3) := by decide +kernel
theorem dX7_launch_23 : decode cX7_launch 23 = .ok (.invokevirtual 139, 3) := by decide +kernel
theorem dX7_launch_26 : decode cX7_launch 26 = .ok (.iload_n 1, 1) := by decide +kernel
theorem dX7_launch_27 : decode cX7_launch 27 = .ok (.if_icmp .ge 7, 3) := by decide +kernel
theorem dX7_launch_30 : decode cX7_launch 30 = .ok (.iconst 1, 1) := by decide +kernel
theorem dX7_launch_31 : decode cX7_launch 31 = .ok (.goto 4, 3) := by decide +kernel
theorem dX7_launch_34 : decode cX7_launch 34 = .ok (.iconst 0, 1) := by decide +kernel
theorem dX7_launch_35 : decode cX7_launch 35 = .ok (.putfield 41, 3) := by decide +kernel
theorem dX7_launch_38 : decode cX7_launch 38 = .ok (.aload_n 0, 1) := by decide +kernel
theorem dX7_launch_39 : decode cX7_launch 39 = .ok (.getfield 41, 3) := by decide +kernel
theorem dX7_launch_42 : decode cX7_launch 42 = .ok (.ifCond .le 5, 3) := by decide +kernel
theorem dX7_launch_45 : decode cX7_launch 45 = .ok (.iconst 0, 1) := by decide +kernel
theorem dX7_launch_46 : decode cX7_launch 46 = .ok (.ireturn, 1) := by decide +kernel
theorem dX7_launch_47 : decode cX7_launch 47 = .ok (.aload_n 0, 1) := by decide +kernel
theorem dX7_launch_48 : decode cX7_launch 48 = .ok (.iconst 1, 1) := by decide +kernel
theorem dX7_launch_49 : decode cX7_launch 49 = .ok (.putfield 55, 3) := by decide +kernel
theorem dX7_launch_52 : decode cX7_launch 52 = .ok (.aload_n 0, 1) := by decide +kernel
theorem dX7_launch_53 : decode cX7_launch 53 = .ok (.aload_n 0, 1) := by decide +kernel
theorem dX7_launch_54 : decode cX7_launch 54 = .ok (.getfield 148, 3) := by decide +kernel
theorem dX7_launch_57 : decode cX7_launch 57 = .ok (.invokevirtual 139, 3) := by decide +kernel
theorem dX7_launch_60 : decode cX7_launch 60 = .ok (.iload_n 1, 1) := by decide +kernel
theorem dX7_launch_61 : decode cX7_launch 61 = .ok (.isub, 1) := by decide +kernel
theorem dX7_launch_62 : decode cX7_launch 62 = .ok (.ireturn, 1) := by decide +kernel
set_option maxRecDepth 20000 in
theorem ggX7_pass_X7_in : GoodIn wsX7_pass wsX7_in := goodIn_r _ [6] (by decide +kernel) (by decide +kernel)
set_option maxRecDepth 20000 in
theorem gX7_pass_X7_in : GoodIn wsX7_pass (va_wsS RX7 44 yX7_in wsX7_in) := goodIn_app (goodIn_of _ (by decide +kernel)) ggX7_pass_X7_in
theorem dX7_pass_0 : decode cX7_pass 0 = .ok (.aload_n 0, 1) := by decide +kernel
theorem dX7_pass_1 : decode cX7_pass 1 = .ok (.iload_n 1, 1) := by decide +kernel
theorem dX7_pass_2 : decode cX7_pass 2 = .ok (.iconst 1, 1) := by decide +kernel
theorem dX7_pass_3 : decode cX7_pass 3 = .ok (.bipush 99, 2) := by decide +kernel
theorem dX7_pass_5 : decode cX7_pass 5 = .ok (.invokestatic 44, 3) := by decide +kernel
theorem dX7_pass_8 : decode cX7_pass 8 = .ok (.ifCond .ne 7, 3) := by decide +kernel
theorem dX7_pass_11 : decode cX7_pass 11 = .ok (.iconst 1, 1) := by decide +kernel
theorem dX7_pass_12 : decode cX7_pass 12 = .ok (.goto 20, 3) := by decide +kernel
theorem dX7_pass_15 : decode cX7_pass 15 = .ok (.aload_n 0, 1) := by decide +kernel
theorem dX7_pass_16 : decode cX7_pass 16 = .ok (.getfield 148, 3) := by decide +kernel
theorem dX7_pass_19 : decode cX7_pass 19 = .ok (.iload_n 1, 1) := by decide +kernel
theorem dX7_pass_20 : decode cX7_pass 20 = .ok (.iadd, 1) := by decide +kernel
theorem dX7_pass_21 : decode cX7_pass 21 = .ok (.sipush 9000, 3) := by decide +kernel
theorem dX7_pass_24 : decode cX7_pass 24 = .ok (.if_icmp .le 7, 3) := by decide +kernel
theorem dX7_pass_27 : decode cX7_pass 27 = .ok (.iconst 2, 1) := by decide +kernel
theorem dX7_pass_28 : decode cX7_pass 28 = .ok (.goto 4, 3) := by decide +kernel
theorem dX7_pass_31 : decode cX7_pass 31 = .ok (.iconst 0, 1) := by decide +kernel
theorem dX7_pass_32 : decode cX7_pass 32 = .ok (.putfield 41, 3) := by decide +kernel
theorem dX7_pass_35 : decode cX7_pass 35 = .ok (.aload_n 0, 1) := by decide +kernel
theorem dX7_pass_36 : decode cX7_pass 36 = .ok (.getfield 41, 3) := by decide +kernel
theorem dX7_pass_39 : decode cX7_pass 39 = .ok (.ifCond .le 5, 3) := by decide +kernel
theorem dX7_pass_42 : decode cX7_pass 42 = .ok (.iconst 0, 1) := by decide +kernel
theorem dX7_pass_43 : decode cX7_pass 43 = .ok (.ireturn, 1) := by decide +kernel
theorem dX7_pass_44 : decode cX7_pass 44 = .ok (.aload_n 0, 1) := by decide +kernel
theorem dX7_pass_45 : decode cX7_pass 45 = .ok (.dup, 1) := by decide +kernel
theorem dX7_pass_46 : decode cX7_pass 46 = .ok (.getfield 148, 3) := by decide +kernel
theorem dX7_pass_49 : decode cX7_pass 49 = .ok (.iload_n 1, 1) := by decide +kernel
theorem dX7_pass_50 : decode cX7_pass 50 = .ok (.iadd, 1) := by decide +kernel
theorem dX7_pass_51 : decode cX7_pass 51 = .ok (.putfield 148, 3) := by decide +kernel
theorem dX7_pass_54 : decode cX7_pass 54 = .ok (.aload_n 0, 1) := by decide +kernel
theorem dX7_pass_55 : decode cX7_pass 55 = .ok (.getfield 148, 3) := by decide +kernel
theorem dX7_pass_58 : decode cX7_pass 58 = .ok (.ireturn, 1) := by decide +kernel
theorem dJ9_floorDiv_7cf53_0 : decode cJ9_floorDiv_7cf53 0 = .ok (.iload_n 0, 1) := by decide +kernel
theorem dJ9_floorDiv_7cf53_1 : decode cJ9_floorDiv_7cf53 1 = .ok (.iload_n 1, 1) := by decide +kernel
theorem dJ9_floorDiv_7cf53_2 : decode cJ9_floorDiv_7cf53 2 = .ok (.idiv, 1) := by decide +kernel
theorem dJ9_floorDiv_7cf53_3 : decode cJ9_floorDiv_7cf53 3 = .ok (.istore_n 2, 1) := by decide +kernel
theorem dJ9_floorDiv_7cf53_4 : decode cJ9_floorDiv_7cf53 4 = .ok (.iload_n 0, 1) := by decide +kernel
theorem dJ9_floorDiv_7cf53_5 : decode cJ9_floorDiv_7cf53 5 = .ok (.iload_n 1, 1) := by decide +kernel
theorem dJ9_floorDiv_7cf53_6 : decode cJ9_floorDiv_7cf53 6 = .ok (.ixor, 1) := by decide +kernel
theorem dJ9_floorDiv_7cf53_7 : decode cJ9_floorDiv_7cf53 7 = .ok (.ifCond .ge 14, 3) := by decide +kernel
theorem dJ9_floorDiv_7cf53_10 : decode cJ9_floorDiv_7cf53 10 = .ok (.iload_n 2, 1) := by decide +kernel
theorem dJ9_floorDiv_7cf53_11 : decode cJ9_floorDiv_7cf53 11 = .ok (.iload_n 1, 1) := by decide +kernel
theorem dJ9_floorDiv_7cf53_12 : decode cJ9_floorDiv_7cf53 12 = .ok (.imul, 1) := by decide +kernel
theorem dJ9_floorDiv_7cf53_13 : decode cJ9_floorDiv_7cf53 13 = .ok (.iload_n 0, 1) := by decide +kernel
theorem dJ9_floorDiv_7cf53_14 : decode cJ9_floorDiv_7cf53 14 = .ok (.if_icmp .eq 7, 3) := by decide +kernel
theorem dJ9_floorDiv_7cf53_17 : decode cJ9_floorDiv_7cf53 17 = .ok (.iload_n 2, 1) := by decide +kernel
theorem dJ9_floorDiv_7cf53_18 : decode cJ9_floorDiv_7cf53 18 = .ok (.iconst 1, 1) := by decide +kernel
theorem dJ9_floorDiv_7cf53_19 : decode cJ9_floorDiv_7cf53 19 = .ok (.isub, 1) := by decide +kernel
theorem dJ9_floorDiv_7cf53_20 : decode cJ9_floorDiv_7cf53 20 = .ok (.ireturn, 1) := by decide +kernel
theorem dJ9_floorDiv_7cf53_21 : decode cJ9_floorDiv_7cf53 21 = .ok (.iload_n 2, 1) := by decide +kernel
theorem dJ9_floorDiv_7cf53_22 : decode cJ9_floorDiv_7cf53 22 = .ok (.ireturn, 1) := by decide +kernel
theorem dJ9_floorMod_7cf53_0 : decode cJ9_floorMod_7cf53 0 = .ok (.iload_n 0, 1) := by decide +kernel
theorem dJ9_floorMod_7cf53_1 : decode cJ9_floorMod_7cf53 1 = .ok (.iload_n 1, 1) := by decide +kernel
theorem dJ9_floorMod_7cf53_2 : decode cJ9_floorMod_7cf53 2 = .ok (.irem, 1) := by decide +kernel
theorem dJ9_floorMod_7cf53_3 : decode cJ9_floorMod_7cf53 3 = .ok (.istore_n 2, 1) := by decide +kernel
theorem dJ9_floorMod_7cf53_4 : decode cJ9_floorMod_7cf53 4 = .ok (.iload_n 0, 1) := by decide +kernel
theorem dJ9_floorMod_7cf53_5 : decode cJ9_floorMod_7cf53 5 = .ok (.iload_n 1, 1) := by decide +kernel
theorem dJ9_floorMod_7cf53_6 : decode cJ9_floorMod_7cf53 6 = .ok (.ixor, 1) := by decide +kernel
theorem dJ9_floorMod_7cf53_7 : decode cJ9_floorMod_7cf53 7 = .ok (.ifCond .ge 11, 3) := by decide +kernel
theorem dJ9_floorMod_7cf53_10 : decode cJ9_floorMod_7cf53 10 = .ok (.iload_n 2, 1) := by decide +kernel
theorem dJ9_floorMod_7cf53_11 : decode cJ9_floorMod_7cf53 11 = .ok (.ifCond .eq 7, 3) := by decide +kernel
theorem dJ9_floorMod_7cf53_14 : decode cJ9_floorMod_7cf53 14 = .ok (.iload_n 2, 1) := by decide +kernel
theorem dJ9_floorMod_7cf53_15 : decode cJ9_floorMod_7cf53 15 = .ok (.iload_n 1, 1) := by decide +kernel
theorem dJ9_floorMod_7cf53_16 : decode cJ9_floorMod_7cf53 16 = .ok (.iadd, 1) := by decide +kernel
theorem dJ9_floorMod_7cf53_17 : decode cJ9_floorMod_7cf53 17 = .ok (.ireturn, 1) := by decide +kernel
theorem dJ9_floorMod_7cf53_18 : decode cJ9_floorMod_7cf53 18 = .ok (.iload_n 2, 1) := by decide +kernel
theorem dJ9_floorMod_7cf53_19 : decode cJ9_floorMod_7cf53 19 = .ok (.ireturn, 1) := by decide +kernel
theorem dJ9_abs_0f7a4_0 : decode cJ9_abs_0f7a4 0 = .ok (.iload_n 0, 1) := by decide +kernel
theorem dJ9_abs_0f7a4_1 : decode cJ9_abs_0f7a4 1 = .ok (.ifCond .ge 8, 3) := by decide +kernel
theorem dJ9_abs_0f7a4_4 : decode cJ9_abs_0f7a4 4 = .ok (.iload_n 0, 1) := by decide +kernel
theorem dJ9_abs_0f7a4_5 : decode cJ9_abs_0f7a4 5 = .ok (.ineg, 1) := by decide +kernel
theorem dJ9_abs_0f7a4_6 : decode cJ9_abs_0f7a4 6 = .ok (.goto 4, 3) := by decide +kernel
theorem dJ9_abs_0f7a4_9 : decode cJ9_abs_0f7a4 9 = .ok (.iload_n 0, 1) := by decide +kernel
theorem dJ9_abs_0f7a4_10 : decode cJ9_abs_0f7a4 10 = .ok (.ireturn, 1) := by decide +kernel
theorem dJ9_max_7cf53_0 : decode cJ9_max_7cf53 0 = .ok (.iload_n 0, 1) := by decide +kernel
theorem dJ9_max_7cf53_1 : decode cJ9_max_7cf53 1 = .ok (.iload_n 1, 1) := by decide +kernel
theorem dJ9_max_7cf53_2 : decode cJ9_max_7cf53 2 = .ok (.if_icmp .lt 7, 3) := by decide +kernel
theorem dJ9_max_7cf53_5 : decode cJ9_max_7cf53 5 = .ok (.iload_n 0, 1) := by decide +kernel
theorem dJ9_max_7cf53_6 : decode cJ9_max_7cf53 6 = .ok (.goto 4, 3) := by decide +kernel
theorem dJ9_max_7cf53_9 : decode cJ9_max_7cf53 9 = .ok (.iload_n 1, 1) := by decide +kernel
theorem dJ9_max_7cf53_10 : decode cJ9_max_7cf53 10 = .ok (.ireturn, 1) := by decide +kernel
theorem dJ9_min_7cf53_0 : decode cJ9_min_7cf53 0 = .ok (.iload_n 0, 1) := by decide +kernel
theorem dJ9_min_7cf53_1 : decode cJ9_min_7cf53 1 = .ok (.iload_n 1, 1) := by decide +kernel
theorem dJ9_min_7cf53_2 : decode cJ9_min_7cf53 2 = .ok (.if_icmp .gt 7, 3) := by decide +kernel
theorem dJ9_min_7cf53_5 : decode cJ9_min_7cf53 5 = .ok (.iload_n 0, 1) := by decide +kernel
theorem dJ9_min_7cf53_6 : decode cJ9_min_7cf53 6 = .ok (.goto 4, 3) := by decide +kernel
theorem dJ9_min_7cf53_9 : decode cJ9_min_7cf53 9 = .ok (.iload_n 1, 1) := by decide +kernel
theorem dJ9_min_7cf53_10 : decode cJ9_min_7cf53 10 = .ok (.ireturn, 1) := by decide +kernel
set_option maxRecDepth 20000 in
theorem ggL_offset_X6_offset : GoodIn wsL_offset wsX6_offset := goodIn_ca (goodIn_ca (goodIn_ca (goodIn_r _ [8, 9, 10, 11, 7, 12, 13, 14, 15, 16, 17, 18, 19, 20, 21, 22, 23, 24, 25, 26, 27, 28, 29, 30, 31, 32, 33, 34, 35, 36, 37, 38, 39] (by decide +kernel) (by decide +kernel)) (goodIn_sub (fun _ h => List.mem_cons_of_mem _ (List.mem_append_left _ (List.mem_append_left _ (List.mem_append_right _ h)))) (by decide +kernel))) (goodIn_sub (fun _ h => List.mem_cons_of_mem _ (List.mem_append_left _ (List.mem_append_right _ h))) (by decide +kernel))) (goodIn_sub (fun _ h => List.mem_cons_of_mem _ (List.mem_append_right _ h)) (by decide +kernel))
set_option maxRecDepth 20000 in
theorem gL_offset_X6_offset : GoodIn wsL_offset (wsV RL 7 RX6 yX6_offset wsX6_offset) := goodIn_app (goodIn_of _ (by decide +kernel)) ggL_offset_X6_offset
theorem dL_offset_0 : decode cL_offset 0 = .ok (.aload 4, 2) := by decide +kernel
theorem dL_offset_2 : decode cL_offset 2 = .ok (.iconst 0, 1) := by decide +kernel
theorem dL_offset_3 : decode cL_offset 3 = .ok (.aload_n 0, 1) := by decide +kernel
theorem dL_offset_4 : decode cL_offset 4 = .ok (.iload_n 1, 1) := by decide +kernel
theorem dL_offset_5 : decode cL_offset 5 = .ok (.iload_n 2, 1) := by decide +kernel
theorem dL_offset_6 : decode cL_offset 6 = .ok (.iload_n 3, 1) := by decide +kernel
theorem dL_offset_7 : decode cL_offset 7 = .ok (.invokevirtual 7, 3) := by decide +kernel
theorem dL_offset_10 : decode cL_offset 10 = .ok (.i2l, 1) := by decide +kernel
theorem dL_offset_11 : decode cL_offset 11 = .ok (.lastore, 1) := by decide +kernel
theorem dL_offset_12 : decode cL_offset 12 = .ok (.goto 15, 3) := by decide +kernel
theorem dL_offset_15 : decode cL_offset 15 = .ok (.astore 5, 2) := by decide +kernel
theorem dL_offset_17 : decode cL_offset 17 = .ok (.iconst 1, 1) := by decide +kernel
theorem dL_offset_18 : decode cL_offset 18 = .ok (.ireturn, 1) := by decide +kernel
theorem dL_offset_19 : decode cL_offset 19 = .ok (.astore 5, 2) := by decide +kernel
theorem dL_offset_21 : decode cL_offset 21 = .ok (.iconst 2, 1) := by decide +kernel
theorem dL_offset_22 : decode cL_offset 22 = .ok (.ireturn, 1) := by decide +kernel
theorem dL_offset_23 : decode cL_offset 23 = .ok (.astore 5, 2) := by decide +kernel
theorem dL_offset_25 : decode cL_offset 25 = .ok (.iconst 3, 1) := by decide +kernel
theorem dL_offset_26 : decode cL_offset 26 = .ok (.ireturn, 1) := by decide +kernel
theorem dL_offset_27 : decode cL_offset 27 = .ok (.iconst 0, 1) := by decide +kernel
theorem dL_offset_28 : decode cL_offset 28 = .ok (.ireturn, 1) := by decide +kernel
set_option maxRecDepth 20000 in
theorem ggL_half_X6_half : GoodIn wsL_half wsX6_half := goodIn_ca (goodIn_r _ [6, 7, 8, 9, 5, 10, 11, 12, 13, 14, 15, 16, 17, 18, 19, 20, 21, 22, 23, 24, 25] (by decide +kernel) (by decide +kernel)) (goodIn_sub (fun _ h => List.mem_cons_of_mem _ (List.mem_append_right _ h)) (by decide +kernel))
set_option maxRecDepth 20000 in
theorem gL_half_X6_half : GoodIn wsL_half (wsV RL 19 RX6 yX6_half wsX6_half) := goodIn_app (goodIn_of _ (by decide +kernel)) ggL_half_X6_half
theorem dL_half_0 : decode cL_half 0 = .ok (.aload_n 3, 1) := by decide +kernel
theorem dL_half_1 : decode cL_half 1 = .ok (.iconst 0, 1) := by decide +kernel
theorem dL_half_2 : decode cL_half 2 = .ok (.aload_n 0, 1) := by decide +kernel
theorem dL_half_3 : decode cL_half 3 = .ok (.iload_n 1, 1) := by decide +kernel
theorem dL_half_4 : decode cL_half 4 = .ok (.iload_n 2, 1) := by decide +kernel
theorem dL_half_5 : decode cL_half 5 = .ok (.invokevirtual 19, 3) := by decide +kernel
theorem dL_half_8 : decode cL_half 8 = .ok (.i2l, 1) := by decide +kernel
theorem dL_half_9 : decode cL_half 9 = .ok (.lastore, 1) := by decide +kernel
theorem dL_half_10 : decode cL_half 10 = .ok (.goto 7, 3) := by decide +kernel
theorem dL_half_13 : decode cL_half 13 = .ok (.astore 4, 2) := by decide +kernel
theorem dL_half_15 : decode cL_half 15 = .ok (.iconst 1, 1) := by decide +kernel
theorem dL_half_16 : decode cL_half 16 = .ok (.ireturn, 1) := by decide +kernel
theorem dL_half_17 : decode cL_half 17 = .ok (.iconst 0, 1) := by decide +kernel
theorem dL_half_18 : decode cL_half 18 = .ok (.ireturn, 1) := by decide +kernel
set_option maxRecDepth 20000 in
theorem ggL_bend_X6_bend : GoodIn wsL_bend wsX6_bend := goodIn_ca (goodIn_r _ [6, 7, 8, 9, 5, 10, 11, 12, 13, 14, 15, 16, 17, 18, 19, 20, 21, 22, 23, 24, 25, 26, 27, 28] (by decide +kernel) (by decide +kernel)) (goodIn_sub (fun _ h => List.mem_cons_of_mem _ (List.mem_append_right _ h)) (by decide +kernel))
set_option maxRecDepth 20000 in
theorem gL_bend_X6_bend : GoodIn wsL_bend (wsV RL 23 RX6 yX6_bend wsX6_bend) := goodIn_app (goodIn_of _ (by decide +kernel)) ggL_bend_X6_bend
theorem dL_bend_0 : decode cL_bend 0 = .ok (.aload_n 2, 1) := by decide +kernel
theorem dL_bend_1 : decode cL_bend 1 = .ok (.iconst 0, 1) := by decide +kernel
theorem dL_bend_2 : decode cL_bend 2 = .ok (.aload_n 0, 1) := by decide +kernel
theorem dL_bend_3 : decode cL_bend 3 = .ok (.iload_n 1, 1) := by decide +kernel
theorem dL_bend_4 : decode cL_bend 4 = .ok (.invokevirtual 23, 3) := by decide +kernel
theorem dL_bend_7 : decode cL_bend 7 = .ok (.i2l, 1) := by decide +kernel
theorem dL_bend_8 : decode cL_bend 8 = .ok (.lastore, 1) := by decide +kernel
theorem dL_bend_9 : decode cL_bend 9 = .ok (.goto 6, 3) := by decide +kernel
theorem dL_bend_12 : decode cL_bend 12 = .ok (.astore_n 3, 1) := by decide +kernel
theorem dL_bend_13 : decode cL_bend 13 = .ok (.iconst 1, 1) := by decide +kernel
theorem dL_bend_14 : decode cL_bend 14 = .ok (.ireturn, 1) := by decide +kernel
theorem dL_bend_15 : decode cL_bend 15 = .ok (.iconst 0, 1) := by decide +kernel
theorem dL_bend_16 : decode cL_bend 16 = .ok (.ireturn, 1) := by decide +kernel
set_option maxRecDepth 20000 in
theorem ggL_fair_X6_fair : GoodIn wsL_fair wsX6_fair := goodIn_ca (goodIn_ca (goodIn_ca (goodIn_r _ [8, 9, 10, 11, 12, 7, 13, 14, 15, 16, 17, 18, 19, 20, 21, 22, 23, 24, 25, 26, 27, 28, 29, 30, 31, 32, 33, 34, 35, 36, 37, 38, 39, 40, 41, 42, 43, 44, 45, 46, 47, 48, 49, 50, 51, 52, 53, 54, 55, 56, 57, 58, 59, 60, 61, 62, 63, 64, 65, 66, 67, 68, 69, 70, 71, 72, 73, 74, 75, 76, 77] (by decide +kernel) (by decide +kernel)) (goodIn_sub (fun _ h => List.mem_cons_of_mem _ (List.mem_append_left _ (List.mem_append_left _ (List.mem_append_right _ h)))) (by decide +kernel))) (goodIn_sub (fun _ h => List.mem_cons_of_mem _ (List.mem_append_left _ (List.mem_append_right _ h))) (by decide +kernel))) (goodIn_sub (fun _ h => List.mem_cons_of_mem _ (List.mem_append_right _ h)) (by decide +kernel))
set_option maxRecDepth 20000 in
theorem gL_fair_X6_fair : GoodIn wsL_fair (wsV RL 27 RX6 yX6_fair wsX6_fair) := goodIn_app (goodIn_of _ (by decide +kernel)) ggL_fair_X6_fair
theorem dL_fair_0 : decode cL_fair 0 = .ok (.aload_n 3, 1) := by decide +kernel
theorem dL_fair_1 : decode cL_fair 1 = .ok (.iconst 0, 1) := by decide +kernel
theorem dL_fair_2 : decode cL_fair 2 = .ok (.aload_n 0, 1) := by decide +kernel
theorem dL_fair_3 : decode cL_fair 3 = .ok (.iload_n 1, 1) := by decide +kernel
theorem dL_fair_4 : decode cL_fair 4 = .ok (.iload_n 2, 1) := by decide +kernel
theorem dL_fair_5 : decode cL_fair 5 = .ok (.invokevirtual 27, 3) := by decide +kernel
theorem dL_fair_8 : decode cL_fair 8 = .ok (.i2l, 1) := by decide +kernel
theorem dL_fair_9 : decode cL_fair 9 = .ok (.lastore, 1) := by decide +kernel
theorem dL_fair_10 : decode cL_fair 10 = .ok (.goto 15, 3) := by decide +kernel
theorem dL_fair_13 : decode cL_fair 13 = .ok (.astore 4, 2) := by decide +kernel
theorem dL_fair_15 : decode cL_fair 15 = .ok (.iconst 1, 1) := by decide +kernel
theorem dL_fair_16 : decode cL_fair 16 = .ok (.ireturn, 1) := by decide +kernel
theorem dL_fair_17 : decode cL_fair 17 = .ok (.astore 4, 2) := by decide +kernel
theorem dL_fair_19 : decode cL_fair 19 = .ok (.iconst 2, 1) := by decide +kernel
theorem dL_fair_20 : decode cL_fair 20 = .ok (.ireturn, 1) := by decide +kernel
theorem dL_fair_21 : decode cL_fair 21 = .ok (.astore 4, 2) := by decide +kernel
theorem dL_fair_23 : decode cL_fair 23 = .ok (.iconst 3, 1) := by decide +kernel
theorem dL_fair_24 : decode cL_fair 24 = .ok (.ireturn, 1) := by decide +kernel
theorem dL_fair_25 : decode cL_fair 25 = .ok (.iconst 0, 1) := by decide +kernel
theorem dL_fair_26 : decode cL_fair 26 = .ok (.ireturn, 1) := by decide +kernel
set_option maxRecDepth 20000 in
theorem ggL_area_X6_area : GoodIn wsL_area wsX6_area := goodIn_ca (goodIn_r _ [6, 7, 8, 9, 5, 10, 11, 12, 13, 14, 15, 16, 17, 18, 19, 20, 21, 22, 23, 24, 25, 26, 27, 28, 29, 30] (by decide +kernel) (by decide +kernel)) (goodIn_sub (fun _ h => List.mem_cons_of_mem _ (List.mem_append_right _ h)) (by decide +kernel))
set_option maxRecDepth 20000 in
theorem gL_area_X6_area : GoodIn wsL_area (wsV RL 30 RX6 yX6_area wsX6_area) := goodIn_app (goodIn_of _ (by decide +kernel)) ggL_area_X6_area
theorem dL_area_0 : decode cL_area 0 = .ok (.aload_n 3, 1) := by decide +kernel
theorem dL_area_1 : decode cL_area 1 = .ok (.iconst 0, 1) := by decide +kernel
theorem dL_area_2 : decode cL_area 2 = .ok (.aload_n 0, 1) := by decide +kernel
theorem dL_area_3 : decode cL_area 3 = .ok (.iload_n 1, 1) := by decide +kernel
theorem dL_area_4 : decode cL_area 4 = .ok (.iload_n 2, 1) := by decide +kernel
theorem dL_area_5 : decode cL_area 5 = .ok (.invokevirtual 30, 3) := by decide +kernel
theorem dL_area_8 : decode cL_area 8 = .ok (.i2l, 1) := by decide +kernel
theorem dL_area_9 : decode cL_area 9 = .ok (.lastore, 1) := by decide +kernel
theorem dL_area_10 : decode cL_area 10 = .ok (.goto 7, 3) := by decide +kernel
theorem dL_area_13 : decode cL_area 13 = .ok (.astore 4, 2) := by decide +kernel
theorem dL_area_15 : decode cL_area 15 = .ok (.iconst 1, 1) := by decide +kernel
theorem dL_area_16 : decode cL_area 16 = .ok (.ireturn, 1) := by decide +kernel
theorem dL_area_17 : decode cL_area 17 = .ok (.iconst 0, 1) := by decide +kernel
theorem dL_area_18 : decode cL_area 18 = .ok (.ireturn, 1) := by decide +kernel
set_option maxRecDepth 20000 in
theorem ggL_volume_X6_volume : GoodIn wsL_volume wsX6_volume := goodIn_ca (goodIn_r _ [6, 7, 8, 9, 5, 10, 11, 12, 13, 14, 15, 16, 17, 18, 19, 20, 21, 22, 23, 24, 25, 26, 27, 28, 29, 30, 31] (by decide +kernel) (by decide +kernel)) (goodIn_sub (fun _ h => List.mem_cons_of_mem _ (List.mem_append_right _ h)) (by decide +kernel))
set_option maxRecDepth 20000 in
theorem gL_volume_X6_volume : GoodIn wsL_volume (wsV RL 33 RX6 yX6_volume wsX6_volume) := goodIn_app (goodIn_of _ (by decide +kernel)) ggL_volume_X6_volume
theorem dL_volume_0 : decode cL_volume 0 = .ok (.aload_n 2, 1) := by decide +kernel
theorem dL_volume_1 : decode cL_volume 1 = .ok (.iconst 0, 1) := by decide +kernel
theorem dL_volume_2 : decode cL_volume 2 = .ok (.aload_n 0, 1) := by decide +kernel
theorem dL_volume_3 : decode cL_volume 3 = .ok (.iload_n 1, 1) := by decide +kernel
theorem dL_volume_4 : decode cL_volume 4 = .ok (.invokevirtual 33, 3) := by decide +kernel
theorem dL_volume_7 : decode cL_volume 7 = .ok (.i2l, 1) := by decide +kernel
theorem dL_volume_8 : decode cL_volume 8 = .ok (.lastore, 1) := by decide +kernel
theorem dL_volume_9 : decode cL_volume 9 = .ok (.goto 6, 3) := by decide +kernel
theorem dL_volume_12 : decode cL_volume 12 = .ok (.astore_n 3, 1) := by decide +kernel
theorem dL_volume_13 : decode cL_volume 13 = .ok (.iconst 1, 1) := by decide +kernel
theorem dL_volume_14 : decode cL_volume 14 = .ok (.ireturn, 1) := by decide +kernel
theorem dL_volume_15 : decode cL_volume 15 = .ok (.iconst 0, 1) := by decide +kernel
theorem dL_volume_16 : decode cL_volume 16 = .ok (.ireturn, 1) := by decide +kernel
set_option maxRecDepth 20000 in
theorem ggL_volumeAnew_X6_volumeAnew : GoodIn wsL_volumeAnew wsX6_volumeAnew := goodIn_ca (goodIn_r _ [6, 7, 8, 9, 5, 10, 11, 12, 13, 14, 15, 16, 17, 18, 19, 20, 21, 22, 23, 24, 25, 26, 27, 28, 29, 30, 31] (by decide +kernel) (by decide +kernel)) (goodIn_sub (fun _ h => List.mem_cons_of_mem _ (List.mem_append_right _ h)) (by decide +kernel))
set_option maxRecDepth 20000 in
theorem gL_volumeAnew_X6_volumeAnew : GoodIn wsL_volumeAnew (wsV RL 36 RX6 yX6_volumeAnew wsX6_volumeAnew) := goodIn_app (goodIn_of _ (by decide +kernel)) ggL_volumeAnew_X6_volumeAnew
theorem dL_volumeAnew_0 : decode cL_volumeAnew 0 = .ok (.aload_n 2, 1) := by decide +kernel
theorem dL_volumeAnew_1 : decode cL_volumeAnew 1 = .ok (.iconst 0, 1) := by decide +kernel
theorem dL_volumeAnew_2 : decode cL_volumeAnew 2 = .ok (.aload_n 0, 1) := by decide +kernel
theorem dL_volumeAnew_3 : decode cL_volumeAnew 3 = .ok (.iload_n 1, 1) := by decide +kernel
theorem dL_volumeAnew_4 : decode cL_volumeAnew 4 = .ok (.invokevirtual 36, 3) := by decide +kernel
theorem dL_volumeAnew_7 : decode cL_volumeAnew 7 = .ok (.i2l, 1) := by decide +kernel
theorem dL_volumeAnew_8 : decode cL_volumeAnew 8 = .ok (.lastore, 1) := by decide +kernel
theorem dL_volumeAnew_9 : decode cL_volumeAnew 9 = .ok (.goto 6, 3) := by decide +kernel
theorem dL_volumeAnew_12 : decode cL_volumeAnew 12 = .ok (.astore_n 3, 1) := by decide +kernel
theorem dL_volumeAnew_13 : decode cL_volumeAnew 13 = .ok (.iconst 1, 1) := by decide +kernel
theorem dL_volumeAnew_14 : decode cL_volumeAnew 14 = .ok (.ireturn, 1) := by decide +kernel
theorem dL_volumeAnew_15 : decode cL_volumeAnew 15 = .ok (.iconst 0, 1) := by decide +kernel
theorem dL_volumeAnew_16 : decode cL_volumeAnew 16 = .ok (.ireturn, 1) := by decide +kernel
set_option maxRecDepth 20000 in
theorem ggL_weigh_X6_weigh : GoodIn wsL_weigh wsX6_weigh := goodIn_ca (goodIn_ca (goodIn_ca (goodIn_r _ [8, 9, 10, 11, 12, 13, 7, 14, 15, 16, 17, 18, 19, 20, 21, 22, 23, 24, 25, 26, 27, 28, 29, 30, 31, 32, 33, 34, 35, 36, 37, 38, 39, 40, 41, 42, 43, 44, 45] (by decide +kernel) (by decide +kernel)) (goodIn_sub (fun _ h => List.mem_cons_of_mem _ (List.mem_append_left _ (List.mem_append_left _ (List.mem_append_right _ h)))) (by decide +kernel))) (goodIn_sub (fun _ h => List.mem_cons_of_mem _ (List.mem_append_left _ (List.mem_append_right _ h))) (by decide +kernel))) (goodIn_sub (fun _ h => List.mem_cons_of_mem _ (List.mem_append_right _ h)) (by decide +kernel))
set_option maxRecDepth 20000 in
theorem gL_weigh_X6_weigh : GoodIn wsL_weigh (wsV RL 39 RX6 yX6_weigh wsX6_weigh) := goodIn_app (goodIn_of _ (by decide +kernel)) ggL_weigh_X6_weigh
theorem dL_weigh_0 : decode cL_weigh 0 = .ok (.aload_n 3, 1) := by decide +kernel
theorem dL_weigh_1 : decode cL_weigh 1 = .ok (.iconst 0, 1) := by decide +kernel
theorem dL_weigh_2 : decode cL_weigh 2 = .ok (.aload_n 0, 1) := by decide +kernel
theorem dL_weigh_3 : decode cL_weigh 3 = .ok (.iload_n 1, 1) := by decide +kernel
theorem dL_weigh_4 : decode cL_weigh 4 = .ok (.iload_n 2, 1) := by decide +kernel
theorem dL_weigh_5 : decode cL_weigh 5 = .ok (.invokevirtual 39, 3) := by decide +kernel
theorem dL_weigh_8 : decode cL_weigh 8 = .ok (.i2l, 1) := by decide +kernel
theorem dL_weigh_9 : decode cL_weigh 9 = .ok (.lastore, 1) := by decide +kernel
theorem dL_weigh_10 : decode cL_weigh 10 = .ok (.goto 15, 3) := by decide +kernel
theorem dL_weigh_13 : decode cL_weigh 13 = .ok (.astore 4, 2) := by decide +kernel
theorem dL_weigh_15 : decode cL_weigh 15 = .ok (.iconst 1, 1) := by decide +kernel
theorem dL_weigh_16 : decode cL_weigh 16 = .ok (.ireturn, 1) := by decide +kernel
theorem dL_weigh_17 : decode cL_weigh 17 = .ok (.astore 4, 2) := by decide +kernel
theorem dL_weigh_19 : decode cL_weigh 19 = .ok (.iconst 2, 1) := by decide +kernel
theorem dL_weigh_20 : decode cL_weigh 20 = .ok (.ireturn, 1) := by decide +kernel
theorem dL_weigh_21 : decode cL_weigh 21 = .ok (.astore 4, 2) := by decide +kernel
theorem dL_weigh_23 : decode cL_weigh 23 = .ok (.iconst 3, 1) := by decide +kernel
theorem dL_weigh_24 : decode cL_weigh 24 = .ok (.ireturn, 1) := by decide +kernel
theorem dL_weigh_25 : decode cL_weigh 25 = .ok (.iconst 0, 1) := by decide +kernel
theorem dL_weigh_26 : decode cL_weigh 26 = .ok (.ireturn, 1) := by decide +kernel
set_option maxRecDepth 20000 in
theorem ggL_change_X6_change : GoodIn wsL_change wsX6_change := goodIn_ca (goodIn_ca (goodIn_r _ [7, 8, 9, 10, 11, 6, 12, 13, 14, 15, 16, 17, 18, 19, 20, 21, 22, 23, 24, 25, 26, 27, 28, 29, 30, 31, 32, 33, 34, 35, 36, 37, 38, 39, 40, 41, 42] (by decide +kernel) (by decide +kernel)) (goodIn_sub (fun _ h => List.mem_cons_of_mem _ (List.mem_append_left _ (List.mem_append_right _ h))) (by decide +kernel))) (goodIn_sub (fun _ h => List.mem_cons_of_mem _ (List.mem_append_right _ h)) (by decide +kernel))
set_option maxRecDepth 20000 in
theorem gL_change_X6_change : GoodIn wsL_change (wsV RL 42 RX6 yX6_change wsX6_change) := goodIn_app (goodIn_of _ (by decide +kernel)) ggL_change_X6_change
theorem dL_change_0 : decode cL_change 0 = .ok (.aload 4, 2) := by decide +kernel
theorem dL_change_2 : decode cL_change 2 = .ok (.iconst 0, 1) := by decide +kernel
theorem dL_change_3 : decode cL_change 3 = .ok (.aload_n 0, 1) := by decide +kernel
theorem dL_change_4 : decode cL_change 4 = .ok (.iload_n 1, 1) := by decide +kernel
theorem dL_change_5 : decode cL_change 5 = .ok (.iload_n 2, 1) := by decide +kernel
theorem dL_change_6 : decode cL_change 6 = .ok (.iload_n 3, 1) := by decide +kernel
theorem dL_change_7 : decode cL_change 7 = .ok (.invokevirtual 42, 3) := by decide +kernel
theorem dL_change_10 : decode cL_change 10 = .ok (.i2l, 1) := by decide +kernel
theorem dL_change_11 : decode cL_change 11 = .ok (.lastore, 1) := by decide +kernel
theorem dL_change_12 : decode cL_change 12 = .ok (.goto 11, 3) := by decide +kernel
theorem dL_change_15 : decode cL_change 15 = .ok (.astore 5, 2) := by decide +kernel
theorem dL_change_17 : decode cL_change 17 = .ok (.iconst 1, 1) := by decide +kernel
theorem dL_change_18 : decode cL_change 18 = .ok (.ireturn, 1) := by decide +kernel
theorem dL_change_19 : decode cL_change 19 = .ok (.astore 5, 2) := by decide +kernel
theorem dL_change_21 : decode cL_change 21 = .ok (.iconst 2, 1) := by decide +kernel
theorem dL_change_22 : decode cL_change 22 = .ok (.ireturn, 1) := by decide +kernel
theorem dL_change_23 : decode cL_change 23 = .ok (.iconst 0, 1) := by decide +kernel
theorem dL_change_24 : decode cL_change 24 = .ok (.ireturn, 1) := by decide +kernel
set_option maxRecDepth 20000 in
theorem ggL_ballast_X6_ballast : GoodIn wsL_ballast wsX6_ballast := goodIn_ca (goodIn_r _ [6, 7, 8, 9, 10, 11, 5, 12, 13, 14, 15, 16, 17, 18, 19, 20, 21, 22, 23, 24, 25, 26, 27, 28, 29, 30, 31, 32, 33, 34, 35, 36, 37, 38, 39, 40, 41, 42, 43, 44, 45, 46, 47, 48, 49, 50, 51, 52, 53, 54, 55, 56, 57, 58, 59, 60, 61, 62, 63, 64, 65, 66, 67, 68, 69, 70, 71, 72, 73, 74, 75, 76, 77, 78, 79, 80, 81] (by decide +kernel) (by decide +kernel)) (goodIn_sub (fun _ h => List.mem_cons_of_mem _ (List.mem_append_right _ h)) (by decide +kernel))
set_option maxRecDepth 20000 in
theorem gL_ballast_X6_ballast : GoodIn wsL_ballast (wsV RL 45 RX6 yX6_ballast wsX6_ballast) := goodIn_app (goodIn_of _ (by decide +kernel)) ggL_ballast_X6_ballast
theorem dL_ballast_0 : decode cL_ballast 0 = .ok (.aload_n 2, 1) := by decide +kernel
theorem dL_ballast_1 : decode cL_ballast 1 = .ok (.iconst 0, 1) := by decide +kernel
theorem dL_ballast_2 : decode cL_ballast 2 = .ok (.aload_n 0, 1) := by decide +kernel
theorem dL_ballast_3 : decode cL_ballast 3 = .ok (.iload_n 1, 1) := by decide +kernel
theorem dL_ballast_4 : decode cL_ballast 4 = .ok (.invokevirtual 45, 3) := by decide +kernel
theorem dL_ballast_7 : decode cL_ballast 7 = .ok (.i2l, 1) := by decide +kernel
theorem dL_ballast_8 : decode cL_ballast 8 = .ok (.lastore, 1) := by decide +kernel
theorem dL_ballast_9 : decode cL_ballast 9 = .ok (.goto 6, 3) := by decide +kernel
theorem dL_ballast_12 : decode cL_ballast 12 = .ok (.astore_n 3, 1) := by decide +kernel
theorem dL_ballast_13 : decode cL_ballast 13 = .ok (.iconst 1, 1) := by decide +kernel
theorem dL_ballast_14 : decode cL_ballast 14 = .ok (.ireturn, 1) := by decide +kernel
theorem dL_ballast_15 : decode cL_ballast 15 = .ok (.iconst 0, 1) := by decide +kernel
theorem dL_ballast_16 : decode cL_ballast 16 = .ok (.ireturn, 1) := by decide +kernel
set_option maxRecDepth 20000 in
theorem ggL_strake_X6_strake : GoodIn wsL_strake wsX6_strake := goodIn_ca (goodIn_r _ [6, 7, 8, 9, 5, 10, 11, 12, 13, 14, 15, 16, 17, 18, 19, 20, 21, 22, 23, 24, 25, 26, 27, 28, 29, 30, 31] (by decide +kernel) (by decide +kernel)) (goodIn_sub (fun _ h => List.mem_cons_of_mem _ (List.mem_append_right _ h)) (by decide +kernel))
set_option maxRecDepth 20000 in
theorem gL_strake_X6_strake : GoodIn wsL_strake (wsV RL 48 RX6 yX6_strake wsX6_strake) := goodIn_app (goodIn_of _ (by decide +kernel)) ggL_strake_X6_strake
theorem dL_strake_0 : decode cL_strake 0 = .ok (.aload_n 2, 1) := by decide +kernel
theorem dL_strake_1 : decode cL_strake 1 = .ok (.iconst 0, 1) := by decide +kernel
theorem dL_strake_2 : decode cL_strake 2 = .ok (.aload_n 0, 1) := by decide +kernel
theorem dL_strake_3 : decode cL_strake 3 = .ok (.iload_n 1, 1) := by decide +kernel
theorem dL_strake_4 : decode cL_strake 4 = .ok (.invokevirtual 48, 3) := by decide +kernel
theorem dL_strake_7 : decode cL_strake 7 = .ok (.i2l, 1) := by decide +kernel
theorem dL_strake_8 : decode cL_strake 8 = .ok (.lastore, 1) := by decide +kernel
theorem dL_strake_9 : decode cL_strake 9 = .ok (.goto 6, 3) := by decide +kernel
theorem dL_strake_12 : decode cL_strake 12 = .ok (.astore_n 3, 1) := by decide +kernel
theorem dL_strake_13 : decode cL_strake 13 = .ok (.iconst 1, 1) := by decide +kernel
theorem dL_strake_14 : decode cL_strake 14 = .ok (.ireturn, 1) := by decide +kernel
theorem dL_strake_15 : decode cL_strake 15 = .ok (.iconst 0, 1) := by decide +kernel
theorem dL_strake_16 : decode cL_strake 16 = .ok (.ireturn, 1) := by decide +kernel
set_option maxRecDepth 20000 in
theorem ggL_planks_X6_planks : GoodIn wsL_planks wsX6_planks := goodIn_ca (goodIn_r _ [6, 7, 8, 9, 10, 5, 11, 12, 13, 14, 15, 16, 17, 18, 19, 20, 21, 22, 23, 24, 25, 26, 27, 28, 29, 30, 31, 32, 33, 34, 35, 36, 37, 38, 39, 40, 41, 42, 43, 44, 45, 46, 47, 48, 49, 50, 51, 52, 53, 54, 55, 56, 57, 58] (by decide +kernel) (by decide +kernel)) (goodIn_sub (fun _ h => List.mem_cons_of_mem _ (List.mem_append_right _ h)) (by decide +kernel))
set_option maxRecDepth 20000 in
theorem gL_planks_X6_planks : GoodIn wsL_planks (wsV RL 51 RX6 yX6_planks wsX6_planks) := goodIn_app (goodIn_of _ (by decide +kernel)) ggL_planks_X6_planks
theorem dL_planks_0 : decode cL_planks 0 = .ok (.aload_n 2, 1) := by decide +kernel
theorem dL_planks_1 : decode cL_planks 1 = .ok (.iconst 0, 1) := by decide +kernel
theorem dL_planks_2 : decode cL_planks 2 = .ok (.aload_n 0, 1) := by decide +kernel
theorem dL_planks_3 : decode cL_planks 3 = .ok (.iload_n 1, 1) := by decide +kernel
theorem dL_planks_4 : decode cL_planks 4 = .ok (.invokevirtual 51, 3) := by decide +kernel
theorem dL_planks_7 : decode cL_planks 7 = .ok (.i2l, 1) := by decide +kernel
theorem dL_planks_8 : decode cL_planks 8 = .ok (.lastore, 1) := by decide +kernel
theorem dL_planks_9 : decode cL_planks 9 = .ok (.goto 6, 3) := by decide +kernel
theorem dL_planks_12 : decode cL_planks 12 = .ok (.astore_n 3, 1) := by decide +kernel
theorem dL_planks_13 : decode cL_planks 13 = .ok (.iconst 1, 1) := by decide +kernel
theorem dL_planks_14 : decode cL_planks 14 = .ok (.ireturn, 1) := by decide +kernel
theorem dL_planks_15 : decode cL_planks 15 = .ok (.iconst 0, 1) := by decide +kernel
theorem dL_planks_16 : decode cL_planks 16 = .ok (.ireturn, 1) := by decide +kernel
set_option maxRecDepth 20000 in
theorem ggL_plankOf_X6_plankOf : GoodIn wsL_plankOf wsX6_plankOf := goodIn_ca (goodIn_r _ [6, 7, 8, 9, 10, 5, 11, 12, 13, 14, 15, 16, 17, 18, 19, 20, 21, 22, 23, 24, 25, 26, 27, 28, 29, 30, 31, 32, 33, 34, 35, 36, 37, 38, 39, 40, 41, 42, 43, 44, 45, 46, 47, 48, 49, 50, 51, 52, 53, 54, 55, 56, 57, 58] (by decide +kernel) (by decide +kernel)) (goodIn_sub (fun _ h => List.mem_cons_of_mem _ (List.mem_append_right _ h)) (by decide +kernel))
set_option maxRecDepth 20000 in
theorem gL_plankOf_X6_plankOf : GoodIn wsL_plankOf (wsV RL 54 RX6 yX6_plankOf wsX6_plankOf) := goodIn_app (goodIn_of _ (by decide +kernel)) ggL_plankOf_X6_plankOf
theorem dL_plankOf_0 : decode cL_plankOf 0 = .ok (.aload_n 3, 1) := by decide +kernel
theorem dL_plankOf_1 : decode cL_plankOf 1 = .ok (.iconst 0, 1) := by decide +kernel
theorem dL_plankOf_2 : decode cL_plankOf 2 = .ok (.aload_n 0, 1) := by decide +kernel
theorem dL_plankOf_3 : decode cL_plankOf 3 = .ok (.iload_n 1, 1) := by decide +kernel
theorem dL_plankOf_4 : decode cL_plankOf 4 = .ok (.iload_n 2, 1) := by decide +kernel
theorem dL_plankOf_5 : decode cL_plankOf 5 = .ok (.invokevirtual 54, 3) := by decide +kernel
